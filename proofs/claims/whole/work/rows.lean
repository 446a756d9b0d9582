section
-- ===== PART A: goes FIRST, ahead of the names: the tables' words, and 'selects' of the private methods out of them =====
/-- a private method of a class that the tables say can be made, by its rows of tables_1 -/
def lw_okq (q : MethodName × Nat) : Prop := (q.1.cls ≠ "java/lang/invoke/MethodHandle" ∧ q.1.cls ≠ "java/lang/invoke/VarHandle") ∧ Cond.instantiable q.1.cls q.2 ∈ tables_1 ∧ Cond.privateMethod q.1 ∈ tables_1 ∧ Cond.instanceMethod q.1 ∈ tables_1
theorem lw_p0 : lw_okq (⟨"NobodyCave$Text", "readClause", "(LNobodyCave$Told;)Z"⟩, 5) := ⟨⟨by decide +kernel, by decide +kernel⟩, List.mem_of_getElem? (i := 25) (by decide +kernel), List.mem_of_getElem? (i := 278) (by decide +kernel), List.mem_of_getElem? (i := 279) (by decide +kernel)⟩
theorem lw_p1 : lw_okq (⟨"NobodyCave$Text", "nextToken", "()V"⟩, 5) := ⟨⟨by decide +kernel, by decide +kernel⟩, List.mem_of_getElem? (i := 25) (by decide +kernel), List.mem_of_getElem? (i := 282) (by decide +kernel), List.mem_of_getElem? (i := 283) (by decide +kernel)⟩
theorem lw_p2 : lw_okq (⟨"NobodyCave$Text", "wordHere", "()I"⟩, 5) := ⟨⟨by decide +kernel, by decide +kernel⟩, List.mem_of_getElem? (i := 25) (by decide +kernel), List.mem_of_getElem? (i := 292) (by decide +kernel), List.mem_of_getElem? (i := 293) (by decide +kernel)⟩
theorem lw_p3 : lw_okq (⟨"NobodyCave$Text", "tokenIs", "(Ljava/lang/String;)Z"⟩, 5) := ⟨⟨by decide +kernel, by decide +kernel⟩, List.mem_of_getElem? (i := 25) (by decide +kernel), List.mem_of_getElem? (i := 310) (by decide +kernel), List.mem_of_getElem? (i := 311) (by decide +kernel)⟩
theorem lw_p4 : lw_okq (⟨"NobodyCave$Text", "numberHere", "()I"⟩, 5) := ⟨⟨by decide +kernel, by decide +kernel⟩, List.mem_of_getElem? (i := 25) (by decide +kernel), List.mem_of_getElem? (i := 366) (by decide +kernel), List.mem_of_getElem? (i := 367) (by decide +kernel)⟩
theorem lw_p5 : lw_okq (⟨"NobodyCave$Told", "addSheep", "(II)V"⟩, 11) := ⟨⟨by decide +kernel, by decide +kernel⟩, List.mem_of_getElem? (i := 50) (by decide +kernel), List.mem_of_getElem? (i := 380) (by decide +kernel), List.mem_of_getElem? (i := 381) (by decide +kernel)⟩
theorem lw_p6 : lw_okq (⟨"NobodyCave", "beginAnew", "()V"⟩, 9) := ⟨⟨by decide +kernel, by decide +kernel⟩, List.mem_of_getElem? (i := 17) (by decide +kernel), List.mem_of_getElem? (i := 389) (by decide +kernel), List.mem_of_getElem? (i := 390) (by decide +kernel)⟩
theorem lw_p7 : lw_okq (⟨"NobodyCave", "daysTillBlinded", "()I"⟩, 9) := ⟨⟨by decide +kernel, by decide +kernel⟩, List.mem_of_getElem? (i := 17) (by decide +kernel), List.mem_of_getElem? (i := 537) (by decide +kernel), List.mem_of_getElem? (i := 538) (by decide +kernel)⟩
theorem lw_p8 : lw_okq (⟨"NobodyCave$Planner", "bestFrom", "(II)I"⟩, 2) := ⟨⟨by decide +kernel, by decide +kernel⟩, List.mem_of_getElem? (i := 179) (by decide +kernel), List.mem_of_getElem? (i := 554) (by decide +kernel), List.mem_of_getElem? (i := 555) (by decide +kernel)⟩
theorem lw_p9 : lw_okq (⟨"NobodyCave$Planner", "firstBest", "(II)I"⟩, 2) := ⟨⟨by decide +kernel, by decide +kernel⟩, List.mem_of_getElem? (i := 179) (by decide +kernel), List.mem_of_getElem? (i := 567) (by decide +kernel), List.mem_of_getElem? (i := 568) (by decide +kernel)⟩
theorem lw_p10 : lw_okq (⟨"NobodyCave$Sights", "wouldBeSo", "(LNobodyCave$Told;II)Z"⟩, 4) := ⟨⟨by decide +kernel, by decide +kernel⟩, List.mem_of_getElem? (i := 193) (by decide +kernel), List.mem_of_getElem? (i := 625) (by decide +kernel), List.mem_of_getElem? (i := 626) (by decide +kernel)⟩
theorem lw_p11 : lw_okq (⟨"NobodyCaveModel", "anew", "()V"⟩, 17) := ⟨⟨by decide +kernel, by decide +kernel⟩, List.mem_of_getElem? (i := 645) (by decide +kernel), List.mem_of_getElem? (i := 654) (by decide +kernel), List.mem_of_getElem? (i := 655) (by decide +kernel)⟩
theorem lw_p12 : lw_okq (⟨"NobodyCaveModel", "readText", "()Z"⟩, 17) := ⟨⟨by decide +kernel, by decide +kernel⟩, List.mem_of_getElem? (i := 645) (by decide +kernel), List.mem_of_getElem? (i := 726) (by decide +kernel), List.mem_of_getElem? (i := 727) (by decide +kernel)⟩
theorem lw_p13 : lw_okq (⟨"NobodyCaveModel", "nextToken", "()V"⟩, 17) := ⟨⟨by decide +kernel, by decide +kernel⟩, List.mem_of_getElem? (i := 645) (by decide +kernel), List.mem_of_getElem? (i := 730) (by decide +kernel), List.mem_of_getElem? (i := 731) (by decide +kernel)⟩
theorem lw_p14 : lw_okq (⟨"NobodyCaveModel", "letterAt", "(I)I"⟩, 17) := ⟨⟨by decide +kernel, by decide +kernel⟩, List.mem_of_getElem? (i := 645) (by decide +kernel), List.mem_of_getElem? (i := 734) (by decide +kernel), List.mem_of_getElem? (i := 735) (by decide +kernel)⟩
theorem lw_p15 : lw_okq (⟨"NobodyCaveModel", "readClause", "()Z"⟩, 17) := ⟨⟨by decide +kernel, by decide +kernel⟩, List.mem_of_getElem? (i := 645) (by decide +kernel), List.mem_of_getElem? (i := 742) (by decide +kernel), List.mem_of_getElem? (i := 743) (by decide +kernel)⟩
def lw_privs_1 : List (MethodName × Nat) := [(⟨"NobodyCave$Text", "readClause", "(LNobodyCave$Told;)Z"⟩, 5), (⟨"NobodyCave$Text", "nextToken", "()V"⟩, 5), (⟨"NobodyCave$Text", "wordHere", "()I"⟩, 5), (⟨"NobodyCave$Text", "tokenIs", "(Ljava/lang/String;)Z"⟩, 5), (⟨"NobodyCave$Text", "numberHere", "()I"⟩, 5), (⟨"NobodyCave$Told", "addSheep", "(II)V"⟩, 11), (⟨"NobodyCave", "beginAnew", "()V"⟩, 9), (⟨"NobodyCave", "daysTillBlinded", "()I"⟩, 9), (⟨"NobodyCave$Planner", "bestFrom", "(II)I"⟩, 2), (⟨"NobodyCave$Planner", "firstBest", "(II)I"⟩, 2), (⟨"NobodyCave$Sights", "wouldBeSo", "(LNobodyCave$Told;II)Z"⟩, 4), (⟨"NobodyCaveModel", "anew", "()V"⟩, 17), (⟨"NobodyCaveModel", "readText", "()Z"⟩, 17), (⟨"NobodyCaveModel", "nextToken", "()V"⟩, 17), (⟨"NobodyCaveModel", "letterAt", "(I)I"⟩, 17), (⟨"NobodyCaveModel", "readClause", "()Z"⟩, 17)]
theorem lw_r1 : ∀ q ∈ lw_privs_1, lw_okq q := List.forall_mem_cons.mpr ⟨lw_p0, List.forall_mem_cons.mpr ⟨lw_p1, List.forall_mem_cons.mpr ⟨lw_p2, List.forall_mem_cons.mpr ⟨lw_p3, List.forall_mem_cons.mpr ⟨lw_p4, List.forall_mem_cons.mpr ⟨lw_p5, List.forall_mem_cons.mpr ⟨lw_p6, List.forall_mem_cons.mpr ⟨lw_p7, List.forall_mem_cons.mpr ⟨lw_p8, List.forall_mem_cons.mpr ⟨lw_p9, List.forall_mem_cons.mpr ⟨lw_p10, List.forall_mem_cons.mpr ⟨lw_p11, List.forall_mem_cons.mpr ⟨lw_p12, List.forall_mem_cons.mpr ⟨lw_p13, List.forall_mem_cons.mpr ⟨lw_p14, List.forall_mem_cons.mpr ⟨lw_p15, fun _ h => absurd h List.not_mem_nil⟩⟩⟩⟩⟩⟩⟩⟩⟩⟩⟩⟩⟩⟩⟩⟩
theorem lw_p16 : lw_okq (⟨"NobodyCaveModel", "verb", "()I"⟩, 17) := ⟨⟨by decide +kernel, by decide +kernel⟩, List.mem_of_getElem? (i := 645) (by decide +kernel), List.mem_of_getElem? (i := 746) (by decide +kernel), List.mem_of_getElem? (i := 747) (by decide +kernel)⟩
theorem lw_p17 : lw_okq (⟨"NobodyCaveModel", "wordOf", "()J"⟩, 17) := ⟨⟨by decide +kernel, by decide +kernel⟩, List.mem_of_getElem? (i := 645) (by decide +kernel), List.mem_of_getElem? (i := 750) (by decide +kernel), List.mem_of_getElem? (i := 751) (by decide +kernel)⟩
theorem lw_p18 : lw_okq (⟨"NobodyCaveModel", "readOne", "(IIIII)Z"⟩, 17) := ⟨⟨by decide +kernel, by decide +kernel⟩, List.mem_of_getElem? (i := 645) (by decide +kernel), List.mem_of_getElem? (i := 758) (by decide +kernel), List.mem_of_getElem? (i := 759) (by decide +kernel)⟩
theorem lw_p19 : lw_okq (⟨"NobodyCaveModel", "number", "(II)I"⟩, 17) := ⟨⟨by decide +kernel, by decide +kernel⟩, List.mem_of_getElem? (i := 645) (by decide +kernel), List.mem_of_getElem? (i := 762) (by decide +kernel), List.mem_of_getElem? (i := 763) (by decide +kernel)⟩
theorem lw_p20 : lw_okq (⟨"NobodyCaveModel", "isMan", "(I)Z"⟩, 17) := ⟨⟨by decide +kernel, by decide +kernel⟩, List.mem_of_getElem? (i := 645) (by decide +kernel), List.mem_of_getElem? (i := 774) (by decide +kernel), List.mem_of_getElem? (i := 775) (by decide +kernel)⟩
theorem lw_p21 : lw_okq (⟨"NobodyCaveModel", "isSheep", "(I)Z"⟩, 17) := ⟨⟨by decide +kernel, by decide +kernel⟩, List.mem_of_getElem? (i := 645) (by decide +kernel), List.mem_of_getElem? (i := 783) (by decide +kernel), List.mem_of_getElem? (i := 784) (by decide +kernel)⟩
theorem lw_p22 : lw_okq (⟨"NobodyCaveModel", "under", "(I)I"⟩, 17) := ⟨⟨by decide +kernel, by decide +kernel⟩, List.mem_of_getElem? (i := 645) (by decide +kernel), List.mem_of_getElem? (i := 788) (by decide +kernel), List.mem_of_getElem? (i := 789) (by decide +kernel)⟩
theorem lw_p23 : lw_okq (⟨"NobodyCaveModel", "bears", "(I)I"⟩, 17) := ⟨⟨by decide +kernel, by decide +kernel⟩, List.mem_of_getElem? (i := 645) (by decide +kernel), List.mem_of_getElem? (i := 801) (by decide +kernel), List.mem_of_getElem? (i := 802) (by decide +kernel)⟩
theorem lw_p24 : lw_okq (⟨"NobodyCaveModel", "bearsBy", "(II)I"⟩, 17) := ⟨⟨by decide +kernel, by decide +kernel⟩, List.mem_of_getElem? (i := 645) (by decide +kernel), List.mem_of_getElem? (i := 805) (by decide +kernel), List.mem_of_getElem? (i := 806) (by decide +kernel)⟩
theorem lw_p25 : lw_okq (⟨"NobodyCaveModel", "note", "()V"⟩, 17) := ⟨⟨by decide +kernel, by decide +kernel⟩, List.mem_of_getElem? (i := 645) (by decide +kernel), List.mem_of_getElem? (i := 814) (by decide +kernel), List.mem_of_getElem? (i := 815) (by decide +kernel)⟩
theorem lw_p26 : lw_okq (⟨"NobodyCaveModel", "eatFirst", "(I)I"⟩, 17) := ⟨⟨by decide +kernel, by decide +kernel⟩, List.mem_of_getElem? (i := 645) (by decide +kernel), List.mem_of_getElem? (i := 822) (by decide +kernel), List.mem_of_getElem? (i := 823) (by decide +kernel)⟩
theorem lw_p27 : lw_okq (⟨"NobodyCaveModel", "isIn", "(I)Z"⟩, 17) := ⟨⟨by decide +kernel, by decide +kernel⟩, List.mem_of_getElem? (i := 645) (by decide +kernel), List.mem_of_getElem? (i := 826) (by decide +kernel), List.mem_of_getElem? (i := 827) (by decide +kernel)⟩
theorem lw_p28 : lw_okq (⟨"NobodyCaveModel", "eat", "(I)V"⟩, 17) := ⟨⟨by decide +kernel, by decide +kernel⟩, List.mem_of_getElem? (i := 645) (by decide +kernel), List.mem_of_getElem? (i := 833) (by decide +kernel), List.mem_of_getElem? (i := 834) (by decide +kernel)⟩
theorem lw_p29 : lw_okq (⟨"NobodyCaveModel", "comeBy", "(I)I"⟩, 17) := ⟨⟨by decide +kernel, by decide +kernel⟩, List.mem_of_getElem? (i := 645) (by decide +kernel), List.mem_of_getElem? (i := 842) (by decide +kernel), List.mem_of_getElem? (i := 843) (by decide +kernel)⟩
theorem lw_p30 : lw_okq (⟨"NobodyCaveModel", "soonest", "()I"⟩, 17) := ⟨⟨by decide +kernel, by decide +kernel⟩, List.mem_of_getElem? (i := 645) (by decide +kernel), List.mem_of_getElem? (i := 876) (by decide +kernel), List.mem_of_getElem? (i := 877) (by decide +kernel)⟩
theorem lw_p31 : lw_okq (⟨"NobodyCaveModel", "menOf", "(I)I"⟩, 17) := ⟨⟨by decide +kernel, by decide +kernel⟩, List.mem_of_getElem? (i := 645) (by decide +kernel), List.mem_of_getElem? (i := 880) (by decide +kernel), List.mem_of_getElem? (i := 881) (by decide +kernel)⟩
def lw_privs_2 : List (MethodName × Nat) := [(⟨"NobodyCaveModel", "verb", "()I"⟩, 17), (⟨"NobodyCaveModel", "wordOf", "()J"⟩, 17), (⟨"NobodyCaveModel", "readOne", "(IIIII)Z"⟩, 17), (⟨"NobodyCaveModel", "number", "(II)I"⟩, 17), (⟨"NobodyCaveModel", "isMan", "(I)Z"⟩, 17), (⟨"NobodyCaveModel", "isSheep", "(I)Z"⟩, 17), (⟨"NobodyCaveModel", "under", "(I)I"⟩, 17), (⟨"NobodyCaveModel", "bears", "(I)I"⟩, 17), (⟨"NobodyCaveModel", "bearsBy", "(II)I"⟩, 17), (⟨"NobodyCaveModel", "note", "()V"⟩, 17), (⟨"NobodyCaveModel", "eatFirst", "(I)I"⟩, 17), (⟨"NobodyCaveModel", "isIn", "(I)Z"⟩, 17), (⟨"NobodyCaveModel", "eat", "(I)V"⟩, 17), (⟨"NobodyCaveModel", "comeBy", "(I)I"⟩, 17), (⟨"NobodyCaveModel", "soonest", "()I"⟩, 17), (⟨"NobodyCaveModel", "menOf", "(I)I"⟩, 17)]
theorem lw_r2 : ∀ q ∈ lw_privs_2, lw_okq q := List.forall_mem_cons.mpr ⟨lw_p16, List.forall_mem_cons.mpr ⟨lw_p17, List.forall_mem_cons.mpr ⟨lw_p18, List.forall_mem_cons.mpr ⟨lw_p19, List.forall_mem_cons.mpr ⟨lw_p20, List.forall_mem_cons.mpr ⟨lw_p21, List.forall_mem_cons.mpr ⟨lw_p22, List.forall_mem_cons.mpr ⟨lw_p23, List.forall_mem_cons.mpr ⟨lw_p24, List.forall_mem_cons.mpr ⟨lw_p25, List.forall_mem_cons.mpr ⟨lw_p26, List.forall_mem_cons.mpr ⟨lw_p27, List.forall_mem_cons.mpr ⟨lw_p28, List.forall_mem_cons.mpr ⟨lw_p29, List.forall_mem_cons.mpr ⟨lw_p30, List.forall_mem_cons.mpr ⟨lw_p31, fun _ h => absurd h List.not_mem_nil⟩⟩⟩⟩⟩⟩⟩⟩⟩⟩⟩⟩⟩⟩⟩⟩
theorem lw_p32 : lw_okq (⟨"NobodyCaveModel", "findPlan", "(I)V"⟩, 17) := ⟨⟨by decide +kernel, by decide +kernel⟩, List.mem_of_getElem? (i := 645) (by decide +kernel), List.mem_of_getElem? (i := 888) (by decide +kernel), List.mem_of_getElem? (i := 889) (by decide +kernel)⟩
def lw_privs_3 : List (MethodName × Nat) := [(⟨"NobodyCaveModel", "findPlan", "(I)V"⟩, 17)]
theorem lw_r3 : ∀ q ∈ lw_privs_3, lw_okq q := List.forall_mem_cons.mpr ⟨lw_p32, fun _ h => absurd h List.not_mem_nil⟩
def lw_privs : List (MethodName × Nat) := lw_privs_1 ++ (lw_privs_2 ++ (lw_privs_3))
def lw_tbl : List Cond := k2_sels lw_privs ++ tables_1
theorem lw_privs_ok : ∀ q ∈ lw_privs, lw_okq q := by
  show ∀ q ∈ lw_privs_1 ++ (lw_privs_2 ++ (lw_privs_3)), lw_okq q
  exact List.forall_mem_append.mpr ⟨lw_r1, List.forall_mem_append.mpr ⟨lw_r2, lw_r3⟩⟩
end
section
def RX0 : String := "NobodyCave$Past"
def TX0 : u_T := fun k => match k with
  | 0 => ("NobodyCave$Past", "held", "I", false)
  | 1 => ("NobodyCave$Past", "next", "I", false)
  | _ => ("NobodyCave$Past", "ring", "[LNobodyCave$Scene;", true)
def tyX0 : Nat → FieldType := fun k => match k with
  | 0 => .int
  | 1 => .int
  | _ => .array (.object "NobodyCave$Scene")
abbrev wsX00 : List Cond := u_ws RX0 TX0 3
theorem nmX0 : ∀ a, a < 3 → ∀ b, b < 3 → a ≠ b → (TX0 a).2.1 ≠ (TX0 b).2.1 := by decide +kernel
theorem tyX0_ok : ∀ k, k < 3 → parseFieldDescriptor (TX0 k).2.2.1 = some (tyX0 k) := by decide +kernel
abbrev cX0_init : ByteArray := prog_2_method_1_code
def yX0_init : MethodName := ⟨RX0, "<init>", "()V"⟩
abbrev cX0_clear : ByteArray := prog_2_method_2_code
def yX0_clear : MethodName := ⟨RX0, "clear", "()V"⟩
abbrev cX0_push : ByteArray := prog_2_method_3_code
def yX0_push : MethodName := ⟨RX0, "push", "(LNobodyCave$Scene;)V"⟩
abbrev cX0_pop : ByteArray := prog_2_method_4_code
def yX0_pop : MethodName := ⟨RX0, "pop", "(LNobodyCave$Scene;)Z"⟩
def RX1 : String := "NobodyCave$Planner"
def TX1 : u_T := fun k => match k with
  | 0 => ("NobodyCave$Planner", "fits", "[I", true)
  | _ => ("NobodyCave$Planner", "most", "[I", true)
def tyX1 : Nat → FieldType := fun k => match k with
  | 0 => .array .int
  | _ => .array .int
abbrev wsX10 : List Cond := u_ws RX1 TX1 2
theorem nmX1 : ∀ a, a < 2 → ∀ b, b < 2 → a ≠ b → (TX1 a).2.1 ≠ (TX1 b).2.1 := by decide +kernel
theorem tyX1_ok : ∀ k, k < 2 → parseFieldDescriptor (TX1 k).2.2.1 = some (tyX1 k) := by decide +kernel
abbrev cX1_init : ByteArray := prog_3_method_1_code
def yX1_init : MethodName := ⟨RX1, "<init>", "()V"⟩
abbrev cX1_reckon : ByteArray := prog_3_method_2_code
def yX1_reckon : MethodName := ⟨RX1, "reckon", "(LNobodyCave$Told;LNobodyCave$Scene;)V"⟩
abbrev cX1_fitting : ByteArray := prog_3_method_3_code
def yX1_fitting : MethodName := ⟨RX1, "fitting", "(LNobodyCave$Told;LNobodyCave$Scene;I)I"⟩
abbrev cX1_bestFrom : ByteArray := prog_3_method_4_code
def yX1_bestFrom : MethodName := ⟨RX1, "bestFrom", "(II)I"⟩
abbrev cX1_mostOut : ByteArray := prog_3_method_5_code
def yX1_mostOut : MethodName := ⟨RX1, "mostOut", "(I)I"⟩
abbrev cX1_sheepOf : ByteArray := prog_3_method_6_code
def yX1_sheepOf : MethodName := ⟨RX1, "sheepOf", "(I)I"⟩
abbrev cX1_firstBest : ByteArray := prog_3_method_7_code
def yX1_firstBest : MethodName := ⟨RX1, "firstBest", "(II)I"⟩
abbrev cX1_bestFelt : ByteArray := prog_3_method_8_code
def yX1_bestFelt : MethodName := ⟨RX1, "bestFelt", "(II)I"⟩
def RX2 : String := "NobodyCave$Scene"
def TX2 : u_T := fun k => match k with
  | 0 => ("NobodyCave$Scene", "day", "I", false)
  | 1 => ("NobodyCave$Scene", "cups", "I", false)
  | 2 => ("NobodyCave$Scene", "drunk", "I", false)
  | 3 => ("NobodyCave$Scene", "stake", "I", false)
  | 4 => ("NobodyCave$Scene", "blind", "Z", false)
  | 5 => ("NobodyCave$Scene", "in", "I", false)
  | 6 => ("NobodyCave$Scene", "out", "I", false)
  | 7 => ("NobodyCave$Scene", "eaten", "I", false)
  | 8 => ("NobodyCave$Scene", "gone", "I", false)
  | _ => ("NobodyCave$Scene", "under", "[I", true)
def tyX2 : Nat → FieldType := fun k => match k with
  | 0 => .int
  | 1 => .int
  | 2 => .int
  | 3 => .int
  | 4 => .boolean
  | 5 => .int
  | 6 => .int
  | 7 => .int
  | 8 => .int
  | _ => .array .int
abbrev wsX20 : List Cond := u_ws RX2 TX2 10
theorem nmX2 : ∀ a, a < 10 → ∀ b, b < 10 → a ≠ b → (TX2 a).2.1 ≠ (TX2 b).2.1 := by decide +kernel
theorem tyX2_ok : ∀ k, k < 10 → parseFieldDescriptor (TX2 k).2.2.1 = some (tyX2 k) := by decide +kernel
abbrev cX2_init : ByteArray := prog_4_method_1_code
def yX2_init : MethodName := ⟨RX2, "<init>", "()V"⟩
abbrev cX2_begin : ByteArray := prog_4_method_2_code
def yX2_begin : MethodName := ⟨RX2, "begin", "(LNobodyCave$Told;)V"⟩
abbrev cX2_copy : ByteArray := prog_4_method_3_code
def yX2_copy : MethodName := ⟨RX2, "copy", "(LNobodyCave$Scene;)V"⟩
abbrev cX2_stateOf : ByteArray := prog_4_method_4_code
def yX2_stateOf : MethodName := ⟨RX2, "stateOf", "(I)I"⟩
abbrev cX2_whoIsUnder : ByteArray := prog_4_method_5_code
def yX2_whoIsUnder : MethodName := ⟨RX2, "whoIsUnder", "(I)I"⟩
abbrev cX2_canHide : ByteArray := prog_4_method_6_code
def yX2_canHide : MethodName := ⟨RX2, "canHide", "(II)Z"⟩
abbrev cX2_eatFirst : ByteArray := prog_4_method_7_code
def yX2_eatFirst : MethodName := ⟨RX2, "eatFirst", "(I)I"⟩
abbrev cX2_leave : ByteArray := prog_4_method_8_code
def yX2_leave : MethodName := ⟨RX2, "leave", "(LNobodyCave$Told;)I"⟩
def RX3 : String := "NobodyCave$Sights"
def TX3 : u_T := fun k => match k with
  | 0 => ("NobodyCave$Sights", "held", "I", false)
  | 1 => ("NobodyCave$Sights", "men", "[I", true)
  | 2 => ("NobodyCave$Sights", "sheep", "[I", true)
  | _ => ("NobodyCave$Sights", "out", "[Z", true)
def tyX3 : Nat → FieldType := fun k => match k with
  | 0 => .int
  | 1 => .array .int
  | 2 => .array .int
  | _ => .array .boolean
abbrev wsX30 : List Cond := u_ws RX3 TX3 4
theorem nmX3 : ∀ a, a < 4 → ∀ b, b < 4 → a ≠ b → (TX3 a).2.1 ≠ (TX3 b).2.1 := by decide +kernel
theorem tyX3_ok : ∀ k, k < 4 → parseFieldDescriptor (TX3 k).2.2.1 = some (tyX3 k) := by decide +kernel
abbrev cX3_init : ByteArray := prog_5_method_1_code
def yX3_init : MethodName := ⟨RX3, "<init>", "()V"⟩
abbrev cX3_add : ByteArray := prog_5_method_2_code
def yX3_add : MethodName := ⟨RX3, "add", "(IIZ)Z"⟩
abbrev cX3_leastStrong : ByteArray := prog_5_method_3_code
def yX3_leastStrong : MethodName := ⟨RX3, "leastStrong", "(LNobodyCave$Told;I)I"⟩
abbrev cX3_greatestStrong : ByteArray := prog_5_method_4_code
def yX3_greatestStrong : MethodName := ⟨RX3, "greatestStrong", "(LNobodyCave$Told;I)I"⟩
abbrev cX3_wouldBeSo : ByteArray := prog_5_method_5_code
def yX3_wouldBeSo : MethodName := ⟨RX3, "wouldBeSo", "(LNobodyCave$Told;II)Z"⟩
def RX4 : String := "NobodyCave$Text"
def TX4 : u_T := fun k => match k with
  | 0 => ("NobodyCave$Text", "letters", "[C", true)
  | 1 => ("NobodyCave$Text", "length", "I", false)
  | 2 => ("NobodyCave$Text", "clauses", "I", false)
  | 3 => ("NobodyCave$Text", "begin", "I", false)
  | _ => ("NobodyCave$Text", "end", "I", false)
def tyX4 : Nat → FieldType := fun k => match k with
  | 0 => .array .char
  | 1 => .int
  | 2 => .int
  | 3 => .int
  | _ => .int
abbrev wsX40 : List Cond := u_ws RX4 TX4 5
theorem nmX4 : ∀ a, a < 5 → ∀ b, b < 5 → a ≠ b → (TX4 a).2.1 ≠ (TX4 b).2.1 := by decide +kernel
theorem tyX4_ok : ∀ k, k < 5 → parseFieldDescriptor (TX4 k).2.2.1 = some (tyX4 k) := by decide +kernel
abbrev cX4_init : ByteArray := prog_6_method_1_code
def yX4_init : MethodName := ⟨RX4, "<init>", "()V"⟩
abbrev cX4_add : ByteArray := prog_6_method_2_code
def yX4_add : MethodName := ⟨RX4, "add", "(C)Z"⟩
abbrev cX4_read : ByteArray := prog_6_method_3_code
def yX4_read : MethodName := ⟨RX4, "read", "(LNobodyCave$Told;)I"⟩
abbrev cX4_readClause : ByteArray := prog_6_method_4_code
def yX4_readClause : MethodName := ⟨RX4, "readClause", "(LNobodyCave$Told;)Z"⟩
abbrev cX4_nextToken : ByteArray := prog_6_method_5_code
def yX4_nextToken : MethodName := ⟨RX4, "nextToken", "()V"⟩
abbrev cX4_wordHere : ByteArray := prog_6_method_6_code
def yX4_wordHere : MethodName := ⟨RX4, "wordHere", "()I"⟩
abbrev cX4_tokenIs : ByteArray := prog_6_method_7_code
def yX4_tokenIs : MethodName := ⟨RX4, "tokenIs", "(Ljava/lang/String;)Z"⟩
abbrev cX4_numberHere : ByteArray := prog_6_method_8_code
def yX4_numberHere : MethodName := ⟨RX4, "numberHere", "()I"⟩
abbrev cX4_isSmall : ByteArray := prog_6_method_9_code
def yX4_isSmall : MethodName := ⟨RX4, "isSmall", "(C)Z"⟩
abbrev cX4_isDigit : ByteArray := prog_6_method_10_code
def yX4_isDigit : MethodName := ⟨RX4, "isDigit", "(C)Z"⟩
abbrev cX4_spelling : ByteArray := prog_6_method_11_code
def yX4_spelling : MethodName := ⟨RX4, "spelling", "(I)Ljava/lang/String;"⟩
def RX5 : String := "NobodyCave$Told"
def TX5 : u_T := fun k => match k with
  | 0 => ("NobodyCave$Told", "men", "I", false)
  | 1 => ("NobodyCave$Told", "sheep", "I", false)
  | 2 => ("NobodyCave$Told", "neighbours", "I", false)
  | 3 => ("NobodyCave$Told", "wine", "I", false)
  | 4 => ("NobodyCave$Told", "sleep", "I", false)
  | 5 => ("NobodyCave$Told", "hard", "I", false)
  | 6 => ("NobodyCave$Told", "eats", "I", false)
  | 7 => ("NobodyCave$Told", "weight", "[I", true)
  | 8 => ("NobodyCave$Told", "kind", "[I", true)
  | 9 => ("NobodyCave$Told", "strong", "[I", true)
  | _ => ("NobodyCave$Told", "takes", "[I", true)
def tyX5 : Nat → FieldType := fun k => match k with
  | 0 => .int
  | 1 => .int
  | 2 => .int
  | 3 => .int
  | 4 => .int
  | 5 => .int
  | 6 => .int
  | 7 => .array .int
  | 8 => .array .int
  | 9 => .array .int
  | _ => .array .int
abbrev wsX50 : List Cond := u_ws RX5 TX5 11
theorem nmX5 : ∀ a, a < 11 → ∀ b, b < 11 → a ≠ b → (TX5 a).2.1 ≠ (TX5 b).2.1 := by decide +kernel
theorem tyX5_ok : ∀ k, k < 11 → parseFieldDescriptor (TX5 k).2.2.1 = some (tyX5 k) := by decide +kernel
abbrev cX5_init : ByteArray := prog_7_method_1_code
def yX5_init : MethodName := ⟨RX5, "<init>", "()V"⟩
abbrev cX5_reset : ByteArray := prog_7_method_2_code
def yX5_reset : MethodName := ⟨RX5, "reset", "()V"⟩
abbrev cX5_copy : ByteArray := prog_7_method_3_code
def yX5_copy : MethodName := ⟨RX5, "copy", "(LNobodyCave$Told;)V"⟩
abbrev cX5_hasRoomFor : ByteArray := prog_7_method_4_code
def yX5_hasRoomFor : MethodName := ⟨RX5, "hasRoomFor", "(I)Z"⟩
abbrev cX5_tell : ByteArray := prog_7_method_5_code
def yX5_tell : MethodName := ⟨RX5, "tell", "(II)V"⟩
abbrev cX5_addSheep : ByteArray := prog_7_method_6_code
def yX5_addSheep : MethodName := ⟨RX5, "addSheep", "(II)V"⟩
abbrev cX5_hasMan : ByteArray := prog_7_method_7_code
def yX5_hasMan : MethodName := ⟨RX5, "hasMan", "(I)Z"⟩
abbrev cX5_hasSheep : ByteArray := prog_7_method_8_code
def yX5_hasSheep : MethodName := ⟨RX5, "hasSheep", "(I)Z"⟩
abbrev cX5_hasNeighbour : ByteArray := prog_7_method_9_code
def yX5_hasNeighbour : MethodName := ⟨RX5, "hasNeighbour", "(I)Z"⟩
abbrev cX5_allSheep : ByteArray := prog_7_method_10_code
def yX5_allSheep : MethodName := ⟨RX5, "allSheep", "()I"⟩
abbrev cX5_bears : ByteArray := prog_7_method_11_code
def yX5_bears : MethodName := ⟨RX5, "bears", "(I)I"⟩
abbrev cX5_bearsMan : ByteArray := prog_7_method_12_code
def yX5_bearsMan : MethodName := ⟨RX5, "bearsMan", "(II)Z"⟩
abbrev cX5_comers : ByteArray := prog_7_method_13_code
def yX5_comers : MethodName := ⟨RX5, "comers", "(I)I"⟩
abbrev cX5_namesFor : ByteArray := prog_7_method_14_code
def yX5_namesFor : MethodName := ⟨RX5, "namesFor", "(I)I"⟩
abbrev cX5_quietestName : ByteArray := prog_7_method_15_code
def yX5_quietestName : MethodName := ⟨RX5, "quietestName", "()I"⟩
def RX6 : String := "NobodyCave"
def TX6 : u_T := fun k => match k with
  | 0 => ("NobodyCave", "text", "LNobodyCave$Text;", true)
  | 1 => ("NobodyCave", "told", "LNobodyCave$Told;", true)
  | 2 => ("NobodyCave", "draft", "LNobodyCave$Told;", true)
  | 3 => ("NobodyCave", "now", "LNobodyCave$Scene;", true)
  | 4 => ("NobodyCave", "past", "LNobodyCave$Past;", true)
  | 5 => ("NobodyCave", "kept", "[LNobodyCave$Scene;", true)
  | 6 => ("NobodyCave", "isKept", "[Z", true)
  | 7 => ("NobodyCave", "planner", "LNobodyCave$Planner;", true)
  | _ => ("NobodyCave", "sights", "LNobodyCave$Sights;", true)
def tyX6 : Nat → FieldType := fun k => match k with
  | 0 => .object "NobodyCave$Text"
  | 1 => .object "NobodyCave$Told"
  | 2 => .object "NobodyCave$Told"
  | 3 => .object "NobodyCave$Scene"
  | 4 => .object "NobodyCave$Past"
  | 5 => .array (.object "NobodyCave$Scene")
  | 6 => .array .boolean
  | 7 => .object "NobodyCave$Planner"
  | _ => .object "NobodyCave$Sights"
abbrev wsX60 : List Cond := u_ws RX6 TX6 9
theorem nmX6 : ∀ a, a < 9 → ∀ b, b < 9 → a ≠ b → (TX6 a).2.1 ≠ (TX6 b).2.1 := by decide +kernel
theorem tyX6_ok : ∀ k, k < 9 → parseFieldDescriptor (TX6 k).2.2.1 = some (tyX6 k) := by decide +kernel
abbrev cX6_init : ByteArray := prog_1_method_1_code
def yX6_init : MethodName := ⟨RX6, "<init>", "()V"⟩
abbrev cX6_write : ByteArray := prog_1_method_2_code
def yX6_write : MethodName := ⟨RX6, "write", "(I)I"⟩
abbrev cX6_erase : ByteArray := prog_1_method_3_code
def yX6_erase : MethodName := ⟨RX6, "erase", "()I"⟩
abbrev cX6_fault : ByteArray := prog_1_method_4_code
def yX6_fault : MethodName := ⟨RX6, "fault", "()I"⟩
abbrev cX6_cave : ByteArray := prog_1_method_5_code
def yX6_cave : MethodName := ⟨RX6, "cave", "()I"⟩
abbrev cX6_man : ByteArray := prog_1_method_6_code
def yX6_man : MethodName := ⟨RX6, "man", "(II)I"⟩
abbrev cX6_sheep : ByteArray := prog_1_method_7_code
def yX6_sheep : MethodName := ⟨RX6, "sheep", "(II)I"⟩
abbrev cX6_near : ByteArray := prog_1_method_8_code
def yX6_near : MethodName := ⟨RX6, "near", "(I)I"⟩
abbrev cX6_as : ByteArray := prog_1_method_9_code
def yX6_as : MethodName := ⟨RX6, "as", "(II)I"⟩
abbrev cX6_give : ByteArray := prog_1_method_10_code
def yX6_give : MethodName := ⟨RX6, "give", "(I)I"⟩
abbrev cX6_day : ByteArray := prog_1_method_11_code
def yX6_day : MethodName := ⟨RX6, "day", "()I"⟩
abbrev cX6_blind : ByteArray := prog_1_method_12_code
def yX6_blind : MethodName := ⟨RX6, "blind", "(I)I"⟩
abbrev cX6_hide : ByteArray := prog_1_method_13_code
def yX6_hide : MethodName := ⟨RX6, "hide", "(II)I"⟩
abbrev cX6_morning : ByteArray := prog_1_method_14_code
def yX6_morning : MethodName := ⟨RX6, "morning", "()I"⟩
abbrev cX6_undo : ByteArray := prog_1_method_15_code
def yX6_undo : MethodName := ⟨RX6, "undo", "()I"⟩
abbrev cX6_keep : ByteArray := prog_1_method_16_code
def yX6_keep : MethodName := ⟨RX6, "keep", "(I)I"⟩
abbrev cX6_back : ByteArray := prog_1_method_17_code
def yX6_back : MethodName := ⟨RX6, "back", "(I)I"⟩
abbrev cX6_soon : ByteArray := prog_1_method_18_code
def yX6_soon : MethodName := ⟨RX6, "soon", "(I)I"⟩
abbrev cX6_plan : ByteArray := prog_1_method_19_code
def yX6_plan : MethodName := ⟨RX6, "plan", "(I)I"⟩
abbrev cX6_feel : ByteArray := prog_1_method_20_code
def yX6_feel : MethodName := ⟨RX6, "feel", "(II)I"⟩
abbrev cX6_names : ByteArray := prog_1_method_21_code
def yX6_names : MethodName := ⟨RX6, "names", "(I)I"⟩
abbrev cX6_came : ByteArray := prog_1_method_22_code
def yX6_came : MethodName := ⟨RX6, "came", "(I)I"⟩
abbrev cX6_seen : ByteArray := prog_1_method_23_code
def yX6_seen : MethodName := ⟨RX6, "seen", "(III)I"⟩
abbrev cX6_forget : ByteArray := prog_1_method_24_code
def yX6_forget : MethodName := ⟨RX6, "forget", "()I"⟩
abbrev cX6_strong : ByteArray := prog_1_method_25_code
def yX6_strong : MethodName := ⟨RX6, "strong", "(II)I"⟩
abbrev cX6_boasts : ByteArray := prog_1_method_26_code
def yX6_boasts : MethodName := ⟨RX6, "boasts", "(IIIII)I"⟩
abbrev cX6_count : ByteArray := prog_1_method_27_code
def yX6_count : MethodName := ⟨RX6, "count", "(I)I"⟩
abbrev cX6_beginAnew : ByteArray := prog_1_method_28_code
def yX6_beginAnew : MethodName := ⟨RX6, "beginAnew", "()V"⟩
abbrev cX6_daysTillBlinded : ByteArray := prog_1_method_29_code
def yX6_daysTillBlinded : MethodName := ⟨RX6, "daysTillBlinded", "()I"⟩
abbrev cX6_fallsThatMiss : ByteArray := prog_1_method_30_code
def yX6_fallsThatMiss : MethodName := ⟨RX6, "fallsThatMiss", "(II)I"⟩
abbrev cX6_isUnderKind : ByteArray := prog_1_method_31_code
def yX6_isUnderKind : MethodName := ⟨RX6, "isUnderKind", "(II)Z"⟩
abbrev cX6_bearing : ByteArray := prog_1_method_32_code
def yX6_bearing : MethodName := ⟨RX6, "bearing", "(II)I"⟩
abbrev cX6_isOutside : ByteArray := prog_1_method_33_code
def yX6_isOutside : MethodName := ⟨RX6, "isOutside", "(III)Z"⟩
abbrev cX6_hasBit : ByteArray := prog_1_method_34_code
def yX6_hasBit : MethodName := ⟨RX6, "hasBit", "(II)Z"⟩
abbrev cX6_allBits : ByteArray := prog_1_method_35_code
def yX6_allBits : MethodName := ⟨RX6, "allBits", "(I)I"⟩
def RX7 : String := "NobodyCaveModel"
def TX7 : u_T := fun k => match k with
  | 0 => ("NobodyCaveModel", "told", "[I", true)
  | 1 => ("NobodyCaveModel", "st", "[I", true)
  | 2 => ("NobodyCaveModel", "text", "[I", true)
  | 3 => ("NobodyCaveModel", "letters", "I", false)
  | 4 => ("NobodyCaveModel", "place", "I", false)
  | 5 => ("NobodyCaveModel", "token", "I", false)
  | 6 => ("NobodyCaveModel", "value", "I", false)
  | 7 => ("NobodyCaveModel", "begins", "I", false)
  | 8 => ("NobodyCaveModel", "read", "[I", true)
  | 9 => ("NobodyCaveModel", "clauses", "I", false)
  | 10 => ("NobodyCaveModel", "ahead", "[I", true)
  | 11 => ("NobodyCaveModel", "undoMany", "I", false)
  | 12 => ("NobodyCaveModel", "isKept", "[Z", true)
  | 13 => ("NobodyCaveModel", "kept", "[I", true)
  | 14 => ("NobodyCaveModel", "most", "[I", true)
  | 15 => ("NobodyCaveModel", "seens", "[I", true)
  | _ => ("NobodyCaveModel", "seenMany", "I", false)
def tyX7 : Nat → FieldType := fun k => match k with
  | 0 => .array .int
  | 1 => .array .int
  | 2 => .array .int
  | 3 => .int
  | 4 => .int
  | 5 => .int
  | 6 => .int
  | 7 => .int
  | 8 => .array .int
  | 9 => .int
  | 10 => .array .int
  | 11 => .int
  | 12 => .array .boolean
  | 13 => .array .int
  | 14 => .array .int
  | 15 => .array .int
  | _ => .int
abbrev wsX70 : List Cond := u_ws RX7 TX7 17
theorem nmX7 : ∀ a, a < 17 → ∀ b, b < 17 → a ≠ b → (TX7 a).2.1 ≠ (TX7 b).2.1 := by decide +kernel
theorem tyX7_ok : ∀ k, k < 17 → parseFieldDescriptor (TX7 k).2.2.1 = some (tyX7 k) := by decide +kernel
abbrev cX7_init : ByteArray := prog_9_method_1_code
def yX7_init : MethodName := ⟨RX7, "<init>", "()V"⟩
abbrev cX7_in : ByteArray := prog_9_method_2_code
def yX7_in : MethodName := ⟨RX7, "in", "(JJJ)Z"⟩
abbrev cX7_has : ByteArray := prog_9_method_3_code
def yX7_has : MethodName := ⟨RX7, "has", "(II)Z"⟩
abbrev cX7_ones : ByteArray := prog_9_method_4_code
def yX7_ones : MethodName := ⟨RX7, "ones", "(I)I"⟩
abbrev cX7_takeFirst : ByteArray := prog_9_method_5_code
def yX7_takeFirst : MethodName := ⟨RX7, "takeFirst", "([I)V"⟩
abbrev cX7_isMan : ByteArray := prog_9_method_6_code
def yX7_isMan : MethodName := ⟨RX7, "isMan", "(I)Z"⟩
abbrev cX7_isSheep : ByteArray := prog_9_method_7_code
def yX7_isSheep : MethodName := ⟨RX7, "isSheep", "(I)Z"⟩
abbrev cX7_isWhat : ByteArray := prog_9_method_8_code
def yX7_isWhat : MethodName := ⟨RX7, "isWhat", "(I)Z"⟩
abbrev cX7_write : ByteArray := prog_9_method_9_code
def yX7_write : MethodName := ⟨RX7, "write", "(I)I"⟩
abbrev cX7_erase : ByteArray := prog_9_method_10_code
def yX7_erase : MethodName := ⟨RX7, "erase", "()I"⟩
abbrev cX7_letterAt : ByteArray := prog_9_method_11_code
def yX7_letterAt : MethodName := ⟨RX7, "letterAt", "(I)I"⟩
abbrev cX7_nextToken : ByteArray := prog_9_method_12_code
def yX7_nextToken : MethodName := ⟨RX7, "nextToken", "()V"⟩
abbrev cX7_wordOf : ByteArray := prog_9_method_13_code
def yX7_wordOf : MethodName := ⟨RX7, "wordOf", "()J"⟩
abbrev cX7_spelt : ByteArray := prog_9_method_14_code
def yX7_spelt : MethodName := ⟨RX7, "spelt", "(IIIIIII)J"⟩
abbrev cX7_verb : ByteArray := prog_9_method_15_code
def yX7_verb : MethodName := ⟨RX7, "verb", "()I"⟩
abbrev cX7_number : ByteArray := prog_9_method_16_code
def yX7_number : MethodName := ⟨RX7, "number", "(II)I"⟩
abbrev cX7_readOne : ByteArray := prog_9_method_17_code
def yX7_readOne : MethodName := ⟨RX7, "readOne", "(IIIII)Z"⟩
abbrev cX7_readClause : ByteArray := prog_9_method_18_code
def yX7_readClause : MethodName := ⟨RX7, "readClause", "()Z"⟩
abbrev cX7_readText : ByteArray := prog_9_method_19_code
def yX7_readText : MethodName := ⟨RX7, "readText", "()Z"⟩
abbrev cX7_fault : ByteArray := prog_9_method_20_code
def yX7_fault : MethodName := ⟨RX7, "fault", "()I"⟩
abbrev cX7_anew : ByteArray := prog_9_method_21_code
def yX7_anew : MethodName := ⟨RX7, "anew", "()V"⟩
abbrev cX7_cave : ByteArray := prog_9_method_22_code
def yX7_cave : MethodName := ⟨RX7, "cave", "()I"⟩
abbrev cX7_isIn : ByteArray := prog_9_method_23_code
def yX7_isIn : MethodName := ⟨RX7, "isIn", "(I)Z"⟩
abbrev cX7_menOf : ByteArray := prog_9_method_24_code
def yX7_menOf : MethodName := ⟨RX7, "menOf", "(I)I"⟩
abbrev cX7_under : ByteArray := prog_9_method_25_code
def yX7_under : MethodName := ⟨RX7, "under", "(I)I"⟩
abbrev cX7_bearsBy : ByteArray := prog_9_method_26_code
def yX7_bearsBy : MethodName := ⟨RX7, "bearsBy", "(II)I"⟩
abbrev cX7_bears : ByteArray := prog_9_method_27_code
def yX7_bears : MethodName := ⟨RX7, "bears", "(I)I"⟩
abbrev cX7_man : ByteArray := prog_9_method_28_code
def yX7_man : MethodName := ⟨RX7, "man", "(II)I"⟩
abbrev cX7_sheep : ByteArray := prog_9_method_29_code
def yX7_sheep : MethodName := ⟨RX7, "sheep", "(II)I"⟩
abbrev cX7_near : ByteArray := prog_9_method_30_code
def yX7_near : MethodName := ⟨RX7, "near", "(I)I"⟩
abbrev cX7_as : ByteArray := prog_9_method_31_code
def yX7_as : MethodName := ⟨RX7, "as", "(II)I"⟩
abbrev cX7_note : ByteArray := prog_9_method_32_code
def yX7_note : MethodName := ⟨RX7, "note", "()V"⟩
abbrev cX7_give : ByteArray := prog_9_method_33_code
def yX7_give : MethodName := ⟨RX7, "give", "(I)I"⟩
abbrev cX7_eat : ByteArray := prog_9_method_34_code
def yX7_eat : MethodName := ⟨RX7, "eat", "(I)V"⟩
abbrev cX7_eatFirst : ByteArray := prog_9_method_35_code
def yX7_eatFirst : MethodName := ⟨RX7, "eatFirst", "(I)I"⟩
abbrev cX7_day : ByteArray := prog_9_method_36_code
def yX7_day : MethodName := ⟨RX7, "day", "()I"⟩
abbrev cX7_comeBy : ByteArray := prog_9_method_37_code
def yX7_comeBy : MethodName := ⟨RX7, "comeBy", "(I)I"⟩
abbrev cX7_blind : ByteArray := prog_9_method_38_code
def yX7_blind : MethodName := ⟨RX7, "blind", "(I)I"⟩
abbrev cX7_hide : ByteArray := prog_9_method_39_code
def yX7_hide : MethodName := ⟨RX7, "hide", "(II)I"⟩
abbrev cX7_morning : ByteArray := prog_9_method_40_code
def yX7_morning : MethodName := ⟨RX7, "morning", "()I"⟩
abbrev cX7_undo : ByteArray := prog_9_method_41_code
def yX7_undo : MethodName := ⟨RX7, "undo", "()I"⟩
abbrev cX7_keep : ByteArray := prog_9_method_42_code
def yX7_keep : MethodName := ⟨RX7, "keep", "(I)I"⟩
abbrev cX7_back : ByteArray := prog_9_method_43_code
def yX7_back : MethodName := ⟨RX7, "back", "(I)I"⟩
abbrev cX7_soonest : ByteArray := prog_9_method_44_code
def yX7_soonest : MethodName := ⟨RX7, "soonest", "()I"⟩
abbrev cX7_soon : ByteArray := prog_9_method_45_code
def yX7_soon : MethodName := ⟨RX7, "soon", "(I)I"⟩
abbrev cX7_findPlan : ByteArray := prog_9_method_46_code
def yX7_findPlan : MethodName := ⟨RX7, "findPlan", "(I)V"⟩
abbrev cX7_plan : ByteArray := prog_9_method_47_code
def yX7_plan : MethodName := ⟨RX7, "plan", "(I)I"⟩
abbrev cX7_feel : ByteArray := prog_9_method_48_code
def yX7_feel : MethodName := ⟨RX7, "feel", "(II)I"⟩
abbrev cX7_names : ByteArray := prog_9_method_49_code
def yX7_names : MethodName := ⟨RX7, "names", "(I)I"⟩
abbrev cX7_came : ByteArray := prog_9_method_50_code
def yX7_came : MethodName := ⟨RX7, "came", "(I)I"⟩
abbrev cX7_seen : ByteArray := prog_9_method_51_code
def yX7_seen : MethodName := ⟨RX7, "seen", "(III)I"⟩
abbrev cX7_forget : ByteArray := prog_9_method_52_code
def yX7_forget : MethodName := ⟨RX7, "forget", "()I"⟩
abbrev cX7_strong : ByteArray := prog_9_method_53_code
def yX7_strong : MethodName := ⟨RX7, "strong", "(II)I"⟩
abbrev cX7_boasts : ByteArray := prog_9_method_54_code
def yX7_boasts : MethodName := ⟨RX7, "boasts", "(IIIII)I"⟩
abbrev cX7_count : ByteArray := prog_9_method_55_code
def yX7_count : MethodName := ⟨RX7, "count", "(I)I"⟩
def RJ6 : String := "java/lang/Integer"
def TJ6 : u_T := fun k => match k with
  | _ => ("", "", "", false)
def tyJ6 : Nat → FieldType := fun k => match k with
  | _ => .int
abbrev cJ6_bitCount_0f7a4 : ByteArray := prog_10_method_49_code
def yJ6_bitCount_0f7a4 : MethodName := ⟨RJ6, "bitCount", "(I)I"⟩
def RJ9 : String := "java/lang/Math"
def TJ9 : u_T := fun k => match k with
  | _ => ("", "", "", false)
def tyJ9 : Nat → FieldType := fun k => match k with
  | _ => .int
abbrev cJ9_max_7cf53 : ByteArray := prog_11_method_65_code
def yJ9_max_7cf53 : MethodName := ⟨RJ9, "max", "(II)I"⟩
abbrev cJ9_min_7cf53 : ByteArray := prog_11_method_69_code
def yJ9_min_7cf53 : MethodName := ⟨RJ9, "min", "(II)I"⟩
def RJ0 : String := "java/lang/String"
def TJ0 : u_T := fun k => match k with
  | _ => ("", "", "", false)
def tyJ0 : Nat → FieldType := fun k => match k with
  | _ => .int
abbrev cJ0_length_8abf5 : ByteArray := prog_12_method_54_code
def yJ0_length_8abf5 : MethodName := ⟨RJ0, "length", "()I"⟩
abbrev cJ0_charAt_5068e : ByteArray := prog_12_method_56_code
def yJ0_charAt_5068e : MethodName := ⟨RJ0, "charAt", "(I)C"⟩
abbrev cJ0_coder_7d493 : ByteArray := prog_12_method_152_code
def yJ0_coder_7d493 : MethodName := ⟨RJ0, "coder", "()B"⟩
abbrev cJ0_isLatin1_aae02 : ByteArray := prog_12_method_154_code
def yJ0_isLatin1_aae02 : MethodName := ⟨RJ0, "isLatin1", "()Z"⟩
abbrev cJ0_checkIndex_df160 : ByteArray := prog_12_method_155_code
def yJ0_checkIndex_df160 : MethodName := ⟨RJ0, "checkIndex", "(II)V"⟩
def RJ1 : String := "java/lang/StringLatin1"
def TJ1 : u_T := fun k => match k with
  | _ => ("", "", "", false)
def tyJ1 : Nat → FieldType := fun k => match k with
  | _ => .int
abbrev cJ1_charAt_3b067 : ByteArray := prog_13_method_2_code
def yJ1_charAt_3b067 : MethodName := ⟨RJ1, "charAt", "([BI)C"⟩
def RJ2 : String := "java/lang/StringUTF16"
def TJ2 : u_T := fun k => match k with
  | _ => ("", "", "", false)
def tyJ2 : Nat → FieldType := fun k => match k with
  | _ => .int
abbrev cJ2_getChar_3b067 : ByteArray := prog_14_method_5_code
def yJ2_getChar_3b067 : MethodName := ⟨RJ2, "getChar", "([BI)C"⟩
abbrev cJ2_length_9d52b : ByteArray := prog_14_method_6_code
def yJ2_length_9d52b : MethodName := ⟨RJ2, "length", "([B)I"⟩
abbrev cJ2_charAt_3b067 : ByteArray := prog_14_method_83_code
def yJ2_charAt_3b067 : MethodName := ⟨RJ2, "charAt", "([BI)C"⟩
abbrev cJ2_checkIndex_2214a : ByteArray := prog_14_method_91_code
def yJ2_checkIndex_2214a : MethodName := ⟨RJ2, "checkIndex", "(I[B)V"⟩
def RJ10 : String := "java/lang/System"
def TJ10 : u_T := fun k => match k with
  | _ => ("", "", "", false)
def tyJ10 : Nat → FieldType := fun k => match k with
  | _ => .int
def RJ3 : String := "jdk/internal/util/Preconditions"
def TJ3 : u_T := fun k => match k with
  | _ => ("", "", "", false)
def tyJ3 : Nat → FieldType := fun k => match k with
  | _ => .int
abbrev cJ3_checkIndex_8e157 : ByteArray := prog_16_method_11_code
def yJ3_checkIndex_8e157 : MethodName := ⟨RJ3, "checkIndex", "(IILjava/util/function/BiFunction;)I"⟩
def RL : String := "NobodyCaveLaw"
abbrev cL_law : ByteArray := code
def yL_law : MethodName := ⟨RL, "law", "([I)Z"⟩
abbrev vwCl : List vw_C := [(RX0, TX0, 3), (RX1, TX1, 2), (RX2, TX2, 10), (RX3, TX3, 4), (RX4, TX4, 5), (RX5, TX5, 11), (RX6, TX6, 9), (RX7, TX7, 17)]
/-- the words that every method here is given: all good words of the tables -/
def GT : List Cond := lw_tbl.filter goodWord
theorem GT_of {w : Cond} (h : w ∈ lw_tbl) (hg : goodWord w = true) : w ∈ GT := List.mem_filter.mpr ⟨h, hg⟩
theorem GT_at (i : Nat) {w : Cond} (h : lw_tbl[i]? = some w) (hg : goodWord w = true) : w ∈ GT := GT_of (List.mem_of_getElem? h) hg
theorem GT_good : ∀ w ∈ GT, (w.onTables && w.keeps) = true ∨ ∃ ty, w = .arrayClass ty := fun _ h => good_of_word (List.mem_filter.mp h).2
end
section
theorem dX0_init_0 : decode cX0_init 0 = .ok (.aload_n 0, 1) := by decide +kernel
theorem dX0_init_1 : decode cX0_init 1 = .ok (.invokespecial 3, 3) := by decide +kernel
theorem dX0_init_4 : decode cX0_init 4 = .ok (.aload_n 0, 1) := by decide +kernel
theorem dX0_init_5 : decode cX0_init 5 = .ok (.bipush 8, 2) := by decide +kernel
theorem dX0_init_7 : decode cX0_init 7 = .ok (.anewarray 9, 3) := by decide +kernel
theorem dX0_init_10 : decode cX0_init 10 = .ok (.putfield 11, 3) := by decide +kernel
theorem dX0_init_13 : decode cX0_init 13 = .ok (.iconst 0, 1) := by decide +kernel
theorem dX0_init_14 : decode cX0_init 14 = .ok (.istore_n 1, 1) := by decide +kernel
theorem dX0_init_15 : decode cX0_init 15 = .ok (.iload_n 1, 1) := by decide +kernel
theorem dX0_init_16 : decode cX0_init 16 = .ok (.bipush 8, 2) := by decide +kernel
theorem dX0_init_18 : decode cX0_init 18 = .ok (.if_icmp .ge 22, 3) := by decide +kernel
theorem dX0_init_21 : decode cX0_init 21 = .ok (.aload_n 0, 1) := by decide +kernel
theorem dX0_init_22 : decode cX0_init 22 = .ok (.getfield 11, 3) := by decide +kernel
theorem dX0_init_25 : decode cX0_init 25 = .ok (.iload_n 1, 1) := by decide +kernel
theorem dX0_init_26 : decode cX0_init 26 = .ok (.new 9, 3) := by decide +kernel
theorem dX0_init_29 : decode cX0_init 29 = .ok (.dup, 1) := by decide +kernel
theorem dX0_init_30 : decode cX0_init 30 = .ok (.invokespecial 17, 3) := by decide +kernel
theorem dX0_init_33 : decode cX0_init 33 = .ok (.aastore, 1) := by decide +kernel
theorem dX0_init_34 : decode cX0_init 34 = .ok (.iinc 1 1, 3) := by decide +kernel
theorem dX0_init_37 : decode cX0_init 37 = .ok (.goto (-22), 3) := by decide +kernel
theorem dX0_init_40 : decode cX0_init 40 = .ok (.return_, 1) := by decide +kernel
theorem dX0_clear_0 : decode cX0_clear 0 = .ok (.aload_n 0, 1) := by decide +kernel
theorem dX0_clear_1 : decode cX0_clear 1 = .ok (.iconst 0, 1) := by decide +kernel
theorem dX0_clear_2 : decode cX0_clear 2 = .ok (.putfield 18, 3) := by decide +kernel
theorem dX0_clear_5 : decode cX0_clear 5 = .ok (.return_, 1) := by decide +kernel
theorem dX0_push_0 : decode cX0_push 0 = .ok (.aload_n 0, 1) := by decide +kernel
theorem dX0_push_1 : decode cX0_push 1 = .ok (.getfield 11, 3) := by decide +kernel
theorem dX0_push_4 : decode cX0_push 4 = .ok (.aload_n 0, 1) := by decide +kernel
theorem dX0_push_5 : decode cX0_push 5 = .ok (.getfield 22, 3) := by decide +kernel
theorem dX0_push_8 : decode cX0_push 8 = .ok (.aaload, 1) := by decide +kernel
theorem dX0_push_9 : decode cX0_push 9 = .ok (.aload_n 1, 1) := by decide +kernel
theorem dX0_push_10 : decode cX0_push 10 = .ok (.invokevirtual 25, 3) := by decide +kernel
theorem dX0_push_13 : decode cX0_push 13 = .ok (.aload_n 0, 1) := by decide +kernel
theorem dX0_push_14 : decode cX0_push 14 = .ok (.aload_n 0, 1) := by decide +kernel
theorem dX0_push_15 : decode cX0_push 15 = .ok (.getfield 22, 3) := by decide +kernel
theorem dX0_push_18 : decode cX0_push 18 = .ok (.iconst 1, 1) := by decide +kernel
theorem dX0_push_19 : decode cX0_push 19 = .ok (.iadd, 1) := by decide +kernel
theorem dX0_push_20 : decode cX0_push 20 = .ok (.bipush 8, 2) := by decide +kernel
theorem dX0_push_22 : decode cX0_push 22 = .ok (.irem, 1) := by decide +kernel
theorem dX0_push_23 : decode cX0_push 23 = .ok (.putfield 22, 3) := by decide +kernel
theorem dX0_push_26 : decode cX0_push 26 = .ok (.aload_n 0, 1) := by decide +kernel
theorem dX0_push_27 : decode cX0_push 27 = .ok (.bipush 8, 2) := by decide +kernel
theorem dX0_push_29 : decode cX0_push 29 = .ok (.aload_n 0, 1) := by decide +kernel
theorem dX0_push_30 : decode cX0_push 30 = .ok (.getfield 18, 3) := by decide +kernel
theorem dX0_push_33 : decode cX0_push 33 = .ok (.iconst 1, 1) := by decide +kernel
theorem dX0_push_34 : decode cX0_push 34 = .ok (.iadd, 1) := by decide +kernel
theorem dX0_push_35 : decode cX0_push 35 = .ok (.invokestatic 29, 3) := by decide +kernel
theorem dX0_push_38 : decode cX0_push 38 = .ok (.putfield 18, 3) := by decide +kernel
theorem dX0_push_41 : decode cX0_push 41 = .ok (.return_, 1) := by decide +kernel
theorem dX0_pop_0 : decode cX0_pop 0 = .ok (.aload_n 0, 1) := by decide +kernel
theorem dX0_pop_1 : decode cX0_pop 1 = .ok (.getfield 18, 3) := by decide +kernel
theorem dX0_pop_4 : decode cX0_pop 4 = .ok (.ifCond .ne 5, 3) := by decide +kernel
theorem dX0_pop_7 : decode cX0_pop 7 = .ok (.iconst 0, 1) := by decide +kernel
theorem dX0_pop_8 : decode cX0_pop 8 = .ok (.ireturn, 1) := by decide +kernel
theorem dX0_pop_9 : decode cX0_pop 9 = .ok (.aload_n 0, 1) := by decide +kernel
theorem dX0_pop_10 : decode cX0_pop 10 = .ok (.aload_n 0, 1) := by decide +kernel
theorem dX0_pop_11 : decode cX0_pop 11 = .ok (.getfield 22, 3) := by decide +kernel
theorem dX0_pop_14 : decode cX0_pop 14 = .ok (.bipush 8, 2) := by decide +kernel
theorem dX0_pop_16 : decode cX0_pop 16 = .ok (.iadd, 1) := by decide +kernel
theorem dX0_pop_17 : decode cX0_pop 17 = .ok (.iconst 1, 1) := by decide +kernel
theorem dX0_pop_18 : decode cX0_pop 18 = .ok (.isub, 1) := by decide +kernel
theorem dX0_pop_19 : decode cX0_pop 19 = .ok (.bipush 8, 2) := by decide +kernel
theorem dX0_pop_21 : decode cX0_pop 21 = .ok (.irem, 1) := by decide +kernel
theorem dX0_pop_22 : decode cX0_pop 22 = .ok (.putfield 22, 3) := by decide +kernel
theorem dX0_pop_25 : decode cX0_pop 25 = .ok (.aload_n 1, 1) := by decide +kernel
theorem dX0_pop_26 : decode cX0_pop 26 = .ok (.aload_n 0, 1) := by decide +kernel
theorem dX0_pop_27 : decode cX0_pop 27 = .ok (.getfield 11, 3) := by decide +kernel
theorem dX0_pop_30 : decode cX0_pop 30 = .ok (.aload_n 0, 1) := by decide +kernel
theorem dX0_pop_31 : decode cX0_pop 31 = .ok (.getfield 22, 3) := by decide +kernel
theorem dX0_pop_34 : decode cX0_pop 34 = .ok (.aaload, 1) := by decide +kernel
theorem dX0_pop_35 : decode cX0_pop 35 = .ok (.invokevirtual 25, 3) := by decide +kernel
theorem dX0_pop_38 : decode cX0_pop 38 = .ok (.aload_n 0, 1) := by decide +kernel
theorem dX0_pop_39 : decode cX0_pop 39 = .ok (.dup, 1) := by decide +kernel
theorem dX0_pop_40 : decode cX0_pop 40 = .ok (.getfield 18, 3) := by decide +kernel
theorem dX0_pop_43 : decode cX0_pop 43 = .ok (.iconst 1, 1) := by decide +kernel
theorem dX0_pop_44 : decode cX0_pop 44 = .ok (.isub, 1) := by decide +kernel
theorem dX0_pop_45 : decode cX0_pop 45 = .ok (.putfield 18, 3) := by decide +kernel
theorem dX0_pop_48 : decode cX0_pop 48 = .ok (.iconst 1, 1) := by decide +kernel
theorem dX0_pop_49 : decode cX0_pop 49 = .ok (.ireturn, 1) := by decide +kernel
theorem dX1_init_0 : decode cX1_init 0 = .ok (.aload_n 0, 1) := by decide +kernel
theorem dX1_init_1 : decode cX1_init 1 = .ok (.invokespecial 3, 3) := by decide +kernel
theorem dX1_init_4 : decode cX1_init 4 = .ok (.aload_n 0, 1) := by decide +kernel
theorem dX1_init_5 : decode cX1_init 5 = .ok (.bipush 6, 2) := by decide +kernel
theorem dX1_init_7 : decode cX1_init 7 = .ok (.newarray .int, 2) := by decide +kernel
theorem dX1_init_9 : decode cX1_init 9 = .ok (.putfield 9, 3) := by decide +kernel
theorem dX1_init_12 : decode cX1_init 12 = .ok (.aload_n 0, 1) := by decide +kernel
theorem dX1_init_13 : decode cX1_init 13 = .ok (.sipush 448, 3) := by decide +kernel
theorem dX1_init_16 : decode cX1_init 16 = .ok (.newarray .int, 2) := by decide +kernel
theorem dX1_init_18 : decode cX1_init 18 = .ok (.putfield 15, 3) := by decide +kernel
theorem dX1_init_21 : decode cX1_init 21 = .ok (.return_, 1) := by decide +kernel
theorem dX1_reckon_0 : decode cX1_reckon 0 = .ok (.iconst 1, 1) := by decide +kernel
theorem dX1_reckon_1 : decode cX1_reckon 1 = .ok (.aload_n 1, 1) := by decide +kernel
theorem dX1_reckon_2 : decode cX1_reckon 2 = .ok (.getfield 18, 3) := by decide +kernel
theorem dX1_reckon_5 : decode cX1_reckon 5 = .ok (.ishl, 1) := by decide +kernel
theorem dX1_reckon_6 : decode cX1_reckon 6 = .ok (.istore_n 3, 1) := by decide +kernel
theorem dX1_reckon_7 : decode cX1_reckon 7 = .ok (.iconst 5, 1) := by decide +kernel
theorem dX1_reckon_8 : decode cX1_reckon 8 = .ok (.istore 4, 2) := by decide +kernel
theorem dX1_reckon_10 : decode cX1_reckon 10 = .ok (.iload 4, 2) := by decide +kernel
theorem dX1_reckon_12 : decode cX1_reckon 12 = .ok (.ifCond .lt 66, 3) := by decide +kernel
theorem dX1_reckon_15 : decode cX1_reckon 15 = .ok (.aload_n 0, 1) := by decide +kernel
theorem dX1_reckon_16 : decode cX1_reckon 16 = .ok (.getfield 9, 3) := by decide +kernel
theorem dX1_reckon_19 : decode cX1_reckon 19 = .ok (.iload 4, 2) := by decide +kernel
theorem dX1_reckon_21 : decode cX1_reckon 21 = .ok (.aload_n 1, 1) := by decide +kernel
theorem dX1_reckon_22 : decode cX1_reckon 22 = .ok (.aload_n 2, 1) := by decide +kernel
theorem dX1_reckon_23 : decode cX1_reckon 23 = .ok (.iload 4, 2) := by decide +kernel
theorem dX1_reckon_25 : decode cX1_reckon 25 = .ok (.invokestatic 24, 3) := by decide +kernel
theorem dX1_reckon_28 : decode cX1_reckon 28 = .ok (.iastore, 1) := by decide +kernel
theorem dX1_reckon_29 : decode cX1_reckon 29 = .ok (.iconst 0, 1) := by decide +kernel
theorem dX1_reckon_30 : decode cX1_reckon 30 = .ok (.istore 5, 2) := by decide +kernel
theorem dX1_reckon_32 : decode cX1_reckon 32 = .ok (.iload 5, 2) := by decide +kernel
theorem dX1_reckon_34 : decode cX1_reckon 34 = .ok (.iload_n 3, 1) := by decide +kernel
theorem dX1_reckon_35 : decode cX1_reckon 35 = .ok (.if_icmp .ge 37, 3) := by decide +kernel
theorem dX1_reckon_38 : decode cX1_reckon 38 = .ok (.iload 5, 2) := by decide +kernel
theorem dX1_reckon_40 : decode cX1_reckon 40 = .ok (.bipush 64, 2) := by decide +kernel
theorem dX1_reckon_42 : decode cX1_reckon 42 = .ok (.if_icmp .ge 30, 3) := by decide +kernel
theorem dX1_reckon_45 : decode cX1_reckon 45 = .ok (.aload_n 0, 1) := by decide +kernel
theorem dX1_reckon_46 : decode cX1_reckon 46 = .ok (.getfield 15, 3) := by decide +kernel
theorem dX1_reckon_49 : decode cX1_reckon 49 = .ok (.iload 4, 2) := by decide +kernel
theorem dX1_reckon_51 : decode cX1_reckon 51 = .ok (.bipush 64, 2) := by decide +kernel
theorem dX1_reckon_53 : decode cX1_reckon 53 = .ok (.imul, 1) := by decide +kernel
theorem dX1_reckon_54 : decode cX1_reckon 54 = .ok (.iload 5, 2) := by decide +kernel
theorem dX1_reckon_56 : decode cX1_reckon 56 = .ok (.iadd, 1) := by decide +kernel
theorem dX1_reckon_57 : decode cX1_reckon 57 = .ok (.aload_n 0, 1) := by decide +kernel
theorem dX1_reckon_58 : decode cX1_reckon 58 = .ok (.iload 4, 2) := by decide +kernel
theorem dX1_reckon_60 : decode cX1_reckon 60 = .ok (.iload 5, 2) := by decide +kernel
theorem dX1_reckon_62 : decode cX1_reckon 62 = .ok (.invokevirtual 28, 3) := by decide +kernel
theorem dX1_reckon_65 : decode cX1_reckon 65 = .ok (.iastore, 1) := by decide +kernel
theorem dX1_reckon_66 : decode cX1_reckon 66 = .ok (.iinc 5 1, 3) := by decide +kernel
theorem dX1_reckon_69 : decode cX1_reckon 69 = .ok (.goto (-37), 3) := by decide +kernel
theorem dX1_reckon_72 : decode cX1_reckon 72 = .ok (.iinc 4 (-1), 3) := by decide +kernel
theorem dX1_reckon_75 : decode cX1_reckon 75 = .ok (.goto (-65), 3) := by decide +kernel
theorem dX1_reckon_78 : decode cX1_reckon 78 = .ok (.return_, 1) := by decide +kernel
theorem dX1_fitting_0 : decode cX1_fitting 0 = .ok (.iconst 0, 1) := by decide +kernel
theorem dX1_fitting_1 : decode cX1_fitting 1 = .ok (.istore_n 3, 1) := by decide +kernel
theorem dX1_fitting_2 : decode cX1_fitting 2 = .ok (.iconst 0, 1) := by decide +kernel
theorem dX1_fitting_3 : decode cX1_fitting 3 = .ok (.istore 4, 2) := by decide +kernel
theorem dX1_fitting_5 : decode cX1_fitting 5 = .ok (.iload 4, 2) := by decide +kernel
theorem dX1_fitting_7 : decode cX1_fitting 7 = .ok (.bipush 6, 2) := by decide +kernel
theorem dX1_fitting_9 : decode cX1_fitting 9 = .ok (.if_icmp .ge 49, 3) := by decide +kernel
theorem dX1_fitting_12 : decode cX1_fitting 12 = .ok (.aload_n 1, 1) := by decide +kernel
theorem dX1_fitting_13 : decode cX1_fitting 13 = .ok (.getfield 32, 3) := by decide +kernel
theorem dX1_fitting_16 : decode cX1_fitting 16 = .ok (.iload_n 2, 1) := by decide +kernel
theorem dX1_fitting_17 : decode cX1_fitting 17 = .ok (.invokestatic 37, 3) := by decide +kernel
theorem dX1_fitting_20 : decode cX1_fitting 20 = .ok (.ifCond .eq 32, 3) := by decide +kernel
theorem dX1_fitting_23 : decode cX1_fitting 23 = .ok (.aload_n 1, 1) := by decide +kernel
theorem dX1_fitting_24 : decode cX1_fitting 24 = .ok (.getfield 41, 3) := by decide +kernel
theorem dX1_fitting_27 : decode cX1_fitting 27 = .ok (.iload 4, 2) := by decide +kernel
theorem dX1_fitting_29 : decode cX1_fitting 29 = .ok (.invokestatic 37, 3) := by decide +kernel
theorem dX1_fitting_32 : decode cX1_fitting 32 = .ok (.ifCond .ne 20, 3) := by decide +kernel
theorem dX1_fitting_35 : decode cX1_fitting 35 = .ok (.aload_n 0, 1) := by decide +kernel
theorem dX1_fitting_36 : decode cX1_fitting 36 = .ok (.iload 4, 2) := by decide +kernel
theorem dX1_fitting_38 : decode cX1_fitting 38 = .ok (.iload_n 2, 1) := by decide +kernel
theorem dX1_fitting_39 : decode cX1_fitting 39 = .ok (.invokevirtual 44, 3) := by decide +kernel
theorem dX1_fitting_42 : decode cX1_fitting 42 = .ok (.ifCond .eq 10, 3) := by decide +kernel
theorem dX1_fitting_45 : decode cX1_fitting 45 = .ok (.iload_n 3, 1) := by decide +kernel
theorem dX1_fitting_46 : decode cX1_fitting 46 = .ok (.iconst 1, 1) := by decide +kernel
theorem dX1_fitting_47 : decode cX1_fitting 47 = .ok (.iload 4, 2) := by decide +kernel
theorem dX1_fitting_49 : decode cX1_fitting 49 = .ok (.ishl, 1) := by decide +kernel
theorem dX1_fitting_50 : decode cX1_fitting 50 = .ok (.ior, 1) := by decide +kernel
theorem dX1_fitting_51 : decode cX1_fitting 51 = .ok (.istore_n 3, 1) := by decide +kernel
theorem dX1_fitting_52 : decode cX1_fitting 52 = .ok (.iinc 4 1, 3) := by decide +kernel
theorem dX1_fitting_55 : decode cX1_fitting 55 = .ok (.goto (-50), 3) := by decide +kernel
theorem dX1_fitting_58 : decode cX1_fitting 58 = .ok (.iload_n 3, 1) := by decide +kernel
theorem dX1_fitting_59 : decode cX1_fitting 59 = .ok (.ireturn, 1) := by decide +kernel
theorem dX1_bestFrom_0 : decode cX1_bestFrom 0 = .ok (.iload_n 1, 1) := by decide +kernel
theorem dX1_bestFrom_1 : decode cX1_bestFrom 1 = .ok (.iconst 1, 1) := by decide +kernel
theorem dX1_bestFrom_2 : decode cX1_bestFrom 2 = .ok (.iadd, 1) := by decide +kernel
theorem dX1_bestFrom_3 : decode cX1_bestFrom 3 = .ok (.bipush 64, 2) := by decide +kernel
theorem dX1_bestFrom_5 : decode cX1_bestFrom 5 = .ok (.imul, 1) := by decide +kernel
theorem dX1_bestFrom_6 : decode cX1_bestFrom 6 = .ok (.istore_n 3, 1) := by decide +kernel
theorem dX1_bestFrom_7 : decode cX1_bestFrom 7 = .ok (.aload_n 0, 1) := by decide +kernel
theorem dX1_bestFrom_8 : decode cX1_bestFrom 8 = .ok (.getfield 15, 3) := by decide +kernel
theorem dX1_bestFrom_11 : decode cX1_bestFrom 11 = .ok (.iload_n 3, 1) := by decide +kernel
theorem dX1_bestFrom_12 : decode cX1_bestFrom 12 = .ok (.iload_n 2, 1) := by decide +kernel
theorem dX1_bestFrom_13 : decode cX1_bestFrom 13 = .ok (.iadd, 1) := by decide +kernel
theorem dX1_bestFrom_14 : decode cX1_bestFrom 14 = .ok (.iaload, 1) := by decide +kernel
theorem dX1_bestFrom_15 : decode cX1_bestFrom 15 = .ok (.istore 4, 2) := by decide +kernel
theorem dX1_bestFrom_17 : decode cX1_bestFrom 17 = .ok (.aload_n 0, 1) := by decide +kernel
theorem dX1_bestFrom_18 : decode cX1_bestFrom 18 = .ok (.getfield 9, 3) := by decide +kernel
theorem dX1_bestFrom_21 : decode cX1_bestFrom 21 = .ok (.iload_n 1, 1) := by decide +kernel
theorem dX1_bestFrom_22 : decode cX1_bestFrom 22 = .ok (.iaload, 1) := by decide +kernel
theorem dX1_bestFrom_23 : decode cX1_bestFrom 23 = .ok (.iload_n 2, 1) := by decide +kernel
theorem dX1_bestFrom_24 : decode cX1_bestFrom 24 = .ok (.iconst (-1), 1) := by decide +kernel
theorem dX1_bestFrom_25 : decode cX1_bestFrom 25 = .ok (.ixor, 1) := by decide +kernel
theorem dX1_bestFrom_26 : decode cX1_bestFrom 26 = .ok (.iand, 1) := by decide +kernel
theorem dX1_bestFrom_27 : decode cX1_bestFrom 27 = .ok (.istore 5, 2) := by decide +kernel
theorem dX1_bestFrom_29 : decode cX1_bestFrom 29 = .ok (.iconst 0, 1) := by decide +kernel
theorem dX1_bestFrom_30 : decode cX1_bestFrom 30 = .ok (.istore 6, 2) := by decide +kernel
theorem dX1_bestFrom_32 : decode cX1_bestFrom 32 = .ok (.iload 5, 2) := by decide +kernel
theorem dX1_bestFrom_34 : decode cX1_bestFrom 34 = .ok (.iload 6, 2) := by decide +kernel
theorem dX1_bestFrom_36 : decode cX1_bestFrom 36 = .ok (.ishr, 1) := by decide +kernel
theorem dX1_bestFrom_37 : decode cX1_bestFrom 37 = .ok (.ifCond .eq 48, 3) := by decide +kernel
theorem dX1_bestFrom_40 : decode cX1_bestFrom 40 = .ok (.iload 6, 2) := by decide +kernel
theorem dX1_bestFrom_42 : decode cX1_bestFrom 42 = .ok (.bipush 6, 2) := by decide +kernel
theorem dX1_bestFrom_44 : decode cX1_bestFrom 44 = .ok (.if_icmp .ge 41, 3) := by decide +kernel
theorem dX1_bestFrom_47 : decode cX1_bestFrom 47 = .ok (.iload 5, 2) := by decide +kernel
theorem dX1_bestFrom_49 : decode cX1_bestFrom 49 = .ok (.iload 6, 2) := by decide +kernel
theorem dX1_bestFrom_51 : decode cX1_bestFrom 51 = .ok (.invokestatic 37, 3) := by decide +kernel
theorem dX1_bestFrom_54 : decode cX1_bestFrom 54 = .ok (.ifCond .eq 25, 3) := by decide +kernel
theorem dX1_bestFrom_57 : decode cX1_bestFrom 57 = .ok (.iload 4, 2) := by decide +kernel
theorem dX1_bestFrom_59 : decode cX1_bestFrom 59 = .ok (.iconst 1, 1) := by decide +kernel
theorem dX1_bestFrom_60 : decode cX1_bestFrom 60 = .ok (.aload_n 0, 1) := by decide +kernel
theorem dX1_bestFrom_61 : decode cX1_bestFrom 61 = .ok (.getfield 15, 3) := by decide +kernel
theorem dX1_bestFrom_64 : decode cX1_bestFrom 64 = .ok (.iload_n 3, 1) := by decide +kernel
theorem dX1_bestFrom_65 : decode cX1_bestFrom 65 = .ok (.iload_n 2, 1) := by decide +kernel
theorem dX1_bestFrom_66 : decode cX1_bestFrom 66 = .ok (.iconst 1, 1) := by decide +kernel
theorem dX1_bestFrom_67 : decode cX1_bestFrom 67 = .ok (.iload 6, 2) := by decide +kernel
theorem dX1_bestFrom_69 : decode cX1_bestFrom 69 = .ok (.ishl, 1) := by decide +kernel
theorem dX1_bestFrom_70 : decode cX1_bestFrom 70 = .ok (.ior, 1) := by decide +kernel
theorem dX1_bestFrom_71 : decode cX1_bestFrom 71 = .ok (.iadd, 1) := by decide +kernel
theorem dX1_bestFrom_72 : decode cX1_bestFrom 72 = .ok (.iaload, 1) := by decide +kernel
theorem dX1_bestFrom_73 : decode cX1_bestFrom 73 = .ok (.iadd, 1) := by decide +kernel
theorem dX1_bestFrom_74 : decode cX1_bestFrom 74 = .ok (.invokestatic 47, 3) := by decide +kernel
theorem dX1_bestFrom_77 : decode cX1_bestFrom 77 = .ok (.istore 4, 2) := by decide +kernel
theorem dX1_bestFrom_79 : decode cX1_bestFrom 79 = .ok (.iinc 6 1, 3) := by decide +kernel
theorem dX1_bestFrom_82 : decode cX1_bestFrom 82 = .ok (.goto (-50), 3) := by decide +kernel
theorem dX1_bestFrom_85 : decode cX1_bestFrom 85 = .ok (.iload 4, 2) := by decide +kernel
theorem dX1_bestFrom_87 : decode cX1_bestFrom 87 = .ok (.ireturn, 1) := by decide +kernel
theorem dX1_mostOut_0 : decode cX1_mostOut 0 = .ok (.iload_n 1, 1) := by decide +kernel
theorem dX1_mostOut_1 : decode cX1_mostOut 1 = .ok (.ifCond .lt 18, 3) := by decide +kernel
theorem dX1_mostOut_4 : decode cX1_mostOut 4 = .ok (.iload_n 1, 1) := by decide +kernel
theorem dX1_mostOut_5 : decode cX1_mostOut 5 = .ok (.bipush 64, 2) := by decide +kernel
theorem dX1_mostOut_7 : decode cX1_mostOut 7 = .ok (.if_icmp .ge 12, 3) := by decide +kernel
theorem dX1_mostOut_10 : decode cX1_mostOut 10 = .ok (.aload_n 0, 1) := by decide +kernel
theorem dX1_mostOut_11 : decode cX1_mostOut 11 = .ok (.getfield 15, 3) := by decide +kernel
theorem dX1_mostOut_14 : decode cX1_mostOut 14 = .ok (.iload_n 1, 1) := by decide +kernel
theorem dX1_mostOut_15 : decode cX1_mostOut 15 = .ok (.iaload, 1) := by decide +kernel
theorem dX1_mostOut_16 : decode cX1_mostOut 16 = .ok (.goto 4, 3) := by decide +kernel
theorem dX1_mostOut_19 : decode cX1_mostOut 19 = .ok (.iconst 0, 1) := by decide +kernel
theorem dX1_mostOut_20 : decode cX1_mostOut 20 = .ok (.ireturn, 1) := by decide +kernel
theorem dX1_sheepOf_0 : decode cX1_sheepOf 0 = .ok (.iconst 0, 1) := by decide +kernel
theorem dX1_sheepOf_1 : decode cX1_sheepOf 1 = .ok (.istore_n 2, 1) := by decide +kernel
theorem dX1_sheepOf_2 : decode cX1_sheepOf 2 = .ok (.iconst (-1), 1) := by decide +kernel
theorem dX1_sheepOf_3 : decode cX1_sheepOf 3 = .ok (.istore_n 3, 1) := by decide +kernel
theorem dX1_sheepOf_4 : decode cX1_sheepOf 4 = .ok (.iconst 0, 1) := by decide +kernel
theorem dX1_sheepOf_5 : decode cX1_sheepOf 5 = .ok (.istore 4, 2) := by decide +kernel
theorem dX1_sheepOf_7 : decode cX1_sheepOf 7 = .ok (.iload 4, 2) := by decide +kernel
theorem dX1_sheepOf_9 : decode cX1_sheepOf 9 = .ok (.iload_n 1, 1) := by decide +kernel
theorem dX1_sheepOf_10 : decode cX1_sheepOf 10 = .ok (.if_icmp .gt 35, 3) := by decide +kernel
theorem dX1_sheepOf_13 : decode cX1_sheepOf 13 = .ok (.iload 4, 2) := by decide +kernel
theorem dX1_sheepOf_15 : decode cX1_sheepOf 15 = .ok (.bipush 6, 2) := by decide +kernel
theorem dX1_sheepOf_17 : decode cX1_sheepOf 17 = .ok (.if_icmp .ge 28, 3) := by decide +kernel
theorem dX1_sheepOf_20 : decode cX1_sheepOf 20 = .ok (.aload_n 0, 1) := by decide +kernel
theorem dX1_sheepOf_21 : decode cX1_sheepOf 21 = .ok (.iload 4, 2) := by decide +kernel
theorem dX1_sheepOf_23 : decode cX1_sheepOf 23 = .ok (.iload_n 2, 1) := by decide +kernel
theorem dX1_sheepOf_24 : decode cX1_sheepOf 24 = .ok (.invokevirtual 52, 3) := by decide +kernel
theorem dX1_sheepOf_27 : decode cX1_sheepOf 27 = .ok (.istore_n 3, 1) := by decide +kernel
theorem dX1_sheepOf_28 : decode cX1_sheepOf 28 = .ok (.iload_n 3, 1) := by decide +kernel
theorem dX1_sheepOf_29 : decode cX1_sheepOf 29 = .ok (.iconst (-1), 1) := by decide +kernel
theorem dX1_sheepOf_30 : decode cX1_sheepOf 30 = .ok (.if_icmp .eq 9, 3) := by decide +kernel
theorem dX1_sheepOf_33 : decode cX1_sheepOf 33 = .ok (.iload_n 2, 1) := by decide +kernel
theorem dX1_sheepOf_34 : decode cX1_sheepOf 34 = .ok (.iconst 1, 1) := by decide +kernel
theorem dX1_sheepOf_35 : decode cX1_sheepOf 35 = .ok (.iload_n 3, 1) := by decide +kernel
theorem dX1_sheepOf_36 : decode cX1_sheepOf 36 = .ok (.ishl, 1) := by decide +kernel
theorem dX1_sheepOf_37 : decode cX1_sheepOf 37 = .ok (.ior, 1) := by decide +kernel
theorem dX1_sheepOf_38 : decode cX1_sheepOf 38 = .ok (.istore_n 2, 1) := by decide +kernel
theorem dX1_sheepOf_39 : decode cX1_sheepOf 39 = .ok (.iinc 4 1, 3) := by decide +kernel
theorem dX1_sheepOf_42 : decode cX1_sheepOf 42 = .ok (.goto (-35), 3) := by decide +kernel
theorem dX1_sheepOf_45 : decode cX1_sheepOf 45 = .ok (.iload_n 3, 1) := by decide +kernel
theorem dX1_sheepOf_46 : decode cX1_sheepOf 46 = .ok (.ireturn, 1) := by decide +kernel
theorem dX1_firstBest_0 : decode cX1_firstBest 0 = .ok (.aload_n 0, 1) := by decide +kernel
theorem dX1_firstBest_1 : decode cX1_firstBest 1 = .ok (.getfield 9, 3) := by decide +kernel
theorem dX1_firstBest_4 : decode cX1_firstBest 4 = .ok (.iload_n 1, 1) := by decide +kernel
theorem dX1_firstBest_5 : decode cX1_firstBest 5 = .ok (.iaload, 1) := by decide +kernel
theorem dX1_firstBest_6 : decode cX1_firstBest 6 = .ok (.iload_n 2, 1) := by decide +kernel
theorem dX1_firstBest_7 : decode cX1_firstBest 7 = .ok (.iconst (-1), 1) := by decide +kernel
theorem dX1_firstBest_8 : decode cX1_firstBest 8 = .ok (.ixor, 1) := by decide +kernel
theorem dX1_firstBest_9 : decode cX1_firstBest 9 = .ok (.iand, 1) := by decide +kernel
theorem dX1_firstBest_10 : decode cX1_firstBest 10 = .ok (.istore_n 3, 1) := by decide +kernel
theorem dX1_firstBest_11 : decode cX1_firstBest 11 = .ok (.iconst 0, 1) := by decide +kernel
theorem dX1_firstBest_12 : decode cX1_firstBest 12 = .ok (.istore 4, 2) := by decide +kernel
theorem dX1_firstBest_14 : decode cX1_firstBest 14 = .ok (.iload 4, 2) := by decide +kernel
theorem dX1_firstBest_16 : decode cX1_firstBest 16 = .ok (.bipush 6, 2) := by decide +kernel
theorem dX1_firstBest_18 : decode cX1_firstBest 18 = .ok (.if_icmp .ge 55, 3) := by decide +kernel
theorem dX1_firstBest_21 : decode cX1_firstBest 21 = .ok (.iload_n 3, 1) := by decide +kernel
theorem dX1_firstBest_22 : decode cX1_firstBest 22 = .ok (.iload 4, 2) := by decide +kernel
theorem dX1_firstBest_24 : decode cX1_firstBest 24 = .ok (.invokestatic 37, 3) := by decide +kernel
theorem dX1_firstBest_27 : decode cX1_firstBest 27 = .ok (.ifCond .eq 40, 3) := by decide +kernel
theorem dX1_firstBest_30 : decode cX1_firstBest 30 = .ok (.iconst 1, 1) := by decide +kernel
theorem dX1_firstBest_31 : decode cX1_firstBest 31 = .ok (.aload_n 0, 1) := by decide +kernel
theorem dX1_firstBest_32 : decode cX1_firstBest 32 = .ok (.getfield 15, 3) := by decide +kernel
theorem dX1_firstBest_35 : decode cX1_firstBest 35 = .ok (.iload_n 1, 1) := by decide +kernel
theorem dX1_firstBest_36 : decode cX1_firstBest 36 = .ok (.iconst 1, 1) := by decide +kernel
theorem dX1_firstBest_37 : decode cX1_firstBest 37 = .ok (.iadd, 1) := by decide +kernel
theorem dX1_firstBest_38 : decode cX1_firstBest 38 = .ok (.bipush 64, 2) := by decide +kernel
theorem dX1_firstBest_40 : decode cX1_firstBest 40 = .ok (.imul, 1) := by decide +kernel
theorem dX1_firstBest_41 : decode cX1_firstBest 41 = .ok (.iload_n 2, 1) := by decide +kernel
theorem dX1_firstBest_42 : decode cX1_firstBest 42 = .ok (.iconst 1, 1) := by decide +kernel
theorem dX1_firstBest_43 : decode cX1_firstBest 43 = .ok (.iload 4, 2) := by decide +kernel
theorem dX1_firstBest_45 : decode cX1_firstBest 45 = .ok (.ishl, 1) := by decide +kernel
theorem dX1_firstBest_46 : decode cX1_firstBest 46 = .ok (.ior, 1) := by decide +kernel
theorem dX1_firstBest_47 : decode cX1_firstBest 47 = .ok (.iadd, 1) := by decide +kernel
theorem dX1_firstBest_48 : decode cX1_firstBest 48 = .ok (.iaload, 1) := by decide +kernel
theorem dX1_firstBest_49 : decode cX1_firstBest 49 = .ok (.iadd, 1) := by decide +kernel
theorem dX1_firstBest_50 : decode cX1_firstBest 50 = .ok (.aload_n 0, 1) := by decide +kernel
theorem dX1_firstBest_51 : decode cX1_firstBest 51 = .ok (.getfield 15, 3) := by decide +kernel
theorem dX1_firstBest_54 : decode cX1_firstBest 54 = .ok (.iload_n 1, 1) := by decide +kernel
theorem dX1_firstBest_55 : decode cX1_firstBest 55 = .ok (.bipush 64, 2) := by decide +kernel
theorem dX1_firstBest_57 : decode cX1_firstBest 57 = .ok (.imul, 1) := by decide +kernel
theorem dX1_firstBest_58 : decode cX1_firstBest 58 = .ok (.iload_n 2, 1) := by decide +kernel
theorem dX1_firstBest_59 : decode cX1_firstBest 59 = .ok (.iadd, 1) := by decide +kernel
theorem dX1_firstBest_60 : decode cX1_firstBest 60 = .ok (.iaload, 1) := by decide +kernel
theorem dX1_firstBest_61 : decode cX1_firstBest 61 = .ok (.if_icmp .ne 6, 3) := by decide +kernel
theorem dX1_firstBest_64 : decode cX1_firstBest 64 = .ok (.iload 4, 2) := by decide +kernel
theorem dX1_firstBest_66 : decode cX1_firstBest 66 = .ok (.ireturn, 1) := by decide +kernel
theorem dX1_firstBest_67 : decode cX1_firstBest 67 = .ok (.iinc 4 1, 3) := by decide +kernel
theorem dX1_firstBest_70 : decode cX1_firstBest 70 = .ok (.goto (-56), 3) := by decide +kernel
theorem dX1_firstBest_73 : decode cX1_firstBest 73 = .ok (.iconst (-1), 1) := by decide +kernel
theorem dX1_firstBest_74 : decode cX1_firstBest 74 = .ok (.ireturn, 1) := by decide +kernel
theorem dX1_bestFelt_0 : decode cX1_bestFelt 0 = .ok (.iload_n 2, 1) := by decide +kernel
theorem dX1_bestFelt_1 : decode cX1_bestFelt 1 = .ok (.iload_n 1, 1) := by decide +kernel
theorem dX1_bestFelt_2 : decode cX1_bestFelt 2 = .ok (.invokestatic 55, 3) := by decide +kernel
theorem dX1_bestFelt_5 : decode cX1_bestFelt 5 = .ok (.invokestatic 61, 3) := by decide +kernel
theorem dX1_bestFelt_8 : decode cX1_bestFelt 8 = .ok (.istore_n 3, 1) := by decide +kernel
theorem dX1_bestFelt_9 : decode cX1_bestFelt 9 = .ok (.iconst 0, 1) := by decide +kernel
theorem dX1_bestFelt_10 : decode cX1_bestFelt 10 = .ok (.istore 4, 2) := by decide +kernel
theorem dX1_bestFelt_12 : decode cX1_bestFelt 12 = .ok (.bipush 7, 2) := by decide +kernel
theorem dX1_bestFelt_14 : decode cX1_bestFelt 14 = .ok (.istore 5, 2) := by decide +kernel
theorem dX1_bestFelt_16 : decode cX1_bestFelt 16 = .ok (.iconst 0, 1) := by decide +kernel
theorem dX1_bestFelt_17 : decode cX1_bestFelt 17 = .ok (.istore 6, 2) := by decide +kernel
theorem dX1_bestFelt_19 : decode cX1_bestFelt 19 = .ok (.iload 6, 2) := by decide +kernel
theorem dX1_bestFelt_21 : decode cX1_bestFelt 21 = .ok (.bipush 64, 2) := by decide +kernel
theorem dX1_bestFelt_23 : decode cX1_bestFelt 23 = .ok (.if_icmp .ge 52, 3) := by decide +kernel
theorem dX1_bestFelt_26 : decode cX1_bestFelt 26 = .ok (.iload 6, 2) := by decide +kernel
theorem dX1_bestFelt_28 : decode cX1_bestFelt 28 = .ok (.iload_n 1, 1) := by decide +kernel
theorem dX1_bestFelt_29 : decode cX1_bestFelt 29 = .ok (.iconst (-1), 1) := by decide +kernel
theorem dX1_bestFelt_30 : decode cX1_bestFelt 30 = .ok (.ixor, 1) := by decide +kernel
theorem dX1_bestFelt_31 : decode cX1_bestFelt 31 = .ok (.iand, 1) := by decide +kernel
theorem dX1_bestFelt_32 : decode cX1_bestFelt 32 = .ok (.ifCond .ne 37, 3) := by decide +kernel
theorem dX1_bestFelt_35 : decode cX1_bestFelt 35 = .ok (.iload 6, 2) := by decide +kernel
theorem dX1_bestFelt_37 : decode cX1_bestFelt 37 = .ok (.invokestatic 55, 3) := by decide +kernel
theorem dX1_bestFelt_40 : decode cX1_bestFelt 40 = .ok (.iload_n 3, 1) := by decide +kernel
theorem dX1_bestFelt_41 : decode cX1_bestFelt 41 = .ok (.if_icmp .ne 28, 3) := by decide +kernel
theorem dX1_bestFelt_44 : decode cX1_bestFelt 44 = .ok (.aload_n 0, 1) := by decide +kernel
theorem dX1_bestFelt_45 : decode cX1_bestFelt 45 = .ok (.getfield 15, 3) := by decide +kernel
theorem dX1_bestFelt_48 : decode cX1_bestFelt 48 = .ok (.iload 6, 2) := by decide +kernel
theorem dX1_bestFelt_50 : decode cX1_bestFelt 50 = .ok (.iaload, 1) := by decide +kernel
theorem dX1_bestFelt_51 : decode cX1_bestFelt 51 = .ok (.iload 5, 2) := by decide +kernel
theorem dX1_bestFelt_53 : decode cX1_bestFelt 53 = .ok (.if_icmp .ge 16, 3) := by decide +kernel
theorem dX1_bestFelt_56 : decode cX1_bestFelt 56 = .ok (.aload_n 0, 1) := by decide +kernel
theorem dX1_bestFelt_57 : decode cX1_bestFelt 57 = .ok (.getfield 15, 3) := by decide +kernel
theorem dX1_bestFelt_60 : decode cX1_bestFelt 60 = .ok (.iload 6, 2) := by decide +kernel
theorem dX1_bestFelt_62 : decode cX1_bestFelt 62 = .ok (.iaload, 1) := by decide +kernel
theorem dX1_bestFelt_63 : decode cX1_bestFelt 63 = .ok (.istore 5, 2) := by decide +kernel
theorem dX1_bestFelt_65 : decode cX1_bestFelt 65 = .ok (.iload 6, 2) := by decide +kernel
theorem dX1_bestFelt_67 : decode cX1_bestFelt 67 = .ok (.istore 4, 2) := by decide +kernel
theorem dX1_bestFelt_69 : decode cX1_bestFelt 69 = .ok (.iinc 6 1, 3) := by decide +kernel
theorem dX1_bestFelt_72 : decode cX1_bestFelt 72 = .ok (.goto (-53), 3) := by decide +kernel
theorem dX1_bestFelt_75 : decode cX1_bestFelt 75 = .ok (.iload 4, 2) := by decide +kernel
theorem dX1_bestFelt_77 : decode cX1_bestFelt 77 = .ok (.ireturn, 1) := by decide +kernel
theorem dX2_init_0 : decode cX2_init 0 = .ok (.aload_n 0, 1) := by decide +kernel
theorem dX2_init_1 : decode cX2_init 1 = .ok (.invokespecial 3, 3) := by decide +kernel
theorem dX2_init_4 : decode cX2_init 4 = .ok (.aload_n 0, 1) := by decide +kernel
theorem dX2_init_5 : decode cX2_init 5 = .ok (.bipush 6, 2) := by decide +kernel
theorem dX2_init_7 : decode cX2_init 7 = .ok (.newarray .int, 2) := by decide +kernel
theorem dX2_init_9 : decode cX2_init 9 = .ok (.putfield 9, 3) := by decide +kernel
theorem dX2_init_12 : decode cX2_init 12 = .ok (.return_, 1) := by decide +kernel
theorem dX2_begin_0 : decode cX2_begin 0 = .ok (.aload_n 0, 1) := by decide +kernel
theorem dX2_begin_1 : decode cX2_begin 1 = .ok (.iconst 0, 1) := by decide +kernel
theorem dX2_begin_2 : decode cX2_begin 2 = .ok (.putfield 15, 3) := by decide +kernel
theorem dX2_begin_5 : decode cX2_begin 5 = .ok (.aload_n 0, 1) := by decide +kernel
theorem dX2_begin_6 : decode cX2_begin 6 = .ok (.aload_n 1, 1) := by decide +kernel
theorem dX2_begin_7 : decode cX2_begin 7 = .ok (.getfield 19, 3) := by decide +kernel
theorem dX2_begin_10 : decode cX2_begin 10 = .ok (.putfield 24, 3) := by decide +kernel
theorem dX2_begin_13 : decode cX2_begin 13 = .ok (.aload_n 0, 1) := by decide +kernel
theorem dX2_begin_14 : decode cX2_begin 14 = .ok (.iconst 0, 1) := by decide +kernel
theorem dX2_begin_15 : decode cX2_begin 15 = .ok (.putfield 27, 3) := by decide +kernel
theorem dX2_begin_18 : decode cX2_begin 18 = .ok (.aload_n 0, 1) := by decide +kernel
theorem dX2_begin_19 : decode cX2_begin 19 = .ok (.iconst 0, 1) := by decide +kernel
theorem dX2_begin_20 : decode cX2_begin 20 = .ok (.putfield 30, 3) := by decide +kernel
theorem dX2_begin_23 : decode cX2_begin 23 = .ok (.aload_n 0, 1) := by decide +kernel
theorem dX2_begin_24 : decode cX2_begin 24 = .ok (.iconst 0, 1) := by decide +kernel
theorem dX2_begin_25 : decode cX2_begin 25 = .ok (.putfield 33, 3) := by decide +kernel
theorem dX2_begin_28 : decode cX2_begin 28 = .ok (.aload_n 0, 1) := by decide +kernel
theorem dX2_begin_29 : decode cX2_begin 29 = .ok (.aload_n 1, 1) := by decide +kernel
theorem dX2_begin_30 : decode cX2_begin 30 = .ok (.getfield 37, 3) := by decide +kernel
theorem dX2_begin_33 : decode cX2_begin 33 = .ok (.invokestatic 40, 3) := by decide +kernel
theorem dX2_begin_36 : decode cX2_begin 36 = .ok (.putfield 44, 3) := by decide +kernel
theorem dX2_begin_39 : decode cX2_begin 39 = .ok (.aload_n 0, 1) := by decide +kernel
theorem dX2_begin_40 : decode cX2_begin 40 = .ok (.iconst 0, 1) := by decide +kernel
theorem dX2_begin_41 : decode cX2_begin 41 = .ok (.putfield 47, 3) := by decide +kernel
theorem dX2_begin_44 : decode cX2_begin 44 = .ok (.aload_n 0, 1) := by decide +kernel
theorem dX2_begin_45 : decode cX2_begin 45 = .ok (.iconst 0, 1) := by decide +kernel
theorem dX2_begin_46 : decode cX2_begin 46 = .ok (.putfield 50, 3) := by decide +kernel
theorem dX2_begin_49 : decode cX2_begin 49 = .ok (.aload_n 0, 1) := by decide +kernel
theorem dX2_begin_50 : decode cX2_begin 50 = .ok (.iconst 0, 1) := by decide +kernel
theorem dX2_begin_51 : decode cX2_begin 51 = .ok (.putfield 53, 3) := by decide +kernel
theorem dX2_begin_54 : decode cX2_begin 54 = .ok (.iconst 0, 1) := by decide +kernel
theorem dX2_begin_55 : decode cX2_begin 55 = .ok (.istore_n 2, 1) := by decide +kernel
theorem dX2_begin_56 : decode cX2_begin 56 = .ok (.iload_n 2, 1) := by decide +kernel
theorem dX2_begin_57 : decode cX2_begin 57 = .ok (.bipush 6, 2) := by decide +kernel
theorem dX2_begin_59 : decode cX2_begin 59 = .ok (.if_icmp .ge 16, 3) := by decide +kernel
theorem dX2_begin_62 : decode cX2_begin 62 = .ok (.aload_n 0, 1) := by decide +kernel
theorem dX2_begin_63 : decode cX2_begin 63 = .ok (.getfield 9, 3) := by decide +kernel
theorem dX2_begin_66 : decode cX2_begin 66 = .ok (.iload_n 2, 1) := by decide +kernel
theorem dX2_begin_67 : decode cX2_begin 67 = .ok (.iconst (-1), 1) := by decide +kernel
theorem dX2_begin_68 : decode cX2_begin 68 = .ok (.iastore, 1) := by decide +kernel
theorem dX2_begin_69 : decode cX2_begin 69 = .ok (.iinc 2 1, 3) := by decide +kernel
theorem dX2_begin_72 : decode cX2_begin 72 = .ok (.goto (-16), 3) := by decide +kernel
theorem dX2_begin_75 : decode cX2_begin 75 = .ok (.return_, 1) := by decide +kernel
theorem dX2_copy_0 : decode cX2_copy 0 = .ok (.aload_n 0, 1) := by decide +kernel
theorem dX2_copy_1 : decode cX2_copy 1 = .ok (.aload_n 1, 1) := by decide +kernel
theorem dX2_copy_2 : decode cX2_copy 2 = .ok (.getfield 15, 3) := by decide +kernel
theorem dX2_copy_5 : decode cX2_copy 5 = .ok (.putfield 15, 3) := by decide +kernel
theorem dX2_copy_8 : decode cX2_copy 8 = .ok (.aload_n 0, 1) := by decide +kernel
theorem dX2_copy_9 : decode cX2_copy 9 = .ok (.aload_n 1, 1) := by decide +kernel
theorem dX2_copy_10 : decode cX2_copy 10 = .ok (.getfield 24, 3) := by decide +kernel
theorem dX2_copy_13 : decode cX2_copy 13 = .ok (.putfield 24, 3) := by decide +kernel
theorem dX2_copy_16 : decode cX2_copy 16 = .ok (.aload_n 0, 1) := by decide +kernel
theorem dX2_copy_17 : decode cX2_copy 17 = .ok (.aload_n 1, 1) := by decide +kernel
theorem dX2_copy_18 : decode cX2_copy 18 = .ok (.getfield 27, 3) := by decide +kernel
theorem dX2_copy_21 : decode cX2_copy 21 = .ok (.putfield 27, 3) := by decide +kernel
theorem dX2_copy_24 : decode cX2_copy 24 = .ok (.aload_n 0, 1) := by decide +kernel
theorem dX2_copy_25 : decode cX2_copy 25 = .ok (.aload_n 1, 1) := by decide +kernel
theorem dX2_copy_26 : decode cX2_copy 26 = .ok (.getfield 30, 3) := by decide +kernel
theorem dX2_copy_29 : decode cX2_copy 29 = .ok (.putfield 30, 3) := by decide +kernel
theorem dX2_copy_32 : decode cX2_copy 32 = .ok (.aload_n 0, 1) := by decide +kernel
theorem dX2_copy_33 : decode cX2_copy 33 = .ok (.aload_n 1, 1) := by decide +kernel
theorem dX2_copy_34 : decode cX2_copy 34 = .ok (.getfield 33, 3) := by decide +kernel
theorem dX2_copy_37 : decode cX2_copy 37 = .ok (.putfield 33, 3) := by decide +kernel
theorem dX2_copy_40 : decode cX2_copy 40 = .ok (.aload_n 0, 1) := by decide +kernel
theorem dX2_copy_41 : decode cX2_copy 41 = .ok (.aload_n 1, 1) := by decide +kernel
theorem dX2_copy_42 : decode cX2_copy 42 = .ok (.getfield 44, 3) := by decide +kernel
theorem dX2_copy_45 : decode cX2_copy 45 = .ok (.putfield 44, 3) := by decide +kernel
theorem dX2_copy_48 : decode cX2_copy 48 = .ok (.aload_n 0, 1) := by decide +kernel
theorem dX2_copy_49 : decode cX2_copy 49 = .ok (.aload_n 1, 1) := by decide +kernel
theorem dX2_copy_50 : decode cX2_copy 50 = .ok (.getfield 47, 3) := by decide +kernel
theorem dX2_copy_53 : decode cX2_copy 53 = .ok (.putfield 47, 3) := by decide +kernel
theorem dX2_copy_56 : decode cX2_copy 56 = .ok (.aload_n 0, 1) := by decide +kernel
theorem dX2_copy_57 : decode cX2_copy 57 = .ok (.aload_n 1, 1) := by decide +kernel
theorem dX2_copy_58 : decode cX2_copy 58 = .ok (.getfield 50, 3) := by decide +kernel
theorem dX2_copy_61 : decode cX2_copy 61 = .ok (.putfield 50, 3) := by decide +kernel
theorem dX2_copy_64 : decode cX2_copy 64 = .ok (.aload_n 0, 1) := by decide +kernel
theorem dX2_copy_65 : decode cX2_copy 65 = .ok (.aload_n 1, 1) := by decide +kernel
theorem dX2_copy_66 : decode cX2_copy 66 = .ok (.getfield 53, 3) := by decide +kernel
theorem dX2_copy_69 : decode cX2_copy 69 = .ok (.putfield 53, 3) := by decide +kernel
theorem dX2_copy_72 : decode cX2_copy 72 = .ok (.aload_n 1, 1) := by decide +kernel
theorem dX2_copy_73 : decode cX2_copy 73 = .ok (.getfield 9, 3) := by decide +kernel
theorem dX2_copy_76 : decode cX2_copy 76 = .ok (.iconst 0, 1) := by decide +kernel
theorem dX2_copy_77 : decode cX2_copy 77 = .ok (.aload_n 0, 1) := by decide +kernel
theorem dX2_copy_78 : decode cX2_copy 78 = .ok (.getfield 9, 3) := by decide +kernel
theorem dX2_copy_81 : decode cX2_copy 81 = .ok (.iconst 0, 1) := by decide +kernel
theorem dX2_copy_82 : decode cX2_copy 82 = .ok (.bipush 6, 2) := by decide +kernel
theorem dX2_copy_84 : decode cX2_copy 84 = .ok (.invokestatic 56, 3) := by decide +kernel
theorem dX2_copy_87 : decode cX2_copy 87 = .ok (.return_, 1) := by decide +kernel
theorem dX2_stateOf_0 : decode cX2_stateOf 0 = .ok (.aload_n 0, 1) := by decide +kernel
theorem dX2_stateOf_1 : decode cX2_stateOf 1 = .ok (.getfield 44, 3) := by decide +kernel
theorem dX2_stateOf_4 : decode cX2_stateOf 4 = .ok (.iload_n 1, 1) := by decide +kernel
theorem dX2_stateOf_5 : decode cX2_stateOf 5 = .ok (.invokestatic 62, 3) := by decide +kernel
theorem dX2_stateOf_8 : decode cX2_stateOf 8 = .ok (.ifCond .eq 5, 3) := by decide +kernel
theorem dX2_stateOf_11 : decode cX2_stateOf 11 = .ok (.iconst 0, 1) := by decide +kernel
theorem dX2_stateOf_12 : decode cX2_stateOf 12 = .ok (.ireturn, 1) := by decide +kernel
theorem dX2_stateOf_13 : decode cX2_stateOf 13 = .ok (.aload_n 0, 1) := by decide +kernel
theorem dX2_stateOf_14 : decode cX2_stateOf 14 = .ok (.getfield 47, 3) := by decide +kernel
theorem dX2_stateOf_17 : decode cX2_stateOf 17 = .ok (.iload_n 1, 1) := by decide +kernel
theorem dX2_stateOf_18 : decode cX2_stateOf 18 = .ok (.invokestatic 62, 3) := by decide +kernel
theorem dX2_stateOf_21 : decode cX2_stateOf 21 = .ok (.ifCond .eq 7, 3) := by decide +kernel
theorem dX2_stateOf_24 : decode cX2_stateOf 24 = .ok (.iconst 1, 1) := by decide +kernel
theorem dX2_stateOf_25 : decode cX2_stateOf 25 = .ok (.goto 4, 3) := by decide +kernel
theorem dX2_stateOf_28 : decode cX2_stateOf 28 = .ok (.iconst 2, 1) := by decide +kernel
theorem dX2_stateOf_29 : decode cX2_stateOf 29 = .ok (.ireturn, 1) := by decide +kernel
theorem dX2_whoIsUnder_0 : decode cX2_whoIsUnder 0 = .ok (.iconst 0, 1) := by decide +kernel
theorem dX2_whoIsUnder_1 : decode cX2_whoIsUnder 1 = .ok (.istore_n 2, 1) := by decide +kernel
theorem dX2_whoIsUnder_2 : decode cX2_whoIsUnder 2 = .ok (.iload_n 2, 1) := by decide +kernel
theorem dX2_whoIsUnder_3 : decode cX2_whoIsUnder 3 = .ok (.bipush 6, 2) := by decide +kernel
theorem dX2_whoIsUnder_5 : decode cX2_whoIsUnder 5 = .ok (.if_icmp .ge 21, 3) := by decide +kernel
theorem dX2_whoIsUnder_8 : decode cX2_whoIsUnder 8 = .ok (.aload_n 0, 1) := by decide +kernel
theorem dX2_whoIsUnder_9 : decode cX2_whoIsUnder 9 = .ok (.getfield 9, 3) := by decide +kernel
theorem dX2_whoIsUnder_12 : decode cX2_whoIsUnder 12 = .ok (.iload_n 2, 1) := by decide +kernel
theorem dX2_whoIsUnder_13 : decode cX2_whoIsUnder 13 = .ok (.iaload, 1) := by decide +kernel
theorem dX2_whoIsUnder_14 : decode cX2_whoIsUnder 14 = .ok (.iload_n 1, 1) := by decide +kernel
theorem dX2_whoIsUnder_15 : decode cX2_whoIsUnder 15 = .ok (.if_icmp .ne 5, 3) := by decide +kernel
theorem dX2_whoIsUnder_18 : decode cX2_whoIsUnder 18 = .ok (.iload_n 2, 1) := by decide +kernel
theorem dX2_whoIsUnder_19 : decode cX2_whoIsUnder 19 = .ok (.ireturn, 1) := by decide +kernel
theorem dX2_whoIsUnder_20 : decode cX2_whoIsUnder 20 = .ok (.iinc 2 1, 3) := by decide +kernel
theorem dX2_whoIsUnder_23 : decode cX2_whoIsUnder 23 = .ok (.goto (-21), 3) := by decide +kernel
theorem dX2_whoIsUnder_26 : decode cX2_whoIsUnder 26 = .ok (.iconst (-1), 1) := by decide +kernel
theorem dX2_whoIsUnder_27 : decode cX2_whoIsUnder 27 = .ok (.ireturn, 1) := by decide +kernel
theorem dX2_canHide_0 : decode cX2_canHide 0 = .ok (.aload_n 0, 1) := by decide +kernel
theorem dX2_canHide_1 : decode cX2_canHide 1 = .ok (.getfield 44, 3) := by decide +kernel
theorem dX2_canHide_4 : decode cX2_canHide 4 = .ok (.iload_n 1, 1) := by decide +kernel
theorem dX2_canHide_5 : decode cX2_canHide 5 = .ok (.invokestatic 62, 3) := by decide +kernel
theorem dX2_canHide_8 : decode cX2_canHide 8 = .ok (.ifCond .ne 5, 3) := by decide +kernel
theorem dX2_canHide_11 : decode cX2_canHide 11 = .ok (.iconst 0, 1) := by decide +kernel
theorem dX2_canHide_12 : decode cX2_canHide 12 = .ok (.ireturn, 1) := by decide +kernel
theorem dX2_canHide_13 : decode cX2_canHide 13 = .ok (.iload_n 2, 1) := by decide +kernel
theorem dX2_canHide_14 : decode cX2_canHide 14 = .ok (.iconst (-1), 1) := by decide +kernel
theorem dX2_canHide_15 : decode cX2_canHide 15 = .ok (.if_icmp .ne 29, 3) := by decide +kernel
theorem dX2_canHide_18 : decode cX2_canHide 18 = .ok (.iload_n 1, 1) := by decide +kernel
theorem dX2_canHide_19 : decode cX2_canHide 19 = .ok (.ifCond .lt 23, 3) := by decide +kernel
theorem dX2_canHide_22 : decode cX2_canHide 22 = .ok (.iload_n 1, 1) := by decide +kernel
theorem dX2_canHide_23 : decode cX2_canHide 23 = .ok (.bipush 6, 2) := by decide +kernel
theorem dX2_canHide_25 : decode cX2_canHide 25 = .ok (.if_icmp .ge 17, 3) := by decide +kernel
theorem dX2_canHide_28 : decode cX2_canHide 28 = .ok (.aload_n 0, 1) := by decide +kernel
theorem dX2_canHide_29 : decode cX2_canHide 29 = .ok (.getfield 9, 3) := by decide +kernel
theorem dX2_canHide_32 : decode cX2_canHide 32 = .ok (.iload_n 1, 1) := by decide +kernel
theorem dX2_canHide_33 : decode cX2_canHide 33 = .ok (.iaload, 1) := by decide +kernel
theorem dX2_canHide_34 : decode cX2_canHide 34 = .ok (.iconst (-1), 1) := by decide +kernel
theorem dX2_canHide_35 : decode cX2_canHide 35 = .ok (.if_icmp .eq 7, 3) := by decide +kernel
theorem dX2_canHide_38 : decode cX2_canHide 38 = .ok (.iconst 1, 1) := by decide +kernel
theorem dX2_canHide_39 : decode cX2_canHide 39 = .ok (.goto 4, 3) := by decide +kernel
theorem dX2_canHide_42 : decode cX2_canHide 42 = .ok (.iconst 0, 1) := by decide +kernel
theorem dX2_canHide_43 : decode cX2_canHide 43 = .ok (.ireturn, 1) := by decide +kernel
theorem dX2_canHide_44 : decode cX2_canHide 44 = .ok (.aload_n 0, 1) := by decide +kernel
theorem dX2_canHide_45 : decode cX2_canHide 45 = .ok (.getfield 53, 3) := by decide +kernel
theorem dX2_canHide_48 : decode cX2_canHide 48 = .ok (.iload_n 2, 1) := by decide +kernel
theorem dX2_canHide_49 : decode cX2_canHide 49 = .ok (.invokestatic 62, 3) := by decide +kernel
theorem dX2_canHide_52 : decode cX2_canHide 52 = .ok (.ifCond .ne 16, 3) := by decide +kernel
theorem dX2_canHide_55 : decode cX2_canHide 55 = .ok (.aload_n 0, 1) := by decide +kernel
theorem dX2_canHide_56 : decode cX2_canHide 56 = .ok (.iload_n 2, 1) := by decide +kernel
theorem dX2_canHide_57 : decode cX2_canHide 57 = .ok (.invokevirtual 66, 3) := by decide +kernel
theorem dX2_canHide_60 : decode cX2_canHide 60 = .ok (.iconst (-1), 1) := by decide +kernel
theorem dX2_canHide_61 : decode cX2_canHide 61 = .ok (.if_icmp .ne 7, 3) := by decide +kernel
theorem dX2_canHide_64 : decode cX2_canHide 64 = .ok (.iconst 1, 1) := by decide +kernel
theorem dX2_canHide_65 : decode cX2_canHide 65 = .ok (.goto 4, 3) := by decide +kernel
theorem dX2_canHide_68 : decode cX2_canHide 68 = .ok (.iconst 0, 1) := by decide +kernel
theorem dX2_canHide_69 : decode cX2_canHide 69 = .ok (.ireturn, 1) := by decide +kernel
theorem dX2_eatFirst_0 : decode cX2_eatFirst 0 = .ok (.iconst 0, 1) := by decide +kernel
theorem dX2_eatFirst_1 : decode cX2_eatFirst 1 = .ok (.istore_n 2, 1) := by decide +kernel
theorem dX2_eatFirst_2 : decode cX2_eatFirst 2 = .ok (.iload_n 1, 1) := by decide +kernel
theorem dX2_eatFirst_3 : decode cX2_eatFirst 3 = .ok (.istore_n 3, 1) := by decide +kernel
theorem dX2_eatFirst_4 : decode cX2_eatFirst 4 = .ok (.iconst 0, 1) := by decide +kernel
theorem dX2_eatFirst_5 : decode cX2_eatFirst 5 = .ok (.istore 4, 2) := by decide +kernel
theorem dX2_eatFirst_7 : decode cX2_eatFirst 7 = .ok (.iload 4, 2) := by decide +kernel
theorem dX2_eatFirst_9 : decode cX2_eatFirst 9 = .ok (.bipush 6, 2) := by decide +kernel
theorem dX2_eatFirst_11 : decode cX2_eatFirst 11 = .ok (.if_icmp .ge 43, 3) := by decide +kernel
theorem dX2_eatFirst_14 : decode cX2_eatFirst 14 = .ok (.iload_n 3, 1) := by decide +kernel
theorem dX2_eatFirst_15 : decode cX2_eatFirst 15 = .ok (.ifCond .le 39, 3) := by decide +kernel
theorem dX2_eatFirst_18 : decode cX2_eatFirst 18 = .ok (.aload_n 0, 1) := by decide +kernel
theorem dX2_eatFirst_19 : decode cX2_eatFirst 19 = .ok (.getfield 44, 3) := by decide +kernel
theorem dX2_eatFirst_22 : decode cX2_eatFirst 22 = .ok (.iload 4, 2) := by decide +kernel
theorem dX2_eatFirst_24 : decode cX2_eatFirst 24 = .ok (.invokestatic 62, 3) := by decide +kernel
theorem dX2_eatFirst_27 : decode cX2_eatFirst 27 = .ok (.ifCond .eq 21, 3) := by decide +kernel
theorem dX2_eatFirst_30 : decode cX2_eatFirst 30 = .ok (.iload_n 2, 1) := by decide +kernel
theorem dX2_eatFirst_31 : decode cX2_eatFirst 31 = .ok (.iconst 1, 1) := by decide +kernel
theorem dX2_eatFirst_32 : decode cX2_eatFirst 32 = .ok (.iload 4, 2) := by decide +kernel
theorem dX2_eatFirst_34 : decode cX2_eatFirst 34 = .ok (.ishl, 1) := by decide +kernel
theorem dX2_eatFirst_35 : decode cX2_eatFirst 35 = .ok (.ior, 1) := by decide +kernel
theorem dX2_eatFirst_36 : decode cX2_eatFirst 36 = .ok (.istore_n 2, 1) := by decide +kernel
theorem dX2_eatFirst_37 : decode cX2_eatFirst 37 = .ok (.aload_n 0, 1) := by decide +kernel
theorem dX2_eatFirst_38 : decode cX2_eatFirst 38 = .ok (.getfield 9, 3) := by decide +kernel
theorem dX2_eatFirst_41 : decode cX2_eatFirst 41 = .ok (.iload 4, 2) := by decide +kernel
theorem dX2_eatFirst_43 : decode cX2_eatFirst 43 = .ok (.iconst (-1), 1) := by decide +kernel
theorem dX2_eatFirst_44 : decode cX2_eatFirst 44 = .ok (.iastore, 1) := by decide +kernel
theorem dX2_eatFirst_45 : decode cX2_eatFirst 45 = .ok (.iinc 3 (-1), 3) := by decide +kernel
theorem dX2_eatFirst_48 : decode cX2_eatFirst 48 = .ok (.iinc 4 1, 3) := by decide +kernel
theorem dX2_eatFirst_51 : decode cX2_eatFirst 51 = .ok (.goto (-44), 3) := by decide +kernel
theorem dX2_eatFirst_54 : decode cX2_eatFirst 54 = .ok (.aload_n 0, 1) := by decide +kernel
theorem dX2_eatFirst_55 : decode cX2_eatFirst 55 = .ok (.dup, 1) := by decide +kernel
theorem dX2_eatFirst_56 : decode cX2_eatFirst 56 = .ok (.getfield 44, 3) := by decide +kernel
theorem dX2_eatFirst_59 : decode cX2_eatFirst 59 = .ok (.iload_n 2, 1) := by decide +kernel
theorem dX2_eatFirst_60 : decode cX2_eatFirst 60 = .ok (.iconst (-1), 1) := by decide +kernel
theorem dX2_eatFirst_61 : decode cX2_eatFirst 61 = .ok (.ixor, 1) := by decide +kernel
theorem dX2_eatFirst_62 : decode cX2_eatFirst 62 = .ok (.iand, 1) := by decide +kernel
theorem dX2_eatFirst_63 : decode cX2_eatFirst 63 = .ok (.putfield 44, 3) := by decide +kernel
theorem dX2_eatFirst_66 : decode cX2_eatFirst 66 = .ok (.aload_n 0, 1) := by decide +kernel
theorem dX2_eatFirst_67 : decode cX2_eatFirst 67 = .ok (.dup, 1) := by decide +kernel
theorem dX2_eatFirst_68 : decode cX2_eatFirst 68 = .ok (.getfield 50, 3) := by decide +kernel
theorem dX2_eatFirst_71 : decode cX2_eatFirst 71 = .ok (.iload_n 2, 1) := by decide +kernel
theorem dX2_eatFirst_72 : decode cX2_eatFirst 72 = .ok (.ior, 1) := by decide +kernel
theorem dX2_eatFirst_73 : decode cX2_eatFirst 73 = .ok (.putfield 50, 3) := by decide +kernel
theorem dX2_eatFirst_76 : decode cX2_eatFirst 76 = .ok (.iload_n 2, 1) := by decide +kernel
theorem dX2_eatFirst_77 : decode cX2_eatFirst 77 = .ok (.ireturn, 1) := by decide +kernel
theorem dX2_leave_0 : decode cX2_leave 0 = .ok (.iconst 0, 1) := by decide +kernel
theorem dX2_leave_1 : decode cX2_leave 1 = .ok (.istore_n 2, 1) := by decide +kernel
theorem dX2_leave_2 : decode cX2_leave 2 = .ok (.iconst 0, 1) := by decide +kernel
theorem dX2_leave_3 : decode cX2_leave 3 = .ok (.istore_n 3, 1) := by decide +kernel
theorem dX2_leave_4 : decode cX2_leave 4 = .ok (.iload_n 3, 1) := by decide +kernel
theorem dX2_leave_5 : decode cX2_leave 5 = .ok (.bipush 6, 2) := by decide +kernel
theorem dX2_leave_7 : decode cX2_leave 7 = .ok (.if_icmp .ge 91, 3) := by decide +kernel
theorem dX2_leave_10 : decode cX2_leave 10 = .ok (.aload_n 0, 1) := by decide +kernel
theorem dX2_leave_11 : decode cX2_leave 11 = .ok (.getfield 9, 3) := by decide +kernel
theorem dX2_leave_14 : decode cX2_leave 14 = .ok (.iload_n 3, 1) := by decide +kernel
theorem dX2_leave_15 : decode cX2_leave 15 = .ok (.iaload, 1) := by decide +kernel
theorem dX2_leave_16 : decode cX2_leave 16 = .ok (.istore 4, 2) := by decide +kernel
theorem dX2_leave_18 : decode cX2_leave 18 = .ok (.iload 4, 2) := by decide +kernel
theorem dX2_leave_20 : decode cX2_leave 20 = .ok (.iconst (-1), 1) := by decide +kernel
theorem dX2_leave_21 : decode cX2_leave 21 = .ok (.if_icmp .ne 6, 3) := by decide +kernel
theorem dX2_leave_24 : decode cX2_leave 24 = .ok (.goto 68, 3) := by decide +kernel
theorem dX2_leave_27 : decode cX2_leave 27 = .ok (.aload_n 0, 1) := by decide +kernel
theorem dX2_leave_28 : decode cX2_leave 28 = .ok (.getfield 9, 3) := by decide +kernel
theorem dX2_leave_31 : decode cX2_leave 31 = .ok (.iload_n 3, 1) := by decide +kernel
theorem dX2_leave_32 : decode cX2_leave 32 = .ok (.iconst (-1), 1) := by decide +kernel
theorem dX2_leave_33 : decode cX2_leave 33 = .ok (.iastore, 1) := by decide +kernel
theorem dX2_leave_34 : decode cX2_leave 34 = .ok (.aload_n 0, 1) := by decide +kernel
theorem dX2_leave_35 : decode cX2_leave 35 = .ok (.dup, 1) := by decide +kernel
theorem dX2_leave_36 : decode cX2_leave 36 = .ok (.getfield 44, 3) := by decide +kernel
theorem dX2_leave_39 : decode cX2_leave 39 = .ok (.iconst 1, 1) := by decide +kernel
theorem dX2_leave_40 : decode cX2_leave 40 = .ok (.iload_n 3, 1) := by decide +kernel
theorem dX2_leave_41 : decode cX2_leave 41 = .ok (.ishl, 1) := by decide +kernel
theorem dX2_leave_42 : decode cX2_leave 42 = .ok (.iconst (-1), 1) := by decide +kernel
theorem dX2_leave_43 : decode cX2_leave 43 = .ok (.ixor, 1) := by decide +kernel
theorem dX2_leave_44 : decode cX2_leave 44 = .ok (.iand, 1) := by decide +kernel
theorem dX2_leave_45 : decode cX2_leave 45 = .ok (.putfield 44, 3) := by decide +kernel
theorem dX2_leave_48 : decode cX2_leave 48 = .ok (.aload_n 1, 1) := by decide +kernel
theorem dX2_leave_49 : decode cX2_leave 49 = .ok (.iload 4, 2) := by decide +kernel
theorem dX2_leave_51 : decode cX2_leave 51 = .ok (.iload_n 3, 1) := by decide +kernel
theorem dX2_leave_52 : decode cX2_leave 52 = .ok (.invokevirtual 69, 3) := by decide +kernel
theorem dX2_leave_55 : decode cX2_leave 55 = .ok (.ifCond .eq 25, 3) := by decide +kernel
theorem dX2_leave_58 : decode cX2_leave 58 = .ok (.iload_n 2, 1) := by decide +kernel
theorem dX2_leave_59 : decode cX2_leave 59 = .ok (.iconst 1, 1) := by decide +kernel
theorem dX2_leave_60 : decode cX2_leave 60 = .ok (.iload_n 3, 1) := by decide +kernel
theorem dX2_leave_61 : decode cX2_leave 61 = .ok (.ishl, 1) := by decide +kernel
theorem dX2_leave_62 : decode cX2_leave 62 = .ok (.ior, 1) := by decide +kernel
theorem dX2_leave_63 : decode cX2_leave 63 = .ok (.istore_n 2, 1) := by decide +kernel
theorem dX2_leave_64 : decode cX2_leave 64 = .ok (.aload_n 0, 1) := by decide +kernel
theorem dX2_leave_65 : decode cX2_leave 65 = .ok (.dup, 1) := by decide +kernel
theorem dX2_leave_66 : decode cX2_leave 66 = .ok (.getfield 53, 3) := by decide +kernel
theorem dX2_leave_69 : decode cX2_leave 69 = .ok (.iconst 1, 1) := by decide +kernel
theorem dX2_leave_70 : decode cX2_leave 70 = .ok (.iload 4, 2) := by decide +kernel
theorem dX2_leave_72 : decode cX2_leave 72 = .ok (.ishl, 1) := by decide +kernel
theorem dX2_leave_73 : decode cX2_leave 73 = .ok (.ior, 1) := by decide +kernel
theorem dX2_leave_74 : decode cX2_leave 74 = .ok (.putfield 53, 3) := by decide +kernel
theorem dX2_leave_77 : decode cX2_leave 77 = .ok (.goto 15, 3) := by decide +kernel
theorem dX2_leave_80 : decode cX2_leave 80 = .ok (.aload_n 0, 1) := by decide +kernel
theorem dX2_leave_81 : decode cX2_leave 81 = .ok (.dup, 1) := by decide +kernel
theorem dX2_leave_82 : decode cX2_leave 82 = .ok (.getfield 50, 3) := by decide +kernel
theorem dX2_leave_85 : decode cX2_leave 85 = .ok (.iconst 1, 1) := by decide +kernel
theorem dX2_leave_86 : decode cX2_leave 86 = .ok (.iload_n 3, 1) := by decide +kernel
theorem dX2_leave_87 : decode cX2_leave 87 = .ok (.ishl, 1) := by decide +kernel
theorem dX2_leave_88 : decode cX2_leave 88 = .ok (.ior, 1) := by decide +kernel
theorem dX2_leave_89 : decode cX2_leave 89 = .ok (.putfield 50, 3) := by decide +kernel
theorem dX2_leave_92 : decode cX2_leave 92 = .ok (.iinc 3 1, 3) := by decide +kernel
theorem dX2_leave_95 : decode cX2_leave 95 = .ok (.goto (-91), 3) := by decide +kernel
theorem dX2_leave_98 : decode cX2_leave 98 = .ok (.aload_n 0, 1) := by decide +kernel
theorem dX2_leave_99 : decode cX2_leave 99 = .ok (.dup, 1) := by decide +kernel
theorem dX2_leave_100 : decode cX2_leave 100 = .ok (.getfield 47, 3) := by decide +kernel
theorem dX2_leave_103 : decode cX2_leave 103 = .ok (.iload_n 2, 1) := by decide +kernel
theorem dX2_leave_104 : decode cX2_leave 104 = .ok (.ior, 1) := by decide +kernel
theorem dX2_leave_105 : decode cX2_leave 105 = .ok (.putfield 47, 3) := by decide +kernel
theorem dX2_leave_108 : decode cX2_leave 108 = .ok (.iload_n 2, 1) := by decide +kernel
theorem dX2_leave_109 : decode cX2_leave 109 = .ok (.ireturn, 1) := by decide +kernel
theorem dX3_init_0 : decode cX3_init 0 = .ok (.aload_n 0, 1) := by decide +kernel
theorem dX3_init_1 : decode cX3_init 1 = .ok (.invokespecial 3, 3) := by decide +kernel
theorem dX3_init_4 : decode cX3_init 4 = .ok (.aload_n 0, 1) := by decide +kernel
theorem dX3_init_5 : decode cX3_init 5 = .ok (.bipush 6, 2) := by decide +kernel
theorem dX3_init_7 : decode cX3_init 7 = .ok (.newarray .int, 2) := by decide +kernel
theorem dX3_init_9 : decode cX3_init 9 = .ok (.putfield 9, 3) := by decide +kernel
theorem dX3_init_12 : decode cX3_init 12 = .ok (.aload_n 0, 1) := by decide +kernel
theorem dX3_init_13 : decode cX3_init 13 = .ok (.bipush 6, 2) := by decide +kernel
theorem dX3_init_15 : decode cX3_init 15 = .ok (.newarray .int, 2) := by decide +kernel
theorem dX3_init_17 : decode cX3_init 17 = .ok (.putfield 15, 3) := by decide +kernel
theorem dX3_init_20 : decode cX3_init 20 = .ok (.aload_n 0, 1) := by decide +kernel
theorem dX3_init_21 : decode cX3_init 21 = .ok (.bipush 6, 2) := by decide +kernel
theorem dX3_init_23 : decode cX3_init 23 = .ok (.newarray .boolean, 2) := by decide +kernel
theorem dX3_init_25 : decode cX3_init 25 = .ok (.putfield 18, 3) := by decide +kernel
theorem dX3_init_28 : decode cX3_init 28 = .ok (.return_, 1) := by decide +kernel
theorem dX3_add_0 : decode cX3_add 0 = .ok (.aload_n 0, 1) := by decide +kernel
theorem dX3_add_1 : decode cX3_add 1 = .ok (.getfield 22, 3) := by decide +kernel
theorem dX3_add_4 : decode cX3_add 4 = .ok (.bipush 6, 2) := by decide +kernel
theorem dX3_add_6 : decode cX3_add 6 = .ok (.if_icmp .lt 5, 3) := by decide +kernel
theorem dX3_add_9 : decode cX3_add 9 = .ok (.iconst 0, 1) := by decide +kernel
theorem dX3_add_10 : decode cX3_add 10 = .ok (.ireturn, 1) := by decide +kernel
theorem dX3_add_11 : decode cX3_add 11 = .ok (.aload_n 0, 1) := by decide +kernel
theorem dX3_add_12 : decode cX3_add 12 = .ok (.getfield 9, 3) := by decide +kernel
theorem dX3_add_15 : decode cX3_add 15 = .ok (.aload_n 0, 1) := by decide +kernel
theorem dX3_add_16 : decode cX3_add 16 = .ok (.getfield 22, 3) := by decide +kernel
theorem dX3_add_19 : decode cX3_add 19 = .ok (.iload_n 1, 1) := by decide +kernel
theorem dX3_add_20 : decode cX3_add 20 = .ok (.iastore, 1) := by decide +kernel
theorem dX3_add_21 : decode cX3_add 21 = .ok (.aload_n 0, 1) := by decide +kernel
theorem dX3_add_22 : decode cX3_add 22 = .ok (.getfield 15, 3) := by decide +kernel
theorem dX3_add_25 : decode cX3_add 25 = .ok (.aload_n 0, 1) := by decide +kernel
theorem dX3_add_26 : decode cX3_add 26 = .ok (.getfield 22, 3) := by decide +kernel
theorem dX3_add_29 : decode cX3_add 29 = .ok (.iload_n 2, 1) := by decide +kernel
theorem dX3_add_30 : decode cX3_add 30 = .ok (.iastore, 1) := by decide +kernel
theorem dX3_add_31 : decode cX3_add 31 = .ok (.aload_n 0, 1) := by decide +kernel
theorem dX3_add_32 : decode cX3_add 32 = .ok (.getfield 18, 3) := by decide +kernel
theorem dX3_add_35 : decode cX3_add 35 = .ok (.aload_n 0, 1) := by decide +kernel
theorem dX3_add_36 : decode cX3_add 36 = .ok (.getfield 22, 3) := by decide +kernel
theorem dX3_add_39 : decode cX3_add 39 = .ok (.iload_n 3, 1) := by decide +kernel
theorem dX3_add_40 : decode cX3_add 40 = .ok (.bastore, 1) := by decide +kernel
theorem dX3_add_41 : decode cX3_add 41 = .ok (.aload_n 0, 1) := by decide +kernel
theorem dX3_add_42 : decode cX3_add 42 = .ok (.dup, 1) := by decide +kernel
theorem dX3_add_43 : decode cX3_add 43 = .ok (.getfield 22, 3) := by decide +kernel
theorem dX3_add_46 : decode cX3_add 46 = .ok (.iconst 1, 1) := by decide +kernel
theorem dX3_add_47 : decode cX3_add 47 = .ok (.iadd, 1) := by decide +kernel
theorem dX3_add_48 : decode cX3_add 48 = .ok (.putfield 22, 3) := by decide +kernel
theorem dX3_add_51 : decode cX3_add 51 = .ok (.iconst 1, 1) := by decide +kernel
theorem dX3_add_52 : decode cX3_add 52 = .ok (.ireturn, 1) := by decide +kernel
theorem dX3_leastStrong_0 : decode cX3_leastStrong 0 = .ok (.iconst 1, 1) := by decide +kernel
theorem dX3_leastStrong_1 : decode cX3_leastStrong 1 = .ok (.istore_n 3, 1) := by decide +kernel
theorem dX3_leastStrong_2 : decode cX3_leastStrong 2 = .ok (.iload_n 3, 1) := by decide +kernel
theorem dX3_leastStrong_3 : decode cX3_leastStrong 3 = .ok (.bipush 20, 2) := by decide +kernel
theorem dX3_leastStrong_5 : decode cX3_leastStrong 5 = .ok (.if_icmp .gt 21, 3) := by decide +kernel
theorem dX3_leastStrong_8 : decode cX3_leastStrong 8 = .ok (.aload_n 0, 1) := by decide +kernel
theorem dX3_leastStrong_9 : decode cX3_leastStrong 9 = .ok (.aload_n 1, 1) := by decide +kernel
theorem dX3_leastStrong_10 : decode cX3_leastStrong 10 = .ok (.iload_n 2, 1) := by decide +kernel
theorem dX3_leastStrong_11 : decode cX3_leastStrong 11 = .ok (.iload_n 3, 1) := by decide +kernel
theorem dX3_leastStrong_12 : decode cX3_leastStrong 12 = .ok (.invokevirtual 26, 3) := by decide +kernel
theorem dX3_leastStrong_15 : decode cX3_leastStrong 15 = .ok (.ifCond .eq 5, 3) := by decide +kernel
theorem dX3_leastStrong_18 : decode cX3_leastStrong 18 = .ok (.iload_n 3, 1) := by decide +kernel
theorem dX3_leastStrong_19 : decode cX3_leastStrong 19 = .ok (.ireturn, 1) := by decide +kernel
theorem dX3_leastStrong_20 : decode cX3_leastStrong 20 = .ok (.iinc 3 1, 3) := by decide +kernel
theorem dX3_leastStrong_23 : decode cX3_leastStrong 23 = .ok (.goto (-21), 3) := by decide +kernel
theorem dX3_leastStrong_26 : decode cX3_leastStrong 26 = .ok (.iconst (-1), 1) := by decide +kernel
theorem dX3_leastStrong_27 : decode cX3_leastStrong 27 = .ok (.ireturn, 1) := by decide +kernel
theorem dX3_greatestStrong_0 : decode cX3_greatestStrong 0 = .ok (.bipush 20, 2) := by decide +kernel
theorem dX3_greatestStrong_2 : decode cX3_greatestStrong 2 = .ok (.istore_n 3, 1) := by decide +kernel
theorem dX3_greatestStrong_3 : decode cX3_greatestStrong 3 = .ok (.iload_n 3, 1) := by decide +kernel
theorem dX3_greatestStrong_4 : decode cX3_greatestStrong 4 = .ok (.iconst 1, 1) := by decide +kernel
theorem dX3_greatestStrong_5 : decode cX3_greatestStrong 5 = .ok (.if_icmp .lt 21, 3) := by decide +kernel
theorem dX3_greatestStrong_8 : decode cX3_greatestStrong 8 = .ok (.aload_n 0, 1) := by decide +kernel
theorem dX3_greatestStrong_9 : decode cX3_greatestStrong 9 = .ok (.aload_n 1, 1) := by decide +kernel
theorem dX3_greatestStrong_10 : decode cX3_greatestStrong 10 = .ok (.iload_n 2, 1) := by decide +kernel
theorem dX3_greatestStrong_11 : decode cX3_greatestStrong 11 = .ok (.iload_n 3, 1) := by decide +kernel
theorem dX3_greatestStrong_12 : decode cX3_greatestStrong 12 = .ok (.invokevirtual 26, 3) := by decide +kernel
theorem dX3_greatestStrong_15 : decode cX3_greatestStrong 15 = .ok (.ifCond .eq 5, 3) := by decide +kernel
theorem dX3_greatestStrong_18 : decode cX3_greatestStrong 18 = .ok (.iload_n 3, 1) := by decide +kernel
theorem dX3_greatestStrong_19 : decode cX3_greatestStrong 19 = .ok (.ireturn, 1) := by decide +kernel
theorem dX3_greatestStrong_20 : decode cX3_greatestStrong 20 = .ok (.iinc 3 (-1), 3) := by decide +kernel
theorem dX3_greatestStrong_23 : decode cX3_greatestStrong 23 = .ok (.goto (-20), 3) := by decide +kernel
theorem dX3_greatestStrong_26 : decode cX3_greatestStrong 26 = .ok (.iconst (-1), 1) := by decide +kernel
theorem dX3_greatestStrong_27 : decode cX3_greatestStrong 27 = .ok (.ireturn, 1) := by decide +kernel
theorem dX3_wouldBeSo_0 : decode cX3_wouldBeSo 0 = .ok (.aload_n 1, 1) := by decide +kernel
theorem dX3_wouldBeSo_1 : decode cX3_wouldBeSo 1 = .ok (.getfield 30, 3) := by decide +kernel
theorem dX3_wouldBeSo_4 : decode cX3_wouldBeSo 4 = .ok (.iload_n 2, 1) := by decide +kernel
theorem dX3_wouldBeSo_5 : decode cX3_wouldBeSo 5 = .ok (.iaload, 1) := by decide +kernel
theorem dX3_wouldBeSo_6 : decode cX3_wouldBeSo 6 = .ok (.iload_n 3, 1) := by decide +kernel
theorem dX3_wouldBeSo_7 : decode cX3_wouldBeSo 7 = .ok (.invokestatic 35, 3) := by decide +kernel
theorem dX3_wouldBeSo_10 : decode cX3_wouldBeSo 10 = .ok (.istore 4, 2) := by decide +kernel
theorem dX3_wouldBeSo_12 : decode cX3_wouldBeSo 12 = .ok (.iconst 0, 1) := by decide +kernel
theorem dX3_wouldBeSo_13 : decode cX3_wouldBeSo 13 = .ok (.istore 5, 2) := by decide +kernel
theorem dX3_wouldBeSo_15 : decode cX3_wouldBeSo 15 = .ok (.iload 5, 2) := by decide +kernel
theorem dX3_wouldBeSo_17 : decode cX3_wouldBeSo 17 = .ok (.aload_n 0, 1) := by decide +kernel
theorem dX3_wouldBeSo_18 : decode cX3_wouldBeSo 18 = .ok (.getfield 22, 3) := by decide +kernel
theorem dX3_wouldBeSo_21 : decode cX3_wouldBeSo 21 = .ok (.if_icmp .ge 54, 3) := by decide +kernel
theorem dX3_wouldBeSo_24 : decode cX3_wouldBeSo 24 = .ok (.aload_n 0, 1) := by decide +kernel
theorem dX3_wouldBeSo_25 : decode cX3_wouldBeSo 25 = .ok (.getfield 15, 3) := by decide +kernel
theorem dX3_wouldBeSo_28 : decode cX3_wouldBeSo 28 = .ok (.iload 5, 2) := by decide +kernel
theorem dX3_wouldBeSo_30 : decode cX3_wouldBeSo 30 = .ok (.iaload, 1) := by decide +kernel
theorem dX3_wouldBeSo_31 : decode cX3_wouldBeSo 31 = .ok (.iload_n 2, 1) := by decide +kernel
theorem dX3_wouldBeSo_32 : decode cX3_wouldBeSo 32 = .ok (.if_icmp .ne 37, 3) := by decide +kernel
theorem dX3_wouldBeSo_35 : decode cX3_wouldBeSo 35 = .ok (.iload 4, 2) := by decide +kernel
theorem dX3_wouldBeSo_37 : decode cX3_wouldBeSo 37 = .ok (.aload_n 1, 1) := by decide +kernel
theorem dX3_wouldBeSo_38 : decode cX3_wouldBeSo 38 = .ok (.getfield 39, 3) := by decide +kernel
theorem dX3_wouldBeSo_41 : decode cX3_wouldBeSo 41 = .ok (.aload_n 0, 1) := by decide +kernel
theorem dX3_wouldBeSo_42 : decode cX3_wouldBeSo 42 = .ok (.getfield 9, 3) := by decide +kernel
theorem dX3_wouldBeSo_45 : decode cX3_wouldBeSo 45 = .ok (.iload 5, 2) := by decide +kernel
theorem dX3_wouldBeSo_47 : decode cX3_wouldBeSo 47 = .ok (.iaload, 1) := by decide +kernel
theorem dX3_wouldBeSo_48 : decode cX3_wouldBeSo 48 = .ok (.iaload, 1) := by decide +kernel
theorem dX3_wouldBeSo_49 : decode cX3_wouldBeSo 49 = .ok (.if_icmp .lt 7, 3) := by decide +kernel
theorem dX3_wouldBeSo_52 : decode cX3_wouldBeSo 52 = .ok (.iconst 1, 1) := by decide +kernel
theorem dX3_wouldBeSo_53 : decode cX3_wouldBeSo 53 = .ok (.goto 4, 3) := by decide +kernel
theorem dX3_wouldBeSo_56 : decode cX3_wouldBeSo 56 = .ok (.iconst 0, 1) := by decide +kernel
theorem dX3_wouldBeSo_57 : decode cX3_wouldBeSo 57 = .ok (.aload_n 0, 1) := by decide +kernel
theorem dX3_wouldBeSo_58 : decode cX3_wouldBeSo 58 = .ok (.getfield 18, 3) := by decide +kernel
theorem dX3_wouldBeSo_61 : decode cX3_wouldBeSo 61 = .ok (.iload 5, 2) := by decide +kernel
theorem dX3_wouldBeSo_63 : decode cX3_wouldBeSo 63 = .ok (.baload, 1) := by decide +kernel
theorem dX3_wouldBeSo_64 : decode cX3_wouldBeSo 64 = .ok (.if_icmp .eq 5, 3) := by decide +kernel
theorem dX3_wouldBeSo_67 : decode cX3_wouldBeSo 67 = .ok (.iconst 0, 1) := by decide +kernel
theorem dX3_wouldBeSo_68 : decode cX3_wouldBeSo 68 = .ok (.ireturn, 1) := by decide +kernel
theorem dX3_wouldBeSo_69 : decode cX3_wouldBeSo 69 = .ok (.iinc 5 1, 3) := by decide +kernel
theorem dX3_wouldBeSo_72 : decode cX3_wouldBeSo 72 = .ok (.goto (-57), 3) := by decide +kernel
theorem dX3_wouldBeSo_75 : decode cX3_wouldBeSo 75 = .ok (.iconst 1, 1) := by decide +kernel
theorem dX3_wouldBeSo_76 : decode cX3_wouldBeSo 76 = .ok (.ireturn, 1) := by decide +kernel
theorem dX4_init_0 : decode cX4_init 0 = .ok (.aload_n 0, 1) := by decide +kernel
theorem dX4_init_1 : decode cX4_init 1 = .ok (.invokespecial 3, 3) := by decide +kernel
theorem dX4_init_4 : decode cX4_init 4 = .ok (.aload_n 0, 1) := by decide +kernel
theorem dX4_init_5 : decode cX4_init 5 = .ok (.sipush 160, 3) := by decide +kernel
theorem dX4_init_8 : decode cX4_init 8 = .ok (.newarray .char, 2) := by decide +kernel
theorem dX4_init_10 : decode cX4_init 10 = .ok (.putfield 9, 3) := by decide +kernel
theorem dX4_init_13 : decode cX4_init 13 = .ok (.return_, 1) := by decide +kernel
theorem dX4_add_0 : decode cX4_add 0 = .ok (.aload_n 0, 1) := by decide +kernel
theorem dX4_add_1 : decode cX4_add 1 = .ok (.getfield 15, 3) := by decide +kernel
theorem dX4_add_4 : decode cX4_add 4 = .ok (.sipush 160, 3) := by decide +kernel
theorem dX4_add_7 : decode cX4_add 7 = .ok (.if_icmp .lt 5, 3) := by decide +kernel
theorem dX4_add_10 : decode cX4_add 10 = .ok (.iconst 0, 1) := by decide +kernel
theorem dX4_add_11 : decode cX4_add 11 = .ok (.ireturn, 1) := by decide +kernel
theorem dX4_add_12 : decode cX4_add 12 = .ok (.aload_n 0, 1) := by decide +kernel
theorem dX4_add_13 : decode cX4_add 13 = .ok (.getfield 9, 3) := by decide +kernel
theorem dX4_add_16 : decode cX4_add 16 = .ok (.aload_n 0, 1) := by decide +kernel
theorem dX4_add_17 : decode cX4_add 17 = .ok (.dup, 1) := by decide +kernel
theorem dX4_add_18 : decode cX4_add 18 = .ok (.getfield 15, 3) := by decide +kernel
theorem dX4_add_21 : decode cX4_add 21 = .ok (.dup_x1, 1) := by decide +kernel
theorem dX4_add_22 : decode cX4_add 22 = .ok (.iconst 1, 1) := by decide +kernel
theorem dX4_add_23 : decode cX4_add 23 = .ok (.iadd, 1) := by decide +kernel
theorem dX4_add_24 : decode cX4_add 24 = .ok (.putfield 15, 3) := by decide +kernel
theorem dX4_add_27 : decode cX4_add 27 = .ok (.iload_n 1, 1) := by decide +kernel
theorem dX4_add_28 : decode cX4_add 28 = .ok (.castore, 1) := by decide +kernel
theorem dX4_add_29 : decode cX4_add 29 = .ok (.iconst 1, 1) := by decide +kernel
theorem dX4_add_30 : decode cX4_add 30 = .ok (.ireturn, 1) := by decide +kernel
theorem dX4_read_0 : decode cX4_read 0 = .ok (.aload_n 0, 1) := by decide +kernel
theorem dX4_read_1 : decode cX4_read 1 = .ok (.iconst 0, 1) := by decide +kernel
theorem dX4_read_2 : decode cX4_read 2 = .ok (.putfield 19, 3) := by decide +kernel
theorem dX4_read_5 : decode cX4_read 5 = .ok (.iconst 0, 1) := by decide +kernel
theorem dX4_read_6 : decode cX4_read 6 = .ok (.istore_n 2, 1) := by decide +kernel
theorem dX4_read_7 : decode cX4_read 7 = .ok (.iload_n 2, 1) := by decide +kernel
theorem dX4_read_8 : decode cX4_read 8 = .ok (.bipush 14, 2) := by decide +kernel
theorem dX4_read_10 : decode cX4_read 10 = .ok (.if_icmp .ge 65, 3) := by decide +kernel
theorem dX4_read_13 : decode cX4_read 13 = .ok (.aload_n 0, 1) := by decide +kernel
theorem dX4_read_14 : decode cX4_read 14 = .ok (.aload_n 1, 1) := by decide +kernel
theorem dX4_read_15 : decode cX4_read 15 = .ok (.invokevirtual 22, 3) := by decide +kernel
theorem dX4_read_18 : decode cX4_read 18 = .ok (.ifCond .ne 8, 3) := by decide +kernel
theorem dX4_read_21 : decode cX4_read 21 = .ok (.aload_n 0, 1) := by decide +kernel
theorem dX4_read_22 : decode cX4_read 22 = .ok (.getfield 26, 3) := by decide +kernel
theorem dX4_read_25 : decode cX4_read 25 = .ok (.ireturn, 1) := by decide +kernel
theorem dX4_read_26 : decode cX4_read 26 = .ok (.aload_n 0, 1) := by decide +kernel
theorem dX4_read_27 : decode cX4_read 27 = .ok (.invokevirtual 29, 3) := by decide +kernel
theorem dX4_read_30 : decode cX4_read 30 = .ok (.aload_n 0, 1) := by decide +kernel
theorem dX4_read_31 : decode cX4_read 31 = .ok (.getfield 26, 3) := by decide +kernel
theorem dX4_read_34 : decode cX4_read 34 = .ok (.aload_n 0, 1) := by decide +kernel
theorem dX4_read_35 : decode cX4_read 35 = .ok (.getfield 15, 3) := by decide +kernel
theorem dX4_read_38 : decode cX4_read 38 = .ok (.if_icmp .lt 12, 3) := by decide +kernel
theorem dX4_read_41 : decode cX4_read 41 = .ok (.aload_n 0, 1) := by decide +kernel
theorem dX4_read_42 : decode cX4_read 42 = .ok (.iload_n 2, 1) := by decide +kernel
theorem dX4_read_43 : decode cX4_read 43 = .ok (.iconst 1, 1) := by decide +kernel
theorem dX4_read_44 : decode cX4_read 44 = .ok (.iadd, 1) := by decide +kernel
theorem dX4_read_45 : decode cX4_read 45 = .ok (.putfield 32, 3) := by decide +kernel
theorem dX4_read_48 : decode cX4_read 48 = .ok (.iconst (-1), 1) := by decide +kernel
theorem dX4_read_49 : decode cX4_read 49 = .ok (.ireturn, 1) := by decide +kernel
theorem dX4_read_50 : decode cX4_read 50 = .ok (.aload_n 0, 1) := by decide +kernel
theorem dX4_read_51 : decode cX4_read 51 = .ok (.getfield 9, 3) := by decide +kernel
theorem dX4_read_54 : decode cX4_read 54 = .ok (.aload_n 0, 1) := by decide +kernel
theorem dX4_read_55 : decode cX4_read 55 = .ok (.getfield 26, 3) := by decide +kernel
theorem dX4_read_58 : decode cX4_read 58 = .ok (.caload, 1) := by decide +kernel
theorem dX4_read_59 : decode cX4_read 59 = .ok (.bipush 59, 2) := by decide +kernel
theorem dX4_read_61 : decode cX4_read 61 = .ok (.if_icmp .eq 8, 3) := by decide +kernel
theorem dX4_read_64 : decode cX4_read 64 = .ok (.aload_n 0, 1) := by decide +kernel
theorem dX4_read_65 : decode cX4_read 65 = .ok (.getfield 26, 3) := by decide +kernel
theorem dX4_read_68 : decode cX4_read 68 = .ok (.ireturn, 1) := by decide +kernel
theorem dX4_read_69 : decode cX4_read 69 = .ok (.iinc 2 1, 3) := by decide +kernel
theorem dX4_read_72 : decode cX4_read 72 = .ok (.goto (-65), 3) := by decide +kernel
theorem dX4_read_75 : decode cX4_read 75 = .ok (.aload_n 0, 1) := by decide +kernel
theorem dX4_read_76 : decode cX4_read 76 = .ok (.getfield 26, 3) := by decide +kernel
theorem dX4_read_79 : decode cX4_read 79 = .ok (.ireturn, 1) := by decide +kernel
theorem dX4_readClause_0 : decode cX4_readClause 0 = .ok (.aload_n 0, 1) := by decide +kernel
theorem dX4_readClause_1 : decode cX4_readClause 1 = .ok (.invokevirtual 29, 3) := by decide +kernel
theorem dX4_readClause_4 : decode cX4_readClause 4 = .ok (.aload_n 0, 1) := by decide +kernel
theorem dX4_readClause_5 : decode cX4_readClause 5 = .ok (.invokevirtual 35, 3) := by decide +kernel
theorem dX4_readClause_8 : decode cX4_readClause 8 = .ok (.istore_n 2, 1) := by decide +kernel
theorem dX4_readClause_9 : decode cX4_readClause 9 = .ok (.iload_n 2, 1) := by decide +kernel
theorem dX4_readClause_10 : decode cX4_readClause 10 = .ok (.iconst (-1), 1) := by decide +kernel
theorem dX4_readClause_11 : decode cX4_readClause 11 = .ok (.if_icmp .eq 11, 3) := by decide +kernel
theorem dX4_readClause_14 : decode cX4_readClause 14 = .ok (.aload_n 1, 1) := by decide +kernel
theorem dX4_readClause_15 : decode cX4_readClause 15 = .ok (.iload_n 2, 1) := by decide +kernel
theorem dX4_readClause_16 : decode cX4_readClause 16 = .ok (.invokevirtual 39, 3) := by decide +kernel
theorem dX4_readClause_19 : decode cX4_readClause 19 = .ok (.ifCond .ne 5, 3) := by decide +kernel
theorem dX4_readClause_22 : decode cX4_readClause 22 = .ok (.iconst 0, 1) := by decide +kernel
theorem dX4_readClause_23 : decode cX4_readClause 23 = .ok (.ireturn, 1) := by decide +kernel
theorem dX4_readClause_24 : decode cX4_readClause 24 = .ok (.iconst 0, 1) := by decide +kernel
theorem dX4_readClause_25 : decode cX4_readClause 25 = .ok (.istore_n 3, 1) := by decide +kernel
theorem dX4_readClause_26 : decode cX4_readClause 26 = .ok (.iload_n 2, 1) := by decide +kernel
theorem dX4_readClause_27 : decode cX4_readClause 27 = .ok (.ifCond .eq 36, 3) := by decide +kernel
theorem dX4_readClause_30 : decode cX4_readClause 30 = .ok (.aload_n 0, 1) := by decide +kernel
theorem dX4_readClause_31 : decode cX4_readClause 31 = .ok (.invokevirtual 29, 3) := by decide +kernel
theorem dX4_readClause_34 : decode cX4_readClause 34 = .ok (.aload_n 0, 1) := by decide +kernel
theorem dX4_readClause_35 : decode cX4_readClause 35 = .ok (.invokevirtual 45, 3) := by decide +kernel
theorem dX4_readClause_38 : decode cX4_readClause 38 = .ok (.istore_n 3, 1) := by decide +kernel
theorem dX4_readClause_39 : decode cX4_readClause 39 = .ok (.iload_n 3, 1) := by decide +kernel
theorem dX4_readClause_40 : decode cX4_readClause 40 = .ok (.iconst (-1), 1) := by decide +kernel
theorem dX4_readClause_41 : decode cX4_readClause 41 = .ok (.if_icmp .eq 20, 3) := by decide +kernel
theorem dX4_readClause_44 : decode cX4_readClause 44 = .ok (.iload_n 3, 1) := by decide +kernel
theorem dX4_readClause_45 : decode cX4_readClause 45 = .ok (.getstatic 48, 3) := by decide +kernel
theorem dX4_readClause_48 : decode cX4_readClause 48 = .ok (.iload_n 2, 1) := by decide +kernel
theorem dX4_readClause_49 : decode cX4_readClause 49 = .ok (.iaload, 1) := by decide +kernel
theorem dX4_readClause_50 : decode cX4_readClause 50 = .ok (.getstatic 52, 3) := by decide +kernel
theorem dX4_readClause_53 : decode cX4_readClause 53 = .ok (.iload_n 2, 1) := by decide +kernel
theorem dX4_readClause_54 : decode cX4_readClause 54 = .ok (.iaload, 1) := by decide +kernel
theorem dX4_readClause_55 : decode cX4_readClause 55 = .ok (.invokestatic 55, 3) := by decide +kernel
theorem dX4_readClause_58 : decode cX4_readClause 58 = .ok (.ifCond .eq 5, 3) := by decide +kernel
theorem dX4_readClause_61 : decode cX4_readClause 61 = .ok (.iconst 0, 1) := by decide +kernel
theorem dX4_readClause_62 : decode cX4_readClause 62 = .ok (.ireturn, 1) := by decide +kernel
theorem dX4_readClause_63 : decode cX4_readClause 63 = .ok (.aload_n 1, 1) := by decide +kernel
theorem dX4_readClause_64 : decode cX4_readClause 64 = .ok (.iload_n 2, 1) := by decide +kernel
theorem dX4_readClause_65 : decode cX4_readClause 65 = .ok (.iload_n 3, 1) := by decide +kernel
theorem dX4_readClause_66 : decode cX4_readClause 66 = .ok (.invokevirtual 59, 3) := by decide +kernel
theorem dX4_readClause_69 : decode cX4_readClause 69 = .ok (.iconst 1, 1) := by decide +kernel
theorem dX4_readClause_70 : decode cX4_readClause 70 = .ok (.ireturn, 1) := by decide +kernel
theorem dX4_nextToken_0 : decode cX4_nextToken 0 = .ok (.aload_n 0, 1) := by decide +kernel
theorem dX4_nextToken_1 : decode cX4_nextToken 1 = .ok (.aload_n 0, 1) := by decide +kernel
theorem dX4_nextToken_2 : decode cX4_nextToken 2 = .ok (.getfield 19, 3) := by decide +kernel
theorem dX4_nextToken_5 : decode cX4_nextToken 5 = .ok (.putfield 26, 3) := by decide +kernel
theorem dX4_nextToken_8 : decode cX4_nextToken 8 = .ok (.aload_n 0, 1) := by decide +kernel
theorem dX4_nextToken_9 : decode cX4_nextToken 9 = .ok (.getfield 26, 3) := by decide +kernel
theorem dX4_nextToken_12 : decode cX4_nextToken 12 = .ok (.aload_n 0, 1) := by decide +kernel
theorem dX4_nextToken_13 : decode cX4_nextToken 13 = .ok (.getfield 15, 3) := by decide +kernel
theorem dX4_nextToken_16 : decode cX4_nextToken 16 = .ok (.if_icmp .ge 30, 3) := by decide +kernel
theorem dX4_nextToken_19 : decode cX4_nextToken 19 = .ok (.aload_n 0, 1) := by decide +kernel
theorem dX4_nextToken_20 : decode cX4_nextToken 20 = .ok (.getfield 9, 3) := by decide +kernel
theorem dX4_nextToken_23 : decode cX4_nextToken 23 = .ok (.aload_n 0, 1) := by decide +kernel
theorem dX4_nextToken_24 : decode cX4_nextToken 24 = .ok (.getfield 26, 3) := by decide +kernel
theorem dX4_nextToken_27 : decode cX4_nextToken 27 = .ok (.caload, 1) := by decide +kernel
theorem dX4_nextToken_28 : decode cX4_nextToken 28 = .ok (.bipush 32, 2) := by decide +kernel
theorem dX4_nextToken_30 : decode cX4_nextToken 30 = .ok (.if_icmp .ne 16, 3) := by decide +kernel
theorem dX4_nextToken_33 : decode cX4_nextToken 33 = .ok (.aload_n 0, 1) := by decide +kernel
theorem dX4_nextToken_34 : decode cX4_nextToken 34 = .ok (.dup, 1) := by decide +kernel
theorem dX4_nextToken_35 : decode cX4_nextToken 35 = .ok (.getfield 26, 3) := by decide +kernel
theorem dX4_nextToken_38 : decode cX4_nextToken 38 = .ok (.iconst 1, 1) := by decide +kernel
theorem dX4_nextToken_39 : decode cX4_nextToken 39 = .ok (.iadd, 1) := by decide +kernel
theorem dX4_nextToken_40 : decode cX4_nextToken 40 = .ok (.putfield 26, 3) := by decide +kernel
theorem dX4_nextToken_43 : decode cX4_nextToken 43 = .ok (.goto (-35), 3) := by decide +kernel
theorem dX4_nextToken_46 : decode cX4_nextToken 46 = .ok (.aload_n 0, 1) := by decide +kernel
theorem dX4_nextToken_47 : decode cX4_nextToken 47 = .ok (.aload_n 0, 1) := by decide +kernel
theorem dX4_nextToken_48 : decode cX4_nextToken 48 = .ok (.getfield 26, 3) := by decide +kernel
theorem dX4_nextToken_51 : decode cX4_nextToken 51 = .ok (.putfield 19, 3) := by decide +kernel
theorem dX4_nextToken_54 : decode cX4_nextToken 54 = .ok (.aload_n 0, 1) := by decide +kernel
theorem dX4_nextToken_55 : decode cX4_nextToken 55 = .ok (.getfield 26, 3) := by decide +kernel
theorem dX4_nextToken_58 : decode cX4_nextToken 58 = .ok (.aload_n 0, 1) := by decide +kernel
theorem dX4_nextToken_59 : decode cX4_nextToken 59 = .ok (.getfield 15, 3) := by decide +kernel
theorem dX4_nextToken_62 : decode cX4_nextToken 62 = .ok (.if_icmp .lt 4, 3) := by decide +kernel
theorem dX4_nextToken_65 : decode cX4_nextToken 65 = .ok (.return_, 1) := by decide +kernel
theorem dX4_nextToken_66 : decode cX4_nextToken 66 = .ok (.aload_n 0, 1) := by decide +kernel
theorem dX4_nextToken_67 : decode cX4_nextToken 67 = .ok (.dup, 1) := by decide +kernel
theorem dX4_nextToken_68 : decode cX4_nextToken 68 = .ok (.getfield 19, 3) := by decide +kernel
theorem dX4_nextToken_71 : decode cX4_nextToken 71 = .ok (.iconst 1, 1) := by decide +kernel
theorem dX4_nextToken_72 : decode cX4_nextToken 72 = .ok (.iadd, 1) := by decide +kernel
theorem dX4_nextToken_73 : decode cX4_nextToken 73 = .ok (.putfield 19, 3) := by decide +kernel
theorem dX4_nextToken_76 : decode cX4_nextToken 76 = .ok (.aload_n 0, 1) := by decide +kernel
theorem dX4_nextToken_77 : decode cX4_nextToken 77 = .ok (.getfield 9, 3) := by decide +kernel
theorem dX4_nextToken_80 : decode cX4_nextToken 80 = .ok (.aload_n 0, 1) := by decide +kernel
theorem dX4_nextToken_81 : decode cX4_nextToken 81 = .ok (.getfield 26, 3) := by decide +kernel
theorem dX4_nextToken_84 : decode cX4_nextToken 84 = .ok (.caload, 1) := by decide +kernel
theorem dX4_nextToken_85 : decode cX4_nextToken 85 = .ok (.invokestatic 63, 3) := by decide +kernel
theorem dX4_nextToken_88 : decode cX4_nextToken 88 = .ok (.istore_n 1, 1) := by decide +kernel
theorem dX4_nextToken_89 : decode cX4_nextToken 89 = .ok (.aload_n 0, 1) := by decide +kernel
theorem dX4_nextToken_90 : decode cX4_nextToken 90 = .ok (.getfield 9, 3) := by decide +kernel
theorem dX4_nextToken_93 : decode cX4_nextToken 93 = .ok (.aload_n 0, 1) := by decide +kernel
theorem dX4_nextToken_94 : decode cX4_nextToken 94 = .ok (.getfield 26, 3) := by decide +kernel
theorem dX4_nextToken_97 : decode cX4_nextToken 97 = .ok (.caload, 1) := by decide +kernel
theorem dX4_nextToken_98 : decode cX4_nextToken 98 = .ok (.invokestatic 67, 3) := by decide +kernel
theorem dX4_nextToken_101 : decode cX4_nextToken 101 = .ok (.istore_n 2, 1) := by decide +kernel
theorem dX4_nextToken_102 : decode cX4_nextToken 102 = .ok (.aload_n 0, 1) := by decide +kernel
theorem dX4_nextToken_103 : decode cX4_nextToken 103 = .ok (.getfield 19, 3) := by decide +kernel
theorem dX4_nextToken_106 : decode cX4_nextToken 106 = .ok (.aload_n 0, 1) := by decide +kernel
theorem dX4_nextToken_107 : decode cX4_nextToken 107 = .ok (.getfield 15, 3) := by decide +kernel
theorem dX4_nextToken_110 : decode cX4_nextToken 110 = .ok (.if_icmp .ge 54, 3) := by decide +kernel
theorem dX4_nextToken_113 : decode cX4_nextToken 113 = .ok (.iload_n 1, 1) := by decide +kernel
theorem dX4_nextToken_114 : decode cX4_nextToken 114 = .ok (.ifCond .eq 18, 3) := by decide +kernel
theorem dX4_nextToken_117 : decode cX4_nextToken 117 = .ok (.aload_n 0, 1) := by decide +kernel
theorem dX4_nextToken_118 : decode cX4_nextToken 118 = .ok (.getfield 9, 3) := by decide +kernel
theorem dX4_nextToken_121 : decode cX4_nextToken 121 = .ok (.aload_n 0, 1) := by decide +kernel
theorem dX4_nextToken_122 : decode cX4_nextToken 122 = .ok (.getfield 19, 3) := by decide +kernel
theorem dX4_nextToken_125 : decode cX4_nextToken 125 = .ok (.caload, 1) := by decide +kernel
theorem dX4_nextToken_126 : decode cX4_nextToken 126 = .ok (.invokestatic 63, 3) := by decide +kernel
theorem dX4_nextToken_129 : decode cX4_nextToken 129 = .ok (.ifCond .ne 22, 3) := by decide +kernel
theorem dX4_nextToken_132 : decode cX4_nextToken 132 = .ok (.iload_n 2, 1) := by decide +kernel
theorem dX4_nextToken_133 : decode cX4_nextToken 133 = .ok (.ifCond .eq 31, 3) := by decide +kernel
theorem dX4_nextToken_136 : decode cX4_nextToken 136 = .ok (.aload_n 0, 1) := by decide +kernel
theorem dX4_nextToken_137 : decode cX4_nextToken 137 = .ok (.getfield 9, 3) := by decide +kernel
theorem dX4_nextToken_140 : decode cX4_nextToken 140 = .ok (.aload_n 0, 1) := by decide +kernel
theorem dX4_nextToken_141 : decode cX4_nextToken 141 = .ok (.getfield 19, 3) := by decide +kernel
theorem dX4_nextToken_144 : decode cX4_nextToken 144 = .ok (.caload, 1) := by decide +kernel
theorem dX4_nextToken_145 : decode cX4_nextToken 145 = .ok (.invokestatic 67, 3) := by decide +kernel
theorem dX4_nextToken_148 : decode cX4_nextToken 148 = .ok (.ifCond .eq 16, 3) := by decide +kernel
theorem dX4_nextToken_151 : decode cX4_nextToken 151 = .ok (.aload_n 0, 1) := by decide +kernel
theorem dX4_nextToken_152 : decode cX4_nextToken 152 = .ok (.dup, 1) := by decide +kernel
theorem dX4_nextToken_153 : decode cX4_nextToken 153 = .ok (.getfield 19, 3) := by decide +kernel
theorem dX4_nextToken_156 : decode cX4_nextToken 156 = .ok (.iconst 1, 1) := by decide +kernel
theorem dX4_nextToken_157 : decode cX4_nextToken 157 = .ok (.iadd, 1) := by decide +kernel
theorem dX4_nextToken_158 : decode cX4_nextToken 158 = .ok (.putfield 19, 3) := by decide +kernel
theorem dX4_nextToken_161 : decode cX4_nextToken 161 = .ok (.goto (-59), 3) := by decide +kernel
theorem dX4_nextToken_164 : decode cX4_nextToken 164 = .ok (.return_, 1) := by decide +kernel
theorem dX4_wordHere_0 : decode cX4_wordHere 0 = .ok (.iconst 0, 1) := by decide +kernel
theorem dX4_wordHere_1 : decode cX4_wordHere 1 = .ok (.istore_n 1, 1) := by decide +kernel
theorem dX4_wordHere_2 : decode cX4_wordHere 2 = .ok (.iload_n 1, 1) := by decide +kernel
theorem dX4_wordHere_3 : decode cX4_wordHere 3 = .ok (.bipush 11, 2) := by decide +kernel
theorem dX4_wordHere_5 : decode cX4_wordHere 5 = .ok (.if_icmp .ge 22, 3) := by decide +kernel
theorem dX4_wordHere_8 : decode cX4_wordHere 8 = .ok (.aload_n 0, 1) := by decide +kernel
theorem dX4_wordHere_9 : decode cX4_wordHere 9 = .ok (.iload_n 1, 1) := by decide +kernel
theorem dX4_wordHere_10 : decode cX4_wordHere 10 = .ok (.invokestatic 70, 3) := by decide +kernel
theorem dX4_wordHere_13 : decode cX4_wordHere 13 = .ok (.invokevirtual 74, 3) := by decide +kernel
theorem dX4_wordHere_16 : decode cX4_wordHere 16 = .ok (.ifCond .eq 5, 3) := by decide +kernel
theorem dX4_wordHere_19 : decode cX4_wordHere 19 = .ok (.iload_n 1, 1) := by decide +kernel
theorem dX4_wordHere_20 : decode cX4_wordHere 20 = .ok (.ireturn, 1) := by decide +kernel
theorem dX4_wordHere_21 : decode cX4_wordHere 21 = .ok (.iinc 1 1, 3) := by decide +kernel
theorem dX4_wordHere_24 : decode cX4_wordHere 24 = .ok (.goto (-22), 3) := by decide +kernel
theorem dX4_wordHere_27 : decode cX4_wordHere 27 = .ok (.iconst (-1), 1) := by decide +kernel
theorem dX4_wordHere_28 : decode cX4_wordHere 28 = .ok (.ireturn, 1) := by decide +kernel
theorem dX4_tokenIs_0 : decode cX4_tokenIs 0 = .ok (.aload_n 0, 1) := by decide +kernel
theorem dX4_tokenIs_1 : decode cX4_tokenIs 1 = .ok (.getfield 19, 3) := by decide +kernel
theorem dX4_tokenIs_4 : decode cX4_tokenIs 4 = .ok (.aload_n 0, 1) := by decide +kernel
theorem dX4_tokenIs_5 : decode cX4_tokenIs 5 = .ok (.getfield 26, 3) := by decide +kernel
theorem dX4_tokenIs_8 : decode cX4_tokenIs 8 = .ok (.isub, 1) := by decide +kernel
theorem dX4_tokenIs_9 : decode cX4_tokenIs 9 = .ok (.aload_n 1, 1) := by decide +kernel
theorem dX4_tokenIs_10 : decode cX4_tokenIs 10 = .ok (.invokevirtual 78, 3) := by decide +kernel
theorem dX4_tokenIs_13 : decode cX4_tokenIs 13 = .ok (.if_icmp .eq 5, 3) := by decide +kernel
theorem dX4_tokenIs_16 : decode cX4_tokenIs 16 = .ok (.iconst 0, 1) := by decide +kernel
theorem dX4_tokenIs_17 : decode cX4_tokenIs 17 = .ok (.ireturn, 1) := by decide +kernel
theorem dX4_tokenIs_18 : decode cX4_tokenIs 18 = .ok (.iconst 0, 1) := by decide +kernel
theorem dX4_tokenIs_19 : decode cX4_tokenIs 19 = .ok (.istore_n 2, 1) := by decide +kernel
theorem dX4_tokenIs_20 : decode cX4_tokenIs 20 = .ok (.iload_n 2, 1) := by decide +kernel
theorem dX4_tokenIs_21 : decode cX4_tokenIs 21 = .ok (.aload_n 1, 1) := by decide +kernel
theorem dX4_tokenIs_22 : decode cX4_tokenIs 22 = .ok (.invokevirtual 78, 3) := by decide +kernel
theorem dX4_tokenIs_25 : decode cX4_tokenIs 25 = .ok (.if_icmp .ge 30, 3) := by decide +kernel
theorem dX4_tokenIs_28 : decode cX4_tokenIs 28 = .ok (.aload_n 0, 1) := by decide +kernel
theorem dX4_tokenIs_29 : decode cX4_tokenIs 29 = .ok (.getfield 9, 3) := by decide +kernel
theorem dX4_tokenIs_32 : decode cX4_tokenIs 32 = .ok (.aload_n 0, 1) := by decide +kernel
theorem dX4_tokenIs_33 : decode cX4_tokenIs 33 = .ok (.getfield 26, 3) := by decide +kernel
theorem dX4_tokenIs_36 : decode cX4_tokenIs 36 = .ok (.iload_n 2, 1) := by decide +kernel
theorem dX4_tokenIs_37 : decode cX4_tokenIs 37 = .ok (.iadd, 1) := by decide +kernel
theorem dX4_tokenIs_38 : decode cX4_tokenIs 38 = .ok (.caload, 1) := by decide +kernel
theorem dX4_tokenIs_39 : decode cX4_tokenIs 39 = .ok (.aload_n 1, 1) := by decide +kernel
theorem dX4_tokenIs_40 : decode cX4_tokenIs 40 = .ok (.iload_n 2, 1) := by decide +kernel
theorem dX4_tokenIs_41 : decode cX4_tokenIs 41 = .ok (.invokevirtual 82, 3) := by decide +kernel
theorem dX4_tokenIs_44 : decode cX4_tokenIs 44 = .ok (.if_icmp .eq 5, 3) := by decide +kernel
theorem dX4_tokenIs_47 : decode cX4_tokenIs 47 = .ok (.iconst 0, 1) := by decide +kernel
theorem dX4_tokenIs_48 : decode cX4_tokenIs 48 = .ok (.ireturn, 1) := by decide +kernel
theorem dX4_tokenIs_49 : decode cX4_tokenIs 49 = .ok (.iinc 2 1, 3) := by decide +kernel
theorem dX4_tokenIs_52 : decode cX4_tokenIs 52 = .ok (.goto (-32), 3) := by decide +kernel
theorem dX4_tokenIs_55 : decode cX4_tokenIs 55 = .ok (.iconst 1, 1) := by decide +kernel
theorem dX4_tokenIs_56 : decode cX4_tokenIs 56 = .ok (.ireturn, 1) := by decide +kernel
theorem dX4_numberHere_0 : decode cX4_numberHere 0 = .ok (.aload_n 0, 1) := by decide +kernel
theorem dX4_numberHere_1 : decode cX4_numberHere 1 = .ok (.getfield 26, 3) := by decide +kernel
theorem dX4_numberHere_4 : decode cX4_numberHere 4 = .ok (.aload_n 0, 1) := by decide +kernel
theorem dX4_numberHere_5 : decode cX4_numberHere 5 = .ok (.getfield 15, 3) := by decide +kernel
theorem dX4_numberHere_8 : decode cX4_numberHere 8 = .ok (.if_icmp .ge 31, 3) := by decide +kernel
theorem dX4_numberHere_11 : decode cX4_numberHere 11 = .ok (.aload_n 0, 1) := by decide +kernel
theorem dX4_numberHere_12 : decode cX4_numberHere 12 = .ok (.getfield 19, 3) := by decide +kernel
theorem dX4_numberHere_15 : decode cX4_numberHere 15 = .ok (.aload_n 0, 1) := by decide +kernel
theorem dX4_numberHere_16 : decode cX4_numberHere 16 = .ok (.getfield 26, 3) := by decide +kernel
theorem dX4_numberHere_19 : decode cX4_numberHere 19 = .ok (.isub, 1) := by decide +kernel
theorem dX4_numberHere_20 : decode cX4_numberHere 20 = .ok (.iconst 3, 1) := by decide +kernel
theorem dX4_numberHere_21 : decode cX4_numberHere 21 = .ok (.if_icmp .gt 18, 3) := by decide +kernel
theorem dX4_numberHere_24 : decode cX4_numberHere 24 = .ok (.aload_n 0, 1) := by decide +kernel
theorem dX4_numberHere_25 : decode cX4_numberHere 25 = .ok (.getfield 9, 3) := by decide +kernel
theorem dX4_numberHere_28 : decode cX4_numberHere 28 = .ok (.aload_n 0, 1) := by decide +kernel
theorem dX4_numberHere_29 : decode cX4_numberHere 29 = .ok (.getfield 26, 3) := by decide +kernel
theorem dX4_numberHere_32 : decode cX4_numberHere 32 = .ok (.caload, 1) := by decide +kernel
theorem dX4_numberHere_33 : decode cX4_numberHere 33 = .ok (.invokestatic 67, 3) := by decide +kernel
theorem dX4_numberHere_36 : decode cX4_numberHere 36 = .ok (.ifCond .ne 5, 3) := by decide +kernel
theorem dX4_numberHere_39 : decode cX4_numberHere 39 = .ok (.iconst (-1), 1) := by decide +kernel
theorem dX4_numberHere_40 : decode cX4_numberHere 40 = .ok (.ireturn, 1) := by decide +kernel
theorem dX4_numberHere_41 : decode cX4_numberHere 41 = .ok (.iconst 0, 1) := by decide +kernel
theorem dX4_numberHere_42 : decode cX4_numberHere 42 = .ok (.istore_n 1, 1) := by decide +kernel
theorem dX4_numberHere_43 : decode cX4_numberHere 43 = .ok (.aload_n 0, 1) := by decide +kernel
theorem dX4_numberHere_44 : decode cX4_numberHere 44 = .ok (.getfield 26, 3) := by decide +kernel
theorem dX4_numberHere_47 : decode cX4_numberHere 47 = .ok (.istore_n 2, 1) := by decide +kernel
theorem dX4_numberHere_48 : decode cX4_numberHere 48 = .ok (.iload_n 2, 1) := by decide +kernel
theorem dX4_numberHere_49 : decode cX4_numberHere 49 = .ok (.aload_n 0, 1) := by decide +kernel
theorem dX4_numberHere_50 : decode cX4_numberHere 50 = .ok (.getfield 19, 3) := by decide +kernel
theorem dX4_numberHere_53 : decode cX4_numberHere 53 = .ok (.if_icmp .ge 24, 3) := by decide +kernel
theorem dX4_numberHere_56 : decode cX4_numberHere 56 = .ok (.bipush 10, 2) := by decide +kernel
theorem dX4_numberHere_58 : decode cX4_numberHere 58 = .ok (.iload_n 1, 1) := by decide +kernel
theorem dX4_numberHere_59 : decode cX4_numberHere 59 = .ok (.imul, 1) := by decide +kernel
theorem dX4_numberHere_60 : decode cX4_numberHere 60 = .ok (.aload_n 0, 1) := by decide +kernel
theorem dX4_numberHere_61 : decode cX4_numberHere 61 = .ok (.getfield 9, 3) := by decide +kernel
theorem dX4_numberHere_64 : decode cX4_numberHere 64 = .ok (.iload_n 2, 1) := by decide +kernel
theorem dX4_numberHere_65 : decode cX4_numberHere 65 = .ok (.caload, 1) := by decide +kernel
theorem dX4_numberHere_66 : decode cX4_numberHere 66 = .ok (.iadd, 1) := by decide +kernel
theorem dX4_numberHere_67 : decode cX4_numberHere 67 = .ok (.bipush 48, 2) := by decide +kernel
theorem dX4_numberHere_69 : decode cX4_numberHere 69 = .ok (.isub, 1) := by decide +kernel
theorem dX4_numberHere_70 : decode cX4_numberHere 70 = .ok (.istore_n 1, 1) := by decide +kernel
theorem dX4_numberHere_71 : decode cX4_numberHere 71 = .ok (.iinc 2 1, 3) := by decide +kernel
theorem dX4_numberHere_74 : decode cX4_numberHere 74 = .ok (.goto (-26), 3) := by decide +kernel
theorem dX4_numberHere_77 : decode cX4_numberHere 77 = .ok (.iload_n 1, 1) := by decide +kernel
theorem dX4_numberHere_78 : decode cX4_numberHere 78 = .ok (.ireturn, 1) := by decide +kernel
theorem dX4_isSmall_0 : decode cX4_isSmall 0 = .ok (.iload_n 0, 1) := by decide +kernel
theorem dX4_isSmall_1 : decode cX4_isSmall 1 = .ok (.bipush 97, 2) := by decide +kernel
theorem dX4_isSmall_3 : decode cX4_isSmall 3 = .ok (.if_icmp .lt 13, 3) := by decide +kernel
theorem dX4_isSmall_6 : decode cX4_isSmall 6 = .ok (.iload_n 0, 1) := by decide +kernel
theorem dX4_isSmall_7 : decode cX4_isSmall 7 = .ok (.bipush 122, 2) := by decide +kernel
theorem dX4_isSmall_9 : decode cX4_isSmall 9 = .ok (.if_icmp .gt 7, 3) := by decide +kernel
theorem dX4_isSmall_12 : decode cX4_isSmall 12 = .ok (.iconst 1, 1) := by decide +kernel
theorem dX4_isSmall_13 : decode cX4_isSmall 13 = .ok (.goto 4, 3) := by decide +kernel
theorem dX4_isSmall_16 : decode cX4_isSmall 16 = .ok (.iconst 0, 1) := by decide +kernel
theorem dX4_isSmall_17 : decode cX4_isSmall 17 = .ok (.ireturn, 1) := by decide +kernel
theorem dX4_isDigit_0 : decode cX4_isDigit 0 = .ok (.iload_n 0, 1) := by decide +kernel
theorem dX4_isDigit_1 : decode cX4_isDigit 1 = .ok (.bipush 48, 2) := by decide +kernel
theorem dX4_isDigit_3 : decode cX4_isDigit 3 = .ok (.if_icmp .lt 13, 3) := by decide +kernel
theorem dX4_isDigit_6 : decode cX4_isDigit 6 = .ok (.iload_n 0, 1) := by decide +kernel
theorem dX4_isDigit_7 : decode cX4_isDigit 7 = .ok (.bipush 57, 2) := by decide +kernel
theorem dX4_isDigit_9 : decode cX4_isDigit 9 = .ok (.if_icmp .gt 7, 3) := by decide +kernel
theorem dX4_isDigit_12 : decode cX4_isDigit 12 = .ok (.iconst 1, 1) := by decide +kernel
theorem dX4_isDigit_13 : decode cX4_isDigit 13 = .ok (.goto 4, 3) := by decide +kernel
theorem dX4_isDigit_16 : decode cX4_isDigit 16 = .ok (.iconst 0, 1) := by decide +kernel
theorem dX4_isDigit_17 : decode cX4_isDigit 17 = .ok (.ireturn, 1) := by decide +kernel
theorem dX4_spelling_0 : decode cX4_spelling 0 = .ok (.iload_n 0, 1) := by decide +kernel
theorem dX4_spelling_1 : decode cX4_spelling 1 = .ok (.tableswitch 85 0 9 #[55, 58, 61, 64, 67, 70, 73, 76, 79, 82], 55) := by decide +kernel
theorem dX4_spelling_56 : decode cX4_spelling 56 = .ok (.ldc 86, 2) := by decide +kernel
theorem dX4_spelling_58 : decode cX4_spelling 58 = .ok (.areturn, 1) := by decide +kernel
theorem dX4_spelling_59 : decode cX4_spelling 59 = .ok (.ldc 88, 2) := by decide +kernel
theorem dX4_spelling_61 : decode cX4_spelling 61 = .ok (.areturn, 1) := by decide +kernel
theorem dX4_spelling_62 : decode cX4_spelling 62 = .ok (.ldc 90, 2) := by decide +kernel
theorem dX4_spelling_64 : decode cX4_spelling 64 = .ok (.areturn, 1) := by decide +kernel
theorem dX4_spelling_65 : decode cX4_spelling 65 = .ok (.ldc 92, 2) := by decide +kernel
theorem dX4_spelling_67 : decode cX4_spelling 67 = .ok (.areturn, 1) := by decide +kernel
theorem dX4_spelling_68 : decode cX4_spelling 68 = .ok (.ldc 94, 2) := by decide +kernel
theorem dX4_spelling_70 : decode cX4_spelling 70 = .ok (.areturn, 1) := by decide +kernel
theorem dX4_spelling_71 : decode cX4_spelling 71 = .ok (.ldc 96, 2) := by decide +kernel
theorem dX4_spelling_73 : decode cX4_spelling 73 = .ok (.areturn, 1) := by decide +kernel
theorem dX4_spelling_74 : decode cX4_spelling 74 = .ok (.ldc 98, 2) := by decide +kernel
theorem dX4_spelling_76 : decode cX4_spelling 76 = .ok (.areturn, 1) := by decide +kernel
theorem dX4_spelling_77 : decode cX4_spelling 77 = .ok (.ldc 100, 2) := by decide +kernel
theorem dX4_spelling_79 : decode cX4_spelling 79 = .ok (.areturn, 1) := by decide +kernel
theorem dX4_spelling_80 : decode cX4_spelling 80 = .ok (.ldc 102, 2) := by decide +kernel
theorem dX4_spelling_82 : decode cX4_spelling 82 = .ok (.areturn, 1) := by decide +kernel
theorem dX4_spelling_83 : decode cX4_spelling 83 = .ok (.ldc 104, 2) := by decide +kernel
theorem dX4_spelling_85 : decode cX4_spelling 85 = .ok (.areturn, 1) := by decide +kernel
theorem dX4_spelling_86 : decode cX4_spelling 86 = .ok (.ldc 106, 2) := by decide +kernel
theorem dX4_spelling_88 : decode cX4_spelling 88 = .ok (.areturn, 1) := by decide +kernel
theorem dX5_init_0 : decode cX5_init 0 = .ok (.aload_n 0, 1) := by decide +kernel
theorem dX5_init_1 : decode cX5_init 1 = .ok (.invokespecial 3, 3) := by decide +kernel
theorem dX5_init_4 : decode cX5_init 4 = .ok (.aload_n 0, 1) := by decide +kernel
theorem dX5_init_5 : decode cX5_init 5 = .ok (.bipush 6, 2) := by decide +kernel
theorem dX5_init_7 : decode cX5_init 7 = .ok (.newarray .int, 2) := by decide +kernel
theorem dX5_init_9 : decode cX5_init 9 = .ok (.putfield 9, 3) := by decide +kernel
theorem dX5_init_12 : decode cX5_init 12 = .ok (.aload_n 0, 1) := by decide +kernel
theorem dX5_init_13 : decode cX5_init 13 = .ok (.bipush 6, 2) := by decide +kernel
theorem dX5_init_15 : decode cX5_init 15 = .ok (.newarray .int, 2) := by decide +kernel
theorem dX5_init_17 : decode cX5_init 17 = .ok (.putfield 15, 3) := by decide +kernel
theorem dX5_init_20 : decode cX5_init 20 = .ok (.aload_n 0, 1) := by decide +kernel
theorem dX5_init_21 : decode cX5_init 21 = .ok (.bipush 6, 2) := by decide +kernel
theorem dX5_init_23 : decode cX5_init 23 = .ok (.newarray .int, 2) := by decide +kernel
theorem dX5_init_25 : decode cX5_init 25 = .ok (.putfield 18, 3) := by decide +kernel
theorem dX5_init_28 : decode cX5_init 28 = .ok (.aload_n 0, 1) := by decide +kernel
theorem dX5_init_29 : decode cX5_init 29 = .ok (.iconst 4, 1) := by decide +kernel
theorem dX5_init_30 : decode cX5_init 30 = .ok (.newarray .int, 2) := by decide +kernel
theorem dX5_init_32 : decode cX5_init 32 = .ok (.putfield 21, 3) := by decide +kernel
theorem dX5_init_35 : decode cX5_init 35 = .ok (.aload_n 0, 1) := by decide +kernel
theorem dX5_init_36 : decode cX5_init 36 = .ok (.invokevirtual 24, 3) := by decide +kernel
theorem dX5_init_39 : decode cX5_init 39 = .ok (.return_, 1) := by decide +kernel
theorem dX5_reset_0 : decode cX5_reset 0 = .ok (.aload_n 0, 1) := by decide +kernel
theorem dX5_reset_1 : decode cX5_reset 1 = .ok (.iconst 0, 1) := by decide +kernel
theorem dX5_reset_2 : decode cX5_reset 2 = .ok (.putfield 27, 3) := by decide +kernel
theorem dX5_reset_5 : decode cX5_reset 5 = .ok (.aload_n 0, 1) := by decide +kernel
theorem dX5_reset_6 : decode cX5_reset 6 = .ok (.iconst 0, 1) := by decide +kernel
theorem dX5_reset_7 : decode cX5_reset 7 = .ok (.putfield 31, 3) := by decide +kernel
theorem dX5_reset_10 : decode cX5_reset 10 = .ok (.aload_n 0, 1) := by decide +kernel
theorem dX5_reset_11 : decode cX5_reset 11 = .ok (.iconst 0, 1) := by decide +kernel
theorem dX5_reset_12 : decode cX5_reset 12 = .ok (.putfield 34, 3) := by decide +kernel
theorem dX5_reset_15 : decode cX5_reset 15 = .ok (.aload_n 0, 1) := by decide +kernel
theorem dX5_reset_16 : decode cX5_reset 16 = .ok (.bipush 12, 2) := by decide +kernel
theorem dX5_reset_18 : decode cX5_reset 18 = .ok (.putfield 37, 3) := by decide +kernel
theorem dX5_reset_21 : decode cX5_reset 21 = .ok (.aload_n 0, 1) := by decide +kernel
theorem dX5_reset_22 : decode cX5_reset 22 = .ok (.iconst 3, 1) := by decide +kernel
theorem dX5_reset_23 : decode cX5_reset 23 = .ok (.putfield 40, 3) := by decide +kernel
theorem dX5_reset_26 : decode cX5_reset 26 = .ok (.aload_n 0, 1) := by decide +kernel
theorem dX5_reset_27 : decode cX5_reset 27 = .ok (.iconst 4, 1) := by decide +kernel
theorem dX5_reset_28 : decode cX5_reset 28 = .ok (.putfield 43, 3) := by decide +kernel
theorem dX5_reset_31 : decode cX5_reset 31 = .ok (.aload_n 0, 1) := by decide +kernel
theorem dX5_reset_32 : decode cX5_reset 32 = .ok (.iconst 2, 1) := by decide +kernel
theorem dX5_reset_33 : decode cX5_reset 33 = .ok (.putfield 46, 3) := by decide +kernel
theorem dX5_reset_36 : decode cX5_reset 36 = .ok (.return_, 1) := by decide +kernel
theorem dX5_copy_0 : decode cX5_copy 0 = .ok (.aload_n 0, 1) := by decide +kernel
theorem dX5_copy_1 : decode cX5_copy 1 = .ok (.aload_n 1, 1) := by decide +kernel
theorem dX5_copy_2 : decode cX5_copy 2 = .ok (.getfield 27, 3) := by decide +kernel
theorem dX5_copy_5 : decode cX5_copy 5 = .ok (.putfield 27, 3) := by decide +kernel
theorem dX5_copy_8 : decode cX5_copy 8 = .ok (.aload_n 0, 1) := by decide +kernel
theorem dX5_copy_9 : decode cX5_copy 9 = .ok (.aload_n 1, 1) := by decide +kernel
theorem dX5_copy_10 : decode cX5_copy 10 = .ok (.getfield 31, 3) := by decide +kernel
theorem dX5_copy_13 : decode cX5_copy 13 = .ok (.putfield 31, 3) := by decide +kernel
theorem dX5_copy_16 : decode cX5_copy 16 = .ok (.aload_n 0, 1) := by decide +kernel
theorem dX5_copy_17 : decode cX5_copy 17 = .ok (.aload_n 1, 1) := by decide +kernel
theorem dX5_copy_18 : decode cX5_copy 18 = .ok (.getfield 34, 3) := by decide +kernel
theorem dX5_copy_21 : decode cX5_copy 21 = .ok (.putfield 34, 3) := by decide +kernel
theorem dX5_copy_24 : decode cX5_copy 24 = .ok (.aload_n 0, 1) := by decide +kernel
theorem dX5_copy_25 : decode cX5_copy 25 = .ok (.aload_n 1, 1) := by decide +kernel
theorem dX5_copy_26 : decode cX5_copy 26 = .ok (.getfield 37, 3) := by decide +kernel
theorem dX5_copy_29 : decode cX5_copy 29 = .ok (.putfield 37, 3) := by decide +kernel
theorem dX5_copy_32 : decode cX5_copy 32 = .ok (.aload_n 0, 1) := by decide +kernel
theorem dX5_copy_33 : decode cX5_copy 33 = .ok (.aload_n 1, 1) := by decide +kernel
theorem dX5_copy_34 : decode cX5_copy 34 = .ok (.getfield 40, 3) := by decide +kernel
theorem dX5_copy_37 : decode cX5_copy 37 = .ok (.putfield 40, 3) := by decide +kernel
theorem dX5_copy_40 : decode cX5_copy 40 = .ok (.aload_n 0, 1) := by decide +kernel
theorem dX5_copy_41 : decode cX5_copy 41 = .ok (.aload_n 1, 1) := by decide +kernel
theorem dX5_copy_42 : decode cX5_copy 42 = .ok (.getfield 43, 3) := by decide +kernel
theorem dX5_copy_45 : decode cX5_copy 45 = .ok (.putfield 43, 3) := by decide +kernel
theorem dX5_copy_48 : decode cX5_copy 48 = .ok (.aload_n 0, 1) := by decide +kernel
theorem dX5_copy_49 : decode cX5_copy 49 = .ok (.aload_n 1, 1) := by decide +kernel
theorem dX5_copy_50 : decode cX5_copy 50 = .ok (.getfield 46, 3) := by decide +kernel
theorem dX5_copy_53 : decode cX5_copy 53 = .ok (.putfield 46, 3) := by decide +kernel
theorem dX5_copy_56 : decode cX5_copy 56 = .ok (.aload_n 1, 1) := by decide +kernel
theorem dX5_copy_57 : decode cX5_copy 57 = .ok (.getfield 9, 3) := by decide +kernel
theorem dX5_copy_60 : decode cX5_copy 60 = .ok (.iconst 0, 1) := by decide +kernel
theorem dX5_copy_61 : decode cX5_copy 61 = .ok (.aload_n 0, 1) := by decide +kernel
theorem dX5_copy_62 : decode cX5_copy 62 = .ok (.getfield 9, 3) := by decide +kernel
theorem dX5_copy_65 : decode cX5_copy 65 = .ok (.iconst 0, 1) := by decide +kernel
theorem dX5_copy_66 : decode cX5_copy 66 = .ok (.bipush 6, 2) := by decide +kernel
theorem dX5_copy_68 : decode cX5_copy 68 = .ok (.invokestatic 49, 3) := by decide +kernel
theorem dX5_copy_71 : decode cX5_copy 71 = .ok (.aload_n 1, 1) := by decide +kernel
theorem dX5_copy_72 : decode cX5_copy 72 = .ok (.getfield 15, 3) := by decide +kernel
theorem dX5_copy_75 : decode cX5_copy 75 = .ok (.iconst 0, 1) := by decide +kernel
theorem dX5_copy_76 : decode cX5_copy 76 = .ok (.aload_n 0, 1) := by decide +kernel
theorem dX5_copy_77 : decode cX5_copy 77 = .ok (.getfield 15, 3) := by decide +kernel
theorem dX5_copy_80 : decode cX5_copy 80 = .ok (.iconst 0, 1) := by decide +kernel
theorem dX5_copy_81 : decode cX5_copy 81 = .ok (.bipush 6, 2) := by decide +kernel
theorem dX5_copy_83 : decode cX5_copy 83 = .ok (.invokestatic 49, 3) := by decide +kernel
theorem dX5_copy_86 : decode cX5_copy 86 = .ok (.aload_n 1, 1) := by decide +kernel
theorem dX5_copy_87 : decode cX5_copy 87 = .ok (.getfield 18, 3) := by decide +kernel
theorem dX5_copy_90 : decode cX5_copy 90 = .ok (.iconst 0, 1) := by decide +kernel
theorem dX5_copy_91 : decode cX5_copy 91 = .ok (.aload_n 0, 1) := by decide +kernel
theorem dX5_copy_92 : decode cX5_copy 92 = .ok (.getfield 18, 3) := by decide +kernel
theorem dX5_copy_95 : decode cX5_copy 95 = .ok (.iconst 0, 1) := by decide +kernel
theorem dX5_copy_96 : decode cX5_copy 96 = .ok (.bipush 6, 2) := by decide +kernel
theorem dX5_copy_98 : decode cX5_copy 98 = .ok (.invokestatic 49, 3) := by decide +kernel
theorem dX5_copy_101 : decode cX5_copy 101 = .ok (.aload_n 1, 1) := by decide +kernel
theorem dX5_copy_102 : decode cX5_copy 102 = .ok (.getfield 21, 3) := by decide +kernel
theorem dX5_copy_105 : decode cX5_copy 105 = .ok (.iconst 0, 1) := by decide +kernel
theorem dX5_copy_106 : decode cX5_copy 106 = .ok (.aload_n 0, 1) := by decide +kernel
theorem dX5_copy_107 : decode cX5_copy 107 = .ok (.getfield 21, 3) := by decide +kernel
theorem dX5_copy_110 : decode cX5_copy 110 = .ok (.iconst 0, 1) := by decide +kernel
theorem dX5_copy_111 : decode cX5_copy 111 = .ok (.iconst 4, 1) := by decide +kernel
theorem dX5_copy_112 : decode cX5_copy 112 = .ok (.invokestatic 49, 3) := by decide +kernel
theorem dX5_copy_115 : decode cX5_copy 115 = .ok (.return_, 1) := by decide +kernel
theorem dX5_hasRoomFor_0 : decode cX5_hasRoomFor 0 = .ok (.iload_n 1, 1) := by decide +kernel
theorem dX5_hasRoomFor_1 : decode cX5_hasRoomFor 1 = .ok (.tableswitch 83 1 6 #[39, 54, 54, 54, 54, 69], 39) := by decide +kernel
theorem dX5_hasRoomFor_40 : decode cX5_hasRoomFor 40 = .ok (.aload_n 0, 1) := by decide +kernel
theorem dX5_hasRoomFor_41 : decode cX5_hasRoomFor 41 = .ok (.getfield 27, 3) := by decide +kernel
theorem dX5_hasRoomFor_44 : decode cX5_hasRoomFor 44 = .ok (.bipush 6, 2) := by decide +kernel
theorem dX5_hasRoomFor_46 : decode cX5_hasRoomFor 46 = .ok (.if_icmp .ge 7, 3) := by decide +kernel
theorem dX5_hasRoomFor_49 : decode cX5_hasRoomFor 49 = .ok (.iconst 1, 1) := by decide +kernel
theorem dX5_hasRoomFor_50 : decode cX5_hasRoomFor 50 = .ok (.goto 4, 3) := by decide +kernel
theorem dX5_hasRoomFor_53 : decode cX5_hasRoomFor 53 = .ok (.iconst 0, 1) := by decide +kernel
theorem dX5_hasRoomFor_54 : decode cX5_hasRoomFor 54 = .ok (.ireturn, 1) := by decide +kernel
theorem dX5_hasRoomFor_55 : decode cX5_hasRoomFor 55 = .ok (.aload_n 0, 1) := by decide +kernel
theorem dX5_hasRoomFor_56 : decode cX5_hasRoomFor 56 = .ok (.getfield 31, 3) := by decide +kernel
theorem dX5_hasRoomFor_59 : decode cX5_hasRoomFor 59 = .ok (.bipush 6, 2) := by decide +kernel
theorem dX5_hasRoomFor_61 : decode cX5_hasRoomFor 61 = .ok (.if_icmp .ge 7, 3) := by decide +kernel
theorem dX5_hasRoomFor_64 : decode cX5_hasRoomFor 64 = .ok (.iconst 1, 1) := by decide +kernel
theorem dX5_hasRoomFor_65 : decode cX5_hasRoomFor 65 = .ok (.goto 4, 3) := by decide +kernel
theorem dX5_hasRoomFor_68 : decode cX5_hasRoomFor 68 = .ok (.iconst 0, 1) := by decide +kernel
theorem dX5_hasRoomFor_69 : decode cX5_hasRoomFor 69 = .ok (.ireturn, 1) := by decide +kernel
theorem dX5_hasRoomFor_70 : decode cX5_hasRoomFor 70 = .ok (.aload_n 0, 1) := by decide +kernel
theorem dX5_hasRoomFor_71 : decode cX5_hasRoomFor 71 = .ok (.getfield 34, 3) := by decide +kernel
theorem dX5_hasRoomFor_74 : decode cX5_hasRoomFor 74 = .ok (.iconst 4, 1) := by decide +kernel
theorem dX5_hasRoomFor_75 : decode cX5_hasRoomFor 75 = .ok (.if_icmp .ge 7, 3) := by decide +kernel
theorem dX5_hasRoomFor_78 : decode cX5_hasRoomFor 78 = .ok (.iconst 1, 1) := by decide +kernel
theorem dX5_hasRoomFor_79 : decode cX5_hasRoomFor 79 = .ok (.goto 4, 3) := by decide +kernel
theorem dX5_hasRoomFor_82 : decode cX5_hasRoomFor 82 = .ok (.iconst 0, 1) := by decide +kernel
theorem dX5_hasRoomFor_83 : decode cX5_hasRoomFor 83 = .ok (.ireturn, 1) := by decide +kernel
theorem dX5_hasRoomFor_84 : decode cX5_hasRoomFor 84 = .ok (.iconst 1, 1) := by decide +kernel
theorem dX5_hasRoomFor_85 : decode cX5_hasRoomFor 85 = .ok (.ireturn, 1) := by decide +kernel
theorem dX5_tell_0 : decode cX5_tell 0 = .ok (.aload_n 0, 1) := by decide +kernel
theorem dX5_tell_1 : decode cX5_tell 1 = .ok (.iload_n 1, 1) := by decide +kernel
theorem dX5_tell_2 : decode cX5_tell 2 = .ok (.invokevirtual 55, 3) := by decide +kernel
theorem dX5_tell_5 : decode cX5_tell 5 = .ok (.ifCond .ne 4, 3) := by decide +kernel
theorem dX5_tell_8 : decode cX5_tell 8 = .ok (.return_, 1) := by decide +kernel
theorem dX5_tell_9 : decode cX5_tell 9 = .ok (.iload_n 1, 1) := by decide +kernel
theorem dX5_tell_10 : decode cX5_tell 10 = .ok (.tableswitch 173 0 10 #[58, 65, 85, 94, 103, 112, 121, 141, 149, 157, 165], 58) := by decide +kernel
theorem dX5_tell_68 : decode cX5_tell 68 = .ok (.aload_n 0, 1) := by decide +kernel
theorem dX5_tell_69 : decode cX5_tell 69 = .ok (.invokevirtual 24, 3) := by decide +kernel
theorem dX5_tell_72 : decode cX5_tell 72 = .ok (.goto 111, 3) := by decide +kernel
theorem dX5_tell_75 : decode cX5_tell 75 = .ok (.aload_n 0, 1) := by decide +kernel
theorem dX5_tell_76 : decode cX5_tell 76 = .ok (.getfield 9, 3) := by decide +kernel
theorem dX5_tell_79 : decode cX5_tell 79 = .ok (.aload_n 0, 1) := by decide +kernel
theorem dX5_tell_80 : decode cX5_tell 80 = .ok (.dup, 1) := by decide +kernel
theorem dX5_tell_81 : decode cX5_tell 81 = .ok (.getfield 27, 3) := by decide +kernel
theorem dX5_tell_84 : decode cX5_tell 84 = .ok (.dup_x1, 1) := by decide +kernel
theorem dX5_tell_85 : decode cX5_tell 85 = .ok (.iconst 1, 1) := by decide +kernel
theorem dX5_tell_86 : decode cX5_tell 86 = .ok (.iadd, 1) := by decide +kernel
theorem dX5_tell_87 : decode cX5_tell 87 = .ok (.putfield 27, 3) := by decide +kernel
theorem dX5_tell_90 : decode cX5_tell 90 = .ok (.iload_n 2, 1) := by decide +kernel
theorem dX5_tell_91 : decode cX5_tell 91 = .ok (.iastore, 1) := by decide +kernel
theorem dX5_tell_92 : decode cX5_tell 92 = .ok (.goto 91, 3) := by decide +kernel
theorem dX5_tell_95 : decode cX5_tell 95 = .ok (.aload_n 0, 1) := by decide +kernel
theorem dX5_tell_96 : decode cX5_tell 96 = .ok (.iconst 0, 1) := by decide +kernel
theorem dX5_tell_97 : decode cX5_tell 97 = .ok (.iload_n 2, 1) := by decide +kernel
theorem dX5_tell_98 : decode cX5_tell 98 = .ok (.invokevirtual 59, 3) := by decide +kernel
theorem dX5_tell_101 : decode cX5_tell 101 = .ok (.goto 82, 3) := by decide +kernel
theorem dX5_tell_104 : decode cX5_tell 104 = .ok (.aload_n 0, 1) := by decide +kernel
theorem dX5_tell_105 : decode cX5_tell 105 = .ok (.iconst 1, 1) := by decide +kernel
theorem dX5_tell_106 : decode cX5_tell 106 = .ok (.iload_n 2, 1) := by decide +kernel
theorem dX5_tell_107 : decode cX5_tell 107 = .ok (.invokevirtual 59, 3) := by decide +kernel
theorem dX5_tell_110 : decode cX5_tell 110 = .ok (.goto 73, 3) := by decide +kernel
theorem dX5_tell_113 : decode cX5_tell 113 = .ok (.aload_n 0, 1) := by decide +kernel
theorem dX5_tell_114 : decode cX5_tell 114 = .ok (.iconst 2, 1) := by decide +kernel
theorem dX5_tell_115 : decode cX5_tell 115 = .ok (.iload_n 2, 1) := by decide +kernel
theorem dX5_tell_116 : decode cX5_tell 116 = .ok (.invokevirtual 59, 3) := by decide +kernel
theorem dX5_tell_119 : decode cX5_tell 119 = .ok (.goto 64, 3) := by decide +kernel
theorem dX5_tell_122 : decode cX5_tell 122 = .ok (.aload_n 0, 1) := by decide +kernel
theorem dX5_tell_123 : decode cX5_tell 123 = .ok (.iconst 3, 1) := by decide +kernel
theorem dX5_tell_124 : decode cX5_tell 124 = .ok (.iload_n 2, 1) := by decide +kernel
theorem dX5_tell_125 : decode cX5_tell 125 = .ok (.invokevirtual 59, 3) := by decide +kernel
theorem dX5_tell_128 : decode cX5_tell 128 = .ok (.goto 55, 3) := by decide +kernel
theorem dX5_tell_131 : decode cX5_tell 131 = .ok (.aload_n 0, 1) := by decide +kernel
theorem dX5_tell_132 : decode cX5_tell 132 = .ok (.getfield 21, 3) := by decide +kernel
theorem dX5_tell_135 : decode cX5_tell 135 = .ok (.aload_n 0, 1) := by decide +kernel
theorem dX5_tell_136 : decode cX5_tell 136 = .ok (.dup, 1) := by decide +kernel
theorem dX5_tell_137 : decode cX5_tell 137 = .ok (.getfield 34, 3) := by decide +kernel
theorem dX5_tell_140 : decode cX5_tell 140 = .ok (.dup_x1, 1) := by decide +kernel
theorem dX5_tell_141 : decode cX5_tell 141 = .ok (.iconst 1, 1) := by decide +kernel
theorem dX5_tell_142 : decode cX5_tell 142 = .ok (.iadd, 1) := by decide +kernel
theorem dX5_tell_143 : decode cX5_tell 143 = .ok (.putfield 34, 3) := by decide +kernel
theorem dX5_tell_146 : decode cX5_tell 146 = .ok (.iload_n 2, 1) := by decide +kernel
theorem dX5_tell_147 : decode cX5_tell 147 = .ok (.iastore, 1) := by decide +kernel
theorem dX5_tell_148 : decode cX5_tell 148 = .ok (.goto 35, 3) := by decide +kernel
theorem dX5_tell_151 : decode cX5_tell 151 = .ok (.aload_n 0, 1) := by decide +kernel
theorem dX5_tell_152 : decode cX5_tell 152 = .ok (.iload_n 2, 1) := by decide +kernel
theorem dX5_tell_153 : decode cX5_tell 153 = .ok (.putfield 37, 3) := by decide +kernel
theorem dX5_tell_156 : decode cX5_tell 156 = .ok (.goto 27, 3) := by decide +kernel
theorem dX5_tell_159 : decode cX5_tell 159 = .ok (.aload_n 0, 1) := by decide +kernel
theorem dX5_tell_160 : decode cX5_tell 160 = .ok (.iload_n 2, 1) := by decide +kernel
theorem dX5_tell_161 : decode cX5_tell 161 = .ok (.putfield 40, 3) := by decide +kernel
theorem dX5_tell_164 : decode cX5_tell 164 = .ok (.goto 19, 3) := by decide +kernel
theorem dX5_tell_167 : decode cX5_tell 167 = .ok (.aload_n 0, 1) := by decide +kernel
theorem dX5_tell_168 : decode cX5_tell 168 = .ok (.iload_n 2, 1) := by decide +kernel
theorem dX5_tell_169 : decode cX5_tell 169 = .ok (.putfield 43, 3) := by decide +kernel
theorem dX5_tell_172 : decode cX5_tell 172 = .ok (.goto 11, 3) := by decide +kernel
theorem dX5_tell_175 : decode cX5_tell 175 = .ok (.aload_n 0, 1) := by decide +kernel
theorem dX5_tell_176 : decode cX5_tell 176 = .ok (.iload_n 2, 1) := by decide +kernel
theorem dX5_tell_177 : decode cX5_tell 177 = .ok (.putfield 46, 3) := by decide +kernel
theorem dX5_tell_180 : decode cX5_tell 180 = .ok (.goto 3, 3) := by decide +kernel
theorem dX5_tell_183 : decode cX5_tell 183 = .ok (.return_, 1) := by decide +kernel
theorem dX5_addSheep_0 : decode cX5_addSheep 0 = .ok (.aload_n 0, 1) := by decide +kernel
theorem dX5_addSheep_1 : decode cX5_addSheep 1 = .ok (.getfield 15, 3) := by decide +kernel
theorem dX5_addSheep_4 : decode cX5_addSheep 4 = .ok (.aload_n 0, 1) := by decide +kernel
theorem dX5_addSheep_5 : decode cX5_addSheep 5 = .ok (.getfield 31, 3) := by decide +kernel
theorem dX5_addSheep_8 : decode cX5_addSheep 8 = .ok (.iload_n 1, 1) := by decide +kernel
theorem dX5_addSheep_9 : decode cX5_addSheep 9 = .ok (.iastore, 1) := by decide +kernel
theorem dX5_addSheep_10 : decode cX5_addSheep 10 = .ok (.aload_n 0, 1) := by decide +kernel
theorem dX5_addSheep_11 : decode cX5_addSheep 11 = .ok (.getfield 18, 3) := by decide +kernel
theorem dX5_addSheep_14 : decode cX5_addSheep 14 = .ok (.aload_n 0, 1) := by decide +kernel
theorem dX5_addSheep_15 : decode cX5_addSheep 15 = .ok (.getfield 31, 3) := by decide +kernel
theorem dX5_addSheep_18 : decode cX5_addSheep 18 = .ok (.iload_n 2, 1) := by decide +kernel
theorem dX5_addSheep_19 : decode cX5_addSheep 19 = .ok (.iastore, 1) := by decide +kernel
theorem dX5_addSheep_20 : decode cX5_addSheep 20 = .ok (.aload_n 0, 1) := by decide +kernel
theorem dX5_addSheep_21 : decode cX5_addSheep 21 = .ok (.dup, 1) := by decide +kernel
theorem dX5_addSheep_22 : decode cX5_addSheep 22 = .ok (.getfield 31, 3) := by decide +kernel
theorem dX5_addSheep_25 : decode cX5_addSheep 25 = .ok (.iconst 1, 1) := by decide +kernel
theorem dX5_addSheep_26 : decode cX5_addSheep 26 = .ok (.iadd, 1) := by decide +kernel
theorem dX5_addSheep_27 : decode cX5_addSheep 27 = .ok (.putfield 31, 3) := by decide +kernel
theorem dX5_addSheep_30 : decode cX5_addSheep 30 = .ok (.return_, 1) := by decide +kernel
theorem dX5_hasMan_0 : decode cX5_hasMan 0 = .ok (.iload_n 1, 1) := by decide +kernel
theorem dX5_hasMan_1 : decode cX5_hasMan 1 = .ok (.ifCond .lt 15, 3) := by decide +kernel
theorem dX5_hasMan_4 : decode cX5_hasMan 4 = .ok (.iload_n 1, 1) := by decide +kernel
theorem dX5_hasMan_5 : decode cX5_hasMan 5 = .ok (.aload_n 0, 1) := by decide +kernel
theorem dX5_hasMan_6 : decode cX5_hasMan 6 = .ok (.getfield 27, 3) := by decide +kernel
theorem dX5_hasMan_9 : decode cX5_hasMan 9 = .ok (.if_icmp .ge 7, 3) := by decide +kernel
theorem dX5_hasMan_12 : decode cX5_hasMan 12 = .ok (.iconst 1, 1) := by decide +kernel
theorem dX5_hasMan_13 : decode cX5_hasMan 13 = .ok (.goto 4, 3) := by decide +kernel
theorem dX5_hasMan_16 : decode cX5_hasMan 16 = .ok (.iconst 0, 1) := by decide +kernel
theorem dX5_hasMan_17 : decode cX5_hasMan 17 = .ok (.ireturn, 1) := by decide +kernel
theorem dX5_hasSheep_0 : decode cX5_hasSheep 0 = .ok (.iload_n 1, 1) := by decide +kernel
theorem dX5_hasSheep_1 : decode cX5_hasSheep 1 = .ok (.ifCond .lt 15, 3) := by decide +kernel
theorem dX5_hasSheep_4 : decode cX5_hasSheep 4 = .ok (.iload_n 1, 1) := by decide +kernel
theorem dX5_hasSheep_5 : decode cX5_hasSheep 5 = .ok (.aload_n 0, 1) := by decide +kernel
theorem dX5_hasSheep_6 : decode cX5_hasSheep 6 = .ok (.getfield 31, 3) := by decide +kernel
theorem dX5_hasSheep_9 : decode cX5_hasSheep 9 = .ok (.if_icmp .ge 7, 3) := by decide +kernel
theorem dX5_hasSheep_12 : decode cX5_hasSheep 12 = .ok (.iconst 1, 1) := by decide +kernel
theorem dX5_hasSheep_13 : decode cX5_hasSheep 13 = .ok (.goto 4, 3) := by decide +kernel
theorem dX5_hasSheep_16 : decode cX5_hasSheep 16 = .ok (.iconst 0, 1) := by decide +kernel
theorem dX5_hasSheep_17 : decode cX5_hasSheep 17 = .ok (.ireturn, 1) := by decide +kernel
theorem dX5_hasNeighbour_0 : decode cX5_hasNeighbour 0 = .ok (.iload_n 1, 1) := by decide +kernel
theorem dX5_hasNeighbour_1 : decode cX5_hasNeighbour 1 = .ok (.ifCond .lt 15, 3) := by decide +kernel
theorem dX5_hasNeighbour_4 : decode cX5_hasNeighbour 4 = .ok (.iload_n 1, 1) := by decide +kernel
theorem dX5_hasNeighbour_5 : decode cX5_hasNeighbour 5 = .ok (.aload_n 0, 1) := by decide +kernel
theorem dX5_hasNeighbour_6 : decode cX5_hasNeighbour 6 = .ok (.getfield 34, 3) := by decide +kernel
theorem dX5_hasNeighbour_9 : decode cX5_hasNeighbour 9 = .ok (.if_icmp .ge 7, 3) := by decide +kernel
theorem dX5_hasNeighbour_12 : decode cX5_hasNeighbour 12 = .ok (.iconst 1, 1) := by decide +kernel
theorem dX5_hasNeighbour_13 : decode cX5_hasNeighbour 13 = .ok (.goto 4, 3) := by decide +kernel
theorem dX5_hasNeighbour_16 : decode cX5_hasNeighbour 16 = .ok (.iconst 0, 1) := by decide +kernel
theorem dX5_hasNeighbour_17 : decode cX5_hasNeighbour 17 = .ok (.ireturn, 1) := by decide +kernel
theorem dX5_allSheep_0 : decode cX5_allSheep 0 = .ok (.aload_n 0, 1) := by decide +kernel
theorem dX5_allSheep_1 : decode cX5_allSheep 1 = .ok (.getfield 31, 3) := by decide +kernel
theorem dX5_allSheep_4 : decode cX5_allSheep 4 = .ok (.invokestatic 63, 3) := by decide +kernel
theorem dX5_allSheep_7 : decode cX5_allSheep 7 = .ok (.ireturn, 1) := by decide +kernel
theorem dX5_bears_0 : decode cX5_bears 0 = .ok (.aload_n 0, 1) := by decide +kernel
theorem dX5_bears_1 : decode cX5_bears 1 = .ok (.iload_n 1, 1) := by decide +kernel
theorem dX5_bears_2 : decode cX5_bears 2 = .ok (.invokevirtual 67, 3) := by decide +kernel
theorem dX5_bears_5 : decode cX5_bears 5 = .ok (.ifCond .eq 21, 3) := by decide +kernel
theorem dX5_bears_8 : decode cX5_bears 8 = .ok (.aload_n 0, 1) := by decide +kernel
theorem dX5_bears_9 : decode cX5_bears 9 = .ok (.getfield 15, 3) := by decide +kernel
theorem dX5_bears_12 : decode cX5_bears 12 = .ok (.iload_n 1, 1) := by decide +kernel
theorem dX5_bears_13 : decode cX5_bears 13 = .ok (.iaload, 1) := by decide +kernel
theorem dX5_bears_14 : decode cX5_bears 14 = .ok (.aload_n 0, 1) := by decide +kernel
theorem dX5_bears_15 : decode cX5_bears 15 = .ok (.getfield 18, 3) := by decide +kernel
theorem dX5_bears_18 : decode cX5_bears 18 = .ok (.iload_n 1, 1) := by decide +kernel
theorem dX5_bears_19 : decode cX5_bears 19 = .ok (.iaload, 1) := by decide +kernel
theorem dX5_bears_20 : decode cX5_bears 20 = .ok (.invokestatic 70, 3) := by decide +kernel
theorem dX5_bears_23 : decode cX5_bears 23 = .ok (.goto 4, 3) := by decide +kernel
theorem dX5_bears_26 : decode cX5_bears 26 = .ok (.iconst 0, 1) := by decide +kernel
theorem dX5_bears_27 : decode cX5_bears 27 = .ok (.ireturn, 1) := by decide +kernel
theorem dX5_bearsMan_0 : decode cX5_bearsMan 0 = .ok (.aload_n 0, 1) := by decide +kernel
theorem dX5_bearsMan_1 : decode cX5_bearsMan 1 = .ok (.iload_n 1, 1) := by decide +kernel
theorem dX5_bearsMan_2 : decode cX5_bearsMan 2 = .ok (.invokevirtual 67, 3) := by decide +kernel
theorem dX5_bearsMan_5 : decode cX5_bearsMan 5 = .ok (.ifCond .eq 29, 3) := by decide +kernel
theorem dX5_bearsMan_8 : decode cX5_bearsMan 8 = .ok (.aload_n 0, 1) := by decide +kernel
theorem dX5_bearsMan_9 : decode cX5_bearsMan 9 = .ok (.iload_n 2, 1) := by decide +kernel
theorem dX5_bearsMan_10 : decode cX5_bearsMan 10 = .ok (.invokevirtual 74, 3) := by decide +kernel
theorem dX5_bearsMan_13 : decode cX5_bearsMan 13 = .ok (.ifCond .eq 21, 3) := by decide +kernel
theorem dX5_bearsMan_16 : decode cX5_bearsMan 16 = .ok (.aload_n 0, 1) := by decide +kernel
theorem dX5_bearsMan_17 : decode cX5_bearsMan 17 = .ok (.iload_n 1, 1) := by decide +kernel
theorem dX5_bearsMan_18 : decode cX5_bearsMan 18 = .ok (.invokevirtual 77, 3) := by decide +kernel
theorem dX5_bearsMan_21 : decode cX5_bearsMan 21 = .ok (.aload_n 0, 1) := by decide +kernel
theorem dX5_bearsMan_22 : decode cX5_bearsMan 22 = .ok (.getfield 9, 3) := by decide +kernel
theorem dX5_bearsMan_25 : decode cX5_bearsMan 25 = .ok (.iload_n 2, 1) := by decide +kernel
theorem dX5_bearsMan_26 : decode cX5_bearsMan 26 = .ok (.iaload, 1) := by decide +kernel
theorem dX5_bearsMan_27 : decode cX5_bearsMan 27 = .ok (.if_icmp .lt 7, 3) := by decide +kernel
theorem dX5_bearsMan_30 : decode cX5_bearsMan 30 = .ok (.iconst 1, 1) := by decide +kernel
theorem dX5_bearsMan_31 : decode cX5_bearsMan 31 = .ok (.goto 4, 3) := by decide +kernel
theorem dX5_bearsMan_34 : decode cX5_bearsMan 34 = .ok (.iconst 0, 1) := by decide +kernel
theorem dX5_bearsMan_35 : decode cX5_bearsMan 35 = .ok (.ireturn, 1) := by decide +kernel
theorem dX5_comers_0 : decode cX5_comers 0 = .ok (.iconst 0, 1) := by decide +kernel
theorem dX5_comers_1 : decode cX5_comers 1 = .ok (.istore_n 2, 1) := by decide +kernel
theorem dX5_comers_2 : decode cX5_comers 2 = .ok (.iconst 0, 1) := by decide +kernel
theorem dX5_comers_3 : decode cX5_comers 3 = .ok (.istore_n 3, 1) := by decide +kernel
theorem dX5_comers_4 : decode cX5_comers 4 = .ok (.iload_n 3, 1) := by decide +kernel
theorem dX5_comers_5 : decode cX5_comers 5 = .ok (.aload_n 0, 1) := by decide +kernel
theorem dX5_comers_6 : decode cX5_comers 6 = .ok (.getfield 34, 3) := by decide +kernel
theorem dX5_comers_9 : decode cX5_comers 9 = .ok (.if_icmp .ge 28, 3) := by decide +kernel
theorem dX5_comers_12 : decode cX5_comers 12 = .ok (.aload_n 0, 1) := by decide +kernel
theorem dX5_comers_13 : decode cX5_comers 13 = .ok (.getfield 21, 3) := by decide +kernel
theorem dX5_comers_16 : decode cX5_comers 16 = .ok (.iload_n 3, 1) := by decide +kernel
theorem dX5_comers_17 : decode cX5_comers 17 = .ok (.iaload, 1) := by decide +kernel
theorem dX5_comers_18 : decode cX5_comers 18 = .ok (.iload_n 1, 1) := by decide +kernel
theorem dX5_comers_19 : decode cX5_comers 19 = .ok (.invokestatic 80, 3) := by decide +kernel
theorem dX5_comers_22 : decode cX5_comers 22 = .ok (.ifCond .ne 9, 3) := by decide +kernel
theorem dX5_comers_25 : decode cX5_comers 25 = .ok (.iload_n 2, 1) := by decide +kernel
theorem dX5_comers_26 : decode cX5_comers 26 = .ok (.iconst 1, 1) := by decide +kernel
theorem dX5_comers_27 : decode cX5_comers 27 = .ok (.iload_n 3, 1) := by decide +kernel
theorem dX5_comers_28 : decode cX5_comers 28 = .ok (.ishl, 1) := by decide +kernel
theorem dX5_comers_29 : decode cX5_comers 29 = .ok (.ior, 1) := by decide +kernel
theorem dX5_comers_30 : decode cX5_comers 30 = .ok (.istore_n 2, 1) := by decide +kernel
theorem dX5_comers_31 : decode cX5_comers 31 = .ok (.iinc 3 1, 3) := by decide +kernel
theorem dX5_comers_34 : decode cX5_comers 34 = .ok (.goto (-30), 3) := by decide +kernel
theorem dX5_comers_37 : decode cX5_comers 37 = .ok (.iload_n 2, 1) := by decide +kernel
theorem dX5_comers_38 : decode cX5_comers 38 = .ok (.ireturn, 1) := by decide +kernel
theorem dX5_namesFor_0 : decode cX5_namesFor 0 = .ok (.iconst 0, 1) := by decide +kernel
theorem dX5_namesFor_1 : decode cX5_namesFor 1 = .ok (.istore_n 2, 1) := by decide +kernel
theorem dX5_namesFor_2 : decode cX5_namesFor 2 = .ok (.iconst 0, 1) := by decide +kernel
theorem dX5_namesFor_3 : decode cX5_namesFor 3 = .ok (.istore_n 3, 1) := by decide +kernel
theorem dX5_namesFor_4 : decode cX5_namesFor 4 = .ok (.iload_n 3, 1) := by decide +kernel
theorem dX5_namesFor_5 : decode cX5_namesFor 5 = .ok (.bipush 8, 2) := by decide +kernel
theorem dX5_namesFor_7 : decode cX5_namesFor 7 = .ok (.if_icmp .ge 24, 3) := by decide +kernel
theorem dX5_namesFor_10 : decode cX5_namesFor 10 = .ok (.aload_n 0, 1) := by decide +kernel
theorem dX5_namesFor_11 : decode cX5_namesFor 11 = .ok (.iload_n 3, 1) := by decide +kernel
theorem dX5_namesFor_12 : decode cX5_namesFor 12 = .ok (.invokevirtual 84, 3) := by decide +kernel
theorem dX5_namesFor_15 : decode cX5_namesFor 15 = .ok (.iload_n 1, 1) := by decide +kernel
theorem dX5_namesFor_16 : decode cX5_namesFor 16 = .ok (.if_icmp .ne 9, 3) := by decide +kernel
theorem dX5_namesFor_19 : decode cX5_namesFor 19 = .ok (.iload_n 2, 1) := by decide +kernel
theorem dX5_namesFor_20 : decode cX5_namesFor 20 = .ok (.iconst 1, 1) := by decide +kernel
theorem dX5_namesFor_21 : decode cX5_namesFor 21 = .ok (.iload_n 3, 1) := by decide +kernel
theorem dX5_namesFor_22 : decode cX5_namesFor 22 = .ok (.ishl, 1) := by decide +kernel
theorem dX5_namesFor_23 : decode cX5_namesFor 23 = .ok (.ior, 1) := by decide +kernel
theorem dX5_namesFor_24 : decode cX5_namesFor 24 = .ok (.istore_n 2, 1) := by decide +kernel
theorem dX5_namesFor_25 : decode cX5_namesFor 25 = .ok (.iinc 3 1, 3) := by decide +kernel
theorem dX5_namesFor_28 : decode cX5_namesFor 28 = .ok (.goto (-24), 3) := by decide +kernel
theorem dX5_namesFor_31 : decode cX5_namesFor 31 = .ok (.iload_n 2, 1) := by decide +kernel
theorem dX5_namesFor_32 : decode cX5_namesFor 32 = .ok (.ireturn, 1) := by decide +kernel
theorem dX5_quietestName_0 : decode cX5_quietestName 0 = .ok (.iconst 0, 1) := by decide +kernel
theorem dX5_quietestName_1 : decode cX5_quietestName 1 = .ok (.istore_n 1, 1) := by decide +kernel
theorem dX5_quietestName_2 : decode cX5_quietestName 2 = .ok (.iconst 5, 1) := by decide +kernel
theorem dX5_quietestName_3 : decode cX5_quietestName 3 = .ok (.istore_n 2, 1) := by decide +kernel
theorem dX5_quietestName_4 : decode cX5_quietestName 4 = .ok (.iconst 0, 1) := by decide +kernel
theorem dX5_quietestName_5 : decode cX5_quietestName 5 = .ok (.istore_n 3, 1) := by decide +kernel
theorem dX5_quietestName_6 : decode cX5_quietestName 6 = .ok (.iload_n 3, 1) := by decide +kernel
theorem dX5_quietestName_7 : decode cX5_quietestName 7 = .ok (.bipush 8, 2) := by decide +kernel
theorem dX5_quietestName_9 : decode cX5_quietestName 9 = .ok (.if_icmp .ge 30, 3) := by decide +kernel
theorem dX5_quietestName_12 : decode cX5_quietestName 12 = .ok (.aload_n 0, 1) := by decide +kernel
theorem dX5_quietestName_13 : decode cX5_quietestName 13 = .ok (.iload_n 3, 1) := by decide +kernel
theorem dX5_quietestName_14 : decode cX5_quietestName 14 = .ok (.invokevirtual 84, 3) := by decide +kernel
theorem dX5_quietestName_17 : decode cX5_quietestName 17 = .ok (.invokestatic 87, 3) := by decide +kernel
theorem dX5_quietestName_20 : decode cX5_quietestName 20 = .ok (.istore 4, 2) := by decide +kernel
theorem dX5_quietestName_22 : decode cX5_quietestName 22 = .ok (.iload 4, 2) := by decide +kernel
theorem dX5_quietestName_24 : decode cX5_quietestName 24 = .ok (.iload_n 2, 1) := by decide +kernel
theorem dX5_quietestName_25 : decode cX5_quietestName 25 = .ok (.if_icmp .ge 8, 3) := by decide +kernel
theorem dX5_quietestName_28 : decode cX5_quietestName 28 = .ok (.iload 4, 2) := by decide +kernel
theorem dX5_quietestName_30 : decode cX5_quietestName 30 = .ok (.istore_n 2, 1) := by decide +kernel
theorem dX5_quietestName_31 : decode cX5_quietestName 31 = .ok (.iload_n 3, 1) := by decide +kernel
theorem dX5_quietestName_32 : decode cX5_quietestName 32 = .ok (.istore_n 1, 1) := by decide +kernel
theorem dX5_quietestName_33 : decode cX5_quietestName 33 = .ok (.iinc 3 1, 3) := by decide +kernel
theorem dX5_quietestName_36 : decode cX5_quietestName 36 = .ok (.goto (-30), 3) := by decide +kernel
theorem dX5_quietestName_39 : decode cX5_quietestName 39 = .ok (.iload_n 1, 1) := by decide +kernel
theorem dX5_quietestName_40 : decode cX5_quietestName 40 = .ok (.ireturn, 1) := by decide +kernel
theorem dJ6_bitCount_0f7a4_0 : decode cJ6_bitCount_0f7a4 0 = .ok (.iload_n 0, 1) := by decide +kernel
theorem dJ6_bitCount_0f7a4_1 : decode cJ6_bitCount_0f7a4 1 = .ok (.iload_n 0, 1) := by decide +kernel
theorem dJ6_bitCount_0f7a4_2 : decode cJ6_bitCount_0f7a4 2 = .ok (.iconst 1, 1) := by decide +kernel
theorem dJ6_bitCount_0f7a4_3 : decode cJ6_bitCount_0f7a4 3 = .ok (.iushr, 1) := by decide +kernel
theorem dJ6_bitCount_0f7a4_4 : decode cJ6_bitCount_0f7a4 4 = .ok (.ldc_w 265, 3) := by decide +kernel
theorem dJ6_bitCount_0f7a4_7 : decode cJ6_bitCount_0f7a4 7 = .ok (.iand, 1) := by decide +kernel
theorem dJ6_bitCount_0f7a4_8 : decode cJ6_bitCount_0f7a4 8 = .ok (.isub, 1) := by decide +kernel
theorem dJ6_bitCount_0f7a4_9 : decode cJ6_bitCount_0f7a4 9 = .ok (.istore_n 0, 1) := by decide +kernel
theorem dJ6_bitCount_0f7a4_10 : decode cJ6_bitCount_0f7a4 10 = .ok (.iload_n 0, 1) := by decide +kernel
theorem dJ6_bitCount_0f7a4_11 : decode cJ6_bitCount_0f7a4 11 = .ok (.ldc_w 266, 3) := by decide +kernel
theorem dJ6_bitCount_0f7a4_14 : decode cJ6_bitCount_0f7a4 14 = .ok (.iand, 1) := by decide +kernel
theorem dJ6_bitCount_0f7a4_15 : decode cJ6_bitCount_0f7a4 15 = .ok (.iload_n 0, 1) := by decide +kernel
theorem dJ6_bitCount_0f7a4_16 : decode cJ6_bitCount_0f7a4 16 = .ok (.iconst 2, 1) := by decide +kernel
theorem dJ6_bitCount_0f7a4_17 : decode cJ6_bitCount_0f7a4 17 = .ok (.iushr, 1) := by decide +kernel
theorem dJ6_bitCount_0f7a4_18 : decode cJ6_bitCount_0f7a4 18 = .ok (.ldc_w 266, 3) := by decide +kernel
theorem dJ6_bitCount_0f7a4_21 : decode cJ6_bitCount_0f7a4 21 = .ok (.iand, 1) := by decide +kernel
theorem dJ6_bitCount_0f7a4_22 : decode cJ6_bitCount_0f7a4 22 = .ok (.iadd, 1) := by decide +kernel
theorem dJ6_bitCount_0f7a4_23 : decode cJ6_bitCount_0f7a4 23 = .ok (.istore_n 0, 1) := by decide +kernel
theorem dJ6_bitCount_0f7a4_24 : decode cJ6_bitCount_0f7a4 24 = .ok (.iload_n 0, 1) := by decide +kernel
theorem dJ6_bitCount_0f7a4_25 : decode cJ6_bitCount_0f7a4 25 = .ok (.iload_n 0, 1) := by decide +kernel
theorem dJ6_bitCount_0f7a4_26 : decode cJ6_bitCount_0f7a4 26 = .ok (.iconst 4, 1) := by decide +kernel
theorem dJ6_bitCount_0f7a4_27 : decode cJ6_bitCount_0f7a4 27 = .ok (.iushr, 1) := by decide +kernel
theorem dJ6_bitCount_0f7a4_28 : decode cJ6_bitCount_0f7a4 28 = .ok (.iadd, 1) := by decide +kernel
theorem dJ6_bitCount_0f7a4_29 : decode cJ6_bitCount_0f7a4 29 = .ok (.ldc_w 267, 3) := by decide +kernel
theorem dJ6_bitCount_0f7a4_32 : decode cJ6_bitCount_0f7a4 32 = .ok (.iand, 1) := by decide +kernel
theorem dJ6_bitCount_0f7a4_33 : decode cJ6_bitCount_0f7a4 33 = .ok (.istore_n 0, 1) := by decide +kernel
theorem dJ6_bitCount_0f7a4_34 : decode cJ6_bitCount_0f7a4 34 = .ok (.iload_n 0, 1) := by decide +kernel
theorem dJ6_bitCount_0f7a4_35 : decode cJ6_bitCount_0f7a4 35 = .ok (.iload_n 0, 1) := by decide +kernel
theorem dJ6_bitCount_0f7a4_36 : decode cJ6_bitCount_0f7a4 36 = .ok (.bipush 8, 2) := by decide +kernel
theorem dJ6_bitCount_0f7a4_38 : decode cJ6_bitCount_0f7a4 38 = .ok (.iushr, 1) := by decide +kernel
theorem dJ6_bitCount_0f7a4_39 : decode cJ6_bitCount_0f7a4 39 = .ok (.iadd, 1) := by decide +kernel
theorem dJ6_bitCount_0f7a4_40 : decode cJ6_bitCount_0f7a4 40 = .ok (.istore_n 0, 1) := by decide +kernel
theorem dJ6_bitCount_0f7a4_41 : decode cJ6_bitCount_0f7a4 41 = .ok (.iload_n 0, 1) := by decide +kernel
theorem dJ6_bitCount_0f7a4_42 : decode cJ6_bitCount_0f7a4 42 = .ok (.iload_n 0, 1) := by decide +kernel
theorem dJ6_bitCount_0f7a4_43 : decode cJ6_bitCount_0f7a4 43 = .ok (.bipush 16, 2) := by decide +kernel
theorem dJ6_bitCount_0f7a4_45 : decode cJ6_bitCount_0f7a4 45 = .ok (.iushr, 1) := by decide +kernel
theorem dJ6_bitCount_0f7a4_46 : decode cJ6_bitCount_0f7a4 46 = .ok (.iadd, 1) := by decide +kernel
theorem dJ6_bitCount_0f7a4_47 : decode cJ6_bitCount_0f7a4 47 = .ok (.istore_n 0, 1) := by decide +kernel
theorem dJ6_bitCount_0f7a4_48 : decode cJ6_bitCount_0f7a4 48 = .ok (.iload_n 0, 1) := by decide +kernel
theorem dJ6_bitCount_0f7a4_49 : decode cJ6_bitCount_0f7a4 49 = .ok (.bipush 63, 2) := by decide +kernel
theorem dJ6_bitCount_0f7a4_51 : decode cJ6_bitCount_0f7a4 51 = .ok (.iand, 1) := by decide +kernel
theorem dJ6_bitCount_0f7a4_52 : decode cJ6_bitCount_0f7a4 52 = .ok (.ireturn, 1) := by decide +kernel
theorem dJ9_max_7cf53_0 : decode cJ9_max_7cf53 0 = .ok (.iload_n 0, 1) := by decide +kernel
theorem dJ9_max_7cf53_1 : decode cJ9_max_7cf53 1 = .ok (.iload_n 1, 1) := by decide +kernel
theorem dJ9_max_7cf53_2 : decode cJ9_max_7cf53 2 = .ok (.if_icmp .lt 7, 3) := by decide +kernel
theorem dJ9_max_7cf53_5 : decode cJ9_max_7cf53 5 = .ok (.iload_n 0, 1) := by decide +kernel
theorem dJ9_max_7cf53_6 : decode cJ9_max_7cf53 6 = .ok (.goto 4, 3) := by decide +kernel
theorem dJ9_max_7cf53_9 : decode cJ9_max_7cf53 9 = .ok (.iload_n 1, 1) := by decide +kernel
theorem dJ9_max_7cf53_10 : decode cJ9_max_7cf53 10 = .ok (.ireturn, 1) := by decide +kernel
theorem dJ9_min_7cf53_0 : decode cJ9_min_7cf53 0 = .ok (.iload_n 0, 1) := by decide +kernel
theorem dJ9_min_7cf53_1 : decode cJ9_min_7cf53 1 = .ok (.iload_n 1, 1) := by decide +kernel
theorem dJ9_min_7cf53_2 : decode cJ9_min_7cf53 2 = .ok (.if_icmp .gt 7, 3) := by decide +kernel
theorem dJ9_min_7cf53_5 : decode cJ9_min_7cf53 5 = .ok (.iload_n 0, 1) := by decide +kernel
theorem dJ9_min_7cf53_6 : decode cJ9_min_7cf53 6 = .ok (.goto 4, 3) := by decide +kernel
theorem dJ9_min_7cf53_9 : decode cJ9_min_7cf53 9 = .ok (.iload_n 1, 1) := by decide +kernel
theorem dJ9_min_7cf53_10 : decode cJ9_min_7cf53 10 = .ok (.ireturn, 1) := by decide +kernel
theorem dJ0_length_8abf5_0 : decode cJ0_length_8abf5 0 = .ok (.aload_n 0, 1) := by decide +kernel
theorem dJ0_length_8abf5_1 : decode cJ0_length_8abf5 1 = .ok (.getfield 9, 3) := by decide +kernel
theorem dJ0_length_8abf5_4 : decode cJ0_length_8abf5 4 = .ok (.arraylength, 1) := by decide +kernel
theorem dJ0_length_8abf5_5 : decode cJ0_length_8abf5 5 = .ok (.aload_n 0, 1) := by decide +kernel
theorem dJ0_length_8abf5_6 : decode cJ0_length_8abf5 6 = .ok (.invokevirtual 335, 3) := by decide +kernel
theorem dJ0_length_8abf5_9 : decode cJ0_length_8abf5 9 = .ok (.ishr, 1) := by decide +kernel
theorem dJ0_length_8abf5_10 : decode cJ0_length_8abf5 10 = .ok (.ireturn, 1) := by decide +kernel
theorem dJ0_charAt_5068e_0 : decode cJ0_charAt_5068e 0 = .ok (.aload_n 0, 1) := by decide +kernel
theorem dJ0_charAt_5068e_1 : decode cJ0_charAt_5068e 1 = .ok (.invokevirtual 492, 3) := by decide +kernel
theorem dJ0_charAt_5068e_4 : decode cJ0_charAt_5068e 4 = .ok (.ifCond .eq 12, 3) := by decide +kernel
theorem dJ0_charAt_5068e_7 : decode cJ0_charAt_5068e 7 = .ok (.aload_n 0, 1) := by decide +kernel
theorem dJ0_charAt_5068e_8 : decode cJ0_charAt_5068e 8 = .ok (.getfield 9, 3) := by decide +kernel
theorem dJ0_charAt_5068e_11 : decode cJ0_charAt_5068e 11 = .ok (.iload_n 1, 1) := by decide +kernel
theorem dJ0_charAt_5068e_12 : decode cJ0_charAt_5068e 12 = .ok (.invokestatic 495, 3) := by decide +kernel
theorem dJ0_charAt_5068e_15 : decode cJ0_charAt_5068e 15 = .ok (.ireturn, 1) := by decide +kernel
theorem dJ0_charAt_5068e_16 : decode cJ0_charAt_5068e 16 = .ok (.aload_n 0, 1) := by decide +kernel
theorem dJ0_charAt_5068e_17 : decode cJ0_charAt_5068e 17 = .ok (.getfield 9, 3) := by decide +kernel
theorem dJ0_charAt_5068e_20 : decode cJ0_charAt_5068e 20 = .ok (.iload_n 1, 1) := by decide +kernel
theorem dJ0_charAt_5068e_21 : decode cJ0_charAt_5068e 21 = .ok (.invokestatic 498, 3) := by decide +kernel
theorem dJ0_charAt_5068e_24 : decode cJ0_charAt_5068e 24 = .ok (.ireturn, 1) := by decide +kernel
theorem dJ0_coder_7d493_0 : decode cJ0_coder_7d493 0 = .ok (.getstatic 38, 3) := by decide +kernel
theorem dJ0_coder_7d493_3 : decode cJ0_coder_7d493 3 = .ok (.ifCond .eq 10, 3) := by decide +kernel
theorem dJ0_coder_7d493_6 : decode cJ0_coder_7d493 6 = .ok (.aload_n 0, 1) := by decide +kernel
theorem dJ0_coder_7d493_7 : decode cJ0_coder_7d493 7 = .ok (.getfield 15, 3) := by decide +kernel
theorem dJ0_coder_7d493_10 : decode cJ0_coder_7d493 10 = .ok (.goto 4, 3) := by decide +kernel
theorem dJ0_coder_7d493_13 : decode cJ0_coder_7d493 13 = .ok (.iconst 1, 1) := by decide +kernel
theorem dJ0_coder_7d493_14 : decode cJ0_coder_7d493 14 = .ok (.ireturn, 1) := by decide +kernel
theorem dJ0_isLatin1_aae02_0 : decode cJ0_isLatin1_aae02 0 = .ok (.getstatic 38, 3) := by decide +kernel
theorem dJ0_isLatin1_aae02_3 : decode cJ0_isLatin1_aae02 3 = .ok (.ifCond .eq 14, 3) := by decide +kernel
theorem dJ0_isLatin1_aae02_6 : decode cJ0_isLatin1_aae02 6 = .ok (.aload_n 0, 1) := by decide +kernel
theorem dJ0_isLatin1_aae02_7 : decode cJ0_isLatin1_aae02 7 = .ok (.getfield 15, 3) := by decide +kernel
theorem dJ0_isLatin1_aae02_10 : decode cJ0_isLatin1_aae02 10 = .ok (.ifCond .ne 7, 3) := by decide +kernel
theorem dJ0_isLatin1_aae02_13 : decode cJ0_isLatin1_aae02 13 = .ok (.iconst 1, 1) := by decide +kernel
theorem dJ0_isLatin1_aae02_14 : decode cJ0_isLatin1_aae02 14 = .ok (.goto 4, 3) := by decide +kernel
theorem dJ0_isLatin1_aae02_17 : decode cJ0_isLatin1_aae02 17 = .ok (.iconst 0, 1) := by decide +kernel
theorem dJ0_isLatin1_aae02_18 : decode cJ0_isLatin1_aae02 18 = .ok (.ireturn, 1) := by decide +kernel
theorem dJ0_checkIndex_df160_0 : decode cJ0_checkIndex_df160 0 = .ok (.iload_n 0, 1) := by decide +kernel
theorem dJ0_checkIndex_df160_1 : decode cJ0_checkIndex_df160 1 = .ok (.iload_n 1, 1) := by decide +kernel
theorem dJ0_checkIndex_df160_2 : decode cJ0_checkIndex_df160 2 = .ok (.getstatic 1053, 3) := by decide +kernel
theorem dJ0_checkIndex_df160_5 : decode cJ0_checkIndex_df160 5 = .ok (.invokestatic 1059, 3) := by decide +kernel
theorem dJ0_checkIndex_df160_8 : decode cJ0_checkIndex_df160 8 = .ok (.pop, 1) := by decide +kernel
theorem dJ0_checkIndex_df160_9 : decode cJ0_checkIndex_df160 9 = .ok (.return_, 1) := by decide +kernel
theorem dJ1_charAt_3b067_0 : decode cJ1_charAt_3b067 0 = .ok (.iload_n 1, 1) := by decide +kernel
theorem dJ1_charAt_3b067_1 : decode cJ1_charAt_3b067 1 = .ok (.aload_n 0, 1) := by decide +kernel
theorem dJ1_charAt_3b067_2 : decode cJ1_charAt_3b067 2 = .ok (.arraylength, 1) := by decide +kernel
theorem dJ1_charAt_3b067_3 : decode cJ1_charAt_3b067 3 = .ok (.invokestatic 9, 3) := by decide +kernel
theorem dJ1_charAt_3b067_6 : decode cJ1_charAt_3b067 6 = .ok (.aload_n 0, 1) := by decide +kernel
theorem dJ1_charAt_3b067_7 : decode cJ1_charAt_3b067 7 = .ok (.iload_n 1, 1) := by decide +kernel
theorem dJ1_charAt_3b067_8 : decode cJ1_charAt_3b067 8 = .ok (.baload, 1) := by decide +kernel
theorem dJ1_charAt_3b067_9 : decode cJ1_charAt_3b067 9 = .ok (.sipush 255, 3) := by decide +kernel
theorem dJ1_charAt_3b067_12 : decode cJ1_charAt_3b067 12 = .ok (.iand, 1) := by decide +kernel
theorem dJ1_charAt_3b067_13 : decode cJ1_charAt_3b067 13 = .ok (.i2c, 1) := by decide +kernel
theorem dJ1_charAt_3b067_14 : decode cJ1_charAt_3b067 14 = .ok (.ireturn, 1) := by decide +kernel
theorem dJ2_getChar_3b067_0 : decode cJ2_getChar_3b067 0 = .ok (.getstatic 44, 3) := by decide +kernel
theorem dJ2_getChar_3b067_3 : decode cJ2_getChar_3b067 3 = .ok (.ifCond .ne 25, 3) := by decide +kernel
theorem dJ2_getChar_3b067_6 : decode cJ2_getChar_3b067 6 = .ok (.iload_n 1, 1) := by decide +kernel
theorem dJ2_getChar_3b067_7 : decode cJ2_getChar_3b067 7 = .ok (.ifCond .lt 11, 3) := by decide +kernel
theorem dJ2_getChar_3b067_10 : decode cJ2_getChar_3b067 10 = .ok (.iload_n 1, 1) := by decide +kernel
theorem dJ2_getChar_3b067_11 : decode cJ2_getChar_3b067 11 = .ok (.aload_n 0, 1) := by decide +kernel
theorem dJ2_getChar_3b067_12 : decode cJ2_getChar_3b067 12 = .ok (.invokestatic 48, 3) := by decide +kernel
theorem dJ2_getChar_3b067_15 : decode cJ2_getChar_3b067 15 = .ok (.if_icmp .lt 13, 3) := by decide +kernel
theorem dJ2_getChar_3b067_18 : decode cJ2_getChar_3b067 18 = .ok (.new 52, 3) := by decide +kernel
theorem dJ2_getChar_3b067_21 : decode cJ2_getChar_3b067 21 = .ok (.dup, 1) := by decide +kernel
theorem dJ2_getChar_3b067_22 : decode cJ2_getChar_3b067 22 = .ok (.ldc 54, 2) := by decide +kernel
theorem dJ2_getChar_3b067_24 : decode cJ2_getChar_3b067 24 = .ok (.invokespecial 56, 3) := by decide +kernel
theorem dJ2_getChar_3b067_27 : decode cJ2_getChar_3b067 27 = .ok (.athrow, 1) := by decide +kernel
theorem dJ2_getChar_3b067_28 : decode cJ2_getChar_3b067 28 = .ok (.iload_n 1, 1) := by decide +kernel
theorem dJ2_getChar_3b067_29 : decode cJ2_getChar_3b067 29 = .ok (.iconst 1, 1) := by decide +kernel
theorem dJ2_getChar_3b067_30 : decode cJ2_getChar_3b067 30 = .ok (.ishl, 1) := by decide +kernel
theorem dJ2_getChar_3b067_31 : decode cJ2_getChar_3b067 31 = .ok (.istore_n 1, 1) := by decide +kernel
theorem dJ2_getChar_3b067_32 : decode cJ2_getChar_3b067 32 = .ok (.aload_n 0, 1) := by decide +kernel
theorem dJ2_getChar_3b067_33 : decode cJ2_getChar_3b067 33 = .ok (.iload_n 1, 1) := by decide +kernel
theorem dJ2_getChar_3b067_34 : decode cJ2_getChar_3b067 34 = .ok (.iinc 1 1, 3) := by decide +kernel
theorem dJ2_getChar_3b067_37 : decode cJ2_getChar_3b067 37 = .ok (.baload, 1) := by decide +kernel
theorem dJ2_getChar_3b067_38 : decode cJ2_getChar_3b067 38 = .ok (.sipush 255, 3) := by decide +kernel
theorem dJ2_getChar_3b067_41 : decode cJ2_getChar_3b067 41 = .ok (.iand, 1) := by decide +kernel
theorem dJ2_getChar_3b067_42 : decode cJ2_getChar_3b067 42 = .ok (.getstatic 59, 3) := by decide +kernel
theorem dJ2_getChar_3b067_45 : decode cJ2_getChar_3b067 45 = .ok (.ishl, 1) := by decide +kernel
theorem dJ2_getChar_3b067_46 : decode cJ2_getChar_3b067 46 = .ok (.aload_n 0, 1) := by decide +kernel
theorem dJ2_getChar_3b067_47 : decode cJ2_getChar_3b067 47 = .ok (.iload_n 1, 1) := by decide +kernel
theorem dJ2_getChar_3b067_48 : decode cJ2_getChar_3b067 48 = .ok (.baload, 1) := by decide +kernel
theorem dJ2_getChar_3b067_49 : decode cJ2_getChar_3b067 49 = .ok (.sipush 255, 3) := by decide +kernel
theorem dJ2_getChar_3b067_52 : decode cJ2_getChar_3b067 52 = .ok (.iand, 1) := by decide +kernel
theorem dJ2_getChar_3b067_53 : decode cJ2_getChar_3b067 53 = .ok (.getstatic 63, 3) := by decide +kernel
theorem dJ2_getChar_3b067_56 : decode cJ2_getChar_3b067 56 = .ok (.ishl, 1) := by decide +kernel
theorem dJ2_getChar_3b067_57 : decode cJ2_getChar_3b067 57 = .ok (.ior, 1) := by decide +kernel
theorem dJ2_getChar_3b067_58 : decode cJ2_getChar_3b067 58 = .ok (.i2c, 1) := by decide +kernel
theorem dJ2_getChar_3b067_59 : decode cJ2_getChar_3b067 59 = .ok (.ireturn, 1) := by decide +kernel
theorem dJ2_length_9d52b_0 : decode cJ2_length_9d52b 0 = .ok (.aload_n 0, 1) := by decide +kernel
theorem dJ2_length_9d52b_1 : decode cJ2_length_9d52b 1 = .ok (.arraylength, 1) := by decide +kernel
theorem dJ2_length_9d52b_2 : decode cJ2_length_9d52b 2 = .ok (.iconst 1, 1) := by decide +kernel
theorem dJ2_length_9d52b_3 : decode cJ2_length_9d52b 3 = .ok (.ishr, 1) := by decide +kernel
theorem dJ2_length_9d52b_4 : decode cJ2_length_9d52b 4 = .ok (.ireturn, 1) := by decide +kernel
theorem dJ2_charAt_3b067_0 : decode cJ2_charAt_3b067 0 = .ok (.iload_n 1, 1) := by decide +kernel
theorem dJ2_charAt_3b067_1 : decode cJ2_charAt_3b067 1 = .ok (.aload_n 0, 1) := by decide +kernel
theorem dJ2_charAt_3b067_2 : decode cJ2_charAt_3b067 2 = .ok (.invokestatic 67, 3) := by decide +kernel
theorem dJ2_charAt_3b067_5 : decode cJ2_charAt_3b067 5 = .ok (.aload_n 0, 1) := by decide +kernel
theorem dJ2_charAt_3b067_6 : decode cJ2_charAt_3b067 6 = .ok (.iload_n 1, 1) := by decide +kernel
theorem dJ2_charAt_3b067_7 : decode cJ2_charAt_3b067 7 = .ok (.invokestatic 71, 3) := by decide +kernel
theorem dJ2_charAt_3b067_10 : decode cJ2_charAt_3b067 10 = .ok (.ireturn, 1) := by decide +kernel
theorem dJ2_checkIndex_2214a_0 : decode cJ2_checkIndex_2214a 0 = .ok (.iload_n 0, 1) := by decide +kernel
theorem dJ2_checkIndex_2214a_1 : decode cJ2_checkIndex_2214a 1 = .ok (.aload_n 1, 1) := by decide +kernel
theorem dJ2_checkIndex_2214a_2 : decode cJ2_checkIndex_2214a 2 = .ok (.invokestatic 48, 3) := by decide +kernel
theorem dJ2_checkIndex_2214a_5 : decode cJ2_checkIndex_2214a 5 = .ok (.invokestatic 414, 3) := by decide +kernel
theorem dJ2_checkIndex_2214a_8 : decode cJ2_checkIndex_2214a 8 = .ok (.return_, 1) := by decide +kernel
theorem dJ3_checkIndex_8e157_0 : decode cJ3_checkIndex_8e157 0 = .ok (.iload_n 0, 1) := by decide +kernel
theorem dJ3_checkIndex_8e157_1 : decode cJ3_checkIndex_8e157 1 = .ok (.ifCond .lt 8, 3) := by decide +kernel
theorem dJ3_checkIndex_8e157_4 : decode cJ3_checkIndex_8e157 4 = .ok (.iload_n 0, 1) := by decide +kernel
theorem dJ3_checkIndex_8e157_5 : decode cJ3_checkIndex_8e157 5 = .ok (.iload_n 1, 1) := by decide +kernel
theorem dJ3_checkIndex_8e157_6 : decode cJ3_checkIndex_8e157 6 = .ok (.if_icmp .lt 10, 3) := by decide +kernel
theorem dJ3_checkIndex_8e157_9 : decode cJ3_checkIndex_8e157 9 = .ok (.aload_n 2, 1) := by decide +kernel
theorem dJ3_checkIndex_8e157_10 : decode cJ3_checkIndex_8e157 10 = .ok (.iload_n 0, 1) := by decide +kernel
theorem dJ3_checkIndex_8e157_11 : decode cJ3_checkIndex_8e157 11 = .ok (.iload_n 1, 1) := by decide +kernel
theorem dJ3_checkIndex_8e157_12 : decode cJ3_checkIndex_8e157 12 = .ok (.invokestatic 95, 3) := by decide +kernel
theorem dJ3_checkIndex_8e157_15 : decode cJ3_checkIndex_8e157 15 = .ok (.athrow, 1) := by decide +kernel
theorem dJ3_checkIndex_8e157_16 : decode cJ3_checkIndex_8e157 16 = .ok (.iload_n 0, 1) := by decide +kernel
theorem dJ3_checkIndex_8e157_17 : decode cJ3_checkIndex_8e157 17 = .ok (.ireturn, 1) := by decide +kernel
end
section
theorem dX6_init_0 : decode cX6_init 0 = .ok (.aload_n 0, 1) := by decide +kernel
theorem dX6_init_1 : decode cX6_init 1 = .ok (.invokespecial 1, 3) := by decide +kernel
theorem dX6_init_4 : decode cX6_init 4 = .ok (.aload_n 0, 1) := by decide +kernel
theorem dX6_init_5 : decode cX6_init 5 = .ok (.new 7, 3) := by decide +kernel
theorem dX6_init_8 : decode cX6_init 8 = .ok (.dup, 1) := by decide +kernel
theorem dX6_init_9 : decode cX6_init 9 = .ok (.invokespecial 9, 3) := by decide +kernel
theorem dX6_init_12 : decode cX6_init 12 = .ok (.putfield 10, 3) := by decide +kernel
theorem dX6_init_15 : decode cX6_init 15 = .ok (.aload_n 0, 1) := by decide +kernel
theorem dX6_init_16 : decode cX6_init 16 = .ok (.new 16, 3) := by decide +kernel
theorem dX6_init_19 : decode cX6_init 19 = .ok (.dup, 1) := by decide +kernel
theorem dX6_init_20 : decode cX6_init 20 = .ok (.invokespecial 18, 3) := by decide +kernel
theorem dX6_init_23 : decode cX6_init 23 = .ok (.putfield 19, 3) := by decide +kernel
theorem dX6_init_26 : decode cX6_init 26 = .ok (.aload_n 0, 1) := by decide +kernel
theorem dX6_init_27 : decode cX6_init 27 = .ok (.new 16, 3) := by decide +kernel
theorem dX6_init_30 : decode cX6_init 30 = .ok (.dup, 1) := by decide +kernel
theorem dX6_init_31 : decode cX6_init 31 = .ok (.invokespecial 18, 3) := by decide +kernel
theorem dX6_init_34 : decode cX6_init 34 = .ok (.putfield 23, 3) := by decide +kernel
theorem dX6_init_37 : decode cX6_init 37 = .ok (.aload_n 0, 1) := by decide +kernel
theorem dX6_init_38 : decode cX6_init 38 = .ok (.new 26, 3) := by decide +kernel
theorem dX6_init_41 : decode cX6_init 41 = .ok (.dup, 1) := by decide +kernel
theorem dX6_init_42 : decode cX6_init 42 = .ok (.invokespecial 28, 3) := by decide +kernel
theorem dX6_init_45 : decode cX6_init 45 = .ok (.putfield 29, 3) := by decide +kernel
theorem dX6_init_48 : decode cX6_init 48 = .ok (.aload_n 0, 1) := by decide +kernel
theorem dX6_init_49 : decode cX6_init 49 = .ok (.new 33, 3) := by decide +kernel
theorem dX6_init_52 : decode cX6_init 52 = .ok (.dup, 1) := by decide +kernel
theorem dX6_init_53 : decode cX6_init 53 = .ok (.invokespecial 35, 3) := by decide +kernel
theorem dX6_init_56 : decode cX6_init 56 = .ok (.putfield 36, 3) := by decide +kernel
theorem dX6_init_59 : decode cX6_init 59 = .ok (.aload_n 0, 1) := by decide +kernel
theorem dX6_init_60 : decode cX6_init 60 = .ok (.iconst 2, 1) := by decide +kernel
theorem dX6_init_61 : decode cX6_init 61 = .ok (.anewarray 26, 3) := by decide +kernel
theorem dX6_init_64 : decode cX6_init 64 = .ok (.putfield 40, 3) := by decide +kernel
theorem dX6_init_67 : decode cX6_init 67 = .ok (.iconst 0, 1) := by decide +kernel
theorem dX6_init_68 : decode cX6_init 68 = .ok (.istore_n 1, 1) := by decide +kernel
theorem dX6_init_69 : decode cX6_init 69 = .ok (.iload_n 1, 1) := by decide +kernel
theorem dX6_init_70 : decode cX6_init 70 = .ok (.iconst 2, 1) := by decide +kernel
theorem dX6_init_71 : decode cX6_init 71 = .ok (.if_icmp .ge 22, 3) := by decide +kernel
theorem dX6_init_74 : decode cX6_init 74 = .ok (.aload_n 0, 1) := by decide +kernel
theorem dX6_init_75 : decode cX6_init 75 = .ok (.getfield 40, 3) := by decide +kernel
theorem dX6_init_78 : decode cX6_init 78 = .ok (.iload_n 1, 1) := by decide +kernel
theorem dX6_init_79 : decode cX6_init 79 = .ok (.new 26, 3) := by decide +kernel
theorem dX6_init_82 : decode cX6_init 82 = .ok (.dup, 1) := by decide +kernel
theorem dX6_init_83 : decode cX6_init 83 = .ok (.invokespecial 28, 3) := by decide +kernel
theorem dX6_init_86 : decode cX6_init 86 = .ok (.aastore, 1) := by decide +kernel
theorem dX6_init_87 : decode cX6_init 87 = .ok (.iinc 1 1, 3) := by decide +kernel
theorem dX6_init_90 : decode cX6_init 90 = .ok (.goto (-21), 3) := by decide +kernel
theorem dX6_init_93 : decode cX6_init 93 = .ok (.aload_n 0, 1) := by decide +kernel
theorem dX6_init_94 : decode cX6_init 94 = .ok (.iconst 2, 1) := by decide +kernel
theorem dX6_init_95 : decode cX6_init 95 = .ok (.newarray .boolean, 2) := by decide +kernel
theorem dX6_init_97 : decode cX6_init 97 = .ok (.putfield 44, 3) := by decide +kernel
theorem dX6_init_100 : decode cX6_init 100 = .ok (.aload_n 0, 1) := by decide +kernel
theorem dX6_init_101 : decode cX6_init 101 = .ok (.new 48, 3) := by decide +kernel
theorem dX6_init_104 : decode cX6_init 104 = .ok (.dup, 1) := by decide +kernel
theorem dX6_init_105 : decode cX6_init 105 = .ok (.invokespecial 50, 3) := by decide +kernel
theorem dX6_init_108 : decode cX6_init 108 = .ok (.putfield 51, 3) := by decide +kernel
theorem dX6_init_111 : decode cX6_init 111 = .ok (.aload_n 0, 1) := by decide +kernel
theorem dX6_init_112 : decode cX6_init 112 = .ok (.new 55, 3) := by decide +kernel
theorem dX6_init_115 : decode cX6_init 115 = .ok (.dup, 1) := by decide +kernel
theorem dX6_init_116 : decode cX6_init 116 = .ok (.invokespecial 57, 3) := by decide +kernel
theorem dX6_init_119 : decode cX6_init 119 = .ok (.putfield 58, 3) := by decide +kernel
theorem dX6_init_122 : decode cX6_init 122 = .ok (.aload_n 0, 1) := by decide +kernel
theorem dX6_init_123 : decode cX6_init 123 = .ok (.getfield 29, 3) := by decide +kernel
theorem dX6_init_126 : decode cX6_init 126 = .ok (.aload_n 0, 1) := by decide +kernel
theorem dX6_init_127 : decode cX6_init 127 = .ok (.getfield 19, 3) := by decide +kernel
theorem dX6_init_130 : decode cX6_init 130 = .ok (.invokevirtual 62, 3) := by decide +kernel
theorem dX6_init_133 : decode cX6_init 133 = .ok (.return_, 1) := by decide +kernel
theorem dX6_write_0 : decode cX6_write 0 = .ok (.iload_n 1, 1) := by decide +kernel
theorem dX6_write_1 : decode cX6_write 1 = .ok (.iconst 0, 1) := by decide +kernel
theorem dX6_write_2 : decode cX6_write 2 = .ok (.sipush 255, 3) := by decide +kernel
theorem dX6_write_5 : decode cX6_write 5 = .ok (.invokestatic 66, 3) := by decide +kernel
theorem dX6_write_8 : decode cX6_write 8 = .ok (.ifCond .eq 6, 3) := by decide +kernel
theorem dX6_write_11 : decode cX6_write 11 = .ok (.bipush (-3), 2) := by decide +kernel
theorem dX6_write_13 : decode cX6_write 13 = .ok (.ireturn, 1) := by decide +kernel
theorem dX6_write_14 : decode cX6_write 14 = .ok (.aload_n 0, 1) := by decide +kernel
theorem dX6_write_15 : decode cX6_write 15 = .ok (.getfield 10, 3) := by decide +kernel
theorem dX6_write_18 : decode cX6_write 18 = .ok (.iload_n 1, 1) := by decide +kernel
theorem dX6_write_19 : decode cX6_write 19 = .ok (.i2c, 1) := by decide +kernel
theorem dX6_write_20 : decode cX6_write 20 = .ok (.invokevirtual 70, 3) := by decide +kernel
theorem dX6_write_23 : decode cX6_write 23 = .ok (.ifCond .eq 13, 3) := by decide +kernel
theorem dX6_write_26 : decode cX6_write 26 = .ok (.aload_n 0, 1) := by decide +kernel
theorem dX6_write_27 : decode cX6_write 27 = .ok (.getfield 10, 3) := by decide +kernel
theorem dX6_write_30 : decode cX6_write 30 = .ok (.getfield 74, 3) := by decide +kernel
theorem dX6_write_33 : decode cX6_write 33 = .ok (.goto 5, 3) := by decide +kernel
theorem dX6_write_36 : decode cX6_write 36 = .ok (.bipush (-5), 2) := by decide +kernel
theorem dX6_write_38 : decode cX6_write 38 = .ok (.ireturn, 1) := by decide +kernel
theorem dX6_erase_0 : decode cX6_erase 0 = .ok (.aload_n 0, 1) := by decide +kernel
theorem dX6_erase_1 : decode cX6_erase 1 = .ok (.getfield 10, 3) := by decide +kernel
theorem dX6_erase_4 : decode cX6_erase 4 = .ok (.getfield 74, 3) := by decide +kernel
theorem dX6_erase_7 : decode cX6_erase 7 = .ok (.istore_n 1, 1) := by decide +kernel
theorem dX6_erase_8 : decode cX6_erase 8 = .ok (.aload_n 0, 1) := by decide +kernel
theorem dX6_erase_9 : decode cX6_erase 9 = .ok (.getfield 10, 3) := by decide +kernel
theorem dX6_erase_12 : decode cX6_erase 12 = .ok (.iconst 0, 1) := by decide +kernel
theorem dX6_erase_13 : decode cX6_erase 13 = .ok (.putfield 74, 3) := by decide +kernel
theorem dX6_erase_16 : decode cX6_erase 16 = .ok (.iload_n 1, 1) := by decide +kernel
theorem dX6_erase_17 : decode cX6_erase 17 = .ok (.ireturn, 1) := by decide +kernel
theorem dX6_fault_0 : decode cX6_fault 0 = .ok (.aload_n 0, 1) := by decide +kernel
theorem dX6_fault_1 : decode cX6_fault 1 = .ok (.getfield 23, 3) := by decide +kernel
theorem dX6_fault_4 : decode cX6_fault 4 = .ok (.aload_n 0, 1) := by decide +kernel
theorem dX6_fault_5 : decode cX6_fault 5 = .ok (.getfield 19, 3) := by decide +kernel
theorem dX6_fault_8 : decode cX6_fault 8 = .ok (.invokevirtual 78, 3) := by decide +kernel
theorem dX6_fault_11 : decode cX6_fault 11 = .ok (.aload_n 0, 1) := by decide +kernel
theorem dX6_fault_12 : decode cX6_fault 12 = .ok (.getfield 10, 3) := by decide +kernel
theorem dX6_fault_15 : decode cX6_fault 15 = .ok (.aload_n 0, 1) := by decide +kernel
theorem dX6_fault_16 : decode cX6_fault 16 = .ok (.getfield 23, 3) := by decide +kernel
theorem dX6_fault_19 : decode cX6_fault 19 = .ok (.invokevirtual 81, 3) := by decide +kernel
theorem dX6_fault_22 : decode cX6_fault 22 = .ok (.ireturn, 1) := by decide +kernel
theorem dX6_cave_0 : decode cX6_cave 0 = .ok (.aload_n 0, 1) := by decide +kernel
theorem dX6_cave_1 : decode cX6_cave 1 = .ok (.getfield 23, 3) := by decide +kernel
theorem dX6_cave_4 : decode cX6_cave 4 = .ok (.aload_n 0, 1) := by decide +kernel
theorem dX6_cave_5 : decode cX6_cave 5 = .ok (.getfield 19, 3) := by decide +kernel
theorem dX6_cave_8 : decode cX6_cave 8 = .ok (.invokevirtual 78, 3) := by decide +kernel
theorem dX6_cave_11 : decode cX6_cave 11 = .ok (.aload_n 0, 1) := by decide +kernel
theorem dX6_cave_12 : decode cX6_cave 12 = .ok (.getfield 10, 3) := by decide +kernel
theorem dX6_cave_15 : decode cX6_cave 15 = .ok (.aload_n 0, 1) := by decide +kernel
theorem dX6_cave_16 : decode cX6_cave 16 = .ok (.getfield 23, 3) := by decide +kernel
theorem dX6_cave_19 : decode cX6_cave 19 = .ok (.invokevirtual 81, 3) := by decide +kernel
theorem dX6_cave_22 : decode cX6_cave 22 = .ok (.iconst (-1), 1) := by decide +kernel
theorem dX6_cave_23 : decode cX6_cave 23 = .ok (.if_icmp .eq 6, 3) := by decide +kernel
theorem dX6_cave_26 : decode cX6_cave 26 = .ok (.bipush (-4), 2) := by decide +kernel
theorem dX6_cave_28 : decode cX6_cave 28 = .ok (.ireturn, 1) := by decide +kernel
theorem dX6_cave_29 : decode cX6_cave 29 = .ok (.aload_n 0, 1) := by decide +kernel
theorem dX6_cave_30 : decode cX6_cave 30 = .ok (.getfield 19, 3) := by decide +kernel
theorem dX6_cave_33 : decode cX6_cave 33 = .ok (.aload_n 0, 1) := by decide +kernel
theorem dX6_cave_34 : decode cX6_cave 34 = .ok (.getfield 23, 3) := by decide +kernel
theorem dX6_cave_37 : decode cX6_cave 37 = .ok (.invokevirtual 78, 3) := by decide +kernel
theorem dX6_cave_40 : decode cX6_cave 40 = .ok (.aload_n 0, 1) := by decide +kernel
theorem dX6_cave_41 : decode cX6_cave 41 = .ok (.getfield 10, 3) := by decide +kernel
theorem dX6_cave_44 : decode cX6_cave 44 = .ok (.iconst 0, 1) := by decide +kernel
theorem dX6_cave_45 : decode cX6_cave 45 = .ok (.putfield 74, 3) := by decide +kernel
theorem dX6_cave_48 : decode cX6_cave 48 = .ok (.aload_n 0, 1) := by decide +kernel
theorem dX6_cave_49 : decode cX6_cave 49 = .ok (.invokevirtual 85, 3) := by decide +kernel
theorem dX6_cave_52 : decode cX6_cave 52 = .ok (.aload_n 0, 1) := by decide +kernel
theorem dX6_cave_53 : decode cX6_cave 53 = .ok (.getfield 10, 3) := by decide +kernel
theorem dX6_cave_56 : decode cX6_cave 56 = .ok (.getfield 88, 3) := by decide +kernel
theorem dX6_cave_59 : decode cX6_cave 59 = .ok (.ireturn, 1) := by decide +kernel
theorem dX6_man_0 : decode cX6_man 0 = .ok (.aload_n 0, 1) := by decide +kernel
theorem dX6_man_1 : decode cX6_man 1 = .ok (.getfield 19, 3) := by decide +kernel
theorem dX6_man_4 : decode cX6_man 4 = .ok (.iload_n 1, 1) := by decide +kernel
theorem dX6_man_5 : decode cX6_man 5 = .ok (.invokevirtual 91, 3) := by decide +kernel
theorem dX6_man_8 : decode cX6_man 8 = .ok (.ifCond .ne 6, 3) := by decide +kernel
theorem dX6_man_11 : decode cX6_man 11 = .ok (.bipush (-2), 2) := by decide +kernel
theorem dX6_man_13 : decode cX6_man 13 = .ok (.ireturn, 1) := by decide +kernel
theorem dX6_man_14 : decode cX6_man 14 = .ok (.iload_n 2, 1) := by decide +kernel
theorem dX6_man_15 : decode cX6_man 15 = .ok (.tableswitch 54 0 2 #[25, 35, 44], 25) := by decide +kernel
theorem dX6_man_40 : decode cX6_man 40 = .ok (.aload_n 0, 1) := by decide +kernel
theorem dX6_man_41 : decode cX6_man 41 = .ok (.getfield 19, 3) := by decide +kernel
theorem dX6_man_44 : decode cX6_man 44 = .ok (.getfield 95, 3) := by decide +kernel
theorem dX6_man_47 : decode cX6_man 47 = .ok (.iload_n 1, 1) := by decide +kernel
theorem dX6_man_48 : decode cX6_man 48 = .ok (.iaload, 1) := by decide +kernel
theorem dX6_man_49 : decode cX6_man 49 = .ok (.ireturn, 1) := by decide +kernel
theorem dX6_man_50 : decode cX6_man 50 = .ok (.aload_n 0, 1) := by decide +kernel
theorem dX6_man_51 : decode cX6_man 51 = .ok (.getfield 29, 3) := by decide +kernel
theorem dX6_man_54 : decode cX6_man 54 = .ok (.iload_n 1, 1) := by decide +kernel
theorem dX6_man_55 : decode cX6_man 55 = .ok (.invokevirtual 99, 3) := by decide +kernel
theorem dX6_man_58 : decode cX6_man 58 = .ok (.ireturn, 1) := by decide +kernel
theorem dX6_man_59 : decode cX6_man 59 = .ok (.aload_n 0, 1) := by decide +kernel
theorem dX6_man_60 : decode cX6_man 60 = .ok (.getfield 29, 3) := by decide +kernel
theorem dX6_man_63 : decode cX6_man 63 = .ok (.getfield 103, 3) := by decide +kernel
theorem dX6_man_66 : decode cX6_man 66 = .ok (.iload_n 1, 1) := by decide +kernel
theorem dX6_man_67 : decode cX6_man 67 = .ok (.iaload, 1) := by decide +kernel
theorem dX6_man_68 : decode cX6_man 68 = .ok (.ireturn, 1) := by decide +kernel
theorem dX6_man_69 : decode cX6_man 69 = .ok (.bipush (-3), 2) := by decide +kernel
theorem dX6_man_71 : decode cX6_man 71 = .ok (.ireturn, 1) := by decide +kernel
theorem dX6_sheep_0 : decode cX6_sheep 0 = .ok (.aload_n 0, 1) := by decide +kernel
theorem dX6_sheep_1 : decode cX6_sheep 1 = .ok (.getfield 19, 3) := by decide +kernel
theorem dX6_sheep_4 : decode cX6_sheep 4 = .ok (.iload_n 1, 1) := by decide +kernel
theorem dX6_sheep_5 : decode cX6_sheep 5 = .ok (.invokevirtual 106, 3) := by decide +kernel
theorem dX6_sheep_8 : decode cX6_sheep 8 = .ok (.ifCond .ne 6, 3) := by decide +kernel
theorem dX6_sheep_11 : decode cX6_sheep 11 = .ok (.bipush (-2), 2) := by decide +kernel
theorem dX6_sheep_13 : decode cX6_sheep 13 = .ok (.ireturn, 1) := by decide +kernel
theorem dX6_sheep_14 : decode cX6_sheep 14 = .ok (.iload_n 2, 1) := by decide +kernel
theorem dX6_sheep_15 : decode cX6_sheep 15 = .ok (.tableswitch 78 0 3 #[29, 39, 49, 69], 29) := by decide +kernel
theorem dX6_sheep_44 : decode cX6_sheep 44 = .ok (.aload_n 0, 1) := by decide +kernel
theorem dX6_sheep_45 : decode cX6_sheep 45 = .ok (.getfield 19, 3) := by decide +kernel
theorem dX6_sheep_48 : decode cX6_sheep 48 = .ok (.getfield 109, 3) := by decide +kernel
theorem dX6_sheep_51 : decode cX6_sheep 51 = .ok (.iload_n 1, 1) := by decide +kernel
theorem dX6_sheep_52 : decode cX6_sheep 52 = .ok (.iaload, 1) := by decide +kernel
theorem dX6_sheep_53 : decode cX6_sheep 53 = .ok (.ireturn, 1) := by decide +kernel
theorem dX6_sheep_54 : decode cX6_sheep 54 = .ok (.aload_n 0, 1) := by decide +kernel
theorem dX6_sheep_55 : decode cX6_sheep 55 = .ok (.getfield 19, 3) := by decide +kernel
theorem dX6_sheep_58 : decode cX6_sheep 58 = .ok (.getfield 112, 3) := by decide +kernel
theorem dX6_sheep_61 : decode cX6_sheep 61 = .ok (.iload_n 1, 1) := by decide +kernel
theorem dX6_sheep_62 : decode cX6_sheep 62 = .ok (.iaload, 1) := by decide +kernel
theorem dX6_sheep_63 : decode cX6_sheep 63 = .ok (.ireturn, 1) := by decide +kernel
theorem dX6_sheep_64 : decode cX6_sheep 64 = .ok (.aload_n 0, 1) := by decide +kernel
theorem dX6_sheep_65 : decode cX6_sheep 65 = .ok (.getfield 29, 3) := by decide +kernel
theorem dX6_sheep_68 : decode cX6_sheep 68 = .ok (.getfield 115, 3) := by decide +kernel
theorem dX6_sheep_71 : decode cX6_sheep 71 = .ok (.iload_n 1, 1) := by decide +kernel
theorem dX6_sheep_72 : decode cX6_sheep 72 = .ok (.invokestatic 118, 3) := by decide +kernel
theorem dX6_sheep_75 : decode cX6_sheep 75 = .ok (.ifCond .eq 7, 3) := by decide +kernel
theorem dX6_sheep_78 : decode cX6_sheep 78 = .ok (.iconst 1, 1) := by decide +kernel
theorem dX6_sheep_79 : decode cX6_sheep 79 = .ok (.goto 4, 3) := by decide +kernel
theorem dX6_sheep_82 : decode cX6_sheep 82 = .ok (.iconst 0, 1) := by decide +kernel
theorem dX6_sheep_83 : decode cX6_sheep 83 = .ok (.ireturn, 1) := by decide +kernel
theorem dX6_sheep_84 : decode cX6_sheep 84 = .ok (.aload_n 0, 1) := by decide +kernel
theorem dX6_sheep_85 : decode cX6_sheep 85 = .ok (.getfield 29, 3) := by decide +kernel
theorem dX6_sheep_88 : decode cX6_sheep 88 = .ok (.iload_n 1, 1) := by decide +kernel
theorem dX6_sheep_89 : decode cX6_sheep 89 = .ok (.invokevirtual 122, 3) := by decide +kernel
theorem dX6_sheep_92 : decode cX6_sheep 92 = .ok (.ireturn, 1) := by decide +kernel
theorem dX6_sheep_93 : decode cX6_sheep 93 = .ok (.bipush (-3), 2) := by decide +kernel
theorem dX6_sheep_95 : decode cX6_sheep 95 = .ok (.ireturn, 1) := by decide +kernel
theorem dX6_near_0 : decode cX6_near 0 = .ok (.aload_n 0, 1) := by decide +kernel
theorem dX6_near_1 : decode cX6_near 1 = .ok (.getfield 19, 3) := by decide +kernel
theorem dX6_near_4 : decode cX6_near 4 = .ok (.iload_n 1, 1) := by decide +kernel
theorem dX6_near_5 : decode cX6_near 5 = .ok (.invokevirtual 125, 3) := by decide +kernel
theorem dX6_near_8 : decode cX6_near 8 = .ok (.ifCond .eq 15, 3) := by decide +kernel
theorem dX6_near_11 : decode cX6_near 11 = .ok (.aload_n 0, 1) := by decide +kernel
theorem dX6_near_12 : decode cX6_near 12 = .ok (.getfield 19, 3) := by decide +kernel
theorem dX6_near_15 : decode cX6_near 15 = .ok (.getfield 128, 3) := by decide +kernel
theorem dX6_near_18 : decode cX6_near 18 = .ok (.iload_n 1, 1) := by decide +kernel
theorem dX6_near_19 : decode cX6_near 19 = .ok (.iaload, 1) := by decide +kernel
theorem dX6_near_20 : decode cX6_near 20 = .ok (.goto 5, 3) := by decide +kernel
theorem dX6_near_23 : decode cX6_near 23 = .ok (.bipush (-2), 2) := by decide +kernel
theorem dX6_near_25 : decode cX6_near 25 = .ok (.ireturn, 1) := by decide +kernel
theorem dX6_as_0 : decode cX6_as 0 = .ok (.aload_n 0, 1) := by decide +kernel
theorem dX6_as_1 : decode cX6_as 1 = .ok (.getfield 19, 3) := by decide +kernel
theorem dX6_as_4 : decode cX6_as 4 = .ok (.iload_n 1, 1) := by decide +kernel
theorem dX6_as_5 : decode cX6_as 5 = .ok (.invokevirtual 106, 3) := by decide +kernel
theorem dX6_as_8 : decode cX6_as 8 = .ok (.ifCond .ne 6, 3) := by decide +kernel
theorem dX6_as_11 : decode cX6_as 11 = .ok (.bipush (-2), 2) := by decide +kernel
theorem dX6_as_13 : decode cX6_as 13 = .ok (.ireturn, 1) := by decide +kernel
theorem dX6_as_14 : decode cX6_as 14 = .ok (.iload_n 2, 1) := by decide +kernel
theorem dX6_as_15 : decode cX6_as 15 = .ok (.iconst 0, 1) := by decide +kernel
theorem dX6_as_16 : decode cX6_as 16 = .ok (.getstatic 131, 3) := by decide +kernel
theorem dX6_as_19 : decode cX6_as 19 = .ok (.arraylength, 1) := by decide +kernel
theorem dX6_as_20 : decode cX6_as 20 = .ok (.iconst 1, 1) := by decide +kernel
theorem dX6_as_21 : decode cX6_as 21 = .ok (.isub, 1) := by decide +kernel
theorem dX6_as_22 : decode cX6_as 22 = .ok (.invokestatic 66, 3) := by decide +kernel
theorem dX6_as_25 : decode cX6_as 25 = .ok (.ifCond .eq 6, 3) := by decide +kernel
theorem dX6_as_28 : decode cX6_as 28 = .ok (.bipush (-3), 2) := by decide +kernel
theorem dX6_as_30 : decode cX6_as 30 = .ok (.ireturn, 1) := by decide +kernel
theorem dX6_as_31 : decode cX6_as 31 = .ok (.aload_n 0, 1) := by decide +kernel
theorem dX6_as_32 : decode cX6_as 32 = .ok (.getfield 19, 3) := by decide +kernel
theorem dX6_as_35 : decode cX6_as 35 = .ok (.getfield 109, 3) := by decide +kernel
theorem dX6_as_38 : decode cX6_as 38 = .ok (.iload_n 1, 1) := by decide +kernel
theorem dX6_as_39 : decode cX6_as 39 = .ok (.iaload, 1) := by decide +kernel
theorem dX6_as_40 : decode cX6_as 40 = .ok (.iload_n 2, 1) := by decide +kernel
theorem dX6_as_41 : decode cX6_as 41 = .ok (.invokestatic 134, 3) := by decide +kernel
theorem dX6_as_44 : decode cX6_as 44 = .ok (.ifCond .eq 14, 3) := by decide +kernel
theorem dX6_as_47 : decode cX6_as 47 = .ok (.aload_n 0, 1) := by decide +kernel
theorem dX6_as_48 : decode cX6_as 48 = .ok (.getfield 19, 3) := by decide +kernel
theorem dX6_as_51 : decode cX6_as 51 = .ok (.iload_n 1, 1) := by decide +kernel
theorem dX6_as_52 : decode cX6_as 52 = .ok (.invokevirtual 137, 3) := by decide +kernel
theorem dX6_as_55 : decode cX6_as 55 = .ok (.goto 5, 3) := by decide +kernel
theorem dX6_as_58 : decode cX6_as 58 = .ok (.bipush (-4), 2) := by decide +kernel
theorem dX6_as_60 : decode cX6_as 60 = .ok (.ireturn, 1) := by decide +kernel
theorem dX6_give_0 : decode cX6_give 0 = .ok (.iload_n 1, 1) := by decide +kernel
theorem dX6_give_1 : decode cX6_give 1 = .ok (.iconst 1, 1) := by decide +kernel
theorem dX6_give_2 : decode cX6_give 2 = .ok (.bipush 50, 2) := by decide +kernel
theorem dX6_give_4 : decode cX6_give 4 = .ok (.invokestatic 66, 3) := by decide +kernel
theorem dX6_give_7 : decode cX6_give 7 = .ok (.ifCond .eq 6, 3) := by decide +kernel
theorem dX6_give_10 : decode cX6_give 10 = .ok (.bipush (-3), 2) := by decide +kernel
theorem dX6_give_12 : decode cX6_give 12 = .ok (.ireturn, 1) := by decide +kernel
theorem dX6_give_13 : decode cX6_give 13 = .ok (.aload_n 0, 1) := by decide +kernel
theorem dX6_give_14 : decode cX6_give 14 = .ok (.getfield 29, 3) := by decide +kernel
theorem dX6_give_17 : decode cX6_give 17 = .ok (.getfield 140, 3) := by decide +kernel
theorem dX6_give_20 : decode cX6_give 20 = .ok (.ifCond .ne 14, 3) := by decide +kernel
theorem dX6_give_23 : decode cX6_give 23 = .ok (.iload_n 1, 1) := by decide +kernel
theorem dX6_give_24 : decode cX6_give 24 = .ok (.aload_n 0, 1) := by decide +kernel
theorem dX6_give_25 : decode cX6_give 25 = .ok (.getfield 29, 3) := by decide +kernel
theorem dX6_give_28 : decode cX6_give 28 = .ok (.getfield 144, 3) := by decide +kernel
theorem dX6_give_31 : decode cX6_give 31 = .ok (.if_icmp .le 6, 3) := by decide +kernel
theorem dX6_give_34 : decode cX6_give 34 = .ok (.bipush (-4), 2) := by decide +kernel
theorem dX6_give_36 : decode cX6_give 36 = .ok (.ireturn, 1) := by decide +kernel
theorem dX6_give_37 : decode cX6_give 37 = .ok (.aload_n 0, 1) := by decide +kernel
theorem dX6_give_38 : decode cX6_give 38 = .ok (.getfield 36, 3) := by decide +kernel
theorem dX6_give_41 : decode cX6_give 41 = .ok (.aload_n 0, 1) := by decide +kernel
theorem dX6_give_42 : decode cX6_give 42 = .ok (.getfield 29, 3) := by decide +kernel
theorem dX6_give_45 : decode cX6_give 45 = .ok (.invokevirtual 147, 3) := by decide +kernel
theorem dX6_give_48 : decode cX6_give 48 = .ok (.aload_n 0, 1) := by decide +kernel
theorem dX6_give_49 : decode cX6_give 49 = .ok (.getfield 29, 3) := by decide +kernel
theorem dX6_give_52 : decode cX6_give 52 = .ok (.dup, 1) := by decide +kernel
theorem dX6_give_53 : decode cX6_give 53 = .ok (.getfield 144, 3) := by decide +kernel
theorem dX6_give_56 : decode cX6_give 56 = .ok (.iload_n 1, 1) := by decide +kernel
theorem dX6_give_57 : decode cX6_give 57 = .ok (.isub, 1) := by decide +kernel
theorem dX6_give_58 : decode cX6_give 58 = .ok (.putfield 144, 3) := by decide +kernel
theorem dX6_give_61 : decode cX6_give 61 = .ok (.aload_n 0, 1) := by decide +kernel
theorem dX6_give_62 : decode cX6_give 62 = .ok (.getfield 29, 3) := by decide +kernel
theorem dX6_give_65 : decode cX6_give 65 = .ok (.dup, 1) := by decide +kernel
theorem dX6_give_66 : decode cX6_give 66 = .ok (.getfield 151, 3) := by decide +kernel
theorem dX6_give_69 : decode cX6_give 69 = .ok (.iload_n 1, 1) := by decide +kernel
theorem dX6_give_70 : decode cX6_give 70 = .ok (.iadd, 1) := by decide +kernel
theorem dX6_give_71 : decode cX6_give 71 = .ok (.putfield 151, 3) := by decide +kernel
theorem dX6_give_74 : decode cX6_give 74 = .ok (.aload_n 0, 1) := by decide +kernel
theorem dX6_give_75 : decode cX6_give 75 = .ok (.getfield 29, 3) := by decide +kernel
theorem dX6_give_78 : decode cX6_give 78 = .ok (.getfield 151, 3) := by decide +kernel
theorem dX6_give_81 : decode cX6_give 81 = .ok (.ireturn, 1) := by decide +kernel
theorem dX6_day_0 : decode cX6_day 0 = .ok (.aload_n 0, 1) := by decide +kernel
theorem dX6_day_1 : decode cX6_day 1 = .ok (.getfield 29, 3) := by decide +kernel
theorem dX6_day_4 : decode cX6_day 4 = .ok (.getfield 154, 3) := by decide +kernel
theorem dX6_day_7 : decode cX6_day 7 = .ok (.bipush 99, 2) := by decide +kernel
theorem dX6_day_9 : decode cX6_day 9 = .ok (.if_icmp .lt 6, 3) := by decide +kernel
theorem dX6_day_12 : decode cX6_day 12 = .ok (.bipush (-5), 2) := by decide +kernel
theorem dX6_day_14 : decode cX6_day 14 = .ok (.ireturn, 1) := by decide +kernel
theorem dX6_day_15 : decode cX6_day 15 = .ok (.aload_n 0, 1) := by decide +kernel
theorem dX6_day_16 : decode cX6_day 16 = .ok (.getfield 36, 3) := by decide +kernel
theorem dX6_day_19 : decode cX6_day 19 = .ok (.aload_n 0, 1) := by decide +kernel
theorem dX6_day_20 : decode cX6_day 20 = .ok (.getfield 29, 3) := by decide +kernel
theorem dX6_day_23 : decode cX6_day 23 = .ok (.invokevirtual 147, 3) := by decide +kernel
theorem dX6_day_26 : decode cX6_day 26 = .ok (.aload_n 0, 1) := by decide +kernel
theorem dX6_day_27 : decode cX6_day 27 = .ok (.getfield 29, 3) := by decide +kernel
theorem dX6_day_30 : decode cX6_day 30 = .ok (.getfield 140, 3) := by decide +kernel
theorem dX6_day_33 : decode cX6_day 33 = .ok (.ifCond .eq 7, 3) := by decide +kernel
theorem dX6_day_36 : decode cX6_day 36 = .ok (.iconst 0, 1) := by decide +kernel
theorem dX6_day_37 : decode cX6_day 37 = .ok (.goto 17, 3) := by decide +kernel
theorem dX6_day_40 : decode cX6_day 40 = .ok (.aload_n 0, 1) := by decide +kernel
theorem dX6_day_41 : decode cX6_day 41 = .ok (.getfield 29, 3) := by decide +kernel
theorem dX6_day_44 : decode cX6_day 44 = .ok (.aload_n 0, 1) := by decide +kernel
theorem dX6_day_45 : decode cX6_day 45 = .ok (.getfield 19, 3) := by decide +kernel
theorem dX6_day_48 : decode cX6_day 48 = .ok (.getfield 157, 3) := by decide +kernel
theorem dX6_day_51 : decode cX6_day 51 = .ok (.invokevirtual 160, 3) := by decide +kernel
theorem dX6_day_54 : decode cX6_day 54 = .ok (.istore_n 1, 1) := by decide +kernel
theorem dX6_day_55 : decode cX6_day 55 = .ok (.aload_n 0, 1) := by decide +kernel
theorem dX6_day_56 : decode cX6_day 56 = .ok (.getfield 29, 3) := by decide +kernel
theorem dX6_day_59 : decode cX6_day 59 = .ok (.bipush 9, 2) := by decide +kernel
theorem dX6_day_61 : decode cX6_day 61 = .ok (.aload_n 0, 1) := by decide +kernel
theorem dX6_day_62 : decode cX6_day 62 = .ok (.getfield 29, 3) := by decide +kernel
theorem dX6_day_65 : decode cX6_day 65 = .ok (.getfield 163, 3) := by decide +kernel
theorem dX6_day_68 : decode cX6_day 68 = .ok (.iconst 1, 1) := by decide +kernel
theorem dX6_day_69 : decode cX6_day 69 = .ok (.iadd, 1) := by decide +kernel
theorem dX6_day_70 : decode cX6_day 70 = .ok (.invokestatic 166, 3) := by decide +kernel
theorem dX6_day_73 : decode cX6_day 73 = .ok (.putfield 163, 3) := by decide +kernel
theorem dX6_day_76 : decode cX6_day 76 = .ok (.aload_n 0, 1) := by decide +kernel
theorem dX6_day_77 : decode cX6_day 77 = .ok (.getfield 29, 3) := by decide +kernel
theorem dX6_day_80 : decode cX6_day 80 = .ok (.iconst 0, 1) := by decide +kernel
theorem dX6_day_81 : decode cX6_day 81 = .ok (.putfield 151, 3) := by decide +kernel
theorem dX6_day_84 : decode cX6_day 84 = .ok (.aload_n 0, 1) := by decide +kernel
theorem dX6_day_85 : decode cX6_day 85 = .ok (.getfield 29, 3) := by decide +kernel
theorem dX6_day_88 : decode cX6_day 88 = .ok (.dup, 1) := by decide +kernel
theorem dX6_day_89 : decode cX6_day 89 = .ok (.getfield 154, 3) := by decide +kernel
theorem dX6_day_92 : decode cX6_day 92 = .ok (.iconst 1, 1) := by decide +kernel
theorem dX6_day_93 : decode cX6_day 93 = .ok (.iadd, 1) := by decide +kernel
theorem dX6_day_94 : decode cX6_day 94 = .ok (.putfield 154, 3) := by decide +kernel
theorem dX6_day_97 : decode cX6_day 97 = .ok (.iload_n 1, 1) := by decide +kernel
theorem dX6_day_98 : decode cX6_day 98 = .ok (.ireturn, 1) := by decide +kernel
theorem dX6_blind_0 : decode cX6_blind 0 = .ok (.iload_n 1, 1) := by decide +kernel
theorem dX6_blind_1 : decode cX6_blind 1 = .ok (.iconst 0, 1) := by decide +kernel
theorem dX6_blind_2 : decode cX6_blind 2 = .ok (.bipush 7, 2) := by decide +kernel
theorem dX6_blind_4 : decode cX6_blind 4 = .ok (.invokestatic 66, 3) := by decide +kernel
theorem dX6_blind_7 : decode cX6_blind 7 = .ok (.ifCond .eq 6, 3) := by decide +kernel
theorem dX6_blind_10 : decode cX6_blind 10 = .ok (.bipush (-3), 2) := by decide +kernel
theorem dX6_blind_12 : decode cX6_blind 12 = .ok (.ireturn, 1) := by decide +kernel
theorem dX6_blind_13 : decode cX6_blind 13 = .ok (.aload_n 0, 1) := by decide +kernel
theorem dX6_blind_14 : decode cX6_blind 14 = .ok (.getfield 29, 3) := by decide +kernel
theorem dX6_blind_17 : decode cX6_blind 17 = .ok (.getfield 140, 3) := by decide +kernel
theorem dX6_blind_20 : decode cX6_blind 20 = .ok (.ifCond .ne 37, 3) := by decide +kernel
theorem dX6_blind_23 : decode cX6_blind 23 = .ok (.aload_n 0, 1) := by decide +kernel
theorem dX6_blind_24 : decode cX6_blind 24 = .ok (.getfield 29, 3) := by decide +kernel
theorem dX6_blind_27 : decode cX6_blind 27 = .ok (.getfield 151, 3) := by decide +kernel
theorem dX6_blind_30 : decode cX6_blind 30 = .ok (.aload_n 0, 1) := by decide +kernel
theorem dX6_blind_31 : decode cX6_blind 31 = .ok (.getfield 19, 3) := by decide +kernel
theorem dX6_blind_34 : decode cX6_blind 34 = .ok (.getfield 172, 3) := by decide +kernel
theorem dX6_blind_37 : decode cX6_blind 37 = .ok (.if_icmp .lt 20, 3) := by decide +kernel
theorem dX6_blind_40 : decode cX6_blind 40 = .ok (.aload_n 0, 1) := by decide +kernel
theorem dX6_blind_41 : decode cX6_blind 41 = .ok (.getfield 29, 3) := by decide +kernel
theorem dX6_blind_44 : decode cX6_blind 44 = .ok (.getfield 163, 3) := by decide +kernel
theorem dX6_blind_47 : decode cX6_blind 47 = .ok (.aload_n 0, 1) := by decide +kernel
theorem dX6_blind_48 : decode cX6_blind 48 = .ok (.getfield 19, 3) := by decide +kernel
theorem dX6_blind_51 : decode cX6_blind 51 = .ok (.getfield 175, 3) := by decide +kernel
theorem dX6_blind_54 : decode cX6_blind 54 = .ok (.if_icmp .ge 6, 3) := by decide +kernel
theorem dX6_blind_57 : decode cX6_blind 57 = .ok (.bipush (-4), 2) := by decide +kernel
theorem dX6_blind_59 : decode cX6_blind 59 = .ok (.ireturn, 1) := by decide +kernel
theorem dX6_blind_60 : decode cX6_blind 60 = .ok (.aload_n 0, 1) := by decide +kernel
theorem dX6_blind_61 : decode cX6_blind 61 = .ok (.getfield 36, 3) := by decide +kernel
theorem dX6_blind_64 : decode cX6_blind 64 = .ok (.aload_n 0, 1) := by decide +kernel
theorem dX6_blind_65 : decode cX6_blind 65 = .ok (.getfield 29, 3) := by decide +kernel
theorem dX6_blind_68 : decode cX6_blind 68 = .ok (.invokevirtual 147, 3) := by decide +kernel
theorem dX6_blind_71 : decode cX6_blind 71 = .ok (.aload_n 0, 1) := by decide +kernel
theorem dX6_blind_72 : decode cX6_blind 72 = .ok (.getfield 29, 3) := by decide +kernel
theorem dX6_blind_75 : decode cX6_blind 75 = .ok (.iconst 1, 1) := by decide +kernel
theorem dX6_blind_76 : decode cX6_blind 76 = .ok (.putfield 140, 3) := by decide +kernel
theorem dX6_blind_79 : decode cX6_blind 79 = .ok (.aload_n 0, 1) := by decide +kernel
theorem dX6_blind_80 : decode cX6_blind 80 = .ok (.getfield 19, 3) := by decide +kernel
theorem dX6_blind_83 : decode cX6_blind 83 = .ok (.iload_n 1, 1) := by decide +kernel
theorem dX6_blind_84 : decode cX6_blind 84 = .ok (.invokevirtual 178, 3) := by decide +kernel
theorem dX6_blind_87 : decode cX6_blind 87 = .ok (.istore_n 2, 1) := by decide +kernel
theorem dX6_blind_88 : decode cX6_blind 88 = .ok (.aload_n 0, 1) := by decide +kernel
theorem dX6_blind_89 : decode cX6_blind 89 = .ok (.getfield 29, 3) := by decide +kernel
theorem dX6_blind_92 : decode cX6_blind 92 = .ok (.iload_n 2, 1) := by decide +kernel
theorem dX6_blind_93 : decode cX6_blind 93 = .ok (.invokestatic 181, 3) := by decide +kernel
theorem dX6_blind_96 : decode cX6_blind 96 = .ok (.invokevirtual 160, 3) := by decide +kernel
theorem dX6_blind_99 : decode cX6_blind 99 = .ok (.pop, 1) := by decide +kernel
theorem dX6_blind_100 : decode cX6_blind 100 = .ok (.iload_n 2, 1) := by decide +kernel
theorem dX6_blind_101 : decode cX6_blind 101 = .ok (.ireturn, 1) := by decide +kernel
theorem dX6_hide_0 : decode cX6_hide 0 = .ok (.aload_n 0, 1) := by decide +kernel
theorem dX6_hide_1 : decode cX6_hide 1 = .ok (.getfield 19, 3) := by decide +kernel
theorem dX6_hide_4 : decode cX6_hide 4 = .ok (.iload_n 1, 1) := by decide +kernel
theorem dX6_hide_5 : decode cX6_hide 5 = .ok (.invokevirtual 91, 3) := by decide +kernel
theorem dX6_hide_8 : decode cX6_hide 8 = .ok (.ifCond .eq 19, 3) := by decide +kernel
theorem dX6_hide_11 : decode cX6_hide 11 = .ok (.iload_n 2, 1) := by decide +kernel
theorem dX6_hide_12 : decode cX6_hide 12 = .ok (.iconst (-1), 1) := by decide +kernel
theorem dX6_hide_13 : decode cX6_hide 13 = .ok (.if_icmp .eq 17, 3) := by decide +kernel
theorem dX6_hide_16 : decode cX6_hide 16 = .ok (.aload_n 0, 1) := by decide +kernel
theorem dX6_hide_17 : decode cX6_hide 17 = .ok (.getfield 19, 3) := by decide +kernel
theorem dX6_hide_20 : decode cX6_hide 20 = .ok (.iload_n 2, 1) := by decide +kernel
theorem dX6_hide_21 : decode cX6_hide 21 = .ok (.invokevirtual 106, 3) := by decide +kernel
theorem dX6_hide_24 : decode cX6_hide 24 = .ok (.ifCond .ne 6, 3) := by decide +kernel
theorem dX6_hide_27 : decode cX6_hide 27 = .ok (.bipush (-2), 2) := by decide +kernel
theorem dX6_hide_29 : decode cX6_hide 29 = .ok (.ireturn, 1) := by decide +kernel
theorem dX6_hide_30 : decode cX6_hide 30 = .ok (.aload_n 0, 1) := by decide +kernel
theorem dX6_hide_31 : decode cX6_hide 31 = .ok (.getfield 29, 3) := by decide +kernel
theorem dX6_hide_34 : decode cX6_hide 34 = .ok (.iload_n 1, 1) := by decide +kernel
theorem dX6_hide_35 : decode cX6_hide 35 = .ok (.iload_n 2, 1) := by decide +kernel
theorem dX6_hide_36 : decode cX6_hide 36 = .ok (.invokevirtual 186, 3) := by decide +kernel
theorem dX6_hide_39 : decode cX6_hide 39 = .ok (.ifCond .ne 6, 3) := by decide +kernel
theorem dX6_hide_42 : decode cX6_hide 42 = .ok (.bipush (-4), 2) := by decide +kernel
theorem dX6_hide_44 : decode cX6_hide 44 = .ok (.ireturn, 1) := by decide +kernel
theorem dX6_hide_45 : decode cX6_hide 45 = .ok (.aload_n 0, 1) := by decide +kernel
theorem dX6_hide_46 : decode cX6_hide 46 = .ok (.getfield 36, 3) := by decide +kernel
theorem dX6_hide_49 : decode cX6_hide 49 = .ok (.aload_n 0, 1) := by decide +kernel
theorem dX6_hide_50 : decode cX6_hide 50 = .ok (.getfield 29, 3) := by decide +kernel
theorem dX6_hide_53 : decode cX6_hide 53 = .ok (.invokevirtual 147, 3) := by decide +kernel
theorem dX6_hide_56 : decode cX6_hide 56 = .ok (.aload_n 0, 1) := by decide +kernel
theorem dX6_hide_57 : decode cX6_hide 57 = .ok (.getfield 29, 3) := by decide +kernel
theorem dX6_hide_60 : decode cX6_hide 60 = .ok (.getfield 103, 3) := by decide +kernel
theorem dX6_hide_63 : decode cX6_hide 63 = .ok (.iload_n 1, 1) := by decide +kernel
theorem dX6_hide_64 : decode cX6_hide 64 = .ok (.iaload, 1) := by decide +kernel
theorem dX6_hide_65 : decode cX6_hide 65 = .ok (.istore_n 3, 1) := by decide +kernel
theorem dX6_hide_66 : decode cX6_hide 66 = .ok (.aload_n 0, 1) := by decide +kernel
theorem dX6_hide_67 : decode cX6_hide 67 = .ok (.getfield 29, 3) := by decide +kernel
theorem dX6_hide_70 : decode cX6_hide 70 = .ok (.getfield 103, 3) := by decide +kernel
theorem dX6_hide_73 : decode cX6_hide 73 = .ok (.iload_n 1, 1) := by decide +kernel
theorem dX6_hide_74 : decode cX6_hide 74 = .ok (.iload_n 2, 1) := by decide +kernel
theorem dX6_hide_75 : decode cX6_hide 75 = .ok (.iastore, 1) := by decide +kernel
theorem dX6_hide_76 : decode cX6_hide 76 = .ok (.iload_n 3, 1) := by decide +kernel
theorem dX6_hide_77 : decode cX6_hide 77 = .ok (.ireturn, 1) := by decide +kernel
theorem dX6_morning_0 : decode cX6_morning 0 = .ok (.aload_n 0, 1) := by decide +kernel
theorem dX6_morning_1 : decode cX6_morning 1 = .ok (.getfield 29, 3) := by decide +kernel
theorem dX6_morning_4 : decode cX6_morning 4 = .ok (.getfield 140, 3) := by decide +kernel
theorem dX6_morning_7 : decode cX6_morning 7 = .ok (.ifCond .ne 6, 3) := by decide +kernel
theorem dX6_morning_10 : decode cX6_morning 10 = .ok (.bipush (-4), 2) := by decide +kernel
theorem dX6_morning_12 : decode cX6_morning 12 = .ok (.ireturn, 1) := by decide +kernel
theorem dX6_morning_13 : decode cX6_morning 13 = .ok (.aload_n 0, 1) := by decide +kernel
theorem dX6_morning_14 : decode cX6_morning 14 = .ok (.getfield 36, 3) := by decide +kernel
theorem dX6_morning_17 : decode cX6_morning 17 = .ok (.aload_n 0, 1) := by decide +kernel
theorem dX6_morning_18 : decode cX6_morning 18 = .ok (.getfield 29, 3) := by decide +kernel
theorem dX6_morning_21 : decode cX6_morning 21 = .ok (.invokevirtual 147, 3) := by decide +kernel
theorem dX6_morning_24 : decode cX6_morning 24 = .ok (.aload_n 0, 1) := by decide +kernel
theorem dX6_morning_25 : decode cX6_morning 25 = .ok (.getfield 29, 3) := by decide +kernel
theorem dX6_morning_28 : decode cX6_morning 28 = .ok (.aload_n 0, 1) := by decide +kernel
theorem dX6_morning_29 : decode cX6_morning 29 = .ok (.getfield 19, 3) := by decide +kernel
theorem dX6_morning_32 : decode cX6_morning 32 = .ok (.invokevirtual 189, 3) := by decide +kernel
theorem dX6_morning_35 : decode cX6_morning 35 = .ok (.ireturn, 1) := by decide +kernel
theorem dX6_undo_0 : decode cX6_undo 0 = .ok (.aload_n 0, 1) := by decide +kernel
theorem dX6_undo_1 : decode cX6_undo 1 = .ok (.getfield 36, 3) := by decide +kernel
theorem dX6_undo_4 : decode cX6_undo 4 = .ok (.aload_n 0, 1) := by decide +kernel
theorem dX6_undo_5 : decode cX6_undo 5 = .ok (.getfield 29, 3) := by decide +kernel
theorem dX6_undo_8 : decode cX6_undo 8 = .ok (.invokevirtual 192, 3) := by decide +kernel
theorem dX6_undo_11 : decode cX6_undo 11 = .ok (.ifCond .eq 13, 3) := by decide +kernel
theorem dX6_undo_14 : decode cX6_undo 14 = .ok (.aload_n 0, 1) := by decide +kernel
theorem dX6_undo_15 : decode cX6_undo 15 = .ok (.getfield 36, 3) := by decide +kernel
theorem dX6_undo_18 : decode cX6_undo 18 = .ok (.getfield 196, 3) := by decide +kernel
theorem dX6_undo_21 : decode cX6_undo 21 = .ok (.goto 5, 3) := by decide +kernel
theorem dX6_undo_24 : decode cX6_undo 24 = .ok (.bipush (-4), 2) := by decide +kernel
theorem dX6_undo_26 : decode cX6_undo 26 = .ok (.ireturn, 1) := by decide +kernel
theorem dX6_keep_0 : decode cX6_keep 0 = .ok (.iload_n 1, 1) := by decide +kernel
theorem dX6_keep_1 : decode cX6_keep 1 = .ok (.iconst 0, 1) := by decide +kernel
theorem dX6_keep_2 : decode cX6_keep 2 = .ok (.iconst 1, 1) := by decide +kernel
theorem dX6_keep_3 : decode cX6_keep 3 = .ok (.invokestatic 66, 3) := by decide +kernel
theorem dX6_keep_6 : decode cX6_keep 6 = .ok (.ifCond .eq 6, 3) := by decide +kernel
theorem dX6_keep_9 : decode cX6_keep 9 = .ok (.bipush (-2), 2) := by decide +kernel
theorem dX6_keep_11 : decode cX6_keep 11 = .ok (.ireturn, 1) := by decide +kernel
theorem dX6_keep_12 : decode cX6_keep 12 = .ok (.aload_n 0, 1) := by decide +kernel
theorem dX6_keep_13 : decode cX6_keep 13 = .ok (.getfield 40, 3) := by decide +kernel
theorem dX6_keep_16 : decode cX6_keep 16 = .ok (.iload_n 1, 1) := by decide +kernel
theorem dX6_keep_17 : decode cX6_keep 17 = .ok (.aaload, 1) := by decide +kernel
theorem dX6_keep_18 : decode cX6_keep 18 = .ok (.aload_n 0, 1) := by decide +kernel
theorem dX6_keep_19 : decode cX6_keep 19 = .ok (.getfield 29, 3) := by decide +kernel
theorem dX6_keep_22 : decode cX6_keep 22 = .ok (.invokevirtual 199, 3) := by decide +kernel
theorem dX6_keep_25 : decode cX6_keep 25 = .ok (.aload_n 0, 1) := by decide +kernel
theorem dX6_keep_26 : decode cX6_keep 26 = .ok (.getfield 44, 3) := by decide +kernel
theorem dX6_keep_29 : decode cX6_keep 29 = .ok (.iload_n 1, 1) := by decide +kernel
theorem dX6_keep_30 : decode cX6_keep 30 = .ok (.iconst 1, 1) := by decide +kernel
theorem dX6_keep_31 : decode cX6_keep 31 = .ok (.bastore, 1) := by decide +kernel
theorem dX6_keep_32 : decode cX6_keep 32 = .ok (.aload_n 0, 1) := by decide +kernel
theorem dX6_keep_33 : decode cX6_keep 33 = .ok (.getfield 29, 3) := by decide +kernel
theorem dX6_keep_36 : decode cX6_keep 36 = .ok (.getfield 154, 3) := by decide +kernel
theorem dX6_keep_39 : decode cX6_keep 39 = .ok (.ireturn, 1) := by decide +kernel
theorem dX6_back_0 : decode cX6_back 0 = .ok (.iload_n 1, 1) := by decide +kernel
theorem dX6_back_1 : decode cX6_back 1 = .ok (.iconst 0, 1) := by decide +kernel
theorem dX6_back_2 : decode cX6_back 2 = .ok (.iconst 1, 1) := by decide +kernel
theorem dX6_back_3 : decode cX6_back 3 = .ok (.invokestatic 66, 3) := by decide +kernel
theorem dX6_back_6 : decode cX6_back 6 = .ok (.ifCond .eq 6, 3) := by decide +kernel
theorem dX6_back_9 : decode cX6_back 9 = .ok (.bipush (-2), 2) := by decide +kernel
theorem dX6_back_11 : decode cX6_back 11 = .ok (.ireturn, 1) := by decide +kernel
theorem dX6_back_12 : decode cX6_back 12 = .ok (.aload_n 0, 1) := by decide +kernel
theorem dX6_back_13 : decode cX6_back 13 = .ok (.getfield 44, 3) := by decide +kernel
theorem dX6_back_16 : decode cX6_back 16 = .ok (.iload_n 1, 1) := by decide +kernel
theorem dX6_back_17 : decode cX6_back 17 = .ok (.baload, 1) := by decide +kernel
theorem dX6_back_18 : decode cX6_back 18 = .ok (.ifCond .ne 6, 3) := by decide +kernel
theorem dX6_back_21 : decode cX6_back 21 = .ok (.bipush (-4), 2) := by decide +kernel
theorem dX6_back_23 : decode cX6_back 23 = .ok (.ireturn, 1) := by decide +kernel
theorem dX6_back_24 : decode cX6_back 24 = .ok (.aload_n 0, 1) := by decide +kernel
theorem dX6_back_25 : decode cX6_back 25 = .ok (.getfield 29, 3) := by decide +kernel
theorem dX6_back_28 : decode cX6_back 28 = .ok (.aload_n 0, 1) := by decide +kernel
theorem dX6_back_29 : decode cX6_back 29 = .ok (.getfield 40, 3) := by decide +kernel
theorem dX6_back_32 : decode cX6_back 32 = .ok (.iload_n 1, 1) := by decide +kernel
theorem dX6_back_33 : decode cX6_back 33 = .ok (.aaload, 1) := by decide +kernel
theorem dX6_back_34 : decode cX6_back 34 = .ok (.invokevirtual 199, 3) := by decide +kernel
theorem dX6_back_37 : decode cX6_back 37 = .ok (.aload_n 0, 1) := by decide +kernel
theorem dX6_back_38 : decode cX6_back 38 = .ok (.getfield 36, 3) := by decide +kernel
theorem dX6_back_41 : decode cX6_back 41 = .ok (.invokevirtual 201, 3) := by decide +kernel
theorem dX6_back_44 : decode cX6_back 44 = .ok (.aload_n 0, 1) := by decide +kernel
theorem dX6_back_45 : decode cX6_back 45 = .ok (.getfield 29, 3) := by decide +kernel
theorem dX6_back_48 : decode cX6_back 48 = .ok (.getfield 154, 3) := by decide +kernel
theorem dX6_back_51 : decode cX6_back 51 = .ok (.ireturn, 1) := by decide +kernel
theorem dX6_soon_0 : decode cX6_soon 0 = .ok (.iload_n 1, 1) := by decide +kernel
theorem dX6_soon_1 : decode cX6_soon 1 = .ok (.iconst 0, 1) := by decide +kernel
theorem dX6_soon_2 : decode cX6_soon 2 = .ok (.iconst 1, 1) := by decide +kernel
theorem dX6_soon_3 : decode cX6_soon 3 = .ok (.invokestatic 66, 3) := by decide +kernel
theorem dX6_soon_6 : decode cX6_soon 6 = .ok (.ifCond .eq 6, 3) := by decide +kernel
theorem dX6_soon_9 : decode cX6_soon 9 = .ok (.bipush (-3), 2) := by decide +kernel
theorem dX6_soon_11 : decode cX6_soon 11 = .ok (.ireturn, 1) := by decide +kernel
theorem dX6_soon_12 : decode cX6_soon 12 = .ok (.aload_n 0, 1) := by decide +kernel
theorem dX6_soon_13 : decode cX6_soon 13 = .ok (.invokevirtual 204, 3) := by decide +kernel
theorem dX6_soon_16 : decode cX6_soon 16 = .ok (.istore_n 2, 1) := by decide +kernel
theorem dX6_soon_17 : decode cX6_soon 17 = .ok (.iload_n 1, 1) := by decide +kernel
theorem dX6_soon_18 : decode cX6_soon 18 = .ok (.ifCond .eq 8, 3) := by decide +kernel
theorem dX6_soon_21 : decode cX6_soon 21 = .ok (.iload_n 2, 1) := by decide +kernel
theorem dX6_soon_22 : decode cX6_soon 22 = .ok (.iconst (-1), 1) := by decide +kernel
theorem dX6_soon_23 : decode cX6_soon 23 = .ok (.if_icmp .ne 5, 3) := by decide +kernel
theorem dX6_soon_26 : decode cX6_soon 26 = .ok (.iload_n 2, 1) := by decide +kernel
theorem dX6_soon_27 : decode cX6_soon 27 = .ok (.ireturn, 1) := by decide +kernel
theorem dX6_soon_28 : decode cX6_soon 28 = .ok (.aload_n 0, 1) := by decide +kernel
theorem dX6_soon_29 : decode cX6_soon 29 = .ok (.getfield 29, 3) := by decide +kernel
theorem dX6_soon_32 : decode cX6_soon 32 = .ok (.getfield 208, 3) := by decide +kernel
theorem dX6_soon_35 : decode cX6_soon 35 = .ok (.invokestatic 181, 3) := by decide +kernel
theorem dX6_soon_38 : decode cX6_soon 38 = .ok (.iload_n 2, 1) := by decide +kernel
theorem dX6_soon_39 : decode cX6_soon 39 = .ok (.aload_n 0, 1) := by decide +kernel
theorem dX6_soon_40 : decode cX6_soon 40 = .ok (.getfield 19, 3) := by decide +kernel
theorem dX6_soon_43 : decode cX6_soon 43 = .ok (.getfield 157, 3) := by decide +kernel
theorem dX6_soon_46 : decode cX6_soon 46 = .ok (.imul, 1) := by decide +kernel
theorem dX6_soon_47 : decode cX6_soon 47 = .ok (.invokestatic 166, 3) := by decide +kernel
theorem dX6_soon_50 : decode cX6_soon 50 = .ok (.ireturn, 1) := by decide +kernel
theorem dX6_plan_0 : decode cX6_plan 0 = .ok (.iload_n 1, 1) := by decide +kernel
theorem dX6_plan_1 : decode cX6_plan 1 = .ok (.iconst (-1), 1) := by decide +kernel
theorem dX6_plan_2 : decode cX6_plan 2 = .ok (.if_icmp .eq 17, 3) := by decide +kernel
theorem dX6_plan_5 : decode cX6_plan 5 = .ok (.aload_n 0, 1) := by decide +kernel
theorem dX6_plan_6 : decode cX6_plan 6 = .ok (.getfield 19, 3) := by decide +kernel
theorem dX6_plan_9 : decode cX6_plan 9 = .ok (.iload_n 1, 1) := by decide +kernel
theorem dX6_plan_10 : decode cX6_plan 10 = .ok (.invokevirtual 91, 3) := by decide +kernel
theorem dX6_plan_13 : decode cX6_plan 13 = .ok (.ifCond .ne 6, 3) := by decide +kernel
theorem dX6_plan_16 : decode cX6_plan 16 = .ok (.bipush (-2), 2) := by decide +kernel
theorem dX6_plan_18 : decode cX6_plan 18 = .ok (.ireturn, 1) := by decide +kernel
theorem dX6_plan_19 : decode cX6_plan 19 = .ok (.aload_n 0, 1) := by decide +kernel
theorem dX6_plan_20 : decode cX6_plan 20 = .ok (.getfield 51, 3) := by decide +kernel
theorem dX6_plan_23 : decode cX6_plan 23 = .ok (.aload_n 0, 1) := by decide +kernel
theorem dX6_plan_24 : decode cX6_plan 24 = .ok (.getfield 19, 3) := by decide +kernel
theorem dX6_plan_27 : decode cX6_plan 27 = .ok (.aload_n 0, 1) := by decide +kernel
theorem dX6_plan_28 : decode cX6_plan 28 = .ok (.getfield 29, 3) := by decide +kernel
theorem dX6_plan_31 : decode cX6_plan 31 = .ok (.invokevirtual 211, 3) := by decide +kernel
theorem dX6_plan_34 : decode cX6_plan 34 = .ok (.iload_n 1, 1) := by decide +kernel
theorem dX6_plan_35 : decode cX6_plan 35 = .ok (.iconst (-1), 1) := by decide +kernel
theorem dX6_plan_36 : decode cX6_plan 36 = .ok (.if_icmp .ne 14, 3) := by decide +kernel
theorem dX6_plan_39 : decode cX6_plan 39 = .ok (.aload_n 0, 1) := by decide +kernel
theorem dX6_plan_40 : decode cX6_plan 40 = .ok (.getfield 51, 3) := by decide +kernel
theorem dX6_plan_43 : decode cX6_plan 43 = .ok (.iconst 0, 1) := by decide +kernel
theorem dX6_plan_44 : decode cX6_plan 44 = .ok (.invokevirtual 215, 3) := by decide +kernel
theorem dX6_plan_47 : decode cX6_plan 47 = .ok (.goto 11, 3) := by decide +kernel
theorem dX6_plan_50 : decode cX6_plan 50 = .ok (.aload_n 0, 1) := by decide +kernel
theorem dX6_plan_51 : decode cX6_plan 51 = .ok (.getfield 51, 3) := by decide +kernel
theorem dX6_plan_54 : decode cX6_plan 54 = .ok (.iload_n 1, 1) := by decide +kernel
theorem dX6_plan_55 : decode cX6_plan 55 = .ok (.invokevirtual 218, 3) := by decide +kernel
theorem dX6_plan_58 : decode cX6_plan 58 = .ok (.ireturn, 1) := by decide +kernel
theorem dX6_feel_0 : decode cX6_feel 0 = .ok (.iload_n 1, 1) := by decide +kernel
theorem dX6_feel_1 : decode cX6_feel 1 = .ok (.iconst 0, 1) := by decide +kernel
theorem dX6_feel_2 : decode cX6_feel 2 = .ok (.bipush 6, 2) := by decide +kernel
theorem dX6_feel_4 : decode cX6_feel 4 = .ok (.invokestatic 66, 3) := by decide +kernel
theorem dX6_feel_7 : decode cX6_feel 7 = .ok (.ifCond .ne 12, 3) := by decide +kernel
theorem dX6_feel_10 : decode cX6_feel 10 = .ok (.iload_n 2, 1) := by decide +kernel
theorem dX6_feel_11 : decode cX6_feel 11 = .ok (.iconst 0, 1) := by decide +kernel
theorem dX6_feel_12 : decode cX6_feel 12 = .ok (.iconst 1, 1) := by decide +kernel
theorem dX6_feel_13 : decode cX6_feel 13 = .ok (.invokestatic 66, 3) := by decide +kernel
theorem dX6_feel_16 : decode cX6_feel 16 = .ok (.ifCond .eq 6, 3) := by decide +kernel
theorem dX6_feel_19 : decode cX6_feel 19 = .ok (.bipush (-3), 2) := by decide +kernel
theorem dX6_feel_21 : decode cX6_feel 21 = .ok (.ireturn, 1) := by decide +kernel
theorem dX6_feel_22 : decode cX6_feel 22 = .ok (.aload_n 0, 1) := by decide +kernel
theorem dX6_feel_23 : decode cX6_feel 23 = .ok (.getfield 51, 3) := by decide +kernel
theorem dX6_feel_26 : decode cX6_feel 26 = .ok (.aload_n 0, 1) := by decide +kernel
theorem dX6_feel_27 : decode cX6_feel 27 = .ok (.getfield 19, 3) := by decide +kernel
theorem dX6_feel_30 : decode cX6_feel 30 = .ok (.aload_n 0, 1) := by decide +kernel
theorem dX6_feel_31 : decode cX6_feel 31 = .ok (.getfield 29, 3) := by decide +kernel
theorem dX6_feel_34 : decode cX6_feel 34 = .ok (.invokevirtual 211, 3) := by decide +kernel
theorem dX6_feel_37 : decode cX6_feel 37 = .ok (.aload_n 0, 1) := by decide +kernel
theorem dX6_feel_38 : decode cX6_feel 38 = .ok (.getfield 51, 3) := by decide +kernel
theorem dX6_feel_41 : decode cX6_feel 41 = .ok (.aload_n 0, 1) := by decide +kernel
theorem dX6_feel_42 : decode cX6_feel 42 = .ok (.getfield 19, 3) := by decide +kernel
theorem dX6_feel_45 : decode cX6_feel 45 = .ok (.invokevirtual 221, 3) := by decide +kernel
theorem dX6_feel_48 : decode cX6_feel 48 = .ok (.aload_n 0, 1) := by decide +kernel
theorem dX6_feel_49 : decode cX6_feel 49 = .ok (.getfield 29, 3) := by decide +kernel
theorem dX6_feel_52 : decode cX6_feel 52 = .ok (.getfield 115, 3) := by decide +kernel
theorem dX6_feel_55 : decode cX6_feel 55 = .ok (.iconst (-1), 1) := by decide +kernel
theorem dX6_feel_56 : decode cX6_feel 56 = .ok (.ixor, 1) := by decide +kernel
theorem dX6_feel_57 : decode cX6_feel 57 = .ok (.iand, 1) := by decide +kernel
theorem dX6_feel_58 : decode cX6_feel 58 = .ok (.iload_n 1, 1) := by decide +kernel
theorem dX6_feel_59 : decode cX6_feel 59 = .ok (.invokevirtual 224, 3) := by decide +kernel
theorem dX6_feel_62 : decode cX6_feel 62 = .ok (.istore_n 3, 1) := by decide +kernel
theorem dX6_feel_63 : decode cX6_feel 63 = .ok (.iload_n 2, 1) := by decide +kernel
theorem dX6_feel_64 : decode cX6_feel 64 = .ok (.ifCond .ne 7, 3) := by decide +kernel
theorem dX6_feel_67 : decode cX6_feel 67 = .ok (.iload_n 3, 1) := by decide +kernel
theorem dX6_feel_68 : decode cX6_feel 68 = .ok (.goto 11, 3) := by decide +kernel
theorem dX6_feel_71 : decode cX6_feel 71 = .ok (.aload_n 0, 1) := by decide +kernel
theorem dX6_feel_72 : decode cX6_feel 72 = .ok (.getfield 51, 3) := by decide +kernel
theorem dX6_feel_75 : decode cX6_feel 75 = .ok (.iload_n 3, 1) := by decide +kernel
theorem dX6_feel_76 : decode cX6_feel 76 = .ok (.invokevirtual 215, 3) := by decide +kernel
theorem dX6_feel_79 : decode cX6_feel 79 = .ok (.ireturn, 1) := by decide +kernel
theorem dX6_names_0 : decode cX6_names 0 = .ok (.iload_n 1, 1) := by decide +kernel
theorem dX6_names_1 : decode cX6_names 1 = .ok (.lookupswitch 44 #[(0, 27), (1, 36)], 27) := by decide +kernel
theorem dX6_names_28 : decode cX6_names 28 = .ok (.aload_n 0, 1) := by decide +kernel
theorem dX6_names_29 : decode cX6_names 29 = .ok (.getfield 19, 3) := by decide +kernel
theorem dX6_names_32 : decode cX6_names 32 = .ok (.iconst 0, 1) := by decide +kernel
theorem dX6_names_33 : decode cX6_names 33 = .ok (.invokevirtual 227, 3) := by decide +kernel
theorem dX6_names_36 : decode cX6_names 36 = .ok (.ireturn, 1) := by decide +kernel
theorem dX6_names_37 : decode cX6_names 37 = .ok (.aload_n 0, 1) := by decide +kernel
theorem dX6_names_38 : decode cX6_names 38 = .ok (.getfield 19, 3) := by decide +kernel
theorem dX6_names_41 : decode cX6_names 41 = .ok (.invokevirtual 230, 3) := by decide +kernel
theorem dX6_names_44 : decode cX6_names 44 = .ok (.ireturn, 1) := by decide +kernel
theorem dX6_names_45 : decode cX6_names 45 = .ok (.bipush (-3), 2) := by decide +kernel
theorem dX6_names_47 : decode cX6_names 47 = .ok (.ireturn, 1) := by decide +kernel
theorem dX6_came_0 : decode cX6_came 0 = .ok (.iload_n 1, 1) := by decide +kernel
theorem dX6_came_1 : decode cX6_came 1 = .ok (.iconst 0, 1) := by decide +kernel
theorem dX6_came_2 : decode cX6_came 2 = .ok (.aload_n 0, 1) := by decide +kernel
theorem dX6_came_3 : decode cX6_came 3 = .ok (.getfield 19, 3) := by decide +kernel
theorem dX6_came_6 : decode cX6_came 6 = .ok (.getfield 233, 3) := by decide +kernel
theorem dX6_came_9 : decode cX6_came 9 = .ok (.invokestatic 236, 3) := by decide +kernel
theorem dX6_came_12 : decode cX6_came 12 = .ok (.invokestatic 66, 3) := by decide +kernel
theorem dX6_came_15 : decode cX6_came 15 = .ok (.ifCond .eq 8, 3) := by decide +kernel
theorem dX6_came_18 : decode cX6_came 18 = .ok (.bipush (-2), 2) := by decide +kernel
theorem dX6_came_20 : decode cX6_came 20 = .ok (.goto 11, 3) := by decide +kernel
theorem dX6_came_23 : decode cX6_came 23 = .ok (.aload_n 0, 1) := by decide +kernel
theorem dX6_came_24 : decode cX6_came 24 = .ok (.getfield 19, 3) := by decide +kernel
theorem dX6_came_27 : decode cX6_came 27 = .ok (.iload_n 1, 1) := by decide +kernel
theorem dX6_came_28 : decode cX6_came 28 = .ok (.invokevirtual 227, 3) := by decide +kernel
theorem dX6_came_31 : decode cX6_came 31 = .ok (.ireturn, 1) := by decide +kernel
theorem dX6_seen_0 : decode cX6_seen 0 = .ok (.aload_n 0, 1) := by decide +kernel
theorem dX6_seen_1 : decode cX6_seen 1 = .ok (.getfield 19, 3) := by decide +kernel
theorem dX6_seen_4 : decode cX6_seen 4 = .ok (.iload_n 1, 1) := by decide +kernel
theorem dX6_seen_5 : decode cX6_seen 5 = .ok (.invokevirtual 91, 3) := by decide +kernel
theorem dX6_seen_8 : decode cX6_seen 8 = .ok (.ifCond .eq 14, 3) := by decide +kernel
theorem dX6_seen_11 : decode cX6_seen 11 = .ok (.aload_n 0, 1) := by decide +kernel
theorem dX6_seen_12 : decode cX6_seen 12 = .ok (.getfield 19, 3) := by decide +kernel
theorem dX6_seen_15 : decode cX6_seen 15 = .ok (.iload_n 2, 1) := by decide +kernel
theorem dX6_seen_16 : decode cX6_seen 16 = .ok (.invokevirtual 106, 3) := by decide +kernel
theorem dX6_seen_19 : decode cX6_seen 19 = .ok (.ifCond .ne 6, 3) := by decide +kernel
theorem dX6_seen_22 : decode cX6_seen 22 = .ok (.bipush (-2), 2) := by decide +kernel
theorem dX6_seen_24 : decode cX6_seen 24 = .ok (.ireturn, 1) := by decide +kernel
theorem dX6_seen_25 : decode cX6_seen 25 = .ok (.iload_n 3, 1) := by decide +kernel
theorem dX6_seen_26 : decode cX6_seen 26 = .ok (.iconst 0, 1) := by decide +kernel
theorem dX6_seen_27 : decode cX6_seen 27 = .ok (.iconst 1, 1) := by decide +kernel
theorem dX6_seen_28 : decode cX6_seen 28 = .ok (.invokestatic 66, 3) := by decide +kernel
theorem dX6_seen_31 : decode cX6_seen 31 = .ok (.ifCond .eq 6, 3) := by decide +kernel
theorem dX6_seen_34 : decode cX6_seen 34 = .ok (.bipush (-3), 2) := by decide +kernel
theorem dX6_seen_36 : decode cX6_seen 36 = .ok (.ireturn, 1) := by decide +kernel
theorem dX6_seen_37 : decode cX6_seen 37 = .ok (.aload_n 0, 1) := by decide +kernel
theorem dX6_seen_38 : decode cX6_seen 38 = .ok (.getfield 58, 3) := by decide +kernel
theorem dX6_seen_41 : decode cX6_seen 41 = .ok (.iload_n 1, 1) := by decide +kernel
theorem dX6_seen_42 : decode cX6_seen 42 = .ok (.iload_n 2, 1) := by decide +kernel
theorem dX6_seen_43 : decode cX6_seen 43 = .ok (.iload_n 3, 1) := by decide +kernel
theorem dX6_seen_44 : decode cX6_seen 44 = .ok (.iconst 1, 1) := by decide +kernel
theorem dX6_seen_45 : decode cX6_seen 45 = .ok (.if_icmp .ne 7, 3) := by decide +kernel
theorem dX6_seen_48 : decode cX6_seen 48 = .ok (.iconst 1, 1) := by decide +kernel
theorem dX6_seen_49 : decode cX6_seen 49 = .ok (.goto 4, 3) := by decide +kernel
theorem dX6_seen_52 : decode cX6_seen 52 = .ok (.iconst 0, 1) := by decide +kernel
theorem dX6_seen_53 : decode cX6_seen 53 = .ok (.invokevirtual 239, 3) := by decide +kernel
theorem dX6_seen_56 : decode cX6_seen 56 = .ok (.ifCond .eq 13, 3) := by decide +kernel
theorem dX6_seen_59 : decode cX6_seen 59 = .ok (.aload_n 0, 1) := by decide +kernel
theorem dX6_seen_60 : decode cX6_seen 60 = .ok (.getfield 58, 3) := by decide +kernel
theorem dX6_seen_63 : decode cX6_seen 63 = .ok (.getfield 242, 3) := by decide +kernel
theorem dX6_seen_66 : decode cX6_seen 66 = .ok (.goto 5, 3) := by decide +kernel
theorem dX6_seen_69 : decode cX6_seen 69 = .ok (.bipush (-5), 2) := by decide +kernel
theorem dX6_seen_71 : decode cX6_seen 71 = .ok (.ireturn, 1) := by decide +kernel
theorem dX6_forget_0 : decode cX6_forget 0 = .ok (.aload_n 0, 1) := by decide +kernel
theorem dX6_forget_1 : decode cX6_forget 1 = .ok (.getfield 58, 3) := by decide +kernel
theorem dX6_forget_4 : decode cX6_forget 4 = .ok (.getfield 242, 3) := by decide +kernel
theorem dX6_forget_7 : decode cX6_forget 7 = .ok (.istore_n 1, 1) := by decide +kernel
theorem dX6_forget_8 : decode cX6_forget 8 = .ok (.aload_n 0, 1) := by decide +kernel
theorem dX6_forget_9 : decode cX6_forget 9 = .ok (.getfield 58, 3) := by decide +kernel
theorem dX6_forget_12 : decode cX6_forget 12 = .ok (.iconst 0, 1) := by decide +kernel
theorem dX6_forget_13 : decode cX6_forget 13 = .ok (.putfield 242, 3) := by decide +kernel
theorem dX6_forget_16 : decode cX6_forget 16 = .ok (.iload_n 1, 1) := by decide +kernel
theorem dX6_forget_17 : decode cX6_forget 17 = .ok (.ireturn, 1) := by decide +kernel
theorem dX6_strong_0 : decode cX6_strong 0 = .ok (.aload_n 0, 1) := by decide +kernel
theorem dX6_strong_1 : decode cX6_strong 1 = .ok (.getfield 19, 3) := by decide +kernel
theorem dX6_strong_4 : decode cX6_strong 4 = .ok (.iload_n 1, 1) := by decide +kernel
theorem dX6_strong_5 : decode cX6_strong 5 = .ok (.invokevirtual 106, 3) := by decide +kernel
theorem dX6_strong_8 : decode cX6_strong 8 = .ok (.ifCond .ne 6, 3) := by decide +kernel
theorem dX6_strong_11 : decode cX6_strong 11 = .ok (.bipush (-2), 2) := by decide +kernel
theorem dX6_strong_13 : decode cX6_strong 13 = .ok (.ireturn, 1) := by decide +kernel
theorem dX6_strong_14 : decode cX6_strong 14 = .ok (.iload_n 2, 1) := by decide +kernel
theorem dX6_strong_15 : decode cX6_strong 15 = .ok (.lookupswitch 51 #[(0, 25), (1, 38)], 25) := by decide +kernel
theorem dX6_strong_40 : decode cX6_strong 40 = .ok (.aload_n 0, 1) := by decide +kernel
theorem dX6_strong_41 : decode cX6_strong 41 = .ok (.getfield 58, 3) := by decide +kernel
theorem dX6_strong_44 : decode cX6_strong 44 = .ok (.aload_n 0, 1) := by decide +kernel
theorem dX6_strong_45 : decode cX6_strong 45 = .ok (.getfield 19, 3) := by decide +kernel
theorem dX6_strong_48 : decode cX6_strong 48 = .ok (.iload_n 1, 1) := by decide +kernel
theorem dX6_strong_49 : decode cX6_strong 49 = .ok (.invokevirtual 243, 3) := by decide +kernel
theorem dX6_strong_52 : decode cX6_strong 52 = .ok (.ireturn, 1) := by decide +kernel
theorem dX6_strong_53 : decode cX6_strong 53 = .ok (.aload_n 0, 1) := by decide +kernel
theorem dX6_strong_54 : decode cX6_strong 54 = .ok (.getfield 58, 3) := by decide +kernel
theorem dX6_strong_57 : decode cX6_strong 57 = .ok (.aload_n 0, 1) := by decide +kernel
theorem dX6_strong_58 : decode cX6_strong 58 = .ok (.getfield 19, 3) := by decide +kernel
theorem dX6_strong_61 : decode cX6_strong 61 = .ok (.iload_n 1, 1) := by decide +kernel
theorem dX6_strong_62 : decode cX6_strong 62 = .ok (.invokevirtual 247, 3) := by decide +kernel
theorem dX6_strong_65 : decode cX6_strong 65 = .ok (.ireturn, 1) := by decide +kernel
theorem dX6_strong_66 : decode cX6_strong 66 = .ok (.bipush (-3), 2) := by decide +kernel
theorem dX6_strong_68 : decode cX6_strong 68 = .ok (.ireturn, 1) := by decide +kernel
theorem dX6_boasts_0 : decode cX6_boasts 0 = .ok (.iload_n 1, 1) := by decide +kernel
theorem dX6_boasts_1 : decode cX6_boasts 1 = .ok (.iconst 0, 1) := by decide +kernel
theorem dX6_boasts_2 : decode cX6_boasts 2 = .ok (.bipush 6, 2) := by decide +kernel
theorem dX6_boasts_4 : decode cX6_boasts 4 = .ok (.invokestatic 66, 3) := by decide +kernel
theorem dX6_boasts_7 : decode cX6_boasts 7 = .ok (.ifCond .ne 43, 3) := by decide +kernel
theorem dX6_boasts_10 : decode cX6_boasts 10 = .ok (.iload_n 2, 1) := by decide +kernel
theorem dX6_boasts_11 : decode cX6_boasts 11 = .ok (.iconst 0, 1) := by decide +kernel
theorem dX6_boasts_12 : decode cX6_boasts 12 = .ok (.bipush 20, 2) := by decide +kernel
theorem dX6_boasts_14 : decode cX6_boasts 14 = .ok (.invokestatic 66, 3) := by decide +kernel
theorem dX6_boasts_17 : decode cX6_boasts 17 = .ok (.ifCond .ne 33, 3) := by decide +kernel
theorem dX6_boasts_20 : decode cX6_boasts 20 = .ok (.iload_n 3, 1) := by decide +kernel
theorem dX6_boasts_21 : decode cX6_boasts 21 = .ok (.iconst 0, 1) := by decide +kernel
theorem dX6_boasts_22 : decode cX6_boasts 22 = .ok (.iconst 5, 1) := by decide +kernel
theorem dX6_boasts_23 : decode cX6_boasts 23 = .ok (.invokestatic 66, 3) := by decide +kernel
theorem dX6_boasts_26 : decode cX6_boasts 26 = .ok (.ifCond .ne 24, 3) := by decide +kernel
theorem dX6_boasts_29 : decode cX6_boasts 29 = .ok (.iload 4, 2) := by decide +kernel
theorem dX6_boasts_31 : decode cX6_boasts 31 = .ok (.iconst 0, 1) := by decide +kernel
theorem dX6_boasts_32 : decode cX6_boasts 32 = .ok (.bipush 9, 2) := by decide +kernel
theorem dX6_boasts_34 : decode cX6_boasts 34 = .ok (.invokestatic 66, 3) := by decide +kernel
theorem dX6_boasts_37 : decode cX6_boasts 37 = .ok (.ifCond .ne 13, 3) := by decide +kernel
theorem dX6_boasts_40 : decode cX6_boasts 40 = .ok (.iload 5, 2) := by decide +kernel
theorem dX6_boasts_42 : decode cX6_boasts 42 = .ok (.iconst 0, 1) := by decide +kernel
theorem dX6_boasts_43 : decode cX6_boasts 43 = .ok (.iconst 1, 1) := by decide +kernel
theorem dX6_boasts_44 : decode cX6_boasts 44 = .ok (.invokestatic 66, 3) := by decide +kernel
theorem dX6_boasts_47 : decode cX6_boasts 47 = .ok (.ifCond .eq 6, 3) := by decide +kernel
theorem dX6_boasts_50 : decode cX6_boasts 50 = .ok (.bipush (-3), 2) := by decide +kernel
theorem dX6_boasts_52 : decode cX6_boasts 52 = .ok (.ireturn, 1) := by decide +kernel
theorem dX6_boasts_53 : decode cX6_boasts 53 = .ok (.iconst 1, 1) := by decide +kernel
theorem dX6_boasts_54 : decode cX6_boasts 54 = .ok (.istore 6, 2) := by decide +kernel
theorem dX6_boasts_56 : decode cX6_boasts 56 = .ok (.iconst 1, 1) := by decide +kernel
theorem dX6_boasts_57 : decode cX6_boasts 57 = .ok (.istore 7, 2) := by decide +kernel
theorem dX6_boasts_59 : decode cX6_boasts 59 = .ok (.iconst 0, 1) := by decide +kernel
theorem dX6_boasts_60 : decode cX6_boasts 60 = .ok (.istore 8, 2) := by decide +kernel
theorem dX6_boasts_62 : decode cX6_boasts 62 = .ok (.iload 8, 2) := by decide +kernel
theorem dX6_boasts_64 : decode cX6_boasts 64 = .ok (.iload_n 1, 1) := by decide +kernel
theorem dX6_boasts_65 : decode cX6_boasts 65 = .ok (.if_icmp .ge 31, 3) := by decide +kernel
theorem dX6_boasts_68 : decode cX6_boasts 68 = .ok (.iload 6, 2) := by decide +kernel
theorem dX6_boasts_70 : decode cX6_boasts 70 = .ok (.iload_n 2, 1) := by decide +kernel
theorem dX6_boasts_71 : decode cX6_boasts 71 = .ok (.iload 8, 2) := by decide +kernel
theorem dX6_boasts_73 : decode cX6_boasts 73 = .ok (.iload_n 3, 1) := by decide +kernel
theorem dX6_boasts_74 : decode cX6_boasts 74 = .ok (.imul, 1) := by decide +kernel
theorem dX6_boasts_75 : decode cX6_boasts 75 = .ok (.iadd, 1) := by decide +kernel
theorem dX6_boasts_76 : decode cX6_boasts 76 = .ok (.iload 4, 2) := by decide +kernel
theorem dX6_boasts_78 : decode cX6_boasts 78 = .ok (.invokestatic 250, 3) := by decide +kernel
theorem dX6_boasts_81 : decode cX6_boasts 81 = .ok (.imul, 1) := by decide +kernel
theorem dX6_boasts_82 : decode cX6_boasts 82 = .ok (.istore 6, 2) := by decide +kernel
theorem dX6_boasts_84 : decode cX6_boasts 84 = .ok (.iload 7, 2) := by decide +kernel
theorem dX6_boasts_86 : decode cX6_boasts 86 = .ok (.iconst 5, 1) := by decide +kernel
theorem dX6_boasts_87 : decode cX6_boasts 87 = .ok (.imul, 1) := by decide +kernel
theorem dX6_boasts_88 : decode cX6_boasts 88 = .ok (.istore 7, 2) := by decide +kernel
theorem dX6_boasts_90 : decode cX6_boasts 90 = .ok (.iinc 8 1, 3) := by decide +kernel
theorem dX6_boasts_93 : decode cX6_boasts 93 = .ok (.goto (-31), 3) := by decide +kernel
theorem dX6_boasts_96 : decode cX6_boasts 96 = .ok (.iconst 0, 1) := by decide +kernel
theorem dX6_boasts_97 : decode cX6_boasts 97 = .ok (.istore 8, 2) := by decide +kernel
theorem dX6_boasts_99 : decode cX6_boasts 99 = .ok (.iload 8, 2) := by decide +kernel
theorem dX6_boasts_101 : decode cX6_boasts 101 = .ok (.iload_n 1, 1) := by decide +kernel
theorem dX6_boasts_102 : decode cX6_boasts 102 = .ok (.if_icmp .ge 35, 3) := by decide +kernel
theorem dX6_boasts_105 : decode cX6_boasts 105 = .ok (.iload 6, 2) := by decide +kernel
theorem dX6_boasts_107 : decode cX6_boasts 107 = .ok (.iconst 5, 1) := by decide +kernel
theorem dX6_boasts_108 : decode cX6_boasts 108 = .ok (.irem, 1) := by decide +kernel
theorem dX6_boasts_109 : decode cX6_boasts 109 = .ok (.ifCond .ne 22, 3) := by decide +kernel
theorem dX6_boasts_112 : decode cX6_boasts 112 = .ok (.iload 7, 2) := by decide +kernel
theorem dX6_boasts_114 : decode cX6_boasts 114 = .ok (.iconst 5, 1) := by decide +kernel
theorem dX6_boasts_115 : decode cX6_boasts 115 = .ok (.irem, 1) := by decide +kernel
theorem dX6_boasts_116 : decode cX6_boasts 116 = .ok (.ifCond .ne 15, 3) := by decide +kernel
theorem dX6_boasts_119 : decode cX6_boasts 119 = .ok (.iload 6, 2) := by decide +kernel
theorem dX6_boasts_121 : decode cX6_boasts 121 = .ok (.iconst 5, 1) := by decide +kernel
theorem dX6_boasts_122 : decode cX6_boasts 122 = .ok (.idiv, 1) := by decide +kernel
theorem dX6_boasts_123 : decode cX6_boasts 123 = .ok (.istore 6, 2) := by decide +kernel
theorem dX6_boasts_125 : decode cX6_boasts 125 = .ok (.iload 7, 2) := by decide +kernel
theorem dX6_boasts_127 : decode cX6_boasts 127 = .ok (.iconst 5, 1) := by decide +kernel
theorem dX6_boasts_128 : decode cX6_boasts 128 = .ok (.idiv, 1) := by decide +kernel
theorem dX6_boasts_129 : decode cX6_boasts 129 = .ok (.istore 7, 2) := by decide +kernel
theorem dX6_boasts_131 : decode cX6_boasts 131 = .ok (.iinc 8 1, 3) := by decide +kernel
theorem dX6_boasts_134 : decode cX6_boasts 134 = .ok (.goto (-35), 3) := by decide +kernel
theorem dX6_boasts_137 : decode cX6_boasts 137 = .ok (.iload 5, 2) := by decide +kernel
theorem dX6_boasts_139 : decode cX6_boasts 139 = .ok (.ifCond .ne 8, 3) := by decide +kernel
theorem dX6_boasts_142 : decode cX6_boasts 142 = .ok (.iload 6, 2) := by decide +kernel
theorem dX6_boasts_144 : decode cX6_boasts 144 = .ok (.goto 5, 3) := by decide +kernel
theorem dX6_boasts_147 : decode cX6_boasts 147 = .ok (.iload 7, 2) := by decide +kernel
theorem dX6_boasts_149 : decode cX6_boasts 149 = .ok (.ireturn, 1) := by decide +kernel
theorem dX6_count_0 : decode cX6_count 0 = .ok (.iload_n 1, 1) := by decide +kernel
theorem dX6_count_1 : decode cX6_count 1 = .ok (.tableswitch 203 0 14 #[75, 83, 91, 99, 107, 115, 123, 131, 147, 155, 163, 171, 179, 187, 195], 75) := by decide +kernel
theorem dX6_count_76 : decode cX6_count 76 = .ok (.aload_n 0, 1) := by decide +kernel
theorem dX6_count_77 : decode cX6_count 77 = .ok (.getfield 19, 3) := by decide +kernel
theorem dX6_count_80 : decode cX6_count 80 = .ok (.getfield 253, 3) := by decide +kernel
theorem dX6_count_83 : decode cX6_count 83 = .ok (.ireturn, 1) := by decide +kernel
theorem dX6_count_84 : decode cX6_count 84 = .ok (.aload_n 0, 1) := by decide +kernel
theorem dX6_count_85 : decode cX6_count 85 = .ok (.getfield 19, 3) := by decide +kernel
theorem dX6_count_88 : decode cX6_count 88 = .ok (.getfield 256, 3) := by decide +kernel
theorem dX6_count_91 : decode cX6_count 91 = .ok (.ireturn, 1) := by decide +kernel
theorem dX6_count_92 : decode cX6_count 92 = .ok (.aload_n 0, 1) := by decide +kernel
theorem dX6_count_93 : decode cX6_count 93 = .ok (.getfield 19, 3) := by decide +kernel
theorem dX6_count_96 : decode cX6_count 96 = .ok (.getfield 233, 3) := by decide +kernel
theorem dX6_count_99 : decode cX6_count 99 = .ok (.ireturn, 1) := by decide +kernel
theorem dX6_count_100 : decode cX6_count 100 = .ok (.aload_n 0, 1) := by decide +kernel
theorem dX6_count_101 : decode cX6_count 101 = .ok (.getfield 29, 3) := by decide +kernel
theorem dX6_count_104 : decode cX6_count 104 = .ok (.getfield 154, 3) := by decide +kernel
theorem dX6_count_107 : decode cX6_count 107 = .ok (.ireturn, 1) := by decide +kernel
theorem dX6_count_108 : decode cX6_count 108 = .ok (.aload_n 0, 1) := by decide +kernel
theorem dX6_count_109 : decode cX6_count 109 = .ok (.getfield 29, 3) := by decide +kernel
theorem dX6_count_112 : decode cX6_count 112 = .ok (.getfield 144, 3) := by decide +kernel
theorem dX6_count_115 : decode cX6_count 115 = .ok (.ireturn, 1) := by decide +kernel
theorem dX6_count_116 : decode cX6_count 116 = .ok (.aload_n 0, 1) := by decide +kernel
theorem dX6_count_117 : decode cX6_count 117 = .ok (.getfield 29, 3) := by decide +kernel
theorem dX6_count_120 : decode cX6_count 120 = .ok (.getfield 151, 3) := by decide +kernel
theorem dX6_count_123 : decode cX6_count 123 = .ok (.ireturn, 1) := by decide +kernel
theorem dX6_count_124 : decode cX6_count 124 = .ok (.aload_n 0, 1) := by decide +kernel
theorem dX6_count_125 : decode cX6_count 125 = .ok (.getfield 29, 3) := by decide +kernel
theorem dX6_count_128 : decode cX6_count 128 = .ok (.getfield 163, 3) := by decide +kernel
theorem dX6_count_131 : decode cX6_count 131 = .ok (.ireturn, 1) := by decide +kernel
theorem dX6_count_132 : decode cX6_count 132 = .ok (.aload_n 0, 1) := by decide +kernel
theorem dX6_count_133 : decode cX6_count 133 = .ok (.getfield 29, 3) := by decide +kernel
theorem dX6_count_136 : decode cX6_count 136 = .ok (.getfield 140, 3) := by decide +kernel
theorem dX6_count_139 : decode cX6_count 139 = .ok (.ifCond .eq 7, 3) := by decide +kernel
theorem dX6_count_142 : decode cX6_count 142 = .ok (.iconst 1, 1) := by decide +kernel
theorem dX6_count_143 : decode cX6_count 143 = .ok (.goto 4, 3) := by decide +kernel
theorem dX6_count_146 : decode cX6_count 146 = .ok (.iconst 0, 1) := by decide +kernel
theorem dX6_count_147 : decode cX6_count 147 = .ok (.ireturn, 1) := by decide +kernel
theorem dX6_count_148 : decode cX6_count 148 = .ok (.aload_n 0, 1) := by decide +kernel
theorem dX6_count_149 : decode cX6_count 149 = .ok (.getfield 29, 3) := by decide +kernel
theorem dX6_count_152 : decode cX6_count 152 = .ok (.getfield 208, 3) := by decide +kernel
theorem dX6_count_155 : decode cX6_count 155 = .ok (.ireturn, 1) := by decide +kernel
theorem dX6_count_156 : decode cX6_count 156 = .ok (.aload_n 0, 1) := by decide +kernel
theorem dX6_count_157 : decode cX6_count 157 = .ok (.getfield 29, 3) := by decide +kernel
theorem dX6_count_160 : decode cX6_count 160 = .ok (.getfield 259, 3) := by decide +kernel
theorem dX6_count_163 : decode cX6_count 163 = .ok (.ireturn, 1) := by decide +kernel
theorem dX6_count_164 : decode cX6_count 164 = .ok (.aload_n 0, 1) := by decide +kernel
theorem dX6_count_165 : decode cX6_count 165 = .ok (.getfield 29, 3) := by decide +kernel
theorem dX6_count_168 : decode cX6_count 168 = .ok (.getfield 262, 3) := by decide +kernel
theorem dX6_count_171 : decode cX6_count 171 = .ok (.ireturn, 1) := by decide +kernel
theorem dX6_count_172 : decode cX6_count 172 = .ok (.aload_n 0, 1) := by decide +kernel
theorem dX6_count_173 : decode cX6_count 173 = .ok (.getfield 29, 3) := by decide +kernel
theorem dX6_count_176 : decode cX6_count 176 = .ok (.getfield 115, 3) := by decide +kernel
theorem dX6_count_179 : decode cX6_count 179 = .ok (.ireturn, 1) := by decide +kernel
theorem dX6_count_180 : decode cX6_count 180 = .ok (.aload_n 0, 1) := by decide +kernel
theorem dX6_count_181 : decode cX6_count 181 = .ok (.getfield 58, 3) := by decide +kernel
theorem dX6_count_184 : decode cX6_count 184 = .ok (.getfield 242, 3) := by decide +kernel
theorem dX6_count_187 : decode cX6_count 187 = .ok (.ireturn, 1) := by decide +kernel
theorem dX6_count_188 : decode cX6_count 188 = .ok (.aload_n 0, 1) := by decide +kernel
theorem dX6_count_189 : decode cX6_count 189 = .ok (.getfield 36, 3) := by decide +kernel
theorem dX6_count_192 : decode cX6_count 192 = .ok (.getfield 196, 3) := by decide +kernel
theorem dX6_count_195 : decode cX6_count 195 = .ok (.ireturn, 1) := by decide +kernel
theorem dX6_count_196 : decode cX6_count 196 = .ok (.aload_n 0, 1) := by decide +kernel
theorem dX6_count_197 : decode cX6_count 197 = .ok (.getfield 10, 3) := by decide +kernel
theorem dX6_count_200 : decode cX6_count 200 = .ok (.getfield 74, 3) := by decide +kernel
theorem dX6_count_203 : decode cX6_count 203 = .ok (.ireturn, 1) := by decide +kernel
theorem dX6_count_204 : decode cX6_count 204 = .ok (.bipush (-3), 2) := by decide +kernel
theorem dX6_count_206 : decode cX6_count 206 = .ok (.ireturn, 1) := by decide +kernel
theorem dX6_beginAnew_0 : decode cX6_beginAnew 0 = .ok (.aload_n 0, 1) := by decide +kernel
theorem dX6_beginAnew_1 : decode cX6_beginAnew 1 = .ok (.getfield 29, 3) := by decide +kernel
theorem dX6_beginAnew_4 : decode cX6_beginAnew 4 = .ok (.aload_n 0, 1) := by decide +kernel
theorem dX6_beginAnew_5 : decode cX6_beginAnew 5 = .ok (.getfield 19, 3) := by decide +kernel
theorem dX6_beginAnew_8 : decode cX6_beginAnew 8 = .ok (.invokevirtual 62, 3) := by decide +kernel
theorem dX6_beginAnew_11 : decode cX6_beginAnew 11 = .ok (.aload_n 0, 1) := by decide +kernel
theorem dX6_beginAnew_12 : decode cX6_beginAnew 12 = .ok (.getfield 36, 3) := by decide +kernel
theorem dX6_beginAnew_15 : decode cX6_beginAnew 15 = .ok (.invokevirtual 201, 3) := by decide +kernel
theorem dX6_beginAnew_18 : decode cX6_beginAnew 18 = .ok (.aload_n 0, 1) := by decide +kernel
theorem dX6_beginAnew_19 : decode cX6_beginAnew 19 = .ok (.getfield 58, 3) := by decide +kernel
theorem dX6_beginAnew_22 : decode cX6_beginAnew 22 = .ok (.iconst 0, 1) := by decide +kernel
theorem dX6_beginAnew_23 : decode cX6_beginAnew 23 = .ok (.putfield 242, 3) := by decide +kernel
theorem dX6_beginAnew_26 : decode cX6_beginAnew 26 = .ok (.iconst 0, 1) := by decide +kernel
theorem dX6_beginAnew_27 : decode cX6_beginAnew 27 = .ok (.istore_n 1, 1) := by decide +kernel
theorem dX6_beginAnew_28 : decode cX6_beginAnew 28 = .ok (.iload_n 1, 1) := by decide +kernel
theorem dX6_beginAnew_29 : decode cX6_beginAnew 29 = .ok (.iconst 2, 1) := by decide +kernel
theorem dX6_beginAnew_30 : decode cX6_beginAnew 30 = .ok (.if_icmp .ge 16, 3) := by decide +kernel
theorem dX6_beginAnew_33 : decode cX6_beginAnew 33 = .ok (.aload_n 0, 1) := by decide +kernel
theorem dX6_beginAnew_34 : decode cX6_beginAnew 34 = .ok (.getfield 44, 3) := by decide +kernel
theorem dX6_beginAnew_37 : decode cX6_beginAnew 37 = .ok (.iload_n 1, 1) := by decide +kernel
theorem dX6_beginAnew_38 : decode cX6_beginAnew 38 = .ok (.iconst 0, 1) := by decide +kernel
theorem dX6_beginAnew_39 : decode cX6_beginAnew 39 = .ok (.bastore, 1) := by decide +kernel
theorem dX6_beginAnew_40 : decode cX6_beginAnew 40 = .ok (.iinc 1 1, 3) := by decide +kernel
theorem dX6_beginAnew_43 : decode cX6_beginAnew 43 = .ok (.goto (-15), 3) := by decide +kernel
theorem dX6_beginAnew_46 : decode cX6_beginAnew 46 = .ok (.return_, 1) := by decide +kernel
theorem dX6_daysTillBlinded_0 : decode cX6_daysTillBlinded 0 = .ok (.aload_n 0, 1) := by decide +kernel
theorem dX6_daysTillBlinded_1 : decode cX6_daysTillBlinded 1 = .ok (.getfield 29, 3) := by decide +kernel
theorem dX6_daysTillBlinded_4 : decode cX6_daysTillBlinded 4 = .ok (.getfield 140, 3) := by decide +kernel
theorem dX6_daysTillBlinded_7 : decode cX6_daysTillBlinded 7 = .ok (.ifCond .eq 5, 3) := by decide +kernel
theorem dX6_daysTillBlinded_10 : decode cX6_daysTillBlinded 10 = .ok (.iconst (-1), 1) := by decide +kernel
theorem dX6_daysTillBlinded_11 : decode cX6_daysTillBlinded 11 = .ok (.ireturn, 1) := by decide +kernel
theorem dX6_daysTillBlinded_12 : decode cX6_daysTillBlinded 12 = .ok (.iconst 0, 1) := by decide +kernel
theorem dX6_daysTillBlinded_13 : decode cX6_daysTillBlinded 13 = .ok (.aload_n 0, 1) := by decide +kernel
theorem dX6_daysTillBlinded_14 : decode cX6_daysTillBlinded 14 = .ok (.getfield 19, 3) := by decide +kernel
theorem dX6_daysTillBlinded_17 : decode cX6_daysTillBlinded 17 = .ok (.getfield 175, 3) := by decide +kernel
theorem dX6_daysTillBlinded_20 : decode cX6_daysTillBlinded 20 = .ok (.aload_n 0, 1) := by decide +kernel
theorem dX6_daysTillBlinded_21 : decode cX6_daysTillBlinded 21 = .ok (.getfield 29, 3) := by decide +kernel
theorem dX6_daysTillBlinded_24 : decode cX6_daysTillBlinded 24 = .ok (.getfield 163, 3) := by decide +kernel
theorem dX6_daysTillBlinded_27 : decode cX6_daysTillBlinded 27 = .ok (.isub, 1) := by decide +kernel
theorem dX6_daysTillBlinded_28 : decode cX6_daysTillBlinded 28 = .ok (.invokestatic 265, 3) := by decide +kernel
theorem dX6_daysTillBlinded_31 : decode cX6_daysTillBlinded 31 = .ok (.istore_n 1, 1) := by decide +kernel
theorem dX6_daysTillBlinded_32 : decode cX6_daysTillBlinded 32 = .ok (.iload_n 1, 1) := by decide +kernel
theorem dX6_daysTillBlinded_33 : decode cX6_daysTillBlinded 33 = .ok (.ifCond .ne 21, 3) := by decide +kernel
theorem dX6_daysTillBlinded_36 : decode cX6_daysTillBlinded 36 = .ok (.aload_n 0, 1) := by decide +kernel
theorem dX6_daysTillBlinded_37 : decode cX6_daysTillBlinded 37 = .ok (.getfield 29, 3) := by decide +kernel
theorem dX6_daysTillBlinded_40 : decode cX6_daysTillBlinded 40 = .ok (.getfield 151, 3) := by decide +kernel
theorem dX6_daysTillBlinded_43 : decode cX6_daysTillBlinded 43 = .ok (.aload_n 0, 1) := by decide +kernel
theorem dX6_daysTillBlinded_44 : decode cX6_daysTillBlinded 44 = .ok (.getfield 29, 3) := by decide +kernel
theorem dX6_daysTillBlinded_47 : decode cX6_daysTillBlinded 47 = .ok (.getfield 144, 3) := by decide +kernel
theorem dX6_daysTillBlinded_50 : decode cX6_daysTillBlinded 50 = .ok (.iadd, 1) := by decide +kernel
theorem dX6_daysTillBlinded_51 : decode cX6_daysTillBlinded 51 = .ok (.goto 10, 3) := by decide +kernel
theorem dX6_daysTillBlinded_54 : decode cX6_daysTillBlinded 54 = .ok (.aload_n 0, 1) := by decide +kernel
theorem dX6_daysTillBlinded_55 : decode cX6_daysTillBlinded 55 = .ok (.getfield 29, 3) := by decide +kernel
theorem dX6_daysTillBlinded_58 : decode cX6_daysTillBlinded 58 = .ok (.getfield 144, 3) := by decide +kernel
theorem dX6_daysTillBlinded_61 : decode cX6_daysTillBlinded 61 = .ok (.istore_n 2, 1) := by decide +kernel
theorem dX6_daysTillBlinded_62 : decode cX6_daysTillBlinded 62 = .ok (.iload_n 2, 1) := by decide +kernel
theorem dX6_daysTillBlinded_63 : decode cX6_daysTillBlinded 63 = .ok (.aload_n 0, 1) := by decide +kernel
theorem dX6_daysTillBlinded_64 : decode cX6_daysTillBlinded 64 = .ok (.getfield 19, 3) := by decide +kernel
theorem dX6_daysTillBlinded_67 : decode cX6_daysTillBlinded 67 = .ok (.getfield 172, 3) := by decide +kernel
theorem dX6_daysTillBlinded_70 : decode cX6_daysTillBlinded 70 = .ok (.if_icmp .lt 7, 3) := by decide +kernel
theorem dX6_daysTillBlinded_73 : decode cX6_daysTillBlinded 73 = .ok (.iload_n 1, 1) := by decide +kernel
theorem dX6_daysTillBlinded_74 : decode cX6_daysTillBlinded 74 = .ok (.goto 4, 3) := by decide +kernel
theorem dX6_daysTillBlinded_77 : decode cX6_daysTillBlinded 77 = .ok (.iconst (-1), 1) := by decide +kernel
theorem dX6_daysTillBlinded_78 : decode cX6_daysTillBlinded 78 = .ok (.ireturn, 1) := by decide +kernel
theorem dX6_fallsThatMiss_0 : decode cX6_fallsThatMiss 0 = .ok (.iload_n 0, 1) := by decide +kernel
theorem dX6_fallsThatMiss_1 : decode cX6_fallsThatMiss 1 = .ok (.bipush 10, 2) := by decide +kernel
theorem dX6_fallsThatMiss_3 : decode cX6_fallsThatMiss 3 = .ok (.if_icmp .ge 7, 3) := by decide +kernel
theorem dX6_fallsThatMiss_6 : decode cX6_fallsThatMiss 6 = .ok (.iconst 0, 1) := by decide +kernel
theorem dX6_fallsThatMiss_7 : decode cX6_fallsThatMiss 7 = .ok (.goto 11, 3) := by decide +kernel
theorem dX6_fallsThatMiss_10 : decode cX6_fallsThatMiss 10 = .ok (.iload_n 0, 1) := by decide +kernel
theorem dX6_fallsThatMiss_11 : decode cX6_fallsThatMiss 11 = .ok (.bipush 10, 2) := by decide +kernel
theorem dX6_fallsThatMiss_13 : decode cX6_fallsThatMiss 13 = .ok (.isub, 1) := by decide +kernel
theorem dX6_fallsThatMiss_14 : decode cX6_fallsThatMiss 14 = .ok (.iconst 5, 1) := by decide +kernel
theorem dX6_fallsThatMiss_15 : decode cX6_fallsThatMiss 15 = .ok (.idiv, 1) := by decide +kernel
theorem dX6_fallsThatMiss_16 : decode cX6_fallsThatMiss 16 = .ok (.iconst 1, 1) := by decide +kernel
theorem dX6_fallsThatMiss_17 : decode cX6_fallsThatMiss 17 = .ok (.iadd, 1) := by decide +kernel
theorem dX6_fallsThatMiss_18 : decode cX6_fallsThatMiss 18 = .ok (.istore_n 2, 1) := by decide +kernel
theorem dX6_fallsThatMiss_19 : decode cX6_fallsThatMiss 19 = .ok (.iconst 0, 1) := by decide +kernel
theorem dX6_fallsThatMiss_20 : decode cX6_fallsThatMiss 20 = .ok (.iload_n 1, 1) := by decide +kernel
theorem dX6_fallsThatMiss_21 : decode cX6_fallsThatMiss 21 = .ok (.iload_n 2, 1) := by decide +kernel
theorem dX6_fallsThatMiss_22 : decode cX6_fallsThatMiss 22 = .ok (.isub, 1) := by decide +kernel
theorem dX6_fallsThatMiss_23 : decode cX6_fallsThatMiss 23 = .ok (.iconst 1, 1) := by decide +kernel
theorem dX6_fallsThatMiss_24 : decode cX6_fallsThatMiss 24 = .ok (.iadd, 1) := by decide +kernel
theorem dX6_fallsThatMiss_25 : decode cX6_fallsThatMiss 25 = .ok (.invokestatic 265, 3) := by decide +kernel
theorem dX6_fallsThatMiss_28 : decode cX6_fallsThatMiss 28 = .ok (.istore_n 3, 1) := by decide +kernel
theorem dX6_fallsThatMiss_29 : decode cX6_fallsThatMiss 29 = .ok (.iconst 0, 1) := by decide +kernel
theorem dX6_fallsThatMiss_30 : decode cX6_fallsThatMiss 30 = .ok (.iconst 5, 1) := by decide +kernel
theorem dX6_fallsThatMiss_31 : decode cX6_fallsThatMiss 31 = .ok (.iload_n 3, 1) := by decide +kernel
theorem dX6_fallsThatMiss_32 : decode cX6_fallsThatMiss 32 = .ok (.isub, 1) := by decide +kernel
theorem dX6_fallsThatMiss_33 : decode cX6_fallsThatMiss 33 = .ok (.invokestatic 265, 3) := by decide +kernel
theorem dX6_fallsThatMiss_36 : decode cX6_fallsThatMiss 36 = .ok (.ireturn, 1) := by decide +kernel
theorem dX6_isUnderKind_0 : decode cX6_isUnderKind 0 = .ok (.iload_n 0, 1) := by decide +kernel
theorem dX6_isUnderKind_1 : decode cX6_isUnderKind 1 = .ok (.iconst 1, 1) := by decide +kernel
theorem dX6_isUnderKind_2 : decode cX6_isUnderKind 2 = .ok (.iadd, 1) := by decide +kernel
theorem dX6_isUnderKind_3 : decode cX6_isUnderKind 3 = .ok (.istore_n 2, 1) := by decide +kernel
theorem dX6_isUnderKind_4 : decode cX6_isUnderKind 4 = .ok (.iconst 0, 1) := by decide +kernel
theorem dX6_isUnderKind_5 : decode cX6_isUnderKind 5 = .ok (.istore_n 3, 1) := by decide +kernel
theorem dX6_isUnderKind_6 : decode cX6_isUnderKind 6 = .ok (.iload_n 3, 1) := by decide +kernel
theorem dX6_isUnderKind_7 : decode cX6_isUnderKind 7 = .ok (.getstatic 131, 3) := by decide +kernel
theorem dX6_isUnderKind_10 : decode cX6_isUnderKind 10 = .ok (.arraylength, 1) := by decide +kernel
theorem dX6_isUnderKind_11 : decode cX6_isUnderKind 11 = .ok (.if_icmp .ge 34, 3) := by decide +kernel
theorem dX6_isUnderKind_14 : decode cX6_isUnderKind 14 = .ok (.iload_n 2, 1) := by decide +kernel
theorem dX6_isUnderKind_15 : decode cX6_isUnderKind 15 = .ok (.ifCond .lt 30, 3) := by decide +kernel
theorem dX6_isUnderKind_18 : decode cX6_isUnderKind 18 = .ok (.iload_n 2, 1) := by decide +kernel
theorem dX6_isUnderKind_19 : decode cX6_isUnderKind 19 = .ok (.getstatic 131, 3) := by decide +kernel
theorem dX6_isUnderKind_22 : decode cX6_isUnderKind 22 = .ok (.arraylength, 1) := by decide +kernel
theorem dX6_isUnderKind_23 : decode cX6_isUnderKind 23 = .ok (.if_icmp .ge 22, 3) := by decide +kernel
theorem dX6_isUnderKind_26 : decode cX6_isUnderKind 26 = .ok (.iload_n 2, 1) := by decide +kernel
theorem dX6_isUnderKind_27 : decode cX6_isUnderKind 27 = .ok (.iload_n 1, 1) := by decide +kernel
theorem dX6_isUnderKind_28 : decode cX6_isUnderKind 28 = .ok (.if_icmp .ne 5, 3) := by decide +kernel
theorem dX6_isUnderKind_31 : decode cX6_isUnderKind 31 = .ok (.iconst 1, 1) := by decide +kernel
theorem dX6_isUnderKind_32 : decode cX6_isUnderKind 32 = .ok (.ireturn, 1) := by decide +kernel
theorem dX6_isUnderKind_33 : decode cX6_isUnderKind 33 = .ok (.getstatic 131, 3) := by decide +kernel
theorem dX6_isUnderKind_36 : decode cX6_isUnderKind 36 = .ok (.iload_n 2, 1) := by decide +kernel
theorem dX6_isUnderKind_37 : decode cX6_isUnderKind 37 = .ok (.iaload, 1) := by decide +kernel
theorem dX6_isUnderKind_38 : decode cX6_isUnderKind 38 = .ok (.istore_n 2, 1) := by decide +kernel
theorem dX6_isUnderKind_39 : decode cX6_isUnderKind 39 = .ok (.iinc 3 1, 3) := by decide +kernel
theorem dX6_isUnderKind_42 : decode cX6_isUnderKind 42 = .ok (.goto (-36), 3) := by decide +kernel
theorem dX6_isUnderKind_45 : decode cX6_isUnderKind 45 = .ok (.iconst 0, 1) := by decide +kernel
theorem dX6_isUnderKind_46 : decode cX6_isUnderKind 46 = .ok (.ireturn, 1) := by decide +kernel
theorem dX6_bearing_0 : decode cX6_bearing 0 = .ok (.iload_n 0, 1) := by decide +kernel
theorem dX6_bearing_1 : decode cX6_bearing 1 = .ok (.tableswitch 45 1 3 #[27, 33, 37], 27) := by decide +kernel
theorem dX6_bearing_28 : decode cX6_bearing 28 = .ok (.iload_n 1, 1) := by decide +kernel
theorem dX6_bearing_29 : decode cX6_bearing 29 = .ok (.iload_n 1, 1) := by decide +kernel
theorem dX6_bearing_30 : decode cX6_bearing 30 = .ok (.iconst 2, 1) := by decide +kernel
theorem dX6_bearing_31 : decode cX6_bearing 31 = .ok (.idiv, 1) := by decide +kernel
theorem dX6_bearing_32 : decode cX6_bearing 32 = .ok (.iadd, 1) := by decide +kernel
theorem dX6_bearing_33 : decode cX6_bearing 33 = .ok (.ireturn, 1) := by decide +kernel
theorem dX6_bearing_34 : decode cX6_bearing 34 = .ok (.iconst 2, 1) := by decide +kernel
theorem dX6_bearing_35 : decode cX6_bearing 35 = .ok (.iload_n 1, 1) := by decide +kernel
theorem dX6_bearing_36 : decode cX6_bearing 36 = .ok (.imul, 1) := by decide +kernel
theorem dX6_bearing_37 : decode cX6_bearing 37 = .ok (.ireturn, 1) := by decide +kernel
theorem dX6_bearing_38 : decode cX6_bearing 38 = .ok (.iconst 0, 1) := by decide +kernel
theorem dX6_bearing_39 : decode cX6_bearing 39 = .ok (.iload_n 1, 1) := by decide +kernel
theorem dX6_bearing_40 : decode cX6_bearing 40 = .ok (.iconst 3, 1) := by decide +kernel
theorem dX6_bearing_41 : decode cX6_bearing 41 = .ok (.isub, 1) := by decide +kernel
theorem dX6_bearing_42 : decode cX6_bearing 42 = .ok (.invokestatic 265, 3) := by decide +kernel
theorem dX6_bearing_45 : decode cX6_bearing 45 = .ok (.ireturn, 1) := by decide +kernel
theorem dX6_bearing_46 : decode cX6_bearing 46 = .ok (.iload_n 1, 1) := by decide +kernel
theorem dX6_bearing_47 : decode cX6_bearing 47 = .ok (.ireturn, 1) := by decide +kernel
theorem dX6_isOutside_0 : decode cX6_isOutside 0 = .ok (.iload_n 0, 1) := by decide +kernel
theorem dX6_isOutside_1 : decode cX6_isOutside 1 = .ok (.iload_n 1, 1) := by decide +kernel
theorem dX6_isOutside_2 : decode cX6_isOutside 2 = .ok (.if_icmp .lt 8, 3) := by decide +kernel
theorem dX6_isOutside_5 : decode cX6_isOutside 5 = .ok (.iload_n 0, 1) := by decide +kernel
theorem dX6_isOutside_6 : decode cX6_isOutside 6 = .ok (.iload_n 2, 1) := by decide +kernel
theorem dX6_isOutside_7 : decode cX6_isOutside 7 = .ok (.if_icmp .le 7, 3) := by decide +kernel
theorem dX6_isOutside_10 : decode cX6_isOutside 10 = .ok (.iconst 1, 1) := by decide +kernel
theorem dX6_isOutside_11 : decode cX6_isOutside 11 = .ok (.goto 4, 3) := by decide +kernel
theorem dX6_isOutside_14 : decode cX6_isOutside 14 = .ok (.iconst 0, 1) := by decide +kernel
theorem dX6_isOutside_15 : decode cX6_isOutside 15 = .ok (.ireturn, 1) := by decide +kernel
theorem dX6_hasBit_0 : decode cX6_hasBit 0 = .ok (.iload_n 0, 1) := by decide +kernel
theorem dX6_hasBit_1 : decode cX6_hasBit 1 = .ok (.iload_n 1, 1) := by decide +kernel
theorem dX6_hasBit_2 : decode cX6_hasBit 2 = .ok (.ishr, 1) := by decide +kernel
theorem dX6_hasBit_3 : decode cX6_hasBit 3 = .ok (.iconst 1, 1) := by decide +kernel
theorem dX6_hasBit_4 : decode cX6_hasBit 4 = .ok (.iand, 1) := by decide +kernel
theorem dX6_hasBit_5 : decode cX6_hasBit 5 = .ok (.iconst 1, 1) := by decide +kernel
theorem dX6_hasBit_6 : decode cX6_hasBit 6 = .ok (.if_icmp .ne 7, 3) := by decide +kernel
theorem dX6_hasBit_9 : decode cX6_hasBit 9 = .ok (.iconst 1, 1) := by decide +kernel
theorem dX6_hasBit_10 : decode cX6_hasBit 10 = .ok (.goto 4, 3) := by decide +kernel
theorem dX6_hasBit_13 : decode cX6_hasBit 13 = .ok (.iconst 0, 1) := by decide +kernel
theorem dX6_hasBit_14 : decode cX6_hasBit 14 = .ok (.ireturn, 1) := by decide +kernel
theorem dX6_allBits_0 : decode cX6_allBits 0 = .ok (.iconst 1, 1) := by decide +kernel
theorem dX6_allBits_1 : decode cX6_allBits 1 = .ok (.iload_n 0, 1) := by decide +kernel
theorem dX6_allBits_2 : decode cX6_allBits 2 = .ok (.ishl, 1) := by decide +kernel
theorem dX6_allBits_3 : decode cX6_allBits 3 = .ok (.iconst 1, 1) := by decide +kernel
theorem dX6_allBits_4 : decode cX6_allBits 4 = .ok (.isub, 1) := by decide +kernel
theorem dX6_allBits_5 : decode cX6_allBits 5 = .ok (.ireturn, 1) := by decide +kernel
end
section
theorem dX7_init_0 : decode cX7_init 0 = .ok (.aload_n 0, 1) := by decide +kernel
theorem dX7_init_1 : decode cX7_init 1 = .ok (.invokespecial 1, 3) := by decide +kernel
theorem dX7_init_4 : decode cX7_init 4 = .ok (.aload_n 0, 1) := by decide +kernel
theorem dX7_init_5 : decode cX7_init 5 = .ok (.bipush 29, 2) := by decide +kernel
theorem dX7_init_7 : decode cX7_init 7 = .ok (.newarray .int, 2) := by decide +kernel
theorem dX7_init_9 : decode cX7_init 9 = .ok (.putfield 7, 3) := by decide +kernel
theorem dX7_init_12 : decode cX7_init 12 = .ok (.aload_n 0, 1) := by decide +kernel
theorem dX7_init_13 : decode cX7_init 13 = .ok (.bipush 18, 2) := by decide +kernel
theorem dX7_init_15 : decode cX7_init 15 = .ok (.newarray .int, 2) := by decide +kernel
theorem dX7_init_17 : decode cX7_init 17 = .ok (.putfield 13, 3) := by decide +kernel
theorem dX7_init_20 : decode cX7_init 20 = .ok (.aload_n 0, 1) := by decide +kernel
theorem dX7_init_21 : decode cX7_init 21 = .ok (.sipush 160, 3) := by decide +kernel
theorem dX7_init_24 : decode cX7_init 24 = .ok (.newarray .int, 2) := by decide +kernel
theorem dX7_init_26 : decode cX7_init 26 = .ok (.putfield 16, 3) := by decide +kernel
theorem dX7_init_29 : decode cX7_init 29 = .ok (.aload_n 0, 1) := by decide +kernel
theorem dX7_init_30 : decode cX7_init 30 = .ok (.bipush 29, 2) := by decide +kernel
theorem dX7_init_32 : decode cX7_init 32 = .ok (.newarray .int, 2) := by decide +kernel
theorem dX7_init_34 : decode cX7_init 34 = .ok (.putfield 19, 3) := by decide +kernel
theorem dX7_init_37 : decode cX7_init 37 = .ok (.aload_n 0, 1) := by decide +kernel
theorem dX7_init_38 : decode cX7_init 38 = .ok (.sipush 144, 3) := by decide +kernel
theorem dX7_init_41 : decode cX7_init 41 = .ok (.newarray .int, 2) := by decide +kernel
theorem dX7_init_43 : decode cX7_init 43 = .ok (.putfield 22, 3) := by decide +kernel
theorem dX7_init_46 : decode cX7_init 46 = .ok (.aload_n 0, 1) := by decide +kernel
theorem dX7_init_47 : decode cX7_init 47 = .ok (.iconst 2, 1) := by decide +kernel
theorem dX7_init_48 : decode cX7_init 48 = .ok (.newarray .boolean, 2) := by decide +kernel
theorem dX7_init_50 : decode cX7_init 50 = .ok (.putfield 25, 3) := by decide +kernel
theorem dX7_init_53 : decode cX7_init 53 = .ok (.aload_n 0, 1) := by decide +kernel
theorem dX7_init_54 : decode cX7_init 54 = .ok (.bipush 36, 2) := by decide +kernel
theorem dX7_init_56 : decode cX7_init 56 = .ok (.newarray .int, 2) := by decide +kernel
theorem dX7_init_58 : decode cX7_init 58 = .ok (.putfield 29, 3) := by decide +kernel
theorem dX7_init_61 : decode cX7_init 61 = .ok (.aload_n 0, 1) := by decide +kernel
theorem dX7_init_62 : decode cX7_init 62 = .ok (.sipush 448, 3) := by decide +kernel
theorem dX7_init_65 : decode cX7_init 65 = .ok (.newarray .int, 2) := by decide +kernel
theorem dX7_init_67 : decode cX7_init 67 = .ok (.putfield 32, 3) := by decide +kernel
theorem dX7_init_70 : decode cX7_init 70 = .ok (.aload_n 0, 1) := by decide +kernel
theorem dX7_init_71 : decode cX7_init 71 = .ok (.bipush 18, 2) := by decide +kernel
theorem dX7_init_73 : decode cX7_init 73 = .ok (.newarray .int, 2) := by decide +kernel
theorem dX7_init_75 : decode cX7_init 75 = .ok (.putfield 35, 3) := by decide +kernel
theorem dX7_init_78 : decode cX7_init 78 = .ok (.aload_n 0, 1) := by decide +kernel
theorem dX7_init_79 : decode cX7_init 79 = .ok (.getfield 7, 3) := by decide +kernel
theorem dX7_init_82 : decode cX7_init 82 = .ok (.invokestatic 38, 3) := by decide +kernel
theorem dX7_init_85 : decode cX7_init 85 = .ok (.aload_n 0, 1) := by decide +kernel
theorem dX7_init_86 : decode cX7_init 86 = .ok (.invokevirtual 42, 3) := by decide +kernel
theorem dX7_init_89 : decode cX7_init 89 = .ok (.return_, 1) := by decide +kernel
theorem dX7_in_0 : decode cX7_in 0 = .ok (.lload_n 0, 1) := by decide +kernel
theorem dX7_in_1 : decode cX7_in 1 = .ok (.lload_n 2, 1) := by decide +kernel
theorem dX7_in_2 : decode cX7_in 2 = .ok (.lcmp, 1) := by decide +kernel
theorem dX7_in_3 : decode cX7_in 3 = .ok (.ifCond .lt 14, 3) := by decide +kernel
theorem dX7_in_6 : decode cX7_in 6 = .ok (.lload_n 0, 1) := by decide +kernel
theorem dX7_in_7 : decode cX7_in 7 = .ok (.lload 4, 2) := by decide +kernel
theorem dX7_in_9 : decode cX7_in 9 = .ok (.lcmp, 1) := by decide +kernel
theorem dX7_in_10 : decode cX7_in 10 = .ok (.ifCond .gt 7, 3) := by decide +kernel
theorem dX7_in_13 : decode cX7_in 13 = .ok (.iconst 1, 1) := by decide +kernel
theorem dX7_in_14 : decode cX7_in 14 = .ok (.goto 4, 3) := by decide +kernel
theorem dX7_in_17 : decode cX7_in 17 = .ok (.iconst 0, 1) := by decide +kernel
theorem dX7_in_18 : decode cX7_in 18 = .ok (.ireturn, 1) := by decide +kernel
theorem dX7_has_0 : decode cX7_has 0 = .ok (.iload_n 0, 1) := by decide +kernel
theorem dX7_has_1 : decode cX7_has 1 = .ok (.iload_n 1, 1) := by decide +kernel
theorem dX7_has_2 : decode cX7_has 2 = .ok (.ishr, 1) := by decide +kernel
theorem dX7_has_3 : decode cX7_has 3 = .ok (.iconst 1, 1) := by decide +kernel
theorem dX7_has_4 : decode cX7_has 4 = .ok (.iand, 1) := by decide +kernel
theorem dX7_has_5 : decode cX7_has 5 = .ok (.iconst 1, 1) := by decide +kernel
theorem dX7_has_6 : decode cX7_has 6 = .ok (.if_icmp .ne 7, 3) := by decide +kernel
theorem dX7_has_9 : decode cX7_has 9 = .ok (.iconst 1, 1) := by decide +kernel
theorem dX7_has_10 : decode cX7_has 10 = .ok (.goto 4, 3) := by decide +kernel
theorem dX7_has_13 : decode cX7_has 13 = .ok (.iconst 0, 1) := by decide +kernel
theorem dX7_has_14 : decode cX7_has 14 = .ok (.ireturn, 1) := by decide +kernel
theorem dX7_ones_0 : decode cX7_ones 0 = .ok (.iconst 0, 1) := by decide +kernel
theorem dX7_ones_1 : decode cX7_ones 1 = .ok (.istore_n 1, 1) := by decide +kernel
theorem dX7_ones_2 : decode cX7_ones 2 = .ok (.iload_n 0, 1) := by decide +kernel
theorem dX7_ones_3 : decode cX7_ones 3 = .ok (.istore_n 2, 1) := by decide +kernel
theorem dX7_ones_4 : decode cX7_ones 4 = .ok (.iload_n 2, 1) := by decide +kernel
theorem dX7_ones_5 : decode cX7_ones 5 = .ok (.ifCond .eq 15, 3) := by decide +kernel
theorem dX7_ones_8 : decode cX7_ones 8 = .ok (.iinc 1 1, 3) := by decide +kernel
theorem dX7_ones_11 : decode cX7_ones 11 = .ok (.iload_n 2, 1) := by decide +kernel
theorem dX7_ones_12 : decode cX7_ones 12 = .ok (.iload_n 2, 1) := by decide +kernel
theorem dX7_ones_13 : decode cX7_ones 13 = .ok (.iconst 1, 1) := by decide +kernel
theorem dX7_ones_14 : decode cX7_ones 14 = .ok (.isub, 1) := by decide +kernel
theorem dX7_ones_15 : decode cX7_ones 15 = .ok (.iand, 1) := by decide +kernel
theorem dX7_ones_16 : decode cX7_ones 16 = .ok (.istore_n 2, 1) := by decide +kernel
theorem dX7_ones_17 : decode cX7_ones 17 = .ok (.goto (-13), 3) := by decide +kernel
theorem dX7_ones_20 : decode cX7_ones 20 = .ok (.iload_n 1, 1) := by decide +kernel
theorem dX7_ones_21 : decode cX7_ones 21 = .ok (.ireturn, 1) := by decide +kernel
theorem dX7_takeFirst_0 : decode cX7_takeFirst 0 = .ok (.aload_n 0, 1) := by decide +kernel
theorem dX7_takeFirst_1 : decode cX7_takeFirst 1 = .ok (.iconst 0, 1) := by decide +kernel
theorem dX7_takeFirst_2 : decode cX7_takeFirst 2 = .ok (.iconst 0, 1) := by decide +kernel
theorem dX7_takeFirst_3 : decode cX7_takeFirst 3 = .ok (.iastore, 1) := by decide +kernel
theorem dX7_takeFirst_4 : decode cX7_takeFirst 4 = .ok (.aload_n 0, 1) := by decide +kernel
theorem dX7_takeFirst_5 : decode cX7_takeFirst 5 = .ok (.bipush 7, 2) := by decide +kernel
theorem dX7_takeFirst_7 : decode cX7_takeFirst 7 = .ok (.iconst 0, 1) := by decide +kernel
theorem dX7_takeFirst_8 : decode cX7_takeFirst 8 = .ok (.iastore, 1) := by decide +kernel
theorem dX7_takeFirst_9 : decode cX7_takeFirst 9 = .ok (.aload_n 0, 1) := by decide +kernel
theorem dX7_takeFirst_10 : decode cX7_takeFirst 10 = .ok (.bipush 20, 2) := by decide +kernel
theorem dX7_takeFirst_12 : decode cX7_takeFirst 12 = .ok (.iconst 0, 1) := by decide +kernel
theorem dX7_takeFirst_13 : decode cX7_takeFirst 13 = .ok (.iastore, 1) := by decide +kernel
theorem dX7_takeFirst_14 : decode cX7_takeFirst 14 = .ok (.aload_n 0, 1) := by decide +kernel
theorem dX7_takeFirst_15 : decode cX7_takeFirst 15 = .ok (.bipush 25, 2) := by decide +kernel
theorem dX7_takeFirst_17 : decode cX7_takeFirst 17 = .ok (.bipush 12, 2) := by decide +kernel
theorem dX7_takeFirst_19 : decode cX7_takeFirst 19 = .ok (.iastore, 1) := by decide +kernel
theorem dX7_takeFirst_20 : decode cX7_takeFirst 20 = .ok (.aload_n 0, 1) := by decide +kernel
theorem dX7_takeFirst_21 : decode cX7_takeFirst 21 = .ok (.bipush 26, 2) := by decide +kernel
theorem dX7_takeFirst_23 : decode cX7_takeFirst 23 = .ok (.iconst 3, 1) := by decide +kernel
theorem dX7_takeFirst_24 : decode cX7_takeFirst 24 = .ok (.iastore, 1) := by decide +kernel
theorem dX7_takeFirst_25 : decode cX7_takeFirst 25 = .ok (.aload_n 0, 1) := by decide +kernel
theorem dX7_takeFirst_26 : decode cX7_takeFirst 26 = .ok (.bipush 27, 2) := by decide +kernel
theorem dX7_takeFirst_28 : decode cX7_takeFirst 28 = .ok (.iconst 4, 1) := by decide +kernel
theorem dX7_takeFirst_29 : decode cX7_takeFirst 29 = .ok (.iastore, 1) := by decide +kernel
theorem dX7_takeFirst_30 : decode cX7_takeFirst 30 = .ok (.aload_n 0, 1) := by decide +kernel
theorem dX7_takeFirst_31 : decode cX7_takeFirst 31 = .ok (.bipush 28, 2) := by decide +kernel
theorem dX7_takeFirst_33 : decode cX7_takeFirst 33 = .ok (.iconst 2, 1) := by decide +kernel
theorem dX7_takeFirst_34 : decode cX7_takeFirst 34 = .ok (.iastore, 1) := by decide +kernel
theorem dX7_takeFirst_35 : decode cX7_takeFirst 35 = .ok (.return_, 1) := by decide +kernel
theorem dX7_isMan_0 : decode cX7_isMan 0 = .ok (.iload_n 1, 1) := by decide +kernel
theorem dX7_isMan_1 : decode cX7_isMan 1 = .ok (.i2l, 1) := by decide +kernel
theorem dX7_isMan_2 : decode cX7_isMan 2 = .ok (.lconst 0, 1) := by decide +kernel
theorem dX7_isMan_3 : decode cX7_isMan 3 = .ok (.aload_n 0, 1) := by decide +kernel
theorem dX7_isMan_4 : decode cX7_isMan 4 = .ok (.getfield 7, 3) := by decide +kernel
theorem dX7_isMan_7 : decode cX7_isMan 7 = .ok (.iconst 0, 1) := by decide +kernel
theorem dX7_isMan_8 : decode cX7_isMan 8 = .ok (.iaload, 1) := by decide +kernel
theorem dX7_isMan_9 : decode cX7_isMan 9 = .ok (.iconst 1, 1) := by decide +kernel
theorem dX7_isMan_10 : decode cX7_isMan 10 = .ok (.isub, 1) := by decide +kernel
theorem dX7_isMan_11 : decode cX7_isMan 11 = .ok (.i2l, 1) := by decide +kernel
theorem dX7_isMan_12 : decode cX7_isMan 12 = .ok (.invokestatic 45, 3) := by decide +kernel
theorem dX7_isMan_15 : decode cX7_isMan 15 = .ok (.ireturn, 1) := by decide +kernel
theorem dX7_isSheep_0 : decode cX7_isSheep 0 = .ok (.iload_n 1, 1) := by decide +kernel
theorem dX7_isSheep_1 : decode cX7_isSheep 1 = .ok (.i2l, 1) := by decide +kernel
theorem dX7_isSheep_2 : decode cX7_isSheep 2 = .ok (.lconst 0, 1) := by decide +kernel
theorem dX7_isSheep_3 : decode cX7_isSheep 3 = .ok (.aload_n 0, 1) := by decide +kernel
theorem dX7_isSheep_4 : decode cX7_isSheep 4 = .ok (.getfield 7, 3) := by decide +kernel
theorem dX7_isSheep_7 : decode cX7_isSheep 7 = .ok (.bipush 7, 2) := by decide +kernel
theorem dX7_isSheep_9 : decode cX7_isSheep 9 = .ok (.iaload, 1) := by decide +kernel
theorem dX7_isSheep_10 : decode cX7_isSheep 10 = .ok (.iconst 1, 1) := by decide +kernel
theorem dX7_isSheep_11 : decode cX7_isSheep 11 = .ok (.isub, 1) := by decide +kernel
theorem dX7_isSheep_12 : decode cX7_isSheep 12 = .ok (.i2l, 1) := by decide +kernel
theorem dX7_isSheep_13 : decode cX7_isSheep 13 = .ok (.invokestatic 45, 3) := by decide +kernel
theorem dX7_isSheep_16 : decode cX7_isSheep 16 = .ok (.ireturn, 1) := by decide +kernel
theorem dX7_isWhat_0 : decode cX7_isWhat 0 = .ok (.iload_n 0, 1) := by decide +kernel
theorem dX7_isWhat_1 : decode cX7_isWhat 1 = .ok (.i2l, 1) := by decide +kernel
theorem dX7_isWhat_2 : decode cX7_isWhat 2 = .ok (.lconst 0, 1) := by decide +kernel
theorem dX7_isWhat_3 : decode cX7_isWhat 3 = .ok (.lconst 1, 1) := by decide +kernel
theorem dX7_isWhat_4 : decode cX7_isWhat 4 = .ok (.invokestatic 45, 3) := by decide +kernel
theorem dX7_isWhat_7 : decode cX7_isWhat 7 = .ok (.ireturn, 1) := by decide +kernel
theorem dX7_write_0 : decode cX7_write 0 = .ok (.iload_n 1, 1) := by decide +kernel
theorem dX7_write_1 : decode cX7_write 1 = .ok (.i2l, 1) := by decide +kernel
theorem dX7_write_2 : decode cX7_write 2 = .ok (.lconst 0, 1) := by decide +kernel
theorem dX7_write_3 : decode cX7_write 3 = .ok (.ldc2_w 49, 3) := by decide +kernel
theorem dX7_write_6 : decode cX7_write 6 = .ok (.invokestatic 45, 3) := by decide +kernel
theorem dX7_write_9 : decode cX7_write 9 = .ok (.ifCond .ne 6, 3) := by decide +kernel
theorem dX7_write_12 : decode cX7_write 12 = .ok (.bipush (-3), 2) := by decide +kernel
theorem dX7_write_14 : decode cX7_write 14 = .ok (.ireturn, 1) := by decide +kernel
theorem dX7_write_15 : decode cX7_write 15 = .ok (.aload_n 0, 1) := by decide +kernel
theorem dX7_write_16 : decode cX7_write 16 = .ok (.getfield 51, 3) := by decide +kernel
theorem dX7_write_19 : decode cX7_write 19 = .ok (.sipush 160, 3) := by decide +kernel
theorem dX7_write_22 : decode cX7_write 22 = .ok (.if_icmp .ne 6, 3) := by decide +kernel
theorem dX7_write_25 : decode cX7_write 25 = .ok (.bipush (-5), 2) := by decide +kernel
theorem dX7_write_27 : decode cX7_write 27 = .ok (.ireturn, 1) := by decide +kernel
theorem dX7_write_28 : decode cX7_write 28 = .ok (.aload_n 0, 1) := by decide +kernel
theorem dX7_write_29 : decode cX7_write 29 = .ok (.getfield 16, 3) := by decide +kernel
theorem dX7_write_32 : decode cX7_write 32 = .ok (.aload_n 0, 1) := by decide +kernel
theorem dX7_write_33 : decode cX7_write 33 = .ok (.getfield 51, 3) := by decide +kernel
theorem dX7_write_36 : decode cX7_write 36 = .ok (.iload_n 1, 1) := by decide +kernel
theorem dX7_write_37 : decode cX7_write 37 = .ok (.iastore, 1) := by decide +kernel
theorem dX7_write_38 : decode cX7_write 38 = .ok (.aload_n 0, 1) := by decide +kernel
theorem dX7_write_39 : decode cX7_write 39 = .ok (.dup, 1) := by decide +kernel
theorem dX7_write_40 : decode cX7_write 40 = .ok (.getfield 51, 3) := by decide +kernel
theorem dX7_write_43 : decode cX7_write 43 = .ok (.iconst 1, 1) := by decide +kernel
theorem dX7_write_44 : decode cX7_write 44 = .ok (.iadd, 1) := by decide +kernel
theorem dX7_write_45 : decode cX7_write 45 = .ok (.putfield 51, 3) := by decide +kernel
theorem dX7_write_48 : decode cX7_write 48 = .ok (.aload_n 0, 1) := by decide +kernel
theorem dX7_write_49 : decode cX7_write 49 = .ok (.getfield 51, 3) := by decide +kernel
theorem dX7_write_52 : decode cX7_write 52 = .ok (.ireturn, 1) := by decide +kernel
theorem dX7_erase_0 : decode cX7_erase 0 = .ok (.aload_n 0, 1) := by decide +kernel
theorem dX7_erase_1 : decode cX7_erase 1 = .ok (.getfield 51, 3) := by decide +kernel
theorem dX7_erase_4 : decode cX7_erase 4 = .ok (.istore_n 1, 1) := by decide +kernel
theorem dX7_erase_5 : decode cX7_erase 5 = .ok (.aload_n 0, 1) := by decide +kernel
theorem dX7_erase_6 : decode cX7_erase 6 = .ok (.iconst 0, 1) := by decide +kernel
theorem dX7_erase_7 : decode cX7_erase 7 = .ok (.putfield 51, 3) := by decide +kernel
theorem dX7_erase_10 : decode cX7_erase 10 = .ok (.iload_n 1, 1) := by decide +kernel
theorem dX7_erase_11 : decode cX7_erase 11 = .ok (.ireturn, 1) := by decide +kernel
theorem dX7_letterAt_0 : decode cX7_letterAt 0 = .ok (.iload_n 1, 1) := by decide +kernel
theorem dX7_letterAt_1 : decode cX7_letterAt 1 = .ok (.aload_n 0, 1) := by decide +kernel
theorem dX7_letterAt_2 : decode cX7_letterAt 2 = .ok (.getfield 51, 3) := by decide +kernel
theorem dX7_letterAt_5 : decode cX7_letterAt 5 = .ok (.if_icmp .ge 12, 3) := by decide +kernel
theorem dX7_letterAt_8 : decode cX7_letterAt 8 = .ok (.aload_n 0, 1) := by decide +kernel
theorem dX7_letterAt_9 : decode cX7_letterAt 9 = .ok (.getfield 16, 3) := by decide +kernel
theorem dX7_letterAt_12 : decode cX7_letterAt 12 = .ok (.iload_n 1, 1) := by decide +kernel
theorem dX7_letterAt_13 : decode cX7_letterAt 13 = .ok (.iaload, 1) := by decide +kernel
theorem dX7_letterAt_14 : decode cX7_letterAt 14 = .ok (.goto 4, 3) := by decide +kernel
theorem dX7_letterAt_17 : decode cX7_letterAt 17 = .ok (.iconst 0, 1) := by decide +kernel
theorem dX7_letterAt_18 : decode cX7_letterAt 18 = .ok (.ireturn, 1) := by decide +kernel
theorem dX7_nextToken_0 : decode cX7_nextToken 0 = .ok (.aload_n 0, 1) := by decide +kernel
theorem dX7_nextToken_1 : decode cX7_nextToken 1 = .ok (.aload_n 0, 1) := by decide +kernel
theorem dX7_nextToken_2 : decode cX7_nextToken 2 = .ok (.getfield 55, 3) := by decide +kernel
theorem dX7_nextToken_5 : decode cX7_nextToken 5 = .ok (.invokevirtual 58, 3) := by decide +kernel
theorem dX7_nextToken_8 : decode cX7_nextToken 8 = .ok (.bipush 32, 2) := by decide +kernel
theorem dX7_nextToken_10 : decode cX7_nextToken 10 = .ok (.if_icmp .ne 16, 3) := by decide +kernel
theorem dX7_nextToken_13 : decode cX7_nextToken 13 = .ok (.aload_n 0, 1) := by decide +kernel
theorem dX7_nextToken_14 : decode cX7_nextToken 14 = .ok (.dup, 1) := by decide +kernel
theorem dX7_nextToken_15 : decode cX7_nextToken 15 = .ok (.getfield 55, 3) := by decide +kernel
theorem dX7_nextToken_18 : decode cX7_nextToken 18 = .ok (.iconst 1, 1) := by decide +kernel
theorem dX7_nextToken_19 : decode cX7_nextToken 19 = .ok (.iadd, 1) := by decide +kernel
theorem dX7_nextToken_20 : decode cX7_nextToken 20 = .ok (.putfield 55, 3) := by decide +kernel
theorem dX7_nextToken_23 : decode cX7_nextToken 23 = .ok (.goto (-23), 3) := by decide +kernel
theorem dX7_nextToken_26 : decode cX7_nextToken 26 = .ok (.aload_n 0, 1) := by decide +kernel
theorem dX7_nextToken_27 : decode cX7_nextToken 27 = .ok (.aload_n 0, 1) := by decide +kernel
theorem dX7_nextToken_28 : decode cX7_nextToken 28 = .ok (.getfield 55, 3) := by decide +kernel
theorem dX7_nextToken_31 : decode cX7_nextToken 31 = .ok (.putfield 62, 3) := by decide +kernel
theorem dX7_nextToken_34 : decode cX7_nextToken 34 = .ok (.aload_n 0, 1) := by decide +kernel
theorem dX7_nextToken_35 : decode cX7_nextToken 35 = .ok (.iconst 0, 1) := by decide +kernel
theorem dX7_nextToken_36 : decode cX7_nextToken 36 = .ok (.putfield 65, 3) := by decide +kernel
theorem dX7_nextToken_39 : decode cX7_nextToken 39 = .ok (.aload_n 0, 1) := by decide +kernel
theorem dX7_nextToken_40 : decode cX7_nextToken 40 = .ok (.aload_n 0, 1) := by decide +kernel
theorem dX7_nextToken_41 : decode cX7_nextToken 41 = .ok (.getfield 55, 3) := by decide +kernel
theorem dX7_nextToken_44 : decode cX7_nextToken 44 = .ok (.aload_n 0, 1) := by decide +kernel
theorem dX7_nextToken_45 : decode cX7_nextToken 45 = .ok (.getfield 51, 3) := by decide +kernel
theorem dX7_nextToken_48 : decode cX7_nextToken 48 = .ok (.if_icmp .ne 7, 3) := by decide +kernel
theorem dX7_nextToken_51 : decode cX7_nextToken 51 = .ok (.iconst 3, 1) := by decide +kernel
theorem dX7_nextToken_52 : decode cX7_nextToken 52 = .ok (.goto 4, 3) := by decide +kernel
theorem dX7_nextToken_55 : decode cX7_nextToken 55 = .ok (.iconst 0, 1) := by decide +kernel
theorem dX7_nextToken_56 : decode cX7_nextToken 56 = .ok (.putfield 68, 3) := by decide +kernel
theorem dX7_nextToken_59 : decode cX7_nextToken 59 = .ok (.aload_n 0, 1) := by decide +kernel
theorem dX7_nextToken_60 : decode cX7_nextToken 60 = .ok (.getfield 68, 3) := by decide +kernel
theorem dX7_nextToken_63 : decode cX7_nextToken 63 = .ok (.iconst 2, 1) := by decide +kernel
theorem dX7_nextToken_64 : decode cX7_nextToken 64 = .ok (.if_icmp .ge 42, 3) := by decide +kernel
theorem dX7_nextToken_67 : decode cX7_nextToken 67 = .ok (.aload_n 0, 1) := by decide +kernel
theorem dX7_nextToken_68 : decode cX7_nextToken 68 = .ok (.aload_n 0, 1) := by decide +kernel
theorem dX7_nextToken_69 : decode cX7_nextToken 69 = .ok (.getfield 55, 3) := by decide +kernel
theorem dX7_nextToken_72 : decode cX7_nextToken 72 = .ok (.invokevirtual 58, 3) := by decide +kernel
theorem dX7_nextToken_75 : decode cX7_nextToken 75 = .ok (.i2l, 1) := by decide +kernel
theorem dX7_nextToken_76 : decode cX7_nextToken 76 = .ok (.ldc2_w 71, 3) := by decide +kernel
theorem dX7_nextToken_79 : decode cX7_nextToken 79 = .ok (.ldc2_w 73, 3) := by decide +kernel
theorem dX7_nextToken_82 : decode cX7_nextToken 82 = .ok (.invokestatic 45, 3) := by decide +kernel
theorem dX7_nextToken_85 : decode cX7_nextToken 85 = .ok (.ifCond .eq 21, 3) := by decide +kernel
theorem dX7_nextToken_88 : decode cX7_nextToken 88 = .ok (.aload_n 0, 1) := by decide +kernel
theorem dX7_nextToken_89 : decode cX7_nextToken 89 = .ok (.iconst 1, 1) := by decide +kernel
theorem dX7_nextToken_90 : decode cX7_nextToken 90 = .ok (.putfield 68, 3) := by decide +kernel
theorem dX7_nextToken_93 : decode cX7_nextToken 93 = .ok (.aload_n 0, 1) := by decide +kernel
theorem dX7_nextToken_94 : decode cX7_nextToken 94 = .ok (.dup, 1) := by decide +kernel
theorem dX7_nextToken_95 : decode cX7_nextToken 95 = .ok (.getfield 55, 3) := by decide +kernel
theorem dX7_nextToken_98 : decode cX7_nextToken 98 = .ok (.iconst 1, 1) := by decide +kernel
theorem dX7_nextToken_99 : decode cX7_nextToken 99 = .ok (.iadd, 1) := by decide +kernel
theorem dX7_nextToken_100 : decode cX7_nextToken 100 = .ok (.putfield 55, 3) := by decide +kernel
theorem dX7_nextToken_103 : decode cX7_nextToken 103 = .ok (.goto (-44), 3) := by decide +kernel
theorem dX7_nextToken_106 : decode cX7_nextToken 106 = .ok (.aload_n 0, 1) := by decide +kernel
theorem dX7_nextToken_107 : decode cX7_nextToken 107 = .ok (.getfield 68, 3) := by decide +kernel
theorem dX7_nextToken_110 : decode cX7_nextToken 110 = .ok (.iconst 1, 1) := by decide +kernel
theorem dX7_nextToken_111 : decode cX7_nextToken 111 = .ok (.if_icmp .eq 83, 3) := by decide +kernel
theorem dX7_nextToken_114 : decode cX7_nextToken 114 = .ok (.aload_n 0, 1) := by decide +kernel
theorem dX7_nextToken_115 : decode cX7_nextToken 115 = .ok (.aload_n 0, 1) := by decide +kernel
theorem dX7_nextToken_116 : decode cX7_nextToken 116 = .ok (.getfield 55, 3) := by decide +kernel
theorem dX7_nextToken_119 : decode cX7_nextToken 119 = .ok (.invokevirtual 58, 3) := by decide +kernel
theorem dX7_nextToken_122 : decode cX7_nextToken 122 = .ok (.i2l, 1) := by decide +kernel
theorem dX7_nextToken_123 : decode cX7_nextToken 123 = .ok (.ldc2_w 75, 3) := by decide +kernel
theorem dX7_nextToken_126 : decode cX7_nextToken 126 = .ok (.ldc2_w 77, 3) := by decide +kernel
theorem dX7_nextToken_129 : decode cX7_nextToken 129 = .ok (.invokestatic 45, 3) := by decide +kernel
theorem dX7_nextToken_132 : decode cX7_nextToken 132 = .ok (.ifCond .eq 62, 3) := by decide +kernel
theorem dX7_nextToken_135 : decode cX7_nextToken 135 = .ok (.aload_n 0, 1) := by decide +kernel
theorem dX7_nextToken_136 : decode cX7_nextToken 136 = .ok (.aload_n 0, 1) := by decide +kernel
theorem dX7_nextToken_137 : decode cX7_nextToken 137 = .ok (.getfield 65, 3) := by decide +kernel
theorem dX7_nextToken_140 : decode cX7_nextToken 140 = .ok (.sipush 999, 3) := by decide +kernel
theorem dX7_nextToken_143 : decode cX7_nextToken 143 = .ok (.if_icmp .le 10, 3) := by decide +kernel
theorem dX7_nextToken_146 : decode cX7_nextToken 146 = .ok (.aload_n 0, 1) := by decide +kernel
theorem dX7_nextToken_147 : decode cX7_nextToken 147 = .ok (.getfield 65, 3) := by decide +kernel
theorem dX7_nextToken_150 : decode cX7_nextToken 150 = .ok (.goto 23, 3) := by decide +kernel
theorem dX7_nextToken_153 : decode cX7_nextToken 153 = .ok (.bipush 10, 2) := by decide +kernel
theorem dX7_nextToken_155 : decode cX7_nextToken 155 = .ok (.aload_n 0, 1) := by decide +kernel
theorem dX7_nextToken_156 : decode cX7_nextToken 156 = .ok (.getfield 65, 3) := by decide +kernel
theorem dX7_nextToken_159 : decode cX7_nextToken 159 = .ok (.imul, 1) := by decide +kernel
theorem dX7_nextToken_160 : decode cX7_nextToken 160 = .ok (.aload_n 0, 1) := by decide +kernel
theorem dX7_nextToken_161 : decode cX7_nextToken 161 = .ok (.getfield 16, 3) := by decide +kernel
theorem dX7_nextToken_164 : decode cX7_nextToken 164 = .ok (.aload_n 0, 1) := by decide +kernel
theorem dX7_nextToken_165 : decode cX7_nextToken 165 = .ok (.getfield 55, 3) := by decide +kernel
theorem dX7_nextToken_168 : decode cX7_nextToken 168 = .ok (.iaload, 1) := by decide +kernel
theorem dX7_nextToken_169 : decode cX7_nextToken 169 = .ok (.iadd, 1) := by decide +kernel
theorem dX7_nextToken_170 : decode cX7_nextToken 170 = .ok (.bipush 48, 2) := by decide +kernel
theorem dX7_nextToken_172 : decode cX7_nextToken 172 = .ok (.isub, 1) := by decide +kernel
theorem dX7_nextToken_173 : decode cX7_nextToken 173 = .ok (.putfield 65, 3) := by decide +kernel
theorem dX7_nextToken_176 : decode cX7_nextToken 176 = .ok (.aload_n 0, 1) := by decide +kernel
theorem dX7_nextToken_177 : decode cX7_nextToken 177 = .ok (.iconst 2, 1) := by decide +kernel
theorem dX7_nextToken_178 : decode cX7_nextToken 178 = .ok (.putfield 68, 3) := by decide +kernel
theorem dX7_nextToken_181 : decode cX7_nextToken 181 = .ok (.aload_n 0, 1) := by decide +kernel
theorem dX7_nextToken_182 : decode cX7_nextToken 182 = .ok (.dup, 1) := by decide +kernel
theorem dX7_nextToken_183 : decode cX7_nextToken 183 = .ok (.getfield 55, 3) := by decide +kernel
theorem dX7_nextToken_186 : decode cX7_nextToken 186 = .ok (.iconst 1, 1) := by decide +kernel
theorem dX7_nextToken_187 : decode cX7_nextToken 187 = .ok (.iadd, 1) := by decide +kernel
theorem dX7_nextToken_188 : decode cX7_nextToken 188 = .ok (.putfield 55, 3) := by decide +kernel
theorem dX7_nextToken_191 : decode cX7_nextToken 191 = .ok (.goto (-85), 3) := by decide +kernel
theorem dX7_nextToken_194 : decode cX7_nextToken 194 = .ok (.aload_n 0, 1) := by decide +kernel
theorem dX7_nextToken_195 : decode cX7_nextToken 195 = .ok (.getfield 68, 3) := by decide +kernel
theorem dX7_nextToken_198 : decode cX7_nextToken 198 = .ok (.iconst 2, 1) := by decide +kernel
theorem dX7_nextToken_199 : decode cX7_nextToken 199 = .ok (.if_icmp .ne 23, 3) := by decide +kernel
theorem dX7_nextToken_202 : decode cX7_nextToken 202 = .ok (.aload_n 0, 1) := by decide +kernel
theorem dX7_nextToken_203 : decode cX7_nextToken 203 = .ok (.getfield 55, 3) := by decide +kernel
theorem dX7_nextToken_206 : decode cX7_nextToken 206 = .ok (.aload_n 0, 1) := by decide +kernel
theorem dX7_nextToken_207 : decode cX7_nextToken 207 = .ok (.getfield 62, 3) := by decide +kernel
theorem dX7_nextToken_210 : decode cX7_nextToken 210 = .ok (.isub, 1) := by decide +kernel
theorem dX7_nextToken_211 : decode cX7_nextToken 211 = .ok (.iconst 3, 1) := by decide +kernel
theorem dX7_nextToken_212 : decode cX7_nextToken 212 = .ok (.if_icmp .le 10, 3) := by decide +kernel
theorem dX7_nextToken_215 : decode cX7_nextToken 215 = .ok (.aload_n 0, 1) := by decide +kernel
theorem dX7_nextToken_216 : decode cX7_nextToken 216 = .ok (.sipush 9999, 3) := by decide +kernel
theorem dX7_nextToken_219 : decode cX7_nextToken 219 = .ok (.putfield 65, 3) := by decide +kernel
theorem dX7_nextToken_222 : decode cX7_nextToken 222 = .ok (.aload_n 0, 1) := by decide +kernel
theorem dX7_nextToken_223 : decode cX7_nextToken 223 = .ok (.getfield 68, 3) := by decide +kernel
theorem dX7_nextToken_226 : decode cX7_nextToken 226 = .ok (.ifCond .ne 26, 3) := by decide +kernel
theorem dX7_nextToken_229 : decode cX7_nextToken 229 = .ok (.aload_n 0, 1) := by decide +kernel
theorem dX7_nextToken_230 : decode cX7_nextToken 230 = .ok (.aload_n 0, 1) := by decide +kernel
theorem dX7_nextToken_231 : decode cX7_nextToken 231 = .ok (.getfield 16, 3) := by decide +kernel
theorem dX7_nextToken_234 : decode cX7_nextToken 234 = .ok (.aload_n 0, 1) := by decide +kernel
theorem dX7_nextToken_235 : decode cX7_nextToken 235 = .ok (.getfield 55, 3) := by decide +kernel
theorem dX7_nextToken_238 : decode cX7_nextToken 238 = .ok (.iaload, 1) := by decide +kernel
theorem dX7_nextToken_239 : decode cX7_nextToken 239 = .ok (.putfield 65, 3) := by decide +kernel
theorem dX7_nextToken_242 : decode cX7_nextToken 242 = .ok (.aload_n 0, 1) := by decide +kernel
theorem dX7_nextToken_243 : decode cX7_nextToken 243 = .ok (.dup, 1) := by decide +kernel
theorem dX7_nextToken_244 : decode cX7_nextToken 244 = .ok (.getfield 55, 3) := by decide +kernel
theorem dX7_nextToken_247 : decode cX7_nextToken 247 = .ok (.iconst 1, 1) := by decide +kernel
theorem dX7_nextToken_248 : decode cX7_nextToken 248 = .ok (.iadd, 1) := by decide +kernel
theorem dX7_nextToken_249 : decode cX7_nextToken 249 = .ok (.putfield 55, 3) := by decide +kernel
theorem dX7_nextToken_252 : decode cX7_nextToken 252 = .ok (.return_, 1) := by decide +kernel
theorem dX7_wordOf_0 : decode cX7_wordOf 0 = .ok (.lconst 0, 1) := by decide +kernel
theorem dX7_wordOf_1 : decode cX7_wordOf 1 = .ok (.lstore_n 1, 1) := by decide +kernel
theorem dX7_wordOf_2 : decode cX7_wordOf 2 = .ok (.aload_n 0, 1) := by decide +kernel
theorem dX7_wordOf_3 : decode cX7_wordOf 3 = .ok (.getfield 62, 3) := by decide +kernel
theorem dX7_wordOf_6 : decode cX7_wordOf 6 = .ok (.istore_n 3, 1) := by decide +kernel
theorem dX7_wordOf_7 : decode cX7_wordOf 7 = .ok (.iload_n 3, 1) := by decide +kernel
theorem dX7_wordOf_8 : decode cX7_wordOf 8 = .ok (.aload_n 0, 1) := by decide +kernel
theorem dX7_wordOf_9 : decode cX7_wordOf 9 = .ok (.getfield 55, 3) := by decide +kernel
theorem dX7_wordOf_12 : decode cX7_wordOf 12 = .ok (.if_icmp .ge 40, 3) := by decide +kernel
theorem dX7_wordOf_15 : decode cX7_wordOf 15 = .ok (.iload_n 3, 1) := by decide +kernel
theorem dX7_wordOf_16 : decode cX7_wordOf 16 = .ok (.aload_n 0, 1) := by decide +kernel
theorem dX7_wordOf_17 : decode cX7_wordOf 17 = .ok (.getfield 62, 3) := by decide +kernel
theorem dX7_wordOf_20 : decode cX7_wordOf 20 = .ok (.bipush 9, 2) := by decide +kernel
theorem dX7_wordOf_22 : decode cX7_wordOf 22 = .ok (.iadd, 1) := by decide +kernel
theorem dX7_wordOf_23 : decode cX7_wordOf 23 = .ok (.if_icmp .ge 29, 3) := by decide +kernel
theorem dX7_wordOf_26 : decode cX7_wordOf 26 = .ok (.ldc2_w 79, 3) := by decide +kernel
theorem dX7_wordOf_29 : decode cX7_wordOf 29 = .ok (.lload_n 1, 1) := by decide +kernel
theorem dX7_wordOf_30 : decode cX7_wordOf 30 = .ok (.lmul, 1) := by decide +kernel
theorem dX7_wordOf_31 : decode cX7_wordOf 31 = .ok (.aload_n 0, 1) := by decide +kernel
theorem dX7_wordOf_32 : decode cX7_wordOf 32 = .ok (.getfield 16, 3) := by decide +kernel
theorem dX7_wordOf_35 : decode cX7_wordOf 35 = .ok (.iload_n 3, 1) := by decide +kernel
theorem dX7_wordOf_36 : decode cX7_wordOf 36 = .ok (.iaload, 1) := by decide +kernel
theorem dX7_wordOf_37 : decode cX7_wordOf 37 = .ok (.i2l, 1) := by decide +kernel
theorem dX7_wordOf_38 : decode cX7_wordOf 38 = .ok (.ladd, 1) := by decide +kernel
theorem dX7_wordOf_39 : decode cX7_wordOf 39 = .ok (.ldc2_w 71, 3) := by decide +kernel
theorem dX7_wordOf_42 : decode cX7_wordOf 42 = .ok (.lsub, 1) := by decide +kernel
theorem dX7_wordOf_43 : decode cX7_wordOf 43 = .ok (.lconst 1, 1) := by decide +kernel
theorem dX7_wordOf_44 : decode cX7_wordOf 44 = .ok (.ladd, 1) := by decide +kernel
theorem dX7_wordOf_45 : decode cX7_wordOf 45 = .ok (.lstore_n 1, 1) := by decide +kernel
theorem dX7_wordOf_46 : decode cX7_wordOf 46 = .ok (.iinc 3 1, 3) := by decide +kernel
theorem dX7_wordOf_49 : decode cX7_wordOf 49 = .ok (.goto (-42), 3) := by decide +kernel
theorem dX7_wordOf_52 : decode cX7_wordOf 52 = .ok (.aload_n 0, 1) := by decide +kernel
theorem dX7_wordOf_53 : decode cX7_wordOf 53 = .ok (.getfield 68, 3) := by decide +kernel
theorem dX7_wordOf_56 : decode cX7_wordOf 56 = .ok (.iconst 1, 1) := by decide +kernel
theorem dX7_wordOf_57 : decode cX7_wordOf 57 = .ok (.if_icmp .ne 7, 3) := by decide +kernel
theorem dX7_wordOf_60 : decode cX7_wordOf 60 = .ok (.lload_n 1, 1) := by decide +kernel
theorem dX7_wordOf_61 : decode cX7_wordOf 61 = .ok (.goto 4, 3) := by decide +kernel
theorem dX7_wordOf_64 : decode cX7_wordOf 64 = .ok (.lconst 0, 1) := by decide +kernel
theorem dX7_wordOf_65 : decode cX7_wordOf 65 = .ok (.lreturn, 1) := by decide +kernel
theorem dX7_spelt_0 : decode cX7_spelt 0 = .ok (.lconst 0, 1) := by decide +kernel
theorem dX7_spelt_1 : decode cX7_spelt 1 = .ok (.lstore 7, 2) := by decide +kernel
theorem dX7_spelt_3 : decode cX7_spelt 3 = .ok (.lload 7, 2) := by decide +kernel
theorem dX7_spelt_5 : decode cX7_spelt 5 = .ok (.ldc2_w 79, 3) := by decide +kernel
theorem dX7_spelt_8 : decode cX7_spelt 8 = .ok (.lmul, 1) := by decide +kernel
theorem dX7_spelt_9 : decode cX7_spelt 9 = .ok (.iload_n 0, 1) := by decide +kernel
theorem dX7_spelt_10 : decode cX7_spelt 10 = .ok (.ifCond .ne 7, 3) := by decide +kernel
theorem dX7_spelt_13 : decode cX7_spelt 13 = .ok (.iconst 0, 1) := by decide +kernel
theorem dX7_spelt_14 : decode cX7_spelt 14 = .ok (.goto 9, 3) := by decide +kernel
theorem dX7_spelt_17 : decode cX7_spelt 17 = .ok (.iload_n 0, 1) := by decide +kernel
theorem dX7_spelt_18 : decode cX7_spelt 18 = .ok (.bipush 97, 2) := by decide +kernel
theorem dX7_spelt_20 : decode cX7_spelt 20 = .ok (.isub, 1) := by decide +kernel
theorem dX7_spelt_21 : decode cX7_spelt 21 = .ok (.iconst 1, 1) := by decide +kernel
theorem dX7_spelt_22 : decode cX7_spelt 22 = .ok (.iadd, 1) := by decide +kernel
theorem dX7_spelt_23 : decode cX7_spelt 23 = .ok (.i2l, 1) := by decide +kernel
theorem dX7_spelt_24 : decode cX7_spelt 24 = .ok (.ladd, 1) := by decide +kernel
theorem dX7_spelt_25 : decode cX7_spelt 25 = .ok (.lstore 7, 2) := by decide +kernel
theorem dX7_spelt_27 : decode cX7_spelt 27 = .ok (.iload_n 1, 1) := by decide +kernel
theorem dX7_spelt_28 : decode cX7_spelt 28 = .ok (.ifCond .ne 8, 3) := by decide +kernel
theorem dX7_spelt_31 : decode cX7_spelt 31 = .ok (.lload 7, 2) := by decide +kernel
theorem dX7_spelt_33 : decode cX7_spelt 33 = .ok (.goto 18, 3) := by decide +kernel
theorem dX7_spelt_36 : decode cX7_spelt 36 = .ok (.lload 7, 2) := by decide +kernel
theorem dX7_spelt_38 : decode cX7_spelt 38 = .ok (.ldc2_w 79, 3) := by decide +kernel
theorem dX7_spelt_41 : decode cX7_spelt 41 = .ok (.lmul, 1) := by decide +kernel
theorem dX7_spelt_42 : decode cX7_spelt 42 = .ok (.iload_n 1, 1) := by decide +kernel
theorem dX7_spelt_43 : decode cX7_spelt 43 = .ok (.i2l, 1) := by decide +kernel
theorem dX7_spelt_44 : decode cX7_spelt 44 = .ok (.ladd, 1) := by decide +kernel
theorem dX7_spelt_45 : decode cX7_spelt 45 = .ok (.ldc2_w 71, 3) := by decide +kernel
theorem dX7_spelt_48 : decode cX7_spelt 48 = .ok (.lsub, 1) := by decide +kernel
theorem dX7_spelt_49 : decode cX7_spelt 49 = .ok (.lconst 1, 1) := by decide +kernel
theorem dX7_spelt_50 : decode cX7_spelt 50 = .ok (.ladd, 1) := by decide +kernel
theorem dX7_spelt_51 : decode cX7_spelt 51 = .ok (.lstore 7, 2) := by decide +kernel
theorem dX7_spelt_53 : decode cX7_spelt 53 = .ok (.iload_n 2, 1) := by decide +kernel
theorem dX7_spelt_54 : decode cX7_spelt 54 = .ok (.ifCond .ne 8, 3) := by decide +kernel
theorem dX7_spelt_57 : decode cX7_spelt 57 = .ok (.lload 7, 2) := by decide +kernel
theorem dX7_spelt_59 : decode cX7_spelt 59 = .ok (.goto 18, 3) := by decide +kernel
theorem dX7_spelt_62 : decode cX7_spelt 62 = .ok (.lload 7, 2) := by decide +kernel
theorem dX7_spelt_64 : decode cX7_spelt 64 = .ok (.ldc2_w 79, 3) := by decide +kernel
theorem dX7_spelt_67 : decode cX7_spelt 67 = .ok (.lmul, 1) := by decide +kernel
theorem dX7_spelt_68 : decode cX7_spelt 68 = .ok (.iload_n 2, 1) := by decide +kernel
theorem dX7_spelt_69 : decode cX7_spelt 69 = .ok (.i2l, 1) := by decide +kernel
theorem dX7_spelt_70 : decode cX7_spelt 70 = .ok (.ladd, 1) := by decide +kernel
theorem dX7_spelt_71 : decode cX7_spelt 71 = .ok (.ldc2_w 71, 3) := by decide +kernel
theorem dX7_spelt_74 : decode cX7_spelt 74 = .ok (.lsub, 1) := by decide +kernel
theorem dX7_spelt_75 : decode cX7_spelt 75 = .ok (.lconst 1, 1) := by decide +kernel
theorem dX7_spelt_76 : decode cX7_spelt 76 = .ok (.ladd, 1) := by decide +kernel
theorem dX7_spelt_77 : decode cX7_spelt 77 = .ok (.lstore 7, 2) := by decide +kernel
theorem dX7_spelt_79 : decode cX7_spelt 79 = .ok (.iload_n 3, 1) := by decide +kernel
theorem dX7_spelt_80 : decode cX7_spelt 80 = .ok (.ifCond .ne 8, 3) := by decide +kernel
theorem dX7_spelt_83 : decode cX7_spelt 83 = .ok (.lload 7, 2) := by decide +kernel
theorem dX7_spelt_85 : decode cX7_spelt 85 = .ok (.goto 18, 3) := by decide +kernel
theorem dX7_spelt_88 : decode cX7_spelt 88 = .ok (.lload 7, 2) := by decide +kernel
theorem dX7_spelt_90 : decode cX7_spelt 90 = .ok (.ldc2_w 79, 3) := by decide +kernel
theorem dX7_spelt_93 : decode cX7_spelt 93 = .ok (.lmul, 1) := by decide +kernel
theorem dX7_spelt_94 : decode cX7_spelt 94 = .ok (.iload_n 3, 1) := by decide +kernel
theorem dX7_spelt_95 : decode cX7_spelt 95 = .ok (.i2l, 1) := by decide +kernel
theorem dX7_spelt_96 : decode cX7_spelt 96 = .ok (.ladd, 1) := by decide +kernel
theorem dX7_spelt_97 : decode cX7_spelt 97 = .ok (.ldc2_w 71, 3) := by decide +kernel
theorem dX7_spelt_100 : decode cX7_spelt 100 = .ok (.lsub, 1) := by decide +kernel
theorem dX7_spelt_101 : decode cX7_spelt 101 = .ok (.lconst 1, 1) := by decide +kernel
theorem dX7_spelt_102 : decode cX7_spelt 102 = .ok (.ladd, 1) := by decide +kernel
theorem dX7_spelt_103 : decode cX7_spelt 103 = .ok (.lstore 7, 2) := by decide +kernel
theorem dX7_spelt_105 : decode cX7_spelt 105 = .ok (.iload 4, 2) := by decide +kernel
theorem dX7_spelt_107 : decode cX7_spelt 107 = .ok (.ifCond .ne 8, 3) := by decide +kernel
theorem dX7_spelt_110 : decode cX7_spelt 110 = .ok (.lload 7, 2) := by decide +kernel
theorem dX7_spelt_112 : decode cX7_spelt 112 = .ok (.goto 19, 3) := by decide +kernel
theorem dX7_spelt_115 : decode cX7_spelt 115 = .ok (.lload 7, 2) := by decide +kernel
theorem dX7_spelt_117 : decode cX7_spelt 117 = .ok (.ldc2_w 79, 3) := by decide +kernel
theorem dX7_spelt_120 : decode cX7_spelt 120 = .ok (.lmul, 1) := by decide +kernel
theorem dX7_spelt_121 : decode cX7_spelt 121 = .ok (.iload 4, 2) := by decide +kernel
theorem dX7_spelt_123 : decode cX7_spelt 123 = .ok (.i2l, 1) := by decide +kernel
theorem dX7_spelt_124 : decode cX7_spelt 124 = .ok (.ladd, 1) := by decide +kernel
theorem dX7_spelt_125 : decode cX7_spelt 125 = .ok (.ldc2_w 71, 3) := by decide +kernel
theorem dX7_spelt_128 : decode cX7_spelt 128 = .ok (.lsub, 1) := by decide +kernel
theorem dX7_spelt_129 : decode cX7_spelt 129 = .ok (.lconst 1, 1) := by decide +kernel
theorem dX7_spelt_130 : decode cX7_spelt 130 = .ok (.ladd, 1) := by decide +kernel
theorem dX7_spelt_131 : decode cX7_spelt 131 = .ok (.lstore 7, 2) := by decide +kernel
theorem dX7_spelt_133 : decode cX7_spelt 133 = .ok (.iload 5, 2) := by decide +kernel
theorem dX7_spelt_135 : decode cX7_spelt 135 = .ok (.ifCond .ne 8, 3) := by decide +kernel
theorem dX7_spelt_138 : decode cX7_spelt 138 = .ok (.lload 7, 2) := by decide +kernel
theorem dX7_spelt_140 : decode cX7_spelt 140 = .ok (.goto 19, 3) := by decide +kernel
theorem dX7_spelt_143 : decode cX7_spelt 143 = .ok (.lload 7, 2) := by decide +kernel
theorem dX7_spelt_145 : decode cX7_spelt 145 = .ok (.ldc2_w 79, 3) := by decide +kernel
theorem dX7_spelt_148 : decode cX7_spelt 148 = .ok (.lmul, 1) := by decide +kernel
theorem dX7_spelt_149 : decode cX7_spelt 149 = .ok (.iload 5, 2) := by decide +kernel
theorem dX7_spelt_151 : decode cX7_spelt 151 = .ok (.i2l, 1) := by decide +kernel
theorem dX7_spelt_152 : decode cX7_spelt 152 = .ok (.ladd, 1) := by decide +kernel
theorem dX7_spelt_153 : decode cX7_spelt 153 = .ok (.ldc2_w 71, 3) := by decide +kernel
theorem dX7_spelt_156 : decode cX7_spelt 156 = .ok (.lsub, 1) := by decide +kernel
theorem dX7_spelt_157 : decode cX7_spelt 157 = .ok (.lconst 1, 1) := by decide +kernel
theorem dX7_spelt_158 : decode cX7_spelt 158 = .ok (.ladd, 1) := by decide +kernel
theorem dX7_spelt_159 : decode cX7_spelt 159 = .ok (.lstore 7, 2) := by decide +kernel
theorem dX7_spelt_161 : decode cX7_spelt 161 = .ok (.iload 6, 2) := by decide +kernel
theorem dX7_spelt_163 : decode cX7_spelt 163 = .ok (.ifCond .ne 8, 3) := by decide +kernel
theorem dX7_spelt_166 : decode cX7_spelt 166 = .ok (.lload 7, 2) := by decide +kernel
theorem dX7_spelt_168 : decode cX7_spelt 168 = .ok (.goto 19, 3) := by decide +kernel
theorem dX7_spelt_171 : decode cX7_spelt 171 = .ok (.lload 7, 2) := by decide +kernel
theorem dX7_spelt_173 : decode cX7_spelt 173 = .ok (.ldc2_w 79, 3) := by decide +kernel
theorem dX7_spelt_176 : decode cX7_spelt 176 = .ok (.lmul, 1) := by decide +kernel
theorem dX7_spelt_177 : decode cX7_spelt 177 = .ok (.iload 6, 2) := by decide +kernel
theorem dX7_spelt_179 : decode cX7_spelt 179 = .ok (.i2l, 1) := by decide +kernel
theorem dX7_spelt_180 : decode cX7_spelt 180 = .ok (.ladd, 1) := by decide +kernel
theorem dX7_spelt_181 : decode cX7_spelt 181 = .ok (.ldc2_w 71, 3) := by decide +kernel
theorem dX7_spelt_184 : decode cX7_spelt 184 = .ok (.lsub, 1) := by decide +kernel
theorem dX7_spelt_185 : decode cX7_spelt 185 = .ok (.lconst 1, 1) := by decide +kernel
theorem dX7_spelt_186 : decode cX7_spelt 186 = .ok (.ladd, 1) := by decide +kernel
theorem dX7_spelt_187 : decode cX7_spelt 187 = .ok (.lreturn, 1) := by decide +kernel
theorem dX7_verb_0 : decode cX7_verb 0 = .ok (.aload_n 0, 1) := by decide +kernel
theorem dX7_verb_1 : decode cX7_verb 1 = .ok (.invokevirtual 81, 3) := by decide +kernel
theorem dX7_verb_4 : decode cX7_verb 4 = .ok (.lstore_n 1, 1) := by decide +kernel
theorem dX7_verb_5 : decode cX7_verb 5 = .ok (.lload_n 1, 1) := by decide +kernel
theorem dX7_verb_6 : decode cX7_verb 6 = .ok (.bipush 119, 2) := by decide +kernel
theorem dX7_verb_8 : decode cX7_verb 8 = .ok (.bipush 111, 2) := by decide +kernel
theorem dX7_verb_10 : decode cX7_verb 10 = .ok (.bipush 111, 2) := by decide +kernel
theorem dX7_verb_12 : decode cX7_verb 12 = .ok (.bipush 108, 2) := by decide +kernel
theorem dX7_verb_14 : decode cX7_verb 14 = .ok (.bipush 108, 2) := by decide +kernel
theorem dX7_verb_16 : decode cX7_verb 16 = .ok (.bipush 121, 2) := by decide +kernel
theorem dX7_verb_18 : decode cX7_verb 18 = .ok (.iconst 0, 1) := by decide +kernel
theorem dX7_verb_19 : decode cX7_verb 19 = .ok (.invokestatic 85, 3) := by decide +kernel
theorem dX7_verb_22 : decode cX7_verb 22 = .ok (.lcmp, 1) := by decide +kernel
theorem dX7_verb_23 : decode cX7_verb 23 = .ok (.ifCond .ne 5, 3) := by decide +kernel
theorem dX7_verb_26 : decode cX7_verb 26 = .ok (.iconst 0, 1) := by decide +kernel
theorem dX7_verb_27 : decode cX7_verb 27 = .ok (.ireturn, 1) := by decide +kernel
theorem dX7_verb_28 : decode cX7_verb 28 = .ok (.lload_n 1, 1) := by decide +kernel
theorem dX7_verb_29 : decode cX7_verb 29 = .ok (.bipush 114, 2) := by decide +kernel
theorem dX7_verb_31 : decode cX7_verb 31 = .ok (.bipush 97, 2) := by decide +kernel
theorem dX7_verb_33 : decode cX7_verb 33 = .ok (.bipush 109, 2) := by decide +kernel
theorem dX7_verb_35 : decode cX7_verb 35 = .ok (.iconst 0, 1) := by decide +kernel
theorem dX7_verb_36 : decode cX7_verb 36 = .ok (.iconst 0, 1) := by decide +kernel
theorem dX7_verb_37 : decode cX7_verb 37 = .ok (.iconst 0, 1) := by decide +kernel
theorem dX7_verb_38 : decode cX7_verb 38 = .ok (.iconst 0, 1) := by decide +kernel
theorem dX7_verb_39 : decode cX7_verb 39 = .ok (.invokestatic 85, 3) := by decide +kernel
theorem dX7_verb_42 : decode cX7_verb 42 = .ok (.lcmp, 1) := by decide +kernel
theorem dX7_verb_43 : decode cX7_verb 43 = .ok (.ifCond .ne 5, 3) := by decide +kernel
theorem dX7_verb_46 : decode cX7_verb 46 = .ok (.iconst 1, 1) := by decide +kernel
theorem dX7_verb_47 : decode cX7_verb 47 = .ok (.ireturn, 1) := by decide +kernel
theorem dX7_verb_48 : decode cX7_verb 48 = .ok (.lload_n 1, 1) := by decide +kernel
theorem dX7_verb_49 : decode cX7_verb 49 = .ok (.bipush 116, 2) := by decide +kernel
theorem dX7_verb_51 : decode cX7_verb 51 = .ok (.bipush 105, 2) := by decide +kernel
theorem dX7_verb_53 : decode cX7_verb 53 = .ok (.bipush 101, 2) := by decide +kernel
theorem dX7_verb_55 : decode cX7_verb 55 = .ok (.bipush 100, 2) := by decide +kernel
theorem dX7_verb_57 : decode cX7_verb 57 = .ok (.iconst 0, 1) := by decide +kernel
theorem dX7_verb_58 : decode cX7_verb 58 = .ok (.iconst 0, 1) := by decide +kernel
theorem dX7_verb_59 : decode cX7_verb 59 = .ok (.iconst 0, 1) := by decide +kernel
theorem dX7_verb_60 : decode cX7_verb 60 = .ok (.invokestatic 85, 3) := by decide +kernel
theorem dX7_verb_63 : decode cX7_verb 63 = .ok (.lcmp, 1) := by decide +kernel
theorem dX7_verb_64 : decode cX7_verb 64 = .ok (.ifCond .ne 5, 3) := by decide +kernel
theorem dX7_verb_67 : decode cX7_verb 67 = .ok (.iconst 2, 1) := by decide +kernel
theorem dX7_verb_68 : decode cX7_verb 68 = .ok (.ireturn, 1) := by decide +kernel
theorem dX7_verb_69 : decode cX7_verb 69 = .ok (.lload_n 1, 1) := by decide +kernel
theorem dX7_verb_70 : decode cX7_verb 70 = .ok (.bipush 98, 2) := by decide +kernel
theorem dX7_verb_72 : decode cX7_verb 72 = .ok (.bipush 101, 2) := by decide +kernel
theorem dX7_verb_74 : decode cX7_verb 74 = .ok (.bipush 108, 2) := by decide +kernel
theorem dX7_verb_76 : decode cX7_verb 76 = .ok (.bipush 108, 2) := by decide +kernel
theorem dX7_verb_78 : decode cX7_verb 78 = .ok (.iconst 0, 1) := by decide +kernel
theorem dX7_verb_79 : decode cX7_verb 79 = .ok (.iconst 0, 1) := by decide +kernel
theorem dX7_verb_80 : decode cX7_verb 80 = .ok (.iconst 0, 1) := by decide +kernel
theorem dX7_verb_81 : decode cX7_verb 81 = .ok (.invokestatic 85, 3) := by decide +kernel
theorem dX7_verb_84 : decode cX7_verb 84 = .ok (.lcmp, 1) := by decide +kernel
theorem dX7_verb_85 : decode cX7_verb 85 = .ok (.ifCond .ne 5, 3) := by decide +kernel
theorem dX7_verb_88 : decode cX7_verb 88 = .ok (.iconst 3, 1) := by decide +kernel
theorem dX7_verb_89 : decode cX7_verb 89 = .ok (.ireturn, 1) := by decide +kernel
theorem dX7_verb_90 : decode cX7_verb 90 = .ok (.lload_n 1, 1) := by decide +kernel
theorem dX7_verb_91 : decode cX7_verb 91 = .ok (.bipush 99, 2) := by decide +kernel
theorem dX7_verb_93 : decode cX7_verb 93 = .ok (.bipush 97, 2) := by decide +kernel
theorem dX7_verb_95 : decode cX7_verb 95 = .ok (.bipush 118, 2) := by decide +kernel
theorem dX7_verb_97 : decode cX7_verb 97 = .ok (.bipush 101, 2) := by decide +kernel
theorem dX7_verb_99 : decode cX7_verb 99 = .ok (.iconst 0, 1) := by decide +kernel
theorem dX7_verb_100 : decode cX7_verb 100 = .ok (.iconst 0, 1) := by decide +kernel
theorem dX7_verb_101 : decode cX7_verb 101 = .ok (.iconst 0, 1) := by decide +kernel
theorem dX7_verb_102 : decode cX7_verb 102 = .ok (.invokestatic 85, 3) := by decide +kernel
theorem dX7_verb_105 : decode cX7_verb 105 = .ok (.lcmp, 1) := by decide +kernel
theorem dX7_verb_106 : decode cX7_verb 106 = .ok (.ifCond .ne 5, 3) := by decide +kernel
theorem dX7_verb_109 : decode cX7_verb 109 = .ok (.iconst 4, 1) := by decide +kernel
theorem dX7_verb_110 : decode cX7_verb 110 = .ok (.ireturn, 1) := by decide +kernel
theorem dX7_verb_111 : decode cX7_verb 111 = .ok (.lload_n 1, 1) := by decide +kernel
theorem dX7_verb_112 : decode cX7_verb 112 = .ok (.bipush 109, 2) := by decide +kernel
theorem dX7_verb_114 : decode cX7_verb 114 = .ok (.bipush 97, 2) := by decide +kernel
theorem dX7_verb_116 : decode cX7_verb 116 = .ok (.bipush 110, 2) := by decide +kernel
theorem dX7_verb_118 : decode cX7_verb 118 = .ok (.iconst 0, 1) := by decide +kernel
theorem dX7_verb_119 : decode cX7_verb 119 = .ok (.iconst 0, 1) := by decide +kernel
theorem dX7_verb_120 : decode cX7_verb 120 = .ok (.iconst 0, 1) := by decide +kernel
theorem dX7_verb_121 : decode cX7_verb 121 = .ok (.iconst 0, 1) := by decide +kernel
theorem dX7_verb_122 : decode cX7_verb 122 = .ok (.invokestatic 85, 3) := by decide +kernel
theorem dX7_verb_125 : decode cX7_verb 125 = .ok (.lcmp, 1) := by decide +kernel
theorem dX7_verb_126 : decode cX7_verb 126 = .ok (.ifCond .ne 5, 3) := by decide +kernel
theorem dX7_verb_129 : decode cX7_verb 129 = .ok (.iconst 5, 1) := by decide +kernel
theorem dX7_verb_130 : decode cX7_verb 130 = .ok (.ireturn, 1) := by decide +kernel
theorem dX7_verb_131 : decode cX7_verb 131 = .ok (.lload_n 1, 1) := by decide +kernel
theorem dX7_verb_132 : decode cX7_verb 132 = .ok (.bipush 110, 2) := by decide +kernel
theorem dX7_verb_134 : decode cX7_verb 134 = .ok (.bipush 101, 2) := by decide +kernel
theorem dX7_verb_136 : decode cX7_verb 136 = .ok (.bipush 97, 2) := by decide +kernel
theorem dX7_verb_138 : decode cX7_verb 138 = .ok (.bipush 114, 2) := by decide +kernel
theorem dX7_verb_140 : decode cX7_verb 140 = .ok (.iconst 0, 1) := by decide +kernel
theorem dX7_verb_141 : decode cX7_verb 141 = .ok (.iconst 0, 1) := by decide +kernel
theorem dX7_verb_142 : decode cX7_verb 142 = .ok (.iconst 0, 1) := by decide +kernel
theorem dX7_verb_143 : decode cX7_verb 143 = .ok (.invokestatic 85, 3) := by decide +kernel
theorem dX7_verb_146 : decode cX7_verb 146 = .ok (.lcmp, 1) := by decide +kernel
theorem dX7_verb_147 : decode cX7_verb 147 = .ok (.ifCond .ne 6, 3) := by decide +kernel
theorem dX7_verb_150 : decode cX7_verb 150 = .ok (.bipush 6, 2) := by decide +kernel
theorem dX7_verb_152 : decode cX7_verb 152 = .ok (.ireturn, 1) := by decide +kernel
theorem dX7_verb_153 : decode cX7_verb 153 = .ok (.lload_n 1, 1) := by decide +kernel
theorem dX7_verb_154 : decode cX7_verb 154 = .ok (.bipush 119, 2) := by decide +kernel
theorem dX7_verb_156 : decode cX7_verb 156 = .ok (.bipush 105, 2) := by decide +kernel
theorem dX7_verb_158 : decode cX7_verb 158 = .ok (.bipush 110, 2) := by decide +kernel
theorem dX7_verb_160 : decode cX7_verb 160 = .ok (.bipush 101, 2) := by decide +kernel
theorem dX7_verb_162 : decode cX7_verb 162 = .ok (.iconst 0, 1) := by decide +kernel
theorem dX7_verb_163 : decode cX7_verb 163 = .ok (.iconst 0, 1) := by decide +kernel
theorem dX7_verb_164 : decode cX7_verb 164 = .ok (.iconst 0, 1) := by decide +kernel
theorem dX7_verb_165 : decode cX7_verb 165 = .ok (.invokestatic 85, 3) := by decide +kernel
theorem dX7_verb_168 : decode cX7_verb 168 = .ok (.lcmp, 1) := by decide +kernel
theorem dX7_verb_169 : decode cX7_verb 169 = .ok (.ifCond .ne 6, 3) := by decide +kernel
theorem dX7_verb_172 : decode cX7_verb 172 = .ok (.bipush 7, 2) := by decide +kernel
theorem dX7_verb_174 : decode cX7_verb 174 = .ok (.ireturn, 1) := by decide +kernel
theorem dX7_verb_175 : decode cX7_verb 175 = .ok (.lload_n 1, 1) := by decide +kernel
theorem dX7_verb_176 : decode cX7_verb 176 = .ok (.bipush 115, 2) := by decide +kernel
theorem dX7_verb_178 : decode cX7_verb 178 = .ok (.bipush 108, 2) := by decide +kernel
theorem dX7_verb_180 : decode cX7_verb 180 = .ok (.bipush 101, 2) := by decide +kernel
theorem dX7_verb_182 : decode cX7_verb 182 = .ok (.bipush 101, 2) := by decide +kernel
theorem dX7_verb_184 : decode cX7_verb 184 = .ok (.bipush 112, 2) := by decide +kernel
theorem dX7_verb_186 : decode cX7_verb 186 = .ok (.iconst 0, 1) := by decide +kernel
theorem dX7_verb_187 : decode cX7_verb 187 = .ok (.iconst 0, 1) := by decide +kernel
theorem dX7_verb_188 : decode cX7_verb 188 = .ok (.invokestatic 85, 3) := by decide +kernel
theorem dX7_verb_191 : decode cX7_verb 191 = .ok (.lcmp, 1) := by decide +kernel
theorem dX7_verb_192 : decode cX7_verb 192 = .ok (.ifCond .ne 6, 3) := by decide +kernel
theorem dX7_verb_195 : decode cX7_verb 195 = .ok (.bipush 8, 2) := by decide +kernel
theorem dX7_verb_197 : decode cX7_verb 197 = .ok (.ireturn, 1) := by decide +kernel
theorem dX7_verb_198 : decode cX7_verb 198 = .ok (.lload_n 1, 1) := by decide +kernel
theorem dX7_verb_199 : decode cX7_verb 199 = .ok (.bipush 104, 2) := by decide +kernel
theorem dX7_verb_201 : decode cX7_verb 201 = .ok (.bipush 97, 2) := by decide +kernel
theorem dX7_verb_203 : decode cX7_verb 203 = .ok (.bipush 114, 2) := by decide +kernel
theorem dX7_verb_205 : decode cX7_verb 205 = .ok (.bipush 100, 2) := by decide +kernel
theorem dX7_verb_207 : decode cX7_verb 207 = .ok (.iconst 0, 1) := by decide +kernel
theorem dX7_verb_208 : decode cX7_verb 208 = .ok (.iconst 0, 1) := by decide +kernel
theorem dX7_verb_209 : decode cX7_verb 209 = .ok (.iconst 0, 1) := by decide +kernel
theorem dX7_verb_210 : decode cX7_verb 210 = .ok (.invokestatic 85, 3) := by decide +kernel
theorem dX7_verb_213 : decode cX7_verb 213 = .ok (.lcmp, 1) := by decide +kernel
theorem dX7_verb_214 : decode cX7_verb 214 = .ok (.ifCond .ne 8, 3) := by decide +kernel
theorem dX7_verb_217 : decode cX7_verb 217 = .ok (.bipush 9, 2) := by decide +kernel
theorem dX7_verb_219 : decode cX7_verb 219 = .ok (.goto 28, 3) := by decide +kernel
theorem dX7_verb_222 : decode cX7_verb 222 = .ok (.lload_n 1, 1) := by decide +kernel
theorem dX7_verb_223 : decode cX7_verb 223 = .ok (.bipush 101, 2) := by decide +kernel
theorem dX7_verb_225 : decode cX7_verb 225 = .ok (.bipush 97, 2) := by decide +kernel
theorem dX7_verb_227 : decode cX7_verb 227 = .ok (.bipush 116, 2) := by decide +kernel
theorem dX7_verb_229 : decode cX7_verb 229 = .ok (.bipush 115, 2) := by decide +kernel
theorem dX7_verb_231 : decode cX7_verb 231 = .ok (.iconst 0, 1) := by decide +kernel
theorem dX7_verb_232 : decode cX7_verb 232 = .ok (.iconst 0, 1) := by decide +kernel
theorem dX7_verb_233 : decode cX7_verb 233 = .ok (.iconst 0, 1) := by decide +kernel
theorem dX7_verb_234 : decode cX7_verb 234 = .ok (.invokestatic 85, 3) := by decide +kernel
theorem dX7_verb_237 : decode cX7_verb 237 = .ok (.lcmp, 1) := by decide +kernel
theorem dX7_verb_238 : decode cX7_verb 238 = .ok (.ifCond .ne 8, 3) := by decide +kernel
theorem dX7_verb_241 : decode cX7_verb 241 = .ok (.bipush 10, 2) := by decide +kernel
theorem dX7_verb_243 : decode cX7_verb 243 = .ok (.goto 4, 3) := by decide +kernel
theorem dX7_verb_246 : decode cX7_verb 246 = .ok (.iconst (-1), 1) := by decide +kernel
theorem dX7_verb_247 : decode cX7_verb 247 = .ok (.ireturn, 1) := by decide +kernel
theorem dX7_number_0 : decode cX7_number 0 = .ok (.aload_n 0, 1) := by decide +kernel
theorem dX7_number_1 : decode cX7_number 1 = .ok (.invokevirtual 89, 3) := by decide +kernel
theorem dX7_number_4 : decode cX7_number 4 = .ok (.aload_n 0, 1) := by decide +kernel
theorem dX7_number_5 : decode cX7_number 5 = .ok (.getfield 68, 3) := by decide +kernel
theorem dX7_number_8 : decode cX7_number 8 = .ok (.iconst 2, 1) := by decide +kernel
theorem dX7_number_9 : decode cX7_number 9 = .ok (.if_icmp .ne 25, 3) := by decide +kernel
theorem dX7_number_12 : decode cX7_number 12 = .ok (.aload_n 0, 1) := by decide +kernel
theorem dX7_number_13 : decode cX7_number 13 = .ok (.getfield 65, 3) := by decide +kernel
theorem dX7_number_16 : decode cX7_number 16 = .ok (.i2l, 1) := by decide +kernel
theorem dX7_number_17 : decode cX7_number 17 = .ok (.iload_n 1, 1) := by decide +kernel
theorem dX7_number_18 : decode cX7_number 18 = .ok (.i2l, 1) := by decide +kernel
theorem dX7_number_19 : decode cX7_number 19 = .ok (.iload_n 2, 1) := by decide +kernel
theorem dX7_number_20 : decode cX7_number 20 = .ok (.i2l, 1) := by decide +kernel
theorem dX7_number_21 : decode cX7_number 21 = .ok (.invokestatic 45, 3) := by decide +kernel
theorem dX7_number_24 : decode cX7_number 24 = .ok (.ifCond .eq 10, 3) := by decide +kernel
theorem dX7_number_27 : decode cX7_number 27 = .ok (.aload_n 0, 1) := by decide +kernel
theorem dX7_number_28 : decode cX7_number 28 = .ok (.getfield 65, 3) := by decide +kernel
theorem dX7_number_31 : decode cX7_number 31 = .ok (.goto 4, 3) := by decide +kernel
theorem dX7_number_34 : decode cX7_number 34 = .ok (.iconst (-1), 1) := by decide +kernel
theorem dX7_number_35 : decode cX7_number 35 = .ok (.ireturn, 1) := by decide +kernel
theorem dX7_readOne_0 : decode cX7_readOne 0 = .ok (.aload_n 0, 1) := by decide +kernel
theorem dX7_readOne_1 : decode cX7_readOne 1 = .ok (.getfield 19, 3) := by decide +kernel
theorem dX7_readOne_4 : decode cX7_readOne 4 = .ok (.iload_n 1, 1) := by decide +kernel
theorem dX7_readOne_5 : decode cX7_readOne 5 = .ok (.iaload, 1) := by decide +kernel
theorem dX7_readOne_6 : decode cX7_readOne 6 = .ok (.istore 6, 2) := by decide +kernel
theorem dX7_readOne_8 : decode cX7_readOne 8 = .ok (.iload 6, 2) := by decide +kernel
theorem dX7_readOne_10 : decode cX7_readOne 10 = .ok (.iload_n 2, 1) := by decide +kernel
theorem dX7_readOne_11 : decode cX7_readOne 11 = .ok (.if_icmp .ne 7, 3) := by decide +kernel
theorem dX7_readOne_14 : decode cX7_readOne 14 = .ok (.iconst (-1), 1) := by decide +kernel
theorem dX7_readOne_15 : decode cX7_readOne 15 = .ok (.goto 11, 3) := by decide +kernel
theorem dX7_readOne_18 : decode cX7_readOne 18 = .ok (.aload_n 0, 1) := by decide +kernel
theorem dX7_readOne_19 : decode cX7_readOne 19 = .ok (.iload 4, 2) := by decide +kernel
theorem dX7_readOne_21 : decode cX7_readOne 21 = .ok (.iload 5, 2) := by decide +kernel
theorem dX7_readOne_23 : decode cX7_readOne 23 = .ok (.invokevirtual 92, 3) := by decide +kernel
theorem dX7_readOne_26 : decode cX7_readOne 26 = .ok (.istore 7, 2) := by decide +kernel
theorem dX7_readOne_28 : decode cX7_readOne 28 = .ok (.iload 7, 2) := by decide +kernel
theorem dX7_readOne_30 : decode cX7_readOne 30 = .ok (.ifCond .ge 5, 3) := by decide +kernel
theorem dX7_readOne_33 : decode cX7_readOne 33 = .ok (.iconst 0, 1) := by decide +kernel
theorem dX7_readOne_34 : decode cX7_readOne 34 = .ok (.ireturn, 1) := by decide +kernel
theorem dX7_readOne_35 : decode cX7_readOne 35 = .ok (.aload_n 0, 1) := by decide +kernel
theorem dX7_readOne_36 : decode cX7_readOne 36 = .ok (.getfield 19, 3) := by decide +kernel
theorem dX7_readOne_39 : decode cX7_readOne 39 = .ok (.iload_n 3, 1) := by decide +kernel
theorem dX7_readOne_40 : decode cX7_readOne 40 = .ok (.iload 6, 2) := by decide +kernel
theorem dX7_readOne_42 : decode cX7_readOne 42 = .ok (.iadd, 1) := by decide +kernel
theorem dX7_readOne_43 : decode cX7_readOne 43 = .ok (.iload 7, 2) := by decide +kernel
theorem dX7_readOne_45 : decode cX7_readOne 45 = .ok (.iastore, 1) := by decide +kernel
theorem dX7_readOne_46 : decode cX7_readOne 46 = .ok (.aload_n 0, 1) := by decide +kernel
theorem dX7_readOne_47 : decode cX7_readOne 47 = .ok (.getfield 19, 3) := by decide +kernel
theorem dX7_readOne_50 : decode cX7_readOne 50 = .ok (.iload_n 1, 1) := by decide +kernel
theorem dX7_readOne_51 : decode cX7_readOne 51 = .ok (.dup2, 1) := by decide +kernel
theorem dX7_readOne_52 : decode cX7_readOne 52 = .ok (.iaload, 1) := by decide +kernel
theorem dX7_readOne_53 : decode cX7_readOne 53 = .ok (.iconst 1, 1) := by decide +kernel
theorem dX7_readOne_54 : decode cX7_readOne 54 = .ok (.iadd, 1) := by decide +kernel
theorem dX7_readOne_55 : decode cX7_readOne 55 = .ok (.iastore, 1) := by decide +kernel
theorem dX7_readOne_56 : decode cX7_readOne 56 = .ok (.iconst 1, 1) := by decide +kernel
theorem dX7_readOne_57 : decode cX7_readOne 57 = .ok (.ireturn, 1) := by decide +kernel
theorem dX7_readClause_0 : decode cX7_readClause 0 = .ok (.aload_n 0, 1) := by decide +kernel
theorem dX7_readClause_1 : decode cX7_readClause 1 = .ok (.invokevirtual 96, 3) := by decide +kernel
theorem dX7_readClause_4 : decode cX7_readClause 4 = .ok (.istore_n 1, 1) := by decide +kernel
theorem dX7_readClause_5 : decode cX7_readClause 5 = .ok (.iload_n 1, 1) := by decide +kernel
theorem dX7_readClause_6 : decode cX7_readClause 6 = .ok (.ifCond .ge 5, 3) := by decide +kernel
theorem dX7_readClause_9 : decode cX7_readClause 9 = .ok (.iconst 0, 1) := by decide +kernel
theorem dX7_readClause_10 : decode cX7_readClause 10 = .ok (.ireturn, 1) := by decide +kernel
theorem dX7_readClause_11 : decode cX7_readClause 11 = .ok (.iload_n 1, 1) := by decide +kernel
theorem dX7_readClause_12 : decode cX7_readClause 12 = .ok (.iconst 4, 1) := by decide +kernel
theorem dX7_readClause_13 : decode cX7_readClause 13 = .ok (.if_icmp .ge 41, 3) := by decide +kernel
theorem dX7_readClause_16 : decode cX7_readClause 16 = .ok (.aload_n 0, 1) := by decide +kernel
theorem dX7_readClause_17 : decode cX7_readClause 17 = .ok (.bipush 7, 2) := by decide +kernel
theorem dX7_readClause_19 : decode cX7_readClause 19 = .ok (.bipush 6, 2) := by decide +kernel
theorem dX7_readClause_21 : decode cX7_readClause 21 = .ok (.bipush 14, 2) := by decide +kernel
theorem dX7_readClause_23 : decode cX7_readClause 23 = .ok (.iconst 1, 1) := by decide +kernel
theorem dX7_readClause_24 : decode cX7_readClause 24 = .ok (.bipush 20, 2) := by decide +kernel
theorem dX7_readClause_26 : decode cX7_readClause 26 = .ok (.invokevirtual 100, 3) := by decide +kernel
theorem dX7_readClause_29 : decode cX7_readClause 29 = .ok (.ifCond .ne 5, 3) := by decide +kernel
theorem dX7_readClause_32 : decode cX7_readClause 32 = .ok (.iconst 0, 1) := by decide +kernel
theorem dX7_readClause_33 : decode cX7_readClause 33 = .ok (.ireturn, 1) := by decide +kernel
theorem dX7_readClause_34 : decode cX7_readClause 34 = .ok (.aload_n 0, 1) := by decide +kernel
theorem dX7_readClause_35 : decode cX7_readClause 35 = .ok (.getfield 19, 3) := by decide +kernel
theorem dX7_readClause_38 : decode cX7_readClause 38 = .ok (.bipush 8, 2) := by decide +kernel
theorem dX7_readClause_40 : decode cX7_readClause 40 = .ok (.aload_n 0, 1) := by decide +kernel
theorem dX7_readClause_41 : decode cX7_readClause 41 = .ok (.getfield 19, 3) := by decide +kernel
theorem dX7_readClause_44 : decode cX7_readClause 44 = .ok (.bipush 7, 2) := by decide +kernel
theorem dX7_readClause_46 : decode cX7_readClause 46 = .ok (.iaload, 1) := by decide +kernel
theorem dX7_readClause_47 : decode cX7_readClause 47 = .ok (.iadd, 1) := by decide +kernel
theorem dX7_readClause_48 : decode cX7_readClause 48 = .ok (.iconst 1, 1) := by decide +kernel
theorem dX7_readClause_49 : decode cX7_readClause 49 = .ok (.isub, 1) := by decide +kernel
theorem dX7_readClause_50 : decode cX7_readClause 50 = .ok (.iload_n 1, 1) := by decide +kernel
theorem dX7_readClause_51 : decode cX7_readClause 51 = .ok (.iastore, 1) := by decide +kernel
theorem dX7_readClause_52 : decode cX7_readClause 52 = .ok (.iconst 1, 1) := by decide +kernel
theorem dX7_readClause_53 : decode cX7_readClause 53 = .ok (.ireturn, 1) := by decide +kernel
theorem dX7_readClause_54 : decode cX7_readClause 54 = .ok (.iload_n 1, 1) := by decide +kernel
theorem dX7_readClause_55 : decode cX7_readClause 55 = .ok (.iconst 4, 1) := by decide +kernel
theorem dX7_readClause_56 : decode cX7_readClause 56 = .ok (.if_icmp .ne 12, 3) := by decide +kernel
theorem dX7_readClause_59 : decode cX7_readClause 59 = .ok (.aload_n 0, 1) := by decide +kernel
theorem dX7_readClause_60 : decode cX7_readClause 60 = .ok (.getfield 19, 3) := by decide +kernel
theorem dX7_readClause_63 : decode cX7_readClause 63 = .ok (.invokestatic 38, 3) := by decide +kernel
theorem dX7_readClause_66 : decode cX7_readClause 66 = .ok (.iconst 1, 1) := by decide +kernel
theorem dX7_readClause_67 : decode cX7_readClause 67 = .ok (.ireturn, 1) := by decide +kernel
theorem dX7_readClause_68 : decode cX7_readClause 68 = .ok (.iload_n 1, 1) := by decide +kernel
theorem dX7_readClause_69 : decode cX7_readClause 69 = .ok (.bipush 7, 2) := by decide +kernel
theorem dX7_readClause_71 : decode cX7_readClause 71 = .ok (.if_icmp .ge 36, 3) := by decide +kernel
theorem dX7_readClause_74 : decode cX7_readClause 74 = .ok (.iload_n 1, 1) := by decide +kernel
theorem dX7_readClause_75 : decode cX7_readClause 75 = .ok (.iconst 5, 1) := by decide +kernel
theorem dX7_readClause_76 : decode cX7_readClause 76 = .ok (.if_icmp .ne 17, 3) := by decide +kernel
theorem dX7_readClause_79 : decode cX7_readClause 79 = .ok (.aload_n 0, 1) := by decide +kernel
theorem dX7_readClause_80 : decode cX7_readClause 80 = .ok (.iconst 0, 1) := by decide +kernel
theorem dX7_readClause_81 : decode cX7_readClause 81 = .ok (.bipush 6, 2) := by decide +kernel
theorem dX7_readClause_83 : decode cX7_readClause 83 = .ok (.iconst 1, 1) := by decide +kernel
theorem dX7_readClause_84 : decode cX7_readClause 84 = .ok (.iconst 1, 1) := by decide +kernel
theorem dX7_readClause_85 : decode cX7_readClause 85 = .ok (.bipush 20, 2) := by decide +kernel
theorem dX7_readClause_87 : decode cX7_readClause 87 = .ok (.invokevirtual 100, 3) := by decide +kernel
theorem dX7_readClause_90 : decode cX7_readClause 90 = .ok (.goto 16, 3) := by decide +kernel
theorem dX7_readClause_93 : decode cX7_readClause 93 = .ok (.aload_n 0, 1) := by decide +kernel
theorem dX7_readClause_94 : decode cX7_readClause 94 = .ok (.bipush 20, 2) := by decide +kernel
theorem dX7_readClause_96 : decode cX7_readClause 96 = .ok (.iconst 4, 1) := by decide +kernel
theorem dX7_readClause_97 : decode cX7_readClause 97 = .ok (.bipush 21, 2) := by decide +kernel
theorem dX7_readClause_99 : decode cX7_readClause 99 = .ok (.iconst 0, 1) := by decide +kernel
theorem dX7_readClause_100 : decode cX7_readClause 100 = .ok (.sipush 255, 3) := by decide +kernel
theorem dX7_readClause_103 : decode cX7_readClause 103 = .ok (.invokevirtual 100, 3) := by decide +kernel
theorem dX7_readClause_106 : decode cX7_readClause 106 = .ok (.ireturn, 1) := by decide +kernel
theorem dX7_readClause_107 : decode cX7_readClause 107 = .ok (.iload_n 1, 1) := by decide +kernel
theorem dX7_readClause_108 : decode cX7_readClause 108 = .ok (.bipush 7, 2) := by decide +kernel
theorem dX7_readClause_110 : decode cX7_readClause 110 = .ok (.if_icmp .ne 13, 3) := by decide +kernel
theorem dX7_readClause_113 : decode cX7_readClause 113 = .ok (.aload_n 0, 1) := by decide +kernel
theorem dX7_readClause_114 : decode cX7_readClause 114 = .ok (.iconst 0, 1) := by decide +kernel
theorem dX7_readClause_115 : decode cX7_readClause 115 = .ok (.bipush 50, 2) := by decide +kernel
theorem dX7_readClause_117 : decode cX7_readClause 117 = .ok (.invokevirtual 92, 3) := by decide +kernel
theorem dX7_readClause_120 : decode cX7_readClause 120 = .ok (.goto 25, 3) := by decide +kernel
theorem dX7_readClause_123 : decode cX7_readClause 123 = .ok (.iload_n 1, 1) := by decide +kernel
theorem dX7_readClause_124 : decode cX7_readClause 124 = .ok (.bipush 10, 2) := by decide +kernel
theorem dX7_readClause_126 : decode cX7_readClause 126 = .ok (.if_icmp .ne 12, 3) := by decide +kernel
theorem dX7_readClause_129 : decode cX7_readClause 129 = .ok (.aload_n 0, 1) := by decide +kernel
theorem dX7_readClause_130 : decode cX7_readClause 130 = .ok (.iconst 0, 1) := by decide +kernel
theorem dX7_readClause_131 : decode cX7_readClause 131 = .ok (.iconst 3, 1) := by decide +kernel
theorem dX7_readClause_132 : decode cX7_readClause 132 = .ok (.invokevirtual 92, 3) := by decide +kernel
theorem dX7_readClause_135 : decode cX7_readClause 135 = .ok (.goto 10, 3) := by decide +kernel
theorem dX7_readClause_138 : decode cX7_readClause 138 = .ok (.aload_n 0, 1) := by decide +kernel
theorem dX7_readClause_139 : decode cX7_readClause 139 = .ok (.iconst 1, 1) := by decide +kernel
theorem dX7_readClause_140 : decode cX7_readClause 140 = .ok (.bipush 9, 2) := by decide +kernel
theorem dX7_readClause_142 : decode cX7_readClause 142 = .ok (.invokevirtual 92, 3) := by decide +kernel
theorem dX7_readClause_145 : decode cX7_readClause 145 = .ok (.istore_n 2, 1) := by decide +kernel
theorem dX7_readClause_146 : decode cX7_readClause 146 = .ok (.iload_n 2, 1) := by decide +kernel
theorem dX7_readClause_147 : decode cX7_readClause 147 = .ok (.ifCond .ge 5, 3) := by decide +kernel
theorem dX7_readClause_150 : decode cX7_readClause 150 = .ok (.iconst 0, 1) := by decide +kernel
theorem dX7_readClause_151 : decode cX7_readClause 151 = .ok (.ireturn, 1) := by decide +kernel
theorem dX7_readClause_152 : decode cX7_readClause 152 = .ok (.aload_n 0, 1) := by decide +kernel
theorem dX7_readClause_153 : decode cX7_readClause 153 = .ok (.getfield 19, 3) := by decide +kernel
theorem dX7_readClause_156 : decode cX7_readClause 156 = .ok (.bipush 25, 2) := by decide +kernel
theorem dX7_readClause_158 : decode cX7_readClause 158 = .ok (.iload_n 1, 1) := by decide +kernel
theorem dX7_readClause_159 : decode cX7_readClause 159 = .ok (.iadd, 1) := by decide +kernel
theorem dX7_readClause_160 : decode cX7_readClause 160 = .ok (.bipush 7, 2) := by decide +kernel
theorem dX7_readClause_162 : decode cX7_readClause 162 = .ok (.isub, 1) := by decide +kernel
theorem dX7_readClause_163 : decode cX7_readClause 163 = .ok (.iload_n 2, 1) := by decide +kernel
theorem dX7_readClause_164 : decode cX7_readClause 164 = .ok (.iastore, 1) := by decide +kernel
theorem dX7_readClause_165 : decode cX7_readClause 165 = .ok (.iconst 1, 1) := by decide +kernel
theorem dX7_readClause_166 : decode cX7_readClause 166 = .ok (.ireturn, 1) := by decide +kernel
theorem dX7_readText_0 : decode cX7_readText 0 = .ok (.aload_n 0, 1) := by decide +kernel
theorem dX7_readText_1 : decode cX7_readText 1 = .ok (.iconst 0, 1) := by decide +kernel
theorem dX7_readText_2 : decode cX7_readText 2 = .ok (.putfield 55, 3) := by decide +kernel
theorem dX7_readText_5 : decode cX7_readText 5 = .ok (.aload_n 0, 1) := by decide +kernel
theorem dX7_readText_6 : decode cX7_readText 6 = .ok (.iconst 0, 1) := by decide +kernel
theorem dX7_readText_7 : decode cX7_readText 7 = .ok (.putfield 104, 3) := by decide +kernel
theorem dX7_readText_10 : decode cX7_readText 10 = .ok (.iconst 0, 1) := by decide +kernel
theorem dX7_readText_11 : decode cX7_readText 11 = .ok (.istore_n 1, 1) := by decide +kernel
theorem dX7_readText_12 : decode cX7_readText 12 = .ok (.iload_n 1, 1) := by decide +kernel
theorem dX7_readText_13 : decode cX7_readText 13 = .ok (.bipush 29, 2) := by decide +kernel
theorem dX7_readText_15 : decode cX7_readText 15 = .ok (.if_icmp .ge 21, 3) := by decide +kernel
theorem dX7_readText_18 : decode cX7_readText 18 = .ok (.aload_n 0, 1) := by decide +kernel
theorem dX7_readText_19 : decode cX7_readText 19 = .ok (.getfield 19, 3) := by decide +kernel
theorem dX7_readText_22 : decode cX7_readText 22 = .ok (.iload_n 1, 1) := by decide +kernel
theorem dX7_readText_23 : decode cX7_readText 23 = .ok (.aload_n 0, 1) := by decide +kernel
theorem dX7_readText_24 : decode cX7_readText 24 = .ok (.getfield 7, 3) := by decide +kernel
theorem dX7_readText_27 : decode cX7_readText 27 = .ok (.iload_n 1, 1) := by decide +kernel
theorem dX7_readText_28 : decode cX7_readText 28 = .ok (.iaload, 1) := by decide +kernel
theorem dX7_readText_29 : decode cX7_readText 29 = .ok (.iastore, 1) := by decide +kernel
theorem dX7_readText_30 : decode cX7_readText 30 = .ok (.iinc 1 1, 3) := by decide +kernel
theorem dX7_readText_33 : decode cX7_readText 33 = .ok (.goto (-21), 3) := by decide +kernel
theorem dX7_readText_36 : decode cX7_readText 36 = .ok (.aload_n 0, 1) := by decide +kernel
theorem dX7_readText_37 : decode cX7_readText 37 = .ok (.invokevirtual 89, 3) := by decide +kernel
theorem dX7_readText_40 : decode cX7_readText 40 = .ok (.aload_n 0, 1) := by decide +kernel
theorem dX7_readText_41 : decode cX7_readText 41 = .ok (.invokevirtual 107, 3) := by decide +kernel
theorem dX7_readText_44 : decode cX7_readText 44 = .ok (.ifCond .ne 5, 3) := by decide +kernel
theorem dX7_readText_47 : decode cX7_readText 47 = .ok (.iconst 0, 1) := by decide +kernel
theorem dX7_readText_48 : decode cX7_readText 48 = .ok (.ireturn, 1) := by decide +kernel
theorem dX7_readText_49 : decode cX7_readText 49 = .ok (.aload_n 0, 1) := by decide +kernel
theorem dX7_readText_50 : decode cX7_readText 50 = .ok (.dup, 1) := by decide +kernel
theorem dX7_readText_51 : decode cX7_readText 51 = .ok (.getfield 104, 3) := by decide +kernel
theorem dX7_readText_54 : decode cX7_readText 54 = .ok (.iconst 1, 1) := by decide +kernel
theorem dX7_readText_55 : decode cX7_readText 55 = .ok (.iadd, 1) := by decide +kernel
theorem dX7_readText_56 : decode cX7_readText 56 = .ok (.putfield 104, 3) := by decide +kernel
theorem dX7_readText_59 : decode cX7_readText 59 = .ok (.aload_n 0, 1) := by decide +kernel
theorem dX7_readText_60 : decode cX7_readText 60 = .ok (.invokevirtual 89, 3) := by decide +kernel
theorem dX7_readText_63 : decode cX7_readText 63 = .ok (.aload_n 0, 1) := by decide +kernel
theorem dX7_readText_64 : decode cX7_readText 64 = .ok (.getfield 68, 3) := by decide +kernel
theorem dX7_readText_67 : decode cX7_readText 67 = .ok (.iconst 3, 1) := by decide +kernel
theorem dX7_readText_68 : decode cX7_readText 68 = .ok (.if_icmp .ne 5, 3) := by decide +kernel
theorem dX7_readText_71 : decode cX7_readText 71 = .ok (.iconst 1, 1) := by decide +kernel
theorem dX7_readText_72 : decode cX7_readText 72 = .ok (.ireturn, 1) := by decide +kernel
theorem dX7_readText_73 : decode cX7_readText 73 = .ok (.aload_n 0, 1) := by decide +kernel
theorem dX7_readText_74 : decode cX7_readText 74 = .ok (.getfield 68, 3) := by decide +kernel
theorem dX7_readText_77 : decode cX7_readText 77 = .ok (.ifCond .ne 21, 3) := by decide +kernel
theorem dX7_readText_80 : decode cX7_readText 80 = .ok (.aload_n 0, 1) := by decide +kernel
theorem dX7_readText_81 : decode cX7_readText 81 = .ok (.getfield 65, 3) := by decide +kernel
theorem dX7_readText_84 : decode cX7_readText 84 = .ok (.bipush 59, 2) := by decide +kernel
theorem dX7_readText_86 : decode cX7_readText 86 = .ok (.if_icmp .ne 12, 3) := by decide +kernel
theorem dX7_readText_89 : decode cX7_readText 89 = .ok (.aload_n 0, 1) := by decide +kernel
theorem dX7_readText_90 : decode cX7_readText 90 = .ok (.getfield 104, 3) := by decide +kernel
theorem dX7_readText_93 : decode cX7_readText 93 = .ok (.bipush 14, 2) := by decide +kernel
theorem dX7_readText_95 : decode cX7_readText 95 = .ok (.if_icmp .ne (-59), 3) := by decide +kernel
theorem dX7_readText_98 : decode cX7_readText 98 = .ok (.iconst 0, 1) := by decide +kernel
theorem dX7_readText_99 : decode cX7_readText 99 = .ok (.ireturn, 1) := by decide +kernel
theorem dX7_fault_0 : decode cX7_fault 0 = .ok (.aload_n 0, 1) := by decide +kernel
theorem dX7_fault_1 : decode cX7_fault 1 = .ok (.invokevirtual 111, 3) := by decide +kernel
theorem dX7_fault_4 : decode cX7_fault 4 = .ok (.ifCond .eq 7, 3) := by decide +kernel
theorem dX7_fault_7 : decode cX7_fault 7 = .ok (.iconst (-1), 1) := by decide +kernel
theorem dX7_fault_8 : decode cX7_fault 8 = .ok (.goto 7, 3) := by decide +kernel
theorem dX7_fault_11 : decode cX7_fault 11 = .ok (.aload_n 0, 1) := by decide +kernel
theorem dX7_fault_12 : decode cX7_fault 12 = .ok (.getfield 62, 3) := by decide +kernel
theorem dX7_fault_15 : decode cX7_fault 15 = .ok (.ireturn, 1) := by decide +kernel
theorem dX7_anew_0 : decode cX7_anew 0 = .ok (.iconst 0, 1) := by decide +kernel
theorem dX7_anew_1 : decode cX7_anew 1 = .ok (.istore_n 1, 1) := by decide +kernel
theorem dX7_anew_2 : decode cX7_anew 2 = .ok (.iload_n 1, 1) := by decide +kernel
theorem dX7_anew_3 : decode cX7_anew 3 = .ok (.bipush 18, 2) := by decide +kernel
theorem dX7_anew_5 : decode cX7_anew 5 = .ok (.if_icmp .ge 26, 3) := by decide +kernel
theorem dX7_anew_8 : decode cX7_anew 8 = .ok (.aload_n 0, 1) := by decide +kernel
theorem dX7_anew_9 : decode cX7_anew 9 = .ok (.getfield 13, 3) := by decide +kernel
theorem dX7_anew_12 : decode cX7_anew 12 = .ok (.iload_n 1, 1) := by decide +kernel
theorem dX7_anew_13 : decode cX7_anew 13 = .ok (.iload_n 1, 1) := by decide +kernel
theorem dX7_anew_14 : decode cX7_anew 14 = .ok (.bipush 12, 2) := by decide +kernel
theorem dX7_anew_16 : decode cX7_anew 16 = .ok (.if_icmp .ge 7, 3) := by decide +kernel
theorem dX7_anew_19 : decode cX7_anew 19 = .ok (.iconst 0, 1) := by decide +kernel
theorem dX7_anew_20 : decode cX7_anew 20 = .ok (.goto 4, 3) := by decide +kernel
theorem dX7_anew_23 : decode cX7_anew 23 = .ok (.iconst (-1), 1) := by decide +kernel
theorem dX7_anew_24 : decode cX7_anew 24 = .ok (.iastore, 1) := by decide +kernel
theorem dX7_anew_25 : decode cX7_anew 25 = .ok (.iinc 1 1, 3) := by decide +kernel
theorem dX7_anew_28 : decode cX7_anew 28 = .ok (.goto (-26), 3) := by decide +kernel
theorem dX7_anew_31 : decode cX7_anew 31 = .ok (.aload_n 0, 1) := by decide +kernel
theorem dX7_anew_32 : decode cX7_anew 32 = .ok (.getfield 13, 3) := by decide +kernel
theorem dX7_anew_35 : decode cX7_anew 35 = .ok (.iconst 0, 1) := by decide +kernel
theorem dX7_anew_36 : decode cX7_anew 36 = .ok (.aload_n 0, 1) := by decide +kernel
theorem dX7_anew_37 : decode cX7_anew 37 = .ok (.getfield 7, 3) := by decide +kernel
theorem dX7_anew_40 : decode cX7_anew 40 = .ok (.bipush 25, 2) := by decide +kernel
theorem dX7_anew_42 : decode cX7_anew 42 = .ok (.iaload, 1) := by decide +kernel
theorem dX7_anew_43 : decode cX7_anew 43 = .ok (.iastore, 1) := by decide +kernel
theorem dX7_anew_44 : decode cX7_anew 44 = .ok (.return_, 1) := by decide +kernel
theorem dX7_cave_0 : decode cX7_cave 0 = .ok (.aload_n 0, 1) := by decide +kernel
theorem dX7_cave_1 : decode cX7_cave 1 = .ok (.invokevirtual 111, 3) := by decide +kernel
theorem dX7_cave_4 : decode cX7_cave 4 = .ok (.ifCond .ne 6, 3) := by decide +kernel
theorem dX7_cave_7 : decode cX7_cave 7 = .ok (.bipush (-4), 2) := by decide +kernel
theorem dX7_cave_9 : decode cX7_cave 9 = .ok (.ireturn, 1) := by decide +kernel
theorem dX7_cave_10 : decode cX7_cave 10 = .ok (.aload_n 0, 1) := by decide +kernel
theorem dX7_cave_11 : decode cX7_cave 11 = .ok (.iconst 0, 1) := by decide +kernel
theorem dX7_cave_12 : decode cX7_cave 12 = .ok (.putfield 51, 3) := by decide +kernel
theorem dX7_cave_15 : decode cX7_cave 15 = .ok (.iconst 0, 1) := by decide +kernel
theorem dX7_cave_16 : decode cX7_cave 16 = .ok (.istore_n 1, 1) := by decide +kernel
theorem dX7_cave_17 : decode cX7_cave 17 = .ok (.iload_n 1, 1) := by decide +kernel
theorem dX7_cave_18 : decode cX7_cave 18 = .ok (.bipush 29, 2) := by decide +kernel
theorem dX7_cave_20 : decode cX7_cave 20 = .ok (.if_icmp .ge 21, 3) := by decide +kernel
theorem dX7_cave_23 : decode cX7_cave 23 = .ok (.aload_n 0, 1) := by decide +kernel
theorem dX7_cave_24 : decode cX7_cave 24 = .ok (.getfield 7, 3) := by decide +kernel
theorem dX7_cave_27 : decode cX7_cave 27 = .ok (.iload_n 1, 1) := by decide +kernel
theorem dX7_cave_28 : decode cX7_cave 28 = .ok (.aload_n 0, 1) := by decide +kernel
theorem dX7_cave_29 : decode cX7_cave 29 = .ok (.getfield 19, 3) := by decide +kernel
theorem dX7_cave_32 : decode cX7_cave 32 = .ok (.iload_n 1, 1) := by decide +kernel
theorem dX7_cave_33 : decode cX7_cave 33 = .ok (.iaload, 1) := by decide +kernel
theorem dX7_cave_34 : decode cX7_cave 34 = .ok (.iastore, 1) := by decide +kernel
theorem dX7_cave_35 : decode cX7_cave 35 = .ok (.iinc 1 1, 3) := by decide +kernel
theorem dX7_cave_38 : decode cX7_cave 38 = .ok (.goto (-21), 3) := by decide +kernel
theorem dX7_cave_41 : decode cX7_cave 41 = .ok (.aload_n 0, 1) := by decide +kernel
theorem dX7_cave_42 : decode cX7_cave 42 = .ok (.invokevirtual 42, 3) := by decide +kernel
theorem dX7_cave_45 : decode cX7_cave 45 = .ok (.aload_n 0, 1) := by decide +kernel
theorem dX7_cave_46 : decode cX7_cave 46 = .ok (.iconst 0, 1) := by decide +kernel
theorem dX7_cave_47 : decode cX7_cave 47 = .ok (.putfield 114, 3) := by decide +kernel
theorem dX7_cave_50 : decode cX7_cave 50 = .ok (.aload_n 0, 1) := by decide +kernel
theorem dX7_cave_51 : decode cX7_cave 51 = .ok (.iconst 0, 1) := by decide +kernel
theorem dX7_cave_52 : decode cX7_cave 52 = .ok (.putfield 117, 3) := by decide +kernel
theorem dX7_cave_55 : decode cX7_cave 55 = .ok (.aload_n 0, 1) := by decide +kernel
theorem dX7_cave_56 : decode cX7_cave 56 = .ok (.getfield 25, 3) := by decide +kernel
theorem dX7_cave_59 : decode cX7_cave 59 = .ok (.iconst 0, 1) := by decide +kernel
theorem dX7_cave_60 : decode cX7_cave 60 = .ok (.iconst 0, 1) := by decide +kernel
theorem dX7_cave_61 : decode cX7_cave 61 = .ok (.bastore, 1) := by decide +kernel
theorem dX7_cave_62 : decode cX7_cave 62 = .ok (.aload_n 0, 1) := by decide +kernel
theorem dX7_cave_63 : decode cX7_cave 63 = .ok (.getfield 25, 3) := by decide +kernel
theorem dX7_cave_66 : decode cX7_cave 66 = .ok (.iconst 1, 1) := by decide +kernel
theorem dX7_cave_67 : decode cX7_cave 67 = .ok (.iconst 0, 1) := by decide +kernel
theorem dX7_cave_68 : decode cX7_cave 68 = .ok (.bastore, 1) := by decide +kernel
theorem dX7_cave_69 : decode cX7_cave 69 = .ok (.aload_n 0, 1) := by decide +kernel
theorem dX7_cave_70 : decode cX7_cave 70 = .ok (.getfield 104, 3) := by decide +kernel
theorem dX7_cave_73 : decode cX7_cave 73 = .ok (.ireturn, 1) := by decide +kernel
theorem dX7_isIn_0 : decode cX7_isIn 0 = .ok (.aload_n 0, 1) := by decide +kernel
theorem dX7_isIn_1 : decode cX7_isIn 1 = .ok (.getfield 13, 3) := by decide +kernel
theorem dX7_isIn_4 : decode cX7_isIn 4 = .ok (.bipush 6, 2) := by decide +kernel
theorem dX7_isIn_6 : decode cX7_isIn 6 = .ok (.iload_n 1, 1) := by decide +kernel
theorem dX7_isIn_7 : decode cX7_isIn 7 = .ok (.iadd, 1) := by decide +kernel
theorem dX7_isIn_8 : decode cX7_isIn 8 = .ok (.iaload, 1) := by decide +kernel
theorem dX7_isIn_9 : decode cX7_isIn 9 = .ok (.ifCond .ne 7, 3) := by decide +kernel
theorem dX7_isIn_12 : decode cX7_isIn 12 = .ok (.iconst 1, 1) := by decide +kernel
theorem dX7_isIn_13 : decode cX7_isIn 13 = .ok (.goto 4, 3) := by decide +kernel
theorem dX7_isIn_16 : decode cX7_isIn 16 = .ok (.iconst 0, 1) := by decide +kernel
theorem dX7_isIn_17 : decode cX7_isIn 17 = .ok (.ireturn, 1) := by decide +kernel
theorem dX7_menOf_0 : decode cX7_menOf 0 = .ok (.iconst 0, 1) := by decide +kernel
theorem dX7_menOf_1 : decode cX7_menOf 1 = .ok (.istore_n 2, 1) := by decide +kernel
theorem dX7_menOf_2 : decode cX7_menOf 2 = .ok (.iconst 0, 1) := by decide +kernel
theorem dX7_menOf_3 : decode cX7_menOf 3 = .ok (.istore_n 3, 1) := by decide +kernel
theorem dX7_menOf_4 : decode cX7_menOf 4 = .ok (.iload_n 3, 1) := by decide +kernel
theorem dX7_menOf_5 : decode cX7_menOf 5 = .ok (.aload_n 0, 1) := by decide +kernel
theorem dX7_menOf_6 : decode cX7_menOf 6 = .ok (.getfield 7, 3) := by decide +kernel
theorem dX7_menOf_9 : decode cX7_menOf 9 = .ok (.iconst 0, 1) := by decide +kernel
theorem dX7_menOf_10 : decode cX7_menOf 10 = .ok (.iaload, 1) := by decide +kernel
theorem dX7_menOf_11 : decode cX7_menOf 11 = .ok (.if_icmp .ge 32, 3) := by decide +kernel
theorem dX7_menOf_14 : decode cX7_menOf 14 = .ok (.iload_n 2, 1) := by decide +kernel
theorem dX7_menOf_15 : decode cX7_menOf 15 = .ok (.aload_n 0, 1) := by decide +kernel
theorem dX7_menOf_16 : decode cX7_menOf 16 = .ok (.getfield 13, 3) := by decide +kernel
theorem dX7_menOf_19 : decode cX7_menOf 19 = .ok (.bipush 6, 2) := by decide +kernel
theorem dX7_menOf_21 : decode cX7_menOf 21 = .ok (.iload_n 3, 1) := by decide +kernel
theorem dX7_menOf_22 : decode cX7_menOf 22 = .ok (.iadd, 1) := by decide +kernel
theorem dX7_menOf_23 : decode cX7_menOf 23 = .ok (.iaload, 1) := by decide +kernel
theorem dX7_menOf_24 : decode cX7_menOf 24 = .ok (.iload_n 1, 1) := by decide +kernel
theorem dX7_menOf_25 : decode cX7_menOf 25 = .ok (.if_icmp .ne 9, 3) := by decide +kernel
theorem dX7_menOf_28 : decode cX7_menOf 28 = .ok (.iconst 1, 1) := by decide +kernel
theorem dX7_menOf_29 : decode cX7_menOf 29 = .ok (.iload_n 3, 1) := by decide +kernel
theorem dX7_menOf_30 : decode cX7_menOf 30 = .ok (.ishl, 1) := by decide +kernel
theorem dX7_menOf_31 : decode cX7_menOf 31 = .ok (.goto 4, 3) := by decide +kernel
theorem dX7_menOf_34 : decode cX7_menOf 34 = .ok (.iconst 0, 1) := by decide +kernel
theorem dX7_menOf_35 : decode cX7_menOf 35 = .ok (.ior, 1) := by decide +kernel
theorem dX7_menOf_36 : decode cX7_menOf 36 = .ok (.istore_n 2, 1) := by decide +kernel
theorem dX7_menOf_37 : decode cX7_menOf 37 = .ok (.iinc 3 1, 3) := by decide +kernel
theorem dX7_menOf_40 : decode cX7_menOf 40 = .ok (.goto (-36), 3) := by decide +kernel
theorem dX7_menOf_43 : decode cX7_menOf 43 = .ok (.iload_n 2, 1) := by decide +kernel
theorem dX7_menOf_44 : decode cX7_menOf 44 = .ok (.ireturn, 1) := by decide +kernel
theorem dX7_under_0 : decode cX7_under 0 = .ok (.iconst (-1), 1) := by decide +kernel
theorem dX7_under_1 : decode cX7_under 1 = .ok (.istore_n 2, 1) := by decide +kernel
theorem dX7_under_2 : decode cX7_under 2 = .ok (.iconst 0, 1) := by decide +kernel
theorem dX7_under_3 : decode cX7_under 3 = .ok (.istore_n 3, 1) := by decide +kernel
theorem dX7_under_4 : decode cX7_under 4 = .ok (.iload_n 3, 1) := by decide +kernel
theorem dX7_under_5 : decode cX7_under 5 = .ok (.aload_n 0, 1) := by decide +kernel
theorem dX7_under_6 : decode cX7_under 6 = .ok (.getfield 7, 3) := by decide +kernel
theorem dX7_under_9 : decode cX7_under 9 = .ok (.iconst 0, 1) := by decide +kernel
theorem dX7_under_10 : decode cX7_under 10 = .ok (.iaload, 1) := by decide +kernel
theorem dX7_under_11 : decode cX7_under 11 = .ok (.if_icmp .ge 28, 3) := by decide +kernel
theorem dX7_under_14 : decode cX7_under 14 = .ok (.aload_n 0, 1) := by decide +kernel
theorem dX7_under_15 : decode cX7_under 15 = .ok (.getfield 13, 3) := by decide +kernel
theorem dX7_under_18 : decode cX7_under 18 = .ok (.bipush 12, 2) := by decide +kernel
theorem dX7_under_20 : decode cX7_under 20 = .ok (.iload_n 3, 1) := by decide +kernel
theorem dX7_under_21 : decode cX7_under 21 = .ok (.iadd, 1) := by decide +kernel
theorem dX7_under_22 : decode cX7_under 22 = .ok (.iaload, 1) := by decide +kernel
theorem dX7_under_23 : decode cX7_under 23 = .ok (.iload_n 1, 1) := by decide +kernel
theorem dX7_under_24 : decode cX7_under 24 = .ok (.if_icmp .ne 7, 3) := by decide +kernel
theorem dX7_under_27 : decode cX7_under 27 = .ok (.iload_n 3, 1) := by decide +kernel
theorem dX7_under_28 : decode cX7_under 28 = .ok (.goto 4, 3) := by decide +kernel
theorem dX7_under_31 : decode cX7_under 31 = .ok (.iload_n 2, 1) := by decide +kernel
theorem dX7_under_32 : decode cX7_under 32 = .ok (.istore_n 2, 1) := by decide +kernel
theorem dX7_under_33 : decode cX7_under 33 = .ok (.iinc 3 1, 3) := by decide +kernel
theorem dX7_under_36 : decode cX7_under 36 = .ok (.goto (-32), 3) := by decide +kernel
theorem dX7_under_39 : decode cX7_under 39 = .ok (.iload_n 2, 1) := by decide +kernel
theorem dX7_under_40 : decode cX7_under 40 = .ok (.ireturn, 1) := by decide +kernel
theorem dX7_bearsBy_0 : decode cX7_bearsBy 0 = .ok (.iload_n 1, 1) := by decide +kernel
theorem dX7_bearsBy_1 : decode cX7_bearsBy 1 = .ok (.iconst 3, 1) := by decide +kernel
theorem dX7_bearsBy_2 : decode cX7_bearsBy 2 = .ok (.if_icmp .ne 16, 3) := by decide +kernel
theorem dX7_bearsBy_5 : decode cX7_bearsBy 5 = .ok (.iload_n 2, 1) := by decide +kernel
theorem dX7_bearsBy_6 : decode cX7_bearsBy 6 = .ok (.iconst 3, 1) := by decide +kernel
theorem dX7_bearsBy_7 : decode cX7_bearsBy 7 = .ok (.if_icmp .ge 7, 3) := by decide +kernel
theorem dX7_bearsBy_10 : decode cX7_bearsBy 10 = .ok (.iconst 0, 1) := by decide +kernel
theorem dX7_bearsBy_11 : decode cX7_bearsBy 11 = .ok (.goto 6, 3) := by decide +kernel
theorem dX7_bearsBy_14 : decode cX7_bearsBy 14 = .ok (.iload_n 2, 1) := by decide +kernel
theorem dX7_bearsBy_15 : decode cX7_bearsBy 15 = .ok (.iconst 3, 1) := by decide +kernel
theorem dX7_bearsBy_16 : decode cX7_bearsBy 16 = .ok (.isub, 1) := by decide +kernel
theorem dX7_bearsBy_17 : decode cX7_bearsBy 17 = .ok (.ireturn, 1) := by decide +kernel
theorem dX7_bearsBy_18 : decode cX7_bearsBy 18 = .ok (.iload_n 1, 1) := by decide +kernel
theorem dX7_bearsBy_19 : decode cX7_bearsBy 19 = .ok (.iconst 1, 1) := by decide +kernel
theorem dX7_bearsBy_20 : decode cX7_bearsBy 20 = .ok (.if_icmp .ne 11, 3) := by decide +kernel
theorem dX7_bearsBy_23 : decode cX7_bearsBy 23 = .ok (.iload_n 2, 1) := by decide +kernel
theorem dX7_bearsBy_24 : decode cX7_bearsBy 24 = .ok (.iload_n 2, 1) := by decide +kernel
theorem dX7_bearsBy_25 : decode cX7_bearsBy 25 = .ok (.iconst 2, 1) := by decide +kernel
theorem dX7_bearsBy_26 : decode cX7_bearsBy 26 = .ok (.idiv, 1) := by decide +kernel
theorem dX7_bearsBy_27 : decode cX7_bearsBy 27 = .ok (.iadd, 1) := by decide +kernel
theorem dX7_bearsBy_28 : decode cX7_bearsBy 28 = .ok (.goto 15, 3) := by decide +kernel
theorem dX7_bearsBy_31 : decode cX7_bearsBy 31 = .ok (.iload_n 1, 1) := by decide +kernel
theorem dX7_bearsBy_32 : decode cX7_bearsBy 32 = .ok (.iconst 2, 1) := by decide +kernel
theorem dX7_bearsBy_33 : decode cX7_bearsBy 33 = .ok (.if_icmp .ne 9, 3) := by decide +kernel
theorem dX7_bearsBy_36 : decode cX7_bearsBy 36 = .ok (.iconst 2, 1) := by decide +kernel
theorem dX7_bearsBy_37 : decode cX7_bearsBy 37 = .ok (.iload_n 2, 1) := by decide +kernel
theorem dX7_bearsBy_38 : decode cX7_bearsBy 38 = .ok (.imul, 1) := by decide +kernel
theorem dX7_bearsBy_39 : decode cX7_bearsBy 39 = .ok (.goto 4, 3) := by decide +kernel
theorem dX7_bearsBy_42 : decode cX7_bearsBy 42 = .ok (.iload_n 2, 1) := by decide +kernel
theorem dX7_bearsBy_43 : decode cX7_bearsBy 43 = .ok (.ireturn, 1) := by decide +kernel
theorem dX7_bears_0 : decode cX7_bears 0 = .ok (.aload_n 0, 1) := by decide +kernel
theorem dX7_bears_1 : decode cX7_bears 1 = .ok (.aload_n 0, 1) := by decide +kernel
theorem dX7_bears_2 : decode cX7_bears 2 = .ok (.getfield 7, 3) := by decide +kernel
theorem dX7_bears_5 : decode cX7_bears 5 = .ok (.bipush 8, 2) := by decide +kernel
theorem dX7_bears_7 : decode cX7_bears 7 = .ok (.iload_n 1, 1) := by decide +kernel
theorem dX7_bears_8 : decode cX7_bears 8 = .ok (.iadd, 1) := by decide +kernel
theorem dX7_bears_9 : decode cX7_bears 9 = .ok (.iaload, 1) := by decide +kernel
theorem dX7_bears_10 : decode cX7_bears 10 = .ok (.aload_n 0, 1) := by decide +kernel
theorem dX7_bears_11 : decode cX7_bears 11 = .ok (.getfield 7, 3) := by decide +kernel
theorem dX7_bears_14 : decode cX7_bears 14 = .ok (.bipush 14, 2) := by decide +kernel
theorem dX7_bears_16 : decode cX7_bears 16 = .ok (.iload_n 1, 1) := by decide +kernel
theorem dX7_bears_17 : decode cX7_bears 17 = .ok (.iadd, 1) := by decide +kernel
theorem dX7_bears_18 : decode cX7_bears 18 = .ok (.iaload, 1) := by decide +kernel
theorem dX7_bears_19 : decode cX7_bears 19 = .ok (.invokevirtual 120, 3) := by decide +kernel
theorem dX7_bears_22 : decode cX7_bears 22 = .ok (.ireturn, 1) := by decide +kernel
theorem dX7_man_0 : decode cX7_man 0 = .ok (.aload_n 0, 1) := by decide +kernel
theorem dX7_man_1 : decode cX7_man 1 = .ok (.iload_n 1, 1) := by decide +kernel
theorem dX7_man_2 : decode cX7_man 2 = .ok (.invokevirtual 123, 3) := by decide +kernel
theorem dX7_man_5 : decode cX7_man 5 = .ok (.ifCond .ne 6, 3) := by decide +kernel
theorem dX7_man_8 : decode cX7_man 8 = .ok (.bipush (-2), 2) := by decide +kernel
theorem dX7_man_10 : decode cX7_man 10 = .ok (.ireturn, 1) := by decide +kernel
theorem dX7_man_11 : decode cX7_man 11 = .ok (.iload_n 2, 1) := by decide +kernel
theorem dX7_man_12 : decode cX7_man 12 = .ok (.i2l, 1) := by decide +kernel
theorem dX7_man_13 : decode cX7_man 13 = .ok (.lconst 0, 1) := by decide +kernel
theorem dX7_man_14 : decode cX7_man 14 = .ok (.ldc2_w 127, 3) := by decide +kernel
theorem dX7_man_17 : decode cX7_man 17 = .ok (.invokestatic 45, 3) := by decide +kernel
theorem dX7_man_20 : decode cX7_man 20 = .ok (.ifCond .ne 6, 3) := by decide +kernel
theorem dX7_man_23 : decode cX7_man 23 = .ok (.bipush (-3), 2) := by decide +kernel
theorem dX7_man_25 : decode cX7_man 25 = .ok (.ireturn, 1) := by decide +kernel
theorem dX7_man_26 : decode cX7_man 26 = .ok (.iload_n 2, 1) := by decide +kernel
theorem dX7_man_27 : decode cX7_man 27 = .ok (.ifCond .ne 14, 3) := by decide +kernel
theorem dX7_man_30 : decode cX7_man 30 = .ok (.aload_n 0, 1) := by decide +kernel
theorem dX7_man_31 : decode cX7_man 31 = .ok (.getfield 7, 3) := by decide +kernel
theorem dX7_man_34 : decode cX7_man 34 = .ok (.iconst 1, 1) := by decide +kernel
theorem dX7_man_35 : decode cX7_man 35 = .ok (.iload_n 1, 1) := by decide +kernel
theorem dX7_man_36 : decode cX7_man 36 = .ok (.iadd, 1) := by decide +kernel
theorem dX7_man_37 : decode cX7_man 37 = .ok (.iaload, 1) := by decide +kernel
theorem dX7_man_38 : decode cX7_man 38 = .ok (.goto 29, 3) := by decide +kernel
theorem dX7_man_41 : decode cX7_man 41 = .ok (.iload_n 2, 1) := by decide +kernel
theorem dX7_man_42 : decode cX7_man 42 = .ok (.iconst 1, 1) := by decide +kernel
theorem dX7_man_43 : decode cX7_man 43 = .ok (.if_icmp .ne 15, 3) := by decide +kernel
theorem dX7_man_46 : decode cX7_man 46 = .ok (.aload_n 0, 1) := by decide +kernel
theorem dX7_man_47 : decode cX7_man 47 = .ok (.getfield 13, 3) := by decide +kernel
theorem dX7_man_50 : decode cX7_man 50 = .ok (.bipush 6, 2) := by decide +kernel
theorem dX7_man_52 : decode cX7_man 52 = .ok (.iload_n 1, 1) := by decide +kernel
theorem dX7_man_53 : decode cX7_man 53 = .ok (.iadd, 1) := by decide +kernel
theorem dX7_man_54 : decode cX7_man 54 = .ok (.iaload, 1) := by decide +kernel
theorem dX7_man_55 : decode cX7_man 55 = .ok (.goto 12, 3) := by decide +kernel
theorem dX7_man_58 : decode cX7_man 58 = .ok (.aload_n 0, 1) := by decide +kernel
theorem dX7_man_59 : decode cX7_man 59 = .ok (.getfield 13, 3) := by decide +kernel
theorem dX7_man_62 : decode cX7_man 62 = .ok (.bipush 12, 2) := by decide +kernel
theorem dX7_man_64 : decode cX7_man 64 = .ok (.iload_n 1, 1) := by decide +kernel
theorem dX7_man_65 : decode cX7_man 65 = .ok (.iadd, 1) := by decide +kernel
theorem dX7_man_66 : decode cX7_man 66 = .ok (.iaload, 1) := by decide +kernel
theorem dX7_man_67 : decode cX7_man 67 = .ok (.ireturn, 1) := by decide +kernel
theorem dX7_sheep_0 : decode cX7_sheep 0 = .ok (.aload_n 0, 1) := by decide +kernel
theorem dX7_sheep_1 : decode cX7_sheep 1 = .ok (.iload_n 1, 1) := by decide +kernel
theorem dX7_sheep_2 : decode cX7_sheep 2 = .ok (.invokevirtual 129, 3) := by decide +kernel
theorem dX7_sheep_5 : decode cX7_sheep 5 = .ok (.ifCond .ne 6, 3) := by decide +kernel
theorem dX7_sheep_8 : decode cX7_sheep 8 = .ok (.bipush (-2), 2) := by decide +kernel
theorem dX7_sheep_10 : decode cX7_sheep 10 = .ok (.ireturn, 1) := by decide +kernel
theorem dX7_sheep_11 : decode cX7_sheep 11 = .ok (.iload_n 2, 1) := by decide +kernel
theorem dX7_sheep_12 : decode cX7_sheep 12 = .ok (.i2l, 1) := by decide +kernel
theorem dX7_sheep_13 : decode cX7_sheep 13 = .ok (.lconst 0, 1) := by decide +kernel
theorem dX7_sheep_14 : decode cX7_sheep 14 = .ok (.ldc2_w 132, 3) := by decide +kernel
theorem dX7_sheep_17 : decode cX7_sheep 17 = .ok (.invokestatic 45, 3) := by decide +kernel
theorem dX7_sheep_20 : decode cX7_sheep 20 = .ok (.ifCond .ne 6, 3) := by decide +kernel
theorem dX7_sheep_23 : decode cX7_sheep 23 = .ok (.bipush (-3), 2) := by decide +kernel
theorem dX7_sheep_25 : decode cX7_sheep 25 = .ok (.ireturn, 1) := by decide +kernel
theorem dX7_sheep_26 : decode cX7_sheep 26 = .ok (.iload_n 2, 1) := by decide +kernel
theorem dX7_sheep_27 : decode cX7_sheep 27 = .ok (.ifCond .ne 15, 3) := by decide +kernel
theorem dX7_sheep_30 : decode cX7_sheep 30 = .ok (.aload_n 0, 1) := by decide +kernel
theorem dX7_sheep_31 : decode cX7_sheep 31 = .ok (.getfield 7, 3) := by decide +kernel
theorem dX7_sheep_34 : decode cX7_sheep 34 = .ok (.bipush 8, 2) := by decide +kernel
theorem dX7_sheep_36 : decode cX7_sheep 36 = .ok (.iload_n 1, 1) := by decide +kernel
theorem dX7_sheep_37 : decode cX7_sheep 37 = .ok (.iadd, 1) := by decide +kernel
theorem dX7_sheep_38 : decode cX7_sheep 38 = .ok (.iaload, 1) := by decide +kernel
theorem dX7_sheep_39 : decode cX7_sheep 39 = .ok (.goto 43, 3) := by decide +kernel
theorem dX7_sheep_42 : decode cX7_sheep 42 = .ok (.iload_n 2, 1) := by decide +kernel
theorem dX7_sheep_43 : decode cX7_sheep 43 = .ok (.iconst 1, 1) := by decide +kernel
theorem dX7_sheep_44 : decode cX7_sheep 44 = .ok (.if_icmp .ne 15, 3) := by decide +kernel
theorem dX7_sheep_47 : decode cX7_sheep 47 = .ok (.aload_n 0, 1) := by decide +kernel
theorem dX7_sheep_48 : decode cX7_sheep 48 = .ok (.getfield 7, 3) := by decide +kernel
theorem dX7_sheep_51 : decode cX7_sheep 51 = .ok (.bipush 14, 2) := by decide +kernel
theorem dX7_sheep_53 : decode cX7_sheep 53 = .ok (.iload_n 1, 1) := by decide +kernel
theorem dX7_sheep_54 : decode cX7_sheep 54 = .ok (.iadd, 1) := by decide +kernel
theorem dX7_sheep_55 : decode cX7_sheep 55 = .ok (.iaload, 1) := by decide +kernel
theorem dX7_sheep_56 : decode cX7_sheep 56 = .ok (.goto 26, 3) := by decide +kernel
theorem dX7_sheep_59 : decode cX7_sheep 59 = .ok (.iload_n 2, 1) := by decide +kernel
theorem dX7_sheep_60 : decode cX7_sheep 60 = .ok (.iconst 2, 1) := by decide +kernel
theorem dX7_sheep_61 : decode cX7_sheep 61 = .ok (.if_icmp .ne 16, 3) := by decide +kernel
theorem dX7_sheep_64 : decode cX7_sheep 64 = .ok (.aload_n 0, 1) := by decide +kernel
theorem dX7_sheep_65 : decode cX7_sheep 65 = .ok (.getfield 13, 3) := by decide +kernel
theorem dX7_sheep_68 : decode cX7_sheep 68 = .ok (.iconst 5, 1) := by decide +kernel
theorem dX7_sheep_69 : decode cX7_sheep 69 = .ok (.iaload, 1) := by decide +kernel
theorem dX7_sheep_70 : decode cX7_sheep 70 = .ok (.iload_n 1, 1) := by decide +kernel
theorem dX7_sheep_71 : decode cX7_sheep 71 = .ok (.ishr, 1) := by decide +kernel
theorem dX7_sheep_72 : decode cX7_sheep 72 = .ok (.iconst 1, 1) := by decide +kernel
theorem dX7_sheep_73 : decode cX7_sheep 73 = .ok (.iand, 1) := by decide +kernel
theorem dX7_sheep_74 : decode cX7_sheep 74 = .ok (.goto 8, 3) := by decide +kernel
theorem dX7_sheep_77 : decode cX7_sheep 77 = .ok (.aload_n 0, 1) := by decide +kernel
theorem dX7_sheep_78 : decode cX7_sheep 78 = .ok (.iload_n 1, 1) := by decide +kernel
theorem dX7_sheep_79 : decode cX7_sheep 79 = .ok (.invokevirtual 134, 3) := by decide +kernel
theorem dX7_sheep_82 : decode cX7_sheep 82 = .ok (.ireturn, 1) := by decide +kernel
theorem dX7_near_0 : decode cX7_near 0 = .ok (.iload_n 1, 1) := by decide +kernel
theorem dX7_near_1 : decode cX7_near 1 = .ok (.i2l, 1) := by decide +kernel
theorem dX7_near_2 : decode cX7_near 2 = .ok (.lconst 0, 1) := by decide +kernel
theorem dX7_near_3 : decode cX7_near 3 = .ok (.aload_n 0, 1) := by decide +kernel
theorem dX7_near_4 : decode cX7_near 4 = .ok (.getfield 7, 3) := by decide +kernel
theorem dX7_near_7 : decode cX7_near 7 = .ok (.bipush 20, 2) := by decide +kernel
theorem dX7_near_9 : decode cX7_near 9 = .ok (.iaload, 1) := by decide +kernel
theorem dX7_near_10 : decode cX7_near 10 = .ok (.iconst 1, 1) := by decide +kernel
theorem dX7_near_11 : decode cX7_near 11 = .ok (.isub, 1) := by decide +kernel
theorem dX7_near_12 : decode cX7_near 12 = .ok (.i2l, 1) := by decide +kernel
theorem dX7_near_13 : decode cX7_near 13 = .ok (.invokestatic 45, 3) := by decide +kernel
theorem dX7_near_16 : decode cX7_near 16 = .ok (.ifCond .eq 15, 3) := by decide +kernel
theorem dX7_near_19 : decode cX7_near 19 = .ok (.aload_n 0, 1) := by decide +kernel
theorem dX7_near_20 : decode cX7_near 20 = .ok (.getfield 7, 3) := by decide +kernel
theorem dX7_near_23 : decode cX7_near 23 = .ok (.bipush 21, 2) := by decide +kernel
theorem dX7_near_25 : decode cX7_near 25 = .ok (.iload_n 1, 1) := by decide +kernel
theorem dX7_near_26 : decode cX7_near 26 = .ok (.iadd, 1) := by decide +kernel
theorem dX7_near_27 : decode cX7_near 27 = .ok (.iaload, 1) := by decide +kernel
theorem dX7_near_28 : decode cX7_near 28 = .ok (.goto 5, 3) := by decide +kernel
theorem dX7_near_31 : decode cX7_near 31 = .ok (.bipush (-2), 2) := by decide +kernel
theorem dX7_near_33 : decode cX7_near 33 = .ok (.ireturn, 1) := by decide +kernel
theorem dX7_as_0 : decode cX7_as 0 = .ok (.aload_n 0, 1) := by decide +kernel
theorem dX7_as_1 : decode cX7_as 1 = .ok (.iload_n 1, 1) := by decide +kernel
theorem dX7_as_2 : decode cX7_as 2 = .ok (.invokevirtual 129, 3) := by decide +kernel
theorem dX7_as_5 : decode cX7_as 5 = .ok (.ifCond .ne 6, 3) := by decide +kernel
theorem dX7_as_8 : decode cX7_as 8 = .ok (.bipush (-2), 2) := by decide +kernel
theorem dX7_as_10 : decode cX7_as 10 = .ok (.ireturn, 1) := by decide +kernel
theorem dX7_as_11 : decode cX7_as 11 = .ok (.iload_n 2, 1) := by decide +kernel
theorem dX7_as_12 : decode cX7_as 12 = .ok (.i2l, 1) := by decide +kernel
theorem dX7_as_13 : decode cX7_as 13 = .ok (.lconst 0, 1) := by decide +kernel
theorem dX7_as_14 : decode cX7_as 14 = .ok (.ldc2_w 137, 3) := by decide +kernel
theorem dX7_as_17 : decode cX7_as 17 = .ok (.invokestatic 45, 3) := by decide +kernel
theorem dX7_as_20 : decode cX7_as 20 = .ok (.ifCond .ne 6, 3) := by decide +kernel
theorem dX7_as_23 : decode cX7_as 23 = .ok (.bipush (-3), 2) := by decide +kernel
theorem dX7_as_25 : decode cX7_as 25 = .ok (.ireturn, 1) := by decide +kernel
theorem dX7_as_26 : decode cX7_as 26 = .ok (.aload_n 0, 1) := by decide +kernel
theorem dX7_as_27 : decode cX7_as 27 = .ok (.getfield 7, 3) := by decide +kernel
theorem dX7_as_30 : decode cX7_as 30 = .ok (.bipush 8, 2) := by decide +kernel
theorem dX7_as_32 : decode cX7_as 32 = .ok (.iload_n 1, 1) := by decide +kernel
theorem dX7_as_33 : decode cX7_as 33 = .ok (.iadd, 1) := by decide +kernel
theorem dX7_as_34 : decode cX7_as 34 = .ok (.iaload, 1) := by decide +kernel
theorem dX7_as_35 : decode cX7_as 35 = .ok (.istore_n 3, 1) := by decide +kernel
theorem dX7_as_36 : decode cX7_as 36 = .ok (.iload_n 2, 1) := by decide +kernel
theorem dX7_as_37 : decode cX7_as 37 = .ok (.ifCond .eq 25, 3) := by decide +kernel
theorem dX7_as_40 : decode cX7_as 40 = .ok (.iload_n 2, 1) := by decide +kernel
theorem dX7_as_41 : decode cX7_as 41 = .ok (.iconst 1, 1) := by decide +kernel
theorem dX7_as_42 : decode cX7_as 42 = .ok (.if_icmp .ne 8, 3) := by decide +kernel
theorem dX7_as_45 : decode cX7_as 45 = .ok (.iload_n 3, 1) := by decide +kernel
theorem dX7_as_46 : decode cX7_as 46 = .ok (.iconst 3, 1) := by decide +kernel
theorem dX7_as_47 : decode cX7_as 47 = .ok (.if_icmp .lt 15, 3) := by decide +kernel
theorem dX7_as_50 : decode cX7_as 50 = .ok (.iload_n 2, 1) := by decide +kernel
theorem dX7_as_51 : decode cX7_as 51 = .ok (.iconst 1, 1) := by decide +kernel
theorem dX7_as_52 : decode cX7_as 52 = .ok (.if_icmp .le 14, 3) := by decide +kernel
theorem dX7_as_55 : decode cX7_as 55 = .ok (.iload_n 3, 1) := by decide +kernel
theorem dX7_as_56 : decode cX7_as 56 = .ok (.iload_n 2, 1) := by decide +kernel
theorem dX7_as_57 : decode cX7_as 57 = .ok (.iconst 1, 1) := by decide +kernel
theorem dX7_as_58 : decode cX7_as 58 = .ok (.isub, 1) := by decide +kernel
theorem dX7_as_59 : decode cX7_as 59 = .ok (.if_icmp .ne 7, 3) := by decide +kernel
theorem dX7_as_62 : decode cX7_as 62 = .ok (.iconst 1, 1) := by decide +kernel
theorem dX7_as_63 : decode cX7_as 63 = .ok (.goto 4, 3) := by decide +kernel
theorem dX7_as_66 : decode cX7_as 66 = .ok (.iconst 0, 1) := by decide +kernel
theorem dX7_as_67 : decode cX7_as 67 = .ok (.istore 4, 2) := by decide +kernel
theorem dX7_as_69 : decode cX7_as 69 = .ok (.iload 4, 2) := by decide +kernel
theorem dX7_as_71 : decode cX7_as 71 = .ok (.ifCond .eq 11, 3) := by decide +kernel
theorem dX7_as_74 : decode cX7_as 74 = .ok (.aload_n 0, 1) := by decide +kernel
theorem dX7_as_75 : decode cX7_as 75 = .ok (.iload_n 1, 1) := by decide +kernel
theorem dX7_as_76 : decode cX7_as 76 = .ok (.invokevirtual 139, 3) := by decide +kernel
theorem dX7_as_79 : decode cX7_as 79 = .ok (.goto 5, 3) := by decide +kernel
theorem dX7_as_82 : decode cX7_as 82 = .ok (.bipush (-4), 2) := by decide +kernel
theorem dX7_as_84 : decode cX7_as 84 = .ok (.ireturn, 1) := by decide +kernel
theorem dX7_note_0 : decode cX7_note 0 = .ok (.aload_n 0, 1) := by decide +kernel
theorem dX7_note_1 : decode cX7_note 1 = .ok (.getfield 117, 3) := by decide +kernel
theorem dX7_note_4 : decode cX7_note 4 = .ok (.bipush 8, 2) := by decide +kernel
theorem dX7_note_6 : decode cX7_note 6 = .ok (.if_icmp .ne 42, 3) := by decide +kernel
theorem dX7_note_9 : decode cX7_note 9 = .ok (.iconst 0, 1) := by decide +kernel
theorem dX7_note_10 : decode cX7_note 10 = .ok (.istore_n 1, 1) := by decide +kernel
theorem dX7_note_11 : decode cX7_note 11 = .ok (.iload_n 1, 1) := by decide +kernel
theorem dX7_note_12 : decode cX7_note 12 = .ok (.bipush 126, 2) := by decide +kernel
theorem dX7_note_14 : decode cX7_note 14 = .ok (.if_icmp .ge 24, 3) := by decide +kernel
theorem dX7_note_17 : decode cX7_note 17 = .ok (.aload_n 0, 1) := by decide +kernel
theorem dX7_note_18 : decode cX7_note 18 = .ok (.getfield 22, 3) := by decide +kernel
theorem dX7_note_21 : decode cX7_note 21 = .ok (.iload_n 1, 1) := by decide +kernel
theorem dX7_note_22 : decode cX7_note 22 = .ok (.aload_n 0, 1) := by decide +kernel
theorem dX7_note_23 : decode cX7_note 23 = .ok (.getfield 22, 3) := by decide +kernel
theorem dX7_note_26 : decode cX7_note 26 = .ok (.iload_n 1, 1) := by decide +kernel
theorem dX7_note_27 : decode cX7_note 27 = .ok (.bipush 18, 2) := by decide +kernel
theorem dX7_note_29 : decode cX7_note 29 = .ok (.iadd, 1) := by decide +kernel
theorem dX7_note_30 : decode cX7_note 30 = .ok (.iaload, 1) := by decide +kernel
theorem dX7_note_31 : decode cX7_note 31 = .ok (.iastore, 1) := by decide +kernel
theorem dX7_note_32 : decode cX7_note 32 = .ok (.iinc 1 1, 3) := by decide +kernel
theorem dX7_note_35 : decode cX7_note 35 = .ok (.goto (-24), 3) := by decide +kernel
theorem dX7_note_38 : decode cX7_note 38 = .ok (.aload_n 0, 1) := by decide +kernel
theorem dX7_note_39 : decode cX7_note 39 = .ok (.dup, 1) := by decide +kernel
theorem dX7_note_40 : decode cX7_note 40 = .ok (.getfield 117, 3) := by decide +kernel
theorem dX7_note_43 : decode cX7_note 43 = .ok (.iconst 1, 1) := by decide +kernel
theorem dX7_note_44 : decode cX7_note 44 = .ok (.isub, 1) := by decide +kernel
theorem dX7_note_45 : decode cX7_note 45 = .ok (.putfield 117, 3) := by decide +kernel
theorem dX7_note_48 : decode cX7_note 48 = .ok (.iconst 0, 1) := by decide +kernel
theorem dX7_note_49 : decode cX7_note 49 = .ok (.istore_n 1, 1) := by decide +kernel
theorem dX7_note_50 : decode cX7_note 50 = .ok (.iload_n 1, 1) := by decide +kernel
theorem dX7_note_51 : decode cX7_note 51 = .ok (.bipush 18, 2) := by decide +kernel
theorem dX7_note_53 : decode cX7_note 53 = .ok (.if_icmp .ge 29, 3) := by decide +kernel
theorem dX7_note_56 : decode cX7_note 56 = .ok (.aload_n 0, 1) := by decide +kernel
theorem dX7_note_57 : decode cX7_note 57 = .ok (.getfield 22, 3) := by decide +kernel
theorem dX7_note_60 : decode cX7_note 60 = .ok (.bipush 18, 2) := by decide +kernel
theorem dX7_note_62 : decode cX7_note 62 = .ok (.aload_n 0, 1) := by decide +kernel
theorem dX7_note_63 : decode cX7_note 63 = .ok (.getfield 117, 3) := by decide +kernel
theorem dX7_note_66 : decode cX7_note 66 = .ok (.imul, 1) := by decide +kernel
theorem dX7_note_67 : decode cX7_note 67 = .ok (.iload_n 1, 1) := by decide +kernel
theorem dX7_note_68 : decode cX7_note 68 = .ok (.iadd, 1) := by decide +kernel
theorem dX7_note_69 : decode cX7_note 69 = .ok (.aload_n 0, 1) := by decide +kernel
theorem dX7_note_70 : decode cX7_note 70 = .ok (.getfield 13, 3) := by decide +kernel
theorem dX7_note_73 : decode cX7_note 73 = .ok (.iload_n 1, 1) := by decide +kernel
theorem dX7_note_74 : decode cX7_note 74 = .ok (.iaload, 1) := by decide +kernel
theorem dX7_note_75 : decode cX7_note 75 = .ok (.iastore, 1) := by decide +kernel
theorem dX7_note_76 : decode cX7_note 76 = .ok (.iinc 1 1, 3) := by decide +kernel
theorem dX7_note_79 : decode cX7_note 79 = .ok (.goto (-29), 3) := by decide +kernel
theorem dX7_note_82 : decode cX7_note 82 = .ok (.aload_n 0, 1) := by decide +kernel
theorem dX7_note_83 : decode cX7_note 83 = .ok (.dup, 1) := by decide +kernel
theorem dX7_note_84 : decode cX7_note 84 = .ok (.getfield 117, 3) := by decide +kernel
theorem dX7_note_87 : decode cX7_note 87 = .ok (.iconst 1, 1) := by decide +kernel
theorem dX7_note_88 : decode cX7_note 88 = .ok (.iadd, 1) := by decide +kernel
theorem dX7_note_89 : decode cX7_note 89 = .ok (.putfield 117, 3) := by decide +kernel
theorem dX7_note_92 : decode cX7_note 92 = .ok (.return_, 1) := by decide +kernel
theorem dX7_give_0 : decode cX7_give 0 = .ok (.iload_n 1, 1) := by decide +kernel
theorem dX7_give_1 : decode cX7_give 1 = .ok (.i2l, 1) := by decide +kernel
theorem dX7_give_2 : decode cX7_give 2 = .ok (.lconst 1, 1) := by decide +kernel
theorem dX7_give_3 : decode cX7_give 3 = .ok (.ldc2_w 142, 3) := by decide +kernel
theorem dX7_give_6 : decode cX7_give 6 = .ok (.invokestatic 45, 3) := by decide +kernel
theorem dX7_give_9 : decode cX7_give 9 = .ok (.ifCond .ne 6, 3) := by decide +kernel
theorem dX7_give_12 : decode cX7_give 12 = .ok (.bipush (-3), 2) := by decide +kernel
theorem dX7_give_14 : decode cX7_give 14 = .ok (.ireturn, 1) := by decide +kernel
theorem dX7_give_15 : decode cX7_give 15 = .ok (.aload_n 0, 1) := by decide +kernel
theorem dX7_give_16 : decode cX7_give 16 = .ok (.getfield 13, 3) := by decide +kernel
theorem dX7_give_19 : decode cX7_give 19 = .ok (.iconst 3, 1) := by decide +kernel
theorem dX7_give_20 : decode cX7_give 20 = .ok (.iaload, 1) := by decide +kernel
theorem dX7_give_21 : decode cX7_give 21 = .ok (.iconst 1, 1) := by decide +kernel
theorem dX7_give_22 : decode cX7_give 22 = .ok (.if_icmp .eq 13, 3) := by decide +kernel
theorem dX7_give_25 : decode cX7_give 25 = .ok (.iload_n 1, 1) := by decide +kernel
theorem dX7_give_26 : decode cX7_give 26 = .ok (.aload_n 0, 1) := by decide +kernel
theorem dX7_give_27 : decode cX7_give 27 = .ok (.getfield 13, 3) := by decide +kernel
theorem dX7_give_30 : decode cX7_give 30 = .ok (.iconst 0, 1) := by decide +kernel
theorem dX7_give_31 : decode cX7_give 31 = .ok (.iaload, 1) := by decide +kernel
theorem dX7_give_32 : decode cX7_give 32 = .ok (.if_icmp .le 6, 3) := by decide +kernel
theorem dX7_give_35 : decode cX7_give 35 = .ok (.bipush (-4), 2) := by decide +kernel
theorem dX7_give_37 : decode cX7_give 37 = .ok (.ireturn, 1) := by decide +kernel
theorem dX7_give_38 : decode cX7_give 38 = .ok (.aload_n 0, 1) := by decide +kernel
theorem dX7_give_39 : decode cX7_give 39 = .ok (.invokevirtual 144, 3) := by decide +kernel
theorem dX7_give_42 : decode cX7_give 42 = .ok (.aload_n 0, 1) := by decide +kernel
theorem dX7_give_43 : decode cX7_give 43 = .ok (.getfield 13, 3) := by decide +kernel
theorem dX7_give_46 : decode cX7_give 46 = .ok (.iconst 0, 1) := by decide +kernel
theorem dX7_give_47 : decode cX7_give 47 = .ok (.dup2, 1) := by decide +kernel
theorem dX7_give_48 : decode cX7_give 48 = .ok (.iaload, 1) := by decide +kernel
theorem dX7_give_49 : decode cX7_give 49 = .ok (.iload_n 1, 1) := by decide +kernel
theorem dX7_give_50 : decode cX7_give 50 = .ok (.isub, 1) := by decide +kernel
theorem dX7_give_51 : decode cX7_give 51 = .ok (.iastore, 1) := by decide +kernel
theorem dX7_give_52 : decode cX7_give 52 = .ok (.aload_n 0, 1) := by decide +kernel
theorem dX7_give_53 : decode cX7_give 53 = .ok (.getfield 13, 3) := by decide +kernel
theorem dX7_give_56 : decode cX7_give 56 = .ok (.iconst 1, 1) := by decide +kernel
theorem dX7_give_57 : decode cX7_give 57 = .ok (.dup2, 1) := by decide +kernel
theorem dX7_give_58 : decode cX7_give 58 = .ok (.iaload, 1) := by decide +kernel
theorem dX7_give_59 : decode cX7_give 59 = .ok (.iload_n 1, 1) := by decide +kernel
theorem dX7_give_60 : decode cX7_give 60 = .ok (.iadd, 1) := by decide +kernel
theorem dX7_give_61 : decode cX7_give 61 = .ok (.iastore, 1) := by decide +kernel
theorem dX7_give_62 : decode cX7_give 62 = .ok (.aload_n 0, 1) := by decide +kernel
theorem dX7_give_63 : decode cX7_give 63 = .ok (.getfield 13, 3) := by decide +kernel
theorem dX7_give_66 : decode cX7_give 66 = .ok (.iconst 1, 1) := by decide +kernel
theorem dX7_give_67 : decode cX7_give 67 = .ok (.iaload, 1) := by decide +kernel
theorem dX7_give_68 : decode cX7_give 68 = .ok (.ireturn, 1) := by decide +kernel
theorem dX7_eat_0 : decode cX7_eat 0 = .ok (.aload_n 0, 1) := by decide +kernel
theorem dX7_eat_1 : decode cX7_eat 1 = .ok (.getfield 13, 3) := by decide +kernel
theorem dX7_eat_4 : decode cX7_eat 4 = .ok (.bipush 6, 2) := by decide +kernel
theorem dX7_eat_6 : decode cX7_eat 6 = .ok (.iload_n 1, 1) := by decide +kernel
theorem dX7_eat_7 : decode cX7_eat 7 = .ok (.iadd, 1) := by decide +kernel
theorem dX7_eat_8 : decode cX7_eat 8 = .ok (.iconst 2, 1) := by decide +kernel
theorem dX7_eat_9 : decode cX7_eat 9 = .ok (.iastore, 1) := by decide +kernel
theorem dX7_eat_10 : decode cX7_eat 10 = .ok (.aload_n 0, 1) := by decide +kernel
theorem dX7_eat_11 : decode cX7_eat 11 = .ok (.getfield 13, 3) := by decide +kernel
theorem dX7_eat_14 : decode cX7_eat 14 = .ok (.bipush 12, 2) := by decide +kernel
end
section
theorem dX7_eat_16 : decode cX7_eat 16 = .ok (.iload_n 1, 1) := by decide +kernel
theorem dX7_eat_17 : decode cX7_eat 17 = .ok (.iadd, 1) := by decide +kernel
theorem dX7_eat_18 : decode cX7_eat 18 = .ok (.iconst (-1), 1) := by decide +kernel
theorem dX7_eat_19 : decode cX7_eat 19 = .ok (.iastore, 1) := by decide +kernel
theorem dX7_eat_20 : decode cX7_eat 20 = .ok (.return_, 1) := by decide +kernel
theorem dX7_eatFirst_0 : decode cX7_eatFirst 0 = .ok (.iconst 0, 1) := by decide +kernel
theorem dX7_eatFirst_1 : decode cX7_eatFirst 1 = .ok (.istore_n 2, 1) := by decide +kernel
theorem dX7_eatFirst_2 : decode cX7_eatFirst 2 = .ok (.iconst 0, 1) := by decide +kernel
theorem dX7_eatFirst_3 : decode cX7_eatFirst 3 = .ok (.istore_n 3, 1) := by decide +kernel
theorem dX7_eatFirst_4 : decode cX7_eatFirst 4 = .ok (.iload_n 3, 1) := by decide +kernel
theorem dX7_eatFirst_5 : decode cX7_eatFirst 5 = .ok (.aload_n 0, 1) := by decide +kernel
theorem dX7_eatFirst_6 : decode cX7_eatFirst 6 = .ok (.getfield 7, 3) := by decide +kernel
theorem dX7_eatFirst_9 : decode cX7_eatFirst 9 = .ok (.iconst 0, 1) := by decide +kernel
theorem dX7_eatFirst_10 : decode cX7_eatFirst 10 = .ok (.iaload, 1) := by decide +kernel
theorem dX7_eatFirst_11 : decode cX7_eatFirst 11 = .ok (.if_icmp .ge 36, 3) := by decide +kernel
theorem dX7_eatFirst_14 : decode cX7_eatFirst 14 = .ok (.aload_n 0, 1) := by decide +kernel
theorem dX7_eatFirst_15 : decode cX7_eatFirst 15 = .ok (.iload_n 3, 1) := by decide +kernel
theorem dX7_eatFirst_16 : decode cX7_eatFirst 16 = .ok (.invokevirtual 147, 3) := by decide +kernel
theorem dX7_eatFirst_19 : decode cX7_eatFirst 19 = .ok (.ifCond .eq 22, 3) := by decide +kernel
theorem dX7_eatFirst_22 : decode cX7_eatFirst 22 = .ok (.iload_n 2, 1) := by decide +kernel
theorem dX7_eatFirst_23 : decode cX7_eatFirst 23 = .ok (.invokestatic 150, 3) := by decide +kernel
theorem dX7_eatFirst_26 : decode cX7_eatFirst 26 = .ok (.iload_n 1, 1) := by decide +kernel
theorem dX7_eatFirst_27 : decode cX7_eatFirst 27 = .ok (.if_icmp .ge 14, 3) := by decide +kernel
theorem dX7_eatFirst_30 : decode cX7_eatFirst 30 = .ok (.aload_n 0, 1) := by decide +kernel
theorem dX7_eatFirst_31 : decode cX7_eatFirst 31 = .ok (.iload_n 3, 1) := by decide +kernel
theorem dX7_eatFirst_32 : decode cX7_eatFirst 32 = .ok (.invokevirtual 153, 3) := by decide +kernel
theorem dX7_eatFirst_35 : decode cX7_eatFirst 35 = .ok (.iload_n 2, 1) := by decide +kernel
theorem dX7_eatFirst_36 : decode cX7_eatFirst 36 = .ok (.iconst 1, 1) := by decide +kernel
theorem dX7_eatFirst_37 : decode cX7_eatFirst 37 = .ok (.iload_n 3, 1) := by decide +kernel
theorem dX7_eatFirst_38 : decode cX7_eatFirst 38 = .ok (.ishl, 1) := by decide +kernel
theorem dX7_eatFirst_39 : decode cX7_eatFirst 39 = .ok (.ior, 1) := by decide +kernel
theorem dX7_eatFirst_40 : decode cX7_eatFirst 40 = .ok (.istore_n 2, 1) := by decide +kernel
theorem dX7_eatFirst_41 : decode cX7_eatFirst 41 = .ok (.iinc 3 1, 3) := by decide +kernel
theorem dX7_eatFirst_44 : decode cX7_eatFirst 44 = .ok (.goto (-40), 3) := by decide +kernel
theorem dX7_eatFirst_47 : decode cX7_eatFirst 47 = .ok (.iload_n 2, 1) := by decide +kernel
theorem dX7_eatFirst_48 : decode cX7_eatFirst 48 = .ok (.ireturn, 1) := by decide +kernel
theorem dX7_day_0 : decode cX7_day 0 = .ok (.aload_n 0, 1) := by decide +kernel
theorem dX7_day_1 : decode cX7_day 1 = .ok (.getfield 13, 3) := by decide +kernel
theorem dX7_day_4 : decode cX7_day 4 = .ok (.iconst 4, 1) := by decide +kernel
theorem dX7_day_5 : decode cX7_day 5 = .ok (.iaload, 1) := by decide +kernel
theorem dX7_day_6 : decode cX7_day 6 = .ok (.bipush 99, 2) := by decide +kernel
theorem dX7_day_8 : decode cX7_day 8 = .ok (.if_icmp .ne 6, 3) := by decide +kernel
theorem dX7_day_11 : decode cX7_day 11 = .ok (.bipush (-5), 2) := by decide +kernel
theorem dX7_day_13 : decode cX7_day 13 = .ok (.ireturn, 1) := by decide +kernel
theorem dX7_day_14 : decode cX7_day 14 = .ok (.aload_n 0, 1) := by decide +kernel
theorem dX7_day_15 : decode cX7_day 15 = .ok (.invokevirtual 144, 3) := by decide +kernel
theorem dX7_day_18 : decode cX7_day 18 = .ok (.aload_n 0, 1) := by decide +kernel
theorem dX7_day_19 : decode cX7_day 19 = .ok (.aload_n 0, 1) := by decide +kernel
theorem dX7_day_20 : decode cX7_day 20 = .ok (.getfield 13, 3) := by decide +kernel
theorem dX7_day_23 : decode cX7_day 23 = .ok (.iconst 3, 1) := by decide +kernel
theorem dX7_day_24 : decode cX7_day 24 = .ok (.iaload, 1) := by decide +kernel
theorem dX7_day_25 : decode cX7_day 25 = .ok (.iconst 1, 1) := by decide +kernel
theorem dX7_day_26 : decode cX7_day 26 = .ok (.if_icmp .ne 7, 3) := by decide +kernel
theorem dX7_day_29 : decode cX7_day 29 = .ok (.iconst 0, 1) := by decide +kernel
theorem dX7_day_30 : decode cX7_day 30 = .ok (.goto 10, 3) := by decide +kernel
theorem dX7_day_33 : decode cX7_day 33 = .ok (.aload_n 0, 1) := by decide +kernel
theorem dX7_day_34 : decode cX7_day 34 = .ok (.getfield 7, 3) := by decide +kernel
theorem dX7_day_37 : decode cX7_day 37 = .ok (.bipush 28, 2) := by decide +kernel
theorem dX7_day_39 : decode cX7_day 39 = .ok (.iaload, 1) := by decide +kernel
theorem dX7_day_40 : decode cX7_day 40 = .ok (.invokevirtual 157, 3) := by decide +kernel
theorem dX7_day_43 : decode cX7_day 43 = .ok (.istore_n 1, 1) := by decide +kernel
theorem dX7_day_44 : decode cX7_day 44 = .ok (.aload_n 0, 1) := by decide +kernel
theorem dX7_day_45 : decode cX7_day 45 = .ok (.getfield 13, 3) := by decide +kernel
theorem dX7_day_48 : decode cX7_day 48 = .ok (.iconst 2, 1) := by decide +kernel
theorem dX7_day_49 : decode cX7_day 49 = .ok (.aload_n 0, 1) := by decide +kernel
theorem dX7_day_50 : decode cX7_day 50 = .ok (.getfield 13, 3) := by decide +kernel
theorem dX7_day_53 : decode cX7_day 53 = .ok (.iconst 2, 1) := by decide +kernel
theorem dX7_day_54 : decode cX7_day 54 = .ok (.iaload, 1) := by decide +kernel
theorem dX7_day_55 : decode cX7_day 55 = .ok (.bipush 9, 2) := by decide +kernel
theorem dX7_day_57 : decode cX7_day 57 = .ok (.if_icmp .ge 14, 3) := by decide +kernel
theorem dX7_day_60 : decode cX7_day 60 = .ok (.aload_n 0, 1) := by decide +kernel
theorem dX7_day_61 : decode cX7_day 61 = .ok (.getfield 13, 3) := by decide +kernel
theorem dX7_day_64 : decode cX7_day 64 = .ok (.iconst 2, 1) := by decide +kernel
theorem dX7_day_65 : decode cX7_day 65 = .ok (.iaload, 1) := by decide +kernel
theorem dX7_day_66 : decode cX7_day 66 = .ok (.iconst 1, 1) := by decide +kernel
theorem dX7_day_67 : decode cX7_day 67 = .ok (.iadd, 1) := by decide +kernel
theorem dX7_day_68 : decode cX7_day 68 = .ok (.goto 5, 3) := by decide +kernel
theorem dX7_day_71 : decode cX7_day 71 = .ok (.bipush 9, 2) := by decide +kernel
theorem dX7_day_73 : decode cX7_day 73 = .ok (.iastore, 1) := by decide +kernel
theorem dX7_day_74 : decode cX7_day 74 = .ok (.aload_n 0, 1) := by decide +kernel
theorem dX7_day_75 : decode cX7_day 75 = .ok (.getfield 13, 3) := by decide +kernel
theorem dX7_day_78 : decode cX7_day 78 = .ok (.iconst 1, 1) := by decide +kernel
theorem dX7_day_79 : decode cX7_day 79 = .ok (.iconst 0, 1) := by decide +kernel
theorem dX7_day_80 : decode cX7_day 80 = .ok (.iastore, 1) := by decide +kernel
theorem dX7_day_81 : decode cX7_day 81 = .ok (.aload_n 0, 1) := by decide +kernel
theorem dX7_day_82 : decode cX7_day 82 = .ok (.getfield 13, 3) := by decide +kernel
theorem dX7_day_85 : decode cX7_day 85 = .ok (.iconst 4, 1) := by decide +kernel
theorem dX7_day_86 : decode cX7_day 86 = .ok (.dup2, 1) := by decide +kernel
theorem dX7_day_87 : decode cX7_day 87 = .ok (.iaload, 1) := by decide +kernel
theorem dX7_day_88 : decode cX7_day 88 = .ok (.iconst 1, 1) := by decide +kernel
theorem dX7_day_89 : decode cX7_day 89 = .ok (.iadd, 1) := by decide +kernel
theorem dX7_day_90 : decode cX7_day 90 = .ok (.iastore, 1) := by decide +kernel
theorem dX7_day_91 : decode cX7_day 91 = .ok (.iload_n 1, 1) := by decide +kernel
theorem dX7_day_92 : decode cX7_day 92 = .ok (.ireturn, 1) := by decide +kernel
theorem dX7_comeBy_0 : decode cX7_comeBy 0 = .ok (.iconst 0, 1) := by decide +kernel
theorem dX7_comeBy_1 : decode cX7_comeBy 1 = .ok (.istore_n 2, 1) := by decide +kernel
theorem dX7_comeBy_2 : decode cX7_comeBy 2 = .ok (.iconst 0, 1) := by decide +kernel
theorem dX7_comeBy_3 : decode cX7_comeBy 3 = .ok (.istore_n 3, 1) := by decide +kernel
theorem dX7_comeBy_4 : decode cX7_comeBy 4 = .ok (.iload_n 3, 1) := by decide +kernel
theorem dX7_comeBy_5 : decode cX7_comeBy 5 = .ok (.aload_n 0, 1) := by decide +kernel
theorem dX7_comeBy_6 : decode cX7_comeBy 6 = .ok (.getfield 7, 3) := by decide +kernel
theorem dX7_comeBy_9 : decode cX7_comeBy 9 = .ok (.bipush 20, 2) := by decide +kernel
theorem dX7_comeBy_11 : decode cX7_comeBy 11 = .ok (.iaload, 1) := by decide +kernel
theorem dX7_comeBy_12 : decode cX7_comeBy 12 = .ok (.if_icmp .ge 35, 3) := by decide +kernel
theorem dX7_comeBy_15 : decode cX7_comeBy 15 = .ok (.iload_n 2, 1) := by decide +kernel
theorem dX7_comeBy_16 : decode cX7_comeBy 16 = .ok (.aload_n 0, 1) := by decide +kernel
theorem dX7_comeBy_17 : decode cX7_comeBy 17 = .ok (.getfield 7, 3) := by decide +kernel
theorem dX7_comeBy_20 : decode cX7_comeBy 20 = .ok (.bipush 21, 2) := by decide +kernel
theorem dX7_comeBy_22 : decode cX7_comeBy 22 = .ok (.iload_n 3, 1) := by decide +kernel
theorem dX7_comeBy_23 : decode cX7_comeBy 23 = .ok (.iadd, 1) := by decide +kernel
theorem dX7_comeBy_24 : decode cX7_comeBy 24 = .ok (.iaload, 1) := by decide +kernel
theorem dX7_comeBy_25 : decode cX7_comeBy 25 = .ok (.iload_n 1, 1) := by decide +kernel
theorem dX7_comeBy_26 : decode cX7_comeBy 26 = .ok (.invokestatic 160, 3) := by decide +kernel
theorem dX7_comeBy_29 : decode cX7_comeBy 29 = .ok (.ifCond .eq 7, 3) := by decide +kernel
theorem dX7_comeBy_32 : decode cX7_comeBy 32 = .ok (.iconst 0, 1) := by decide +kernel
theorem dX7_comeBy_33 : decode cX7_comeBy 33 = .ok (.goto 6, 3) := by decide +kernel
theorem dX7_comeBy_36 : decode cX7_comeBy 36 = .ok (.iconst 1, 1) := by decide +kernel
theorem dX7_comeBy_37 : decode cX7_comeBy 37 = .ok (.iload_n 3, 1) := by decide +kernel
theorem dX7_comeBy_38 : decode cX7_comeBy 38 = .ok (.ishl, 1) := by decide +kernel
theorem dX7_comeBy_39 : decode cX7_comeBy 39 = .ok (.ior, 1) := by decide +kernel
theorem dX7_comeBy_40 : decode cX7_comeBy 40 = .ok (.istore_n 2, 1) := by decide +kernel
theorem dX7_comeBy_41 : decode cX7_comeBy 41 = .ok (.iinc 3 1, 3) := by decide +kernel
theorem dX7_comeBy_44 : decode cX7_comeBy 44 = .ok (.goto (-40), 3) := by decide +kernel
theorem dX7_comeBy_47 : decode cX7_comeBy 47 = .ok (.iload_n 2, 1) := by decide +kernel
theorem dX7_comeBy_48 : decode cX7_comeBy 48 = .ok (.ireturn, 1) := by decide +kernel
theorem dX7_blind_0 : decode cX7_blind 0 = .ok (.iload_n 1, 1) := by decide +kernel
theorem dX7_blind_1 : decode cX7_blind 1 = .ok (.i2l, 1) := by decide +kernel
theorem dX7_blind_2 : decode cX7_blind 2 = .ok (.lconst 0, 1) := by decide +kernel
theorem dX7_blind_3 : decode cX7_blind 3 = .ok (.ldc2_w 164, 3) := by decide +kernel
theorem dX7_blind_6 : decode cX7_blind 6 = .ok (.invokestatic 45, 3) := by decide +kernel
theorem dX7_blind_9 : decode cX7_blind 9 = .ok (.ifCond .ne 6, 3) := by decide +kernel
theorem dX7_blind_12 : decode cX7_blind 12 = .ok (.bipush (-3), 2) := by decide +kernel
theorem dX7_blind_14 : decode cX7_blind 14 = .ok (.ireturn, 1) := by decide +kernel
theorem dX7_blind_15 : decode cX7_blind 15 = .ok (.aload_n 0, 1) := by decide +kernel
theorem dX7_blind_16 : decode cX7_blind 16 = .ok (.getfield 13, 3) := by decide +kernel
theorem dX7_blind_19 : decode cX7_blind 19 = .ok (.iconst 3, 1) := by decide +kernel
theorem dX7_blind_20 : decode cX7_blind 20 = .ok (.iaload, 1) := by decide +kernel
theorem dX7_blind_21 : decode cX7_blind 21 = .ok (.iconst 1, 1) := by decide +kernel
theorem dX7_blind_22 : decode cX7_blind 22 = .ok (.if_icmp .eq 35, 3) := by decide +kernel
theorem dX7_blind_25 : decode cX7_blind 25 = .ok (.aload_n 0, 1) := by decide +kernel
theorem dX7_blind_26 : decode cX7_blind 26 = .ok (.getfield 13, 3) := by decide +kernel
theorem dX7_blind_29 : decode cX7_blind 29 = .ok (.iconst 1, 1) := by decide +kernel
theorem dX7_blind_30 : decode cX7_blind 30 = .ok (.iaload, 1) := by decide +kernel
theorem dX7_blind_31 : decode cX7_blind 31 = .ok (.aload_n 0, 1) := by decide +kernel
theorem dX7_blind_32 : decode cX7_blind 32 = .ok (.getfield 7, 3) := by decide +kernel
theorem dX7_blind_35 : decode cX7_blind 35 = .ok (.bipush 26, 2) := by decide +kernel
theorem dX7_blind_37 : decode cX7_blind 37 = .ok (.iaload, 1) := by decide +kernel
theorem dX7_blind_38 : decode cX7_blind 38 = .ok (.if_icmp .lt 19, 3) := by decide +kernel
theorem dX7_blind_41 : decode cX7_blind 41 = .ok (.aload_n 0, 1) := by decide +kernel
theorem dX7_blind_42 : decode cX7_blind 42 = .ok (.getfield 13, 3) := by decide +kernel
theorem dX7_blind_45 : decode cX7_blind 45 = .ok (.iconst 2, 1) := by decide +kernel
theorem dX7_blind_46 : decode cX7_blind 46 = .ok (.iaload, 1) := by decide +kernel
theorem dX7_blind_47 : decode cX7_blind 47 = .ok (.aload_n 0, 1) := by decide +kernel
theorem dX7_blind_48 : decode cX7_blind 48 = .ok (.getfield 7, 3) := by decide +kernel
theorem dX7_blind_51 : decode cX7_blind 51 = .ok (.bipush 27, 2) := by decide +kernel
theorem dX7_blind_53 : decode cX7_blind 53 = .ok (.iaload, 1) := by decide +kernel
theorem dX7_blind_54 : decode cX7_blind 54 = .ok (.if_icmp .ge 6, 3) := by decide +kernel
theorem dX7_blind_57 : decode cX7_blind 57 = .ok (.bipush (-4), 2) := by decide +kernel
theorem dX7_blind_59 : decode cX7_blind 59 = .ok (.ireturn, 1) := by decide +kernel
theorem dX7_blind_60 : decode cX7_blind 60 = .ok (.aload_n 0, 1) := by decide +kernel
theorem dX7_blind_61 : decode cX7_blind 61 = .ok (.invokevirtual 144, 3) := by decide +kernel
theorem dX7_blind_64 : decode cX7_blind 64 = .ok (.aload_n 0, 1) := by decide +kernel
theorem dX7_blind_65 : decode cX7_blind 65 = .ok (.getfield 13, 3) := by decide +kernel
theorem dX7_blind_68 : decode cX7_blind 68 = .ok (.iconst 3, 1) := by decide +kernel
theorem dX7_blind_69 : decode cX7_blind 69 = .ok (.iconst 1, 1) := by decide +kernel
theorem dX7_blind_70 : decode cX7_blind 70 = .ok (.iastore, 1) := by decide +kernel
theorem dX7_blind_71 : decode cX7_blind 71 = .ok (.aload_n 0, 1) := by decide +kernel
theorem dX7_blind_72 : decode cX7_blind 72 = .ok (.iload_n 1, 1) := by decide +kernel
theorem dX7_blind_73 : decode cX7_blind 73 = .ok (.invokevirtual 166, 3) := by decide +kernel
theorem dX7_blind_76 : decode cX7_blind 76 = .ok (.istore_n 2, 1) := by decide +kernel
theorem dX7_blind_77 : decode cX7_blind 77 = .ok (.aload_n 0, 1) := by decide +kernel
theorem dX7_blind_78 : decode cX7_blind 78 = .ok (.iload_n 2, 1) := by decide +kernel
theorem dX7_blind_79 : decode cX7_blind 79 = .ok (.invokestatic 150, 3) := by decide +kernel
theorem dX7_blind_82 : decode cX7_blind 82 = .ok (.invokevirtual 157, 3) := by decide +kernel
theorem dX7_blind_85 : decode cX7_blind 85 = .ok (.pop, 1) := by decide +kernel
theorem dX7_blind_86 : decode cX7_blind 86 = .ok (.iload_n 2, 1) := by decide +kernel
theorem dX7_blind_87 : decode cX7_blind 87 = .ok (.ireturn, 1) := by decide +kernel
theorem dX7_hide_0 : decode cX7_hide 0 = .ok (.aload_n 0, 1) := by decide +kernel
theorem dX7_hide_1 : decode cX7_hide 1 = .ok (.iload_n 1, 1) := by decide +kernel
theorem dX7_hide_2 : decode cX7_hide 2 = .ok (.invokevirtual 123, 3) := by decide +kernel
theorem dX7_hide_5 : decode cX7_hide 5 = .ok (.ifCond .eq 16, 3) := by decide +kernel
theorem dX7_hide_8 : decode cX7_hide 8 = .ok (.iload_n 2, 1) := by decide +kernel
theorem dX7_hide_9 : decode cX7_hide 9 = .ok (.iconst (-1), 1) := by decide +kernel
theorem dX7_hide_10 : decode cX7_hide 10 = .ok (.if_icmp .eq 14, 3) := by decide +kernel
theorem dX7_hide_13 : decode cX7_hide 13 = .ok (.aload_n 0, 1) := by decide +kernel
theorem dX7_hide_14 : decode cX7_hide 14 = .ok (.iload_n 2, 1) := by decide +kernel
theorem dX7_hide_15 : decode cX7_hide 15 = .ok (.invokevirtual 129, 3) := by decide +kernel
theorem dX7_hide_18 : decode cX7_hide 18 = .ok (.ifCond .ne 6, 3) := by decide +kernel
theorem dX7_hide_21 : decode cX7_hide 21 = .ok (.bipush (-2), 2) := by decide +kernel
theorem dX7_hide_23 : decode cX7_hide 23 = .ok (.ireturn, 1) := by decide +kernel
theorem dX7_hide_24 : decode cX7_hide 24 = .ok (.iload_n 2, 1) := by decide +kernel
theorem dX7_hide_25 : decode cX7_hide 25 = .ok (.ifCond .ge 23, 3) := by decide +kernel
theorem dX7_hide_28 : decode cX7_hide 28 = .ok (.aload_n 0, 1) := by decide +kernel
theorem dX7_hide_29 : decode cX7_hide 29 = .ok (.getfield 13, 3) := by decide +kernel
theorem dX7_hide_32 : decode cX7_hide 32 = .ok (.bipush 12, 2) := by decide +kernel
theorem dX7_hide_34 : decode cX7_hide 34 = .ok (.iload_n 1, 1) := by decide +kernel
theorem dX7_hide_35 : decode cX7_hide 35 = .ok (.iadd, 1) := by decide +kernel
theorem dX7_hide_36 : decode cX7_hide 36 = .ok (.iaload, 1) := by decide +kernel
theorem dX7_hide_37 : decode cX7_hide 37 = .ok (.ifCond .ge 7, 3) := by decide +kernel
theorem dX7_hide_40 : decode cX7_hide 40 = .ok (.iconst 1, 1) := by decide +kernel
theorem dX7_hide_41 : decode cX7_hide 41 = .ok (.goto 33, 3) := by decide +kernel
theorem dX7_hide_44 : decode cX7_hide 44 = .ok (.iconst 0, 1) := by decide +kernel
theorem dX7_hide_45 : decode cX7_hide 45 = .ok (.goto 29, 3) := by decide +kernel
theorem dX7_hide_48 : decode cX7_hide 48 = .ok (.aload_n 0, 1) := by decide +kernel
theorem dX7_hide_49 : decode cX7_hide 49 = .ok (.getfield 13, 3) := by decide +kernel
theorem dX7_hide_52 : decode cX7_hide 52 = .ok (.iconst 5, 1) := by decide +kernel
theorem dX7_hide_53 : decode cX7_hide 53 = .ok (.iaload, 1) := by decide +kernel
theorem dX7_hide_54 : decode cX7_hide 54 = .ok (.iload_n 2, 1) := by decide +kernel
theorem dX7_hide_55 : decode cX7_hide 55 = .ok (.invokestatic 160, 3) := by decide +kernel
theorem dX7_hide_58 : decode cX7_hide 58 = .ok (.ifCond .ne 11, 3) := by decide +kernel
theorem dX7_hide_61 : decode cX7_hide 61 = .ok (.aload_n 0, 1) := by decide +kernel
theorem dX7_hide_62 : decode cX7_hide 62 = .ok (.iload_n 2, 1) := by decide +kernel
theorem dX7_hide_63 : decode cX7_hide 63 = .ok (.invokevirtual 134, 3) := by decide +kernel
theorem dX7_hide_66 : decode cX7_hide 66 = .ok (.ifCond .lt 7, 3) := by decide +kernel
theorem dX7_hide_69 : decode cX7_hide 69 = .ok (.iconst 1, 1) := by decide +kernel
theorem dX7_hide_70 : decode cX7_hide 70 = .ok (.goto 4, 3) := by decide +kernel
theorem dX7_hide_73 : decode cX7_hide 73 = .ok (.iconst 0, 1) := by decide +kernel
theorem dX7_hide_74 : decode cX7_hide 74 = .ok (.istore_n 3, 1) := by decide +kernel
theorem dX7_hide_75 : decode cX7_hide 75 = .ok (.aload_n 0, 1) := by decide +kernel
theorem dX7_hide_76 : decode cX7_hide 76 = .ok (.iload_n 1, 1) := by decide +kernel
theorem dX7_hide_77 : decode cX7_hide 77 = .ok (.invokevirtual 147, 3) := by decide +kernel
theorem dX7_hide_80 : decode cX7_hide 80 = .ok (.ifCond .eq 7, 3) := by decide +kernel
theorem dX7_hide_83 : decode cX7_hide 83 = .ok (.iload_n 3, 1) := by decide +kernel
theorem dX7_hide_84 : decode cX7_hide 84 = .ok (.ifCond .eq 6, 3) := by decide +kernel
theorem dX7_hide_87 : decode cX7_hide 87 = .ok (.bipush (-4), 2) := by decide +kernel
theorem dX7_hide_89 : decode cX7_hide 89 = .ok (.ireturn, 1) := by decide +kernel
theorem dX7_hide_90 : decode cX7_hide 90 = .ok (.aload_n 0, 1) := by decide +kernel
theorem dX7_hide_91 : decode cX7_hide 91 = .ok (.invokevirtual 144, 3) := by decide +kernel
theorem dX7_hide_94 : decode cX7_hide 94 = .ok (.aload_n 0, 1) := by decide +kernel
theorem dX7_hide_95 : decode cX7_hide 95 = .ok (.getfield 13, 3) := by decide +kernel
theorem dX7_hide_98 : decode cX7_hide 98 = .ok (.bipush 12, 2) := by decide +kernel
theorem dX7_hide_100 : decode cX7_hide 100 = .ok (.iload_n 1, 1) := by decide +kernel
theorem dX7_hide_101 : decode cX7_hide 101 = .ok (.iadd, 1) := by decide +kernel
theorem dX7_hide_102 : decode cX7_hide 102 = .ok (.iaload, 1) := by decide +kernel
theorem dX7_hide_103 : decode cX7_hide 103 = .ok (.istore 4, 2) := by decide +kernel
theorem dX7_hide_105 : decode cX7_hide 105 = .ok (.aload_n 0, 1) := by decide +kernel
theorem dX7_hide_106 : decode cX7_hide 106 = .ok (.getfield 13, 3) := by decide +kernel
theorem dX7_hide_109 : decode cX7_hide 109 = .ok (.bipush 12, 2) := by decide +kernel
theorem dX7_hide_111 : decode cX7_hide 111 = .ok (.iload_n 1, 1) := by decide +kernel
theorem dX7_hide_112 : decode cX7_hide 112 = .ok (.iadd, 1) := by decide +kernel
theorem dX7_hide_113 : decode cX7_hide 113 = .ok (.iload_n 2, 1) := by decide +kernel
theorem dX7_hide_114 : decode cX7_hide 114 = .ok (.iastore, 1) := by decide +kernel
theorem dX7_hide_115 : decode cX7_hide 115 = .ok (.iload 4, 2) := by decide +kernel
theorem dX7_hide_117 : decode cX7_hide 117 = .ok (.ireturn, 1) := by decide +kernel
theorem dX7_morning_0 : decode cX7_morning 0 = .ok (.aload_n 0, 1) := by decide +kernel
theorem dX7_morning_1 : decode cX7_morning 1 = .ok (.getfield 13, 3) := by decide +kernel
theorem dX7_morning_4 : decode cX7_morning 4 = .ok (.iconst 3, 1) := by decide +kernel
theorem dX7_morning_5 : decode cX7_morning 5 = .ok (.iaload, 1) := by decide +kernel
theorem dX7_morning_6 : decode cX7_morning 6 = .ok (.ifCond .ne 6, 3) := by decide +kernel
theorem dX7_morning_9 : decode cX7_morning 9 = .ok (.bipush (-4), 2) := by decide +kernel
theorem dX7_morning_11 : decode cX7_morning 11 = .ok (.ireturn, 1) := by decide +kernel
theorem dX7_morning_12 : decode cX7_morning 12 = .ok (.aload_n 0, 1) := by decide +kernel
theorem dX7_morning_13 : decode cX7_morning 13 = .ok (.invokevirtual 144, 3) := by decide +kernel
theorem dX7_morning_16 : decode cX7_morning 16 = .ok (.iconst 0, 1) := by decide +kernel
theorem dX7_morning_17 : decode cX7_morning 17 = .ok (.istore_n 1, 1) := by decide +kernel
theorem dX7_morning_18 : decode cX7_morning 18 = .ok (.iconst 0, 1) := by decide +kernel
theorem dX7_morning_19 : decode cX7_morning 19 = .ok (.istore_n 2, 1) := by decide +kernel
theorem dX7_morning_20 : decode cX7_morning 20 = .ok (.iload_n 2, 1) := by decide +kernel
theorem dX7_morning_21 : decode cX7_morning 21 = .ok (.aload_n 0, 1) := by decide +kernel
theorem dX7_morning_22 : decode cX7_morning 22 = .ok (.getfield 7, 3) := by decide +kernel
theorem dX7_morning_25 : decode cX7_morning 25 = .ok (.iconst 0, 1) := by decide +kernel
theorem dX7_morning_26 : decode cX7_morning 26 = .ok (.iaload, 1) := by decide +kernel
theorem dX7_morning_27 : decode cX7_morning 27 = .ok (.if_icmp .ge 111, 3) := by decide +kernel
theorem dX7_morning_30 : decode cX7_morning 30 = .ok (.aload_n 0, 1) := by decide +kernel
theorem dX7_morning_31 : decode cX7_morning 31 = .ok (.getfield 13, 3) := by decide +kernel
theorem dX7_morning_34 : decode cX7_morning 34 = .ok (.bipush 12, 2) := by decide +kernel
theorem dX7_morning_36 : decode cX7_morning 36 = .ok (.iload_n 2, 1) := by decide +kernel
theorem dX7_morning_37 : decode cX7_morning 37 = .ok (.iadd, 1) := by decide +kernel
theorem dX7_morning_38 : decode cX7_morning 38 = .ok (.iaload, 1) := by decide +kernel
theorem dX7_morning_39 : decode cX7_morning 39 = .ok (.istore_n 3, 1) := by decide +kernel
theorem dX7_morning_40 : decode cX7_morning 40 = .ok (.iload_n 3, 1) := by decide +kernel
theorem dX7_morning_41 : decode cX7_morning 41 = .ok (.ifCond .lt 91, 3) := by decide +kernel
theorem dX7_morning_44 : decode cX7_morning 44 = .ok (.aload_n 0, 1) := by decide +kernel
theorem dX7_morning_45 : decode cX7_morning 45 = .ok (.iload_n 3, 1) := by decide +kernel
theorem dX7_morning_46 : decode cX7_morning 46 = .ok (.invokevirtual 139, 3) := by decide +kernel
theorem dX7_morning_49 : decode cX7_morning 49 = .ok (.aload_n 0, 1) := by decide +kernel
theorem dX7_morning_50 : decode cX7_morning 50 = .ok (.getfield 7, 3) := by decide +kernel
theorem dX7_morning_53 : decode cX7_morning 53 = .ok (.iconst 1, 1) := by decide +kernel
theorem dX7_morning_54 : decode cX7_morning 54 = .ok (.iload_n 2, 1) := by decide +kernel
theorem dX7_morning_55 : decode cX7_morning 55 = .ok (.iadd, 1) := by decide +kernel
theorem dX7_morning_56 : decode cX7_morning 56 = .ok (.iaload, 1) := by decide +kernel
theorem dX7_morning_57 : decode cX7_morning 57 = .ok (.if_icmp .lt 7, 3) := by decide +kernel
theorem dX7_morning_60 : decode cX7_morning 60 = .ok (.iconst 1, 1) := by decide +kernel
theorem dX7_morning_61 : decode cX7_morning 61 = .ok (.goto 4, 3) := by decide +kernel
theorem dX7_morning_64 : decode cX7_morning 64 = .ok (.iconst 0, 1) := by decide +kernel
theorem dX7_morning_65 : decode cX7_morning 65 = .ok (.istore 4, 2) := by decide +kernel
theorem dX7_morning_67 : decode cX7_morning 67 = .ok (.aload_n 0, 1) := by decide +kernel
theorem dX7_morning_68 : decode cX7_morning 68 = .ok (.getfield 13, 3) := by decide +kernel
theorem dX7_morning_71 : decode cX7_morning 71 = .ok (.bipush 6, 2) := by decide +kernel
theorem dX7_morning_73 : decode cX7_morning 73 = .ok (.iload_n 2, 1) := by decide +kernel
theorem dX7_morning_74 : decode cX7_morning 74 = .ok (.iadd, 1) := by decide +kernel
theorem dX7_morning_75 : decode cX7_morning 75 = .ok (.iload 4, 2) := by decide +kernel
theorem dX7_morning_77 : decode cX7_morning 77 = .ok (.ifCond .eq 7, 3) := by decide +kernel
theorem dX7_morning_80 : decode cX7_morning 80 = .ok (.iconst 1, 1) := by decide +kernel
theorem dX7_morning_81 : decode cX7_morning 81 = .ok (.goto 4, 3) := by decide +kernel
theorem dX7_morning_84 : decode cX7_morning 84 = .ok (.iconst 2, 1) := by decide +kernel
theorem dX7_morning_85 : decode cX7_morning 85 = .ok (.iastore, 1) := by decide +kernel
theorem dX7_morning_86 : decode cX7_morning 86 = .ok (.aload_n 0, 1) := by decide +kernel
theorem dX7_morning_87 : decode cX7_morning 87 = .ok (.getfield 13, 3) := by decide +kernel
theorem dX7_morning_90 : decode cX7_morning 90 = .ok (.iconst 5, 1) := by decide +kernel
theorem dX7_morning_91 : decode cX7_morning 91 = .ok (.dup2, 1) := by decide +kernel
theorem dX7_morning_92 : decode cX7_morning 92 = .ok (.iaload, 1) := by decide +kernel
theorem dX7_morning_93 : decode cX7_morning 93 = .ok (.iload 4, 2) := by decide +kernel
theorem dX7_morning_95 : decode cX7_morning 95 = .ok (.ifCond .eq 9, 3) := by decide +kernel
theorem dX7_morning_98 : decode cX7_morning 98 = .ok (.iconst 1, 1) := by decide +kernel
theorem dX7_morning_99 : decode cX7_morning 99 = .ok (.iload_n 3, 1) := by decide +kernel
theorem dX7_morning_100 : decode cX7_morning 100 = .ok (.ishl, 1) := by decide +kernel
theorem dX7_morning_101 : decode cX7_morning 101 = .ok (.goto 4, 3) := by decide +kernel
theorem dX7_morning_104 : decode cX7_morning 104 = .ok (.iconst 0, 1) := by decide +kernel
theorem dX7_morning_105 : decode cX7_morning 105 = .ok (.ior, 1) := by decide +kernel
theorem dX7_morning_106 : decode cX7_morning 106 = .ok (.iastore, 1) := by decide +kernel
theorem dX7_morning_107 : decode cX7_morning 107 = .ok (.aload_n 0, 1) := by decide +kernel
theorem dX7_morning_108 : decode cX7_morning 108 = .ok (.getfield 13, 3) := by decide +kernel
theorem dX7_morning_111 : decode cX7_morning 111 = .ok (.bipush 12, 2) := by decide +kernel
theorem dX7_morning_113 : decode cX7_morning 113 = .ok (.iload_n 2, 1) := by decide +kernel
theorem dX7_morning_114 : decode cX7_morning 114 = .ok (.iadd, 1) := by decide +kernel
theorem dX7_morning_115 : decode cX7_morning 115 = .ok (.iconst (-1), 1) := by decide +kernel
theorem dX7_morning_116 : decode cX7_morning 116 = .ok (.iastore, 1) := by decide +kernel
theorem dX7_morning_117 : decode cX7_morning 117 = .ok (.iload_n 1, 1) := by decide +kernel
theorem dX7_morning_118 : decode cX7_morning 118 = .ok (.iload 4, 2) := by decide +kernel
theorem dX7_morning_120 : decode cX7_morning 120 = .ok (.ifCond .eq 9, 3) := by decide +kernel
theorem dX7_morning_123 : decode cX7_morning 123 = .ok (.iconst 1, 1) := by decide +kernel
theorem dX7_morning_124 : decode cX7_morning 124 = .ok (.iload_n 2, 1) := by decide +kernel
theorem dX7_morning_125 : decode cX7_morning 125 = .ok (.ishl, 1) := by decide +kernel
theorem dX7_morning_126 : decode cX7_morning 126 = .ok (.goto 4, 3) := by decide +kernel
theorem dX7_morning_129 : decode cX7_morning 129 = .ok (.iconst 0, 1) := by decide +kernel
theorem dX7_morning_130 : decode cX7_morning 130 = .ok (.ior, 1) := by decide +kernel
theorem dX7_morning_131 : decode cX7_morning 131 = .ok (.istore_n 1, 1) := by decide +kernel
theorem dX7_morning_132 : decode cX7_morning 132 = .ok (.iinc 2 1, 3) := by decide +kernel
theorem dX7_morning_135 : decode cX7_morning 135 = .ok (.goto (-115), 3) := by decide +kernel
theorem dX7_morning_138 : decode cX7_morning 138 = .ok (.iload_n 1, 1) := by decide +kernel
theorem dX7_morning_139 : decode cX7_morning 139 = .ok (.ireturn, 1) := by decide +kernel
theorem dX7_undo_0 : decode cX7_undo 0 = .ok (.aload_n 0, 1) := by decide +kernel
theorem dX7_undo_1 : decode cX7_undo 1 = .ok (.getfield 117, 3) := by decide +kernel
theorem dX7_undo_4 : decode cX7_undo 4 = .ok (.ifCond .ne 6, 3) := by decide +kernel
theorem dX7_undo_7 : decode cX7_undo 7 = .ok (.bipush (-4), 2) := by decide +kernel
theorem dX7_undo_9 : decode cX7_undo 9 = .ok (.ireturn, 1) := by decide +kernel
theorem dX7_undo_10 : decode cX7_undo 10 = .ok (.aload_n 0, 1) := by decide +kernel
theorem dX7_undo_11 : decode cX7_undo 11 = .ok (.dup, 1) := by decide +kernel
theorem dX7_undo_12 : decode cX7_undo 12 = .ok (.getfield 117, 3) := by decide +kernel
theorem dX7_undo_15 : decode cX7_undo 15 = .ok (.iconst 1, 1) := by decide +kernel
theorem dX7_undo_16 : decode cX7_undo 16 = .ok (.isub, 1) := by decide +kernel
theorem dX7_undo_17 : decode cX7_undo 17 = .ok (.putfield 117, 3) := by decide +kernel
theorem dX7_undo_20 : decode cX7_undo 20 = .ok (.iconst 0, 1) := by decide +kernel
theorem dX7_undo_21 : decode cX7_undo 21 = .ok (.istore_n 1, 1) := by decide +kernel
theorem dX7_undo_22 : decode cX7_undo 22 = .ok (.iload_n 1, 1) := by decide +kernel
theorem dX7_undo_23 : decode cX7_undo 23 = .ok (.bipush 18, 2) := by decide +kernel
theorem dX7_undo_25 : decode cX7_undo 25 = .ok (.if_icmp .ge 29, 3) := by decide +kernel
theorem dX7_undo_28 : decode cX7_undo 28 = .ok (.aload_n 0, 1) := by decide +kernel
theorem dX7_undo_29 : decode cX7_undo 29 = .ok (.getfield 13, 3) := by decide +kernel
theorem dX7_undo_32 : decode cX7_undo 32 = .ok (.iload_n 1, 1) := by decide +kernel
theorem dX7_undo_33 : decode cX7_undo 33 = .ok (.aload_n 0, 1) := by decide +kernel
theorem dX7_undo_34 : decode cX7_undo 34 = .ok (.getfield 22, 3) := by decide +kernel
theorem dX7_undo_37 : decode cX7_undo 37 = .ok (.bipush 18, 2) := by decide +kernel
theorem dX7_undo_39 : decode cX7_undo 39 = .ok (.aload_n 0, 1) := by decide +kernel
theorem dX7_undo_40 : decode cX7_undo 40 = .ok (.getfield 117, 3) := by decide +kernel
theorem dX7_undo_43 : decode cX7_undo 43 = .ok (.imul, 1) := by decide +kernel
theorem dX7_undo_44 : decode cX7_undo 44 = .ok (.iload_n 1, 1) := by decide +kernel
theorem dX7_undo_45 : decode cX7_undo 45 = .ok (.iadd, 1) := by decide +kernel
theorem dX7_undo_46 : decode cX7_undo 46 = .ok (.iaload, 1) := by decide +kernel
theorem dX7_undo_47 : decode cX7_undo 47 = .ok (.iastore, 1) := by decide +kernel
theorem dX7_undo_48 : decode cX7_undo 48 = .ok (.iinc 1 1, 3) := by decide +kernel
theorem dX7_undo_51 : decode cX7_undo 51 = .ok (.goto (-29), 3) := by decide +kernel
theorem dX7_undo_54 : decode cX7_undo 54 = .ok (.aload_n 0, 1) := by decide +kernel
theorem dX7_undo_55 : decode cX7_undo 55 = .ok (.getfield 117, 3) := by decide +kernel
theorem dX7_undo_58 : decode cX7_undo 58 = .ok (.ireturn, 1) := by decide +kernel
theorem dX7_keep_0 : decode cX7_keep 0 = .ok (.iload_n 1, 1) := by decide +kernel
theorem dX7_keep_1 : decode cX7_keep 1 = .ok (.invokestatic 169, 3) := by decide +kernel
theorem dX7_keep_4 : decode cX7_keep 4 = .ok (.ifCond .ne 6, 3) := by decide +kernel
theorem dX7_keep_7 : decode cX7_keep 7 = .ok (.bipush (-2), 2) := by decide +kernel
theorem dX7_keep_9 : decode cX7_keep 9 = .ok (.ireturn, 1) := by decide +kernel
theorem dX7_keep_10 : decode cX7_keep 10 = .ok (.iconst 0, 1) := by decide +kernel
theorem dX7_keep_11 : decode cX7_keep 11 = .ok (.istore_n 2, 1) := by decide +kernel
theorem dX7_keep_12 : decode cX7_keep 12 = .ok (.iload_n 2, 1) := by decide +kernel
theorem dX7_keep_13 : decode cX7_keep 13 = .ok (.bipush 18, 2) := by decide +kernel
theorem dX7_keep_15 : decode cX7_keep 15 = .ok (.if_icmp .ge 26, 3) := by decide +kernel
theorem dX7_keep_18 : decode cX7_keep 18 = .ok (.aload_n 0, 1) := by decide +kernel
theorem dX7_keep_19 : decode cX7_keep 19 = .ok (.getfield 29, 3) := by decide +kernel
theorem dX7_keep_22 : decode cX7_keep 22 = .ok (.bipush 18, 2) := by decide +kernel
theorem dX7_keep_24 : decode cX7_keep 24 = .ok (.iload_n 1, 1) := by decide +kernel
theorem dX7_keep_25 : decode cX7_keep 25 = .ok (.imul, 1) := by decide +kernel
theorem dX7_keep_26 : decode cX7_keep 26 = .ok (.iload_n 2, 1) := by decide +kernel
theorem dX7_keep_27 : decode cX7_keep 27 = .ok (.iadd, 1) := by decide +kernel
theorem dX7_keep_28 : decode cX7_keep 28 = .ok (.aload_n 0, 1) := by decide +kernel
theorem dX7_keep_29 : decode cX7_keep 29 = .ok (.getfield 13, 3) := by decide +kernel
theorem dX7_keep_32 : decode cX7_keep 32 = .ok (.iload_n 2, 1) := by decide +kernel
theorem dX7_keep_33 : decode cX7_keep 33 = .ok (.iaload, 1) := by decide +kernel
theorem dX7_keep_34 : decode cX7_keep 34 = .ok (.iastore, 1) := by decide +kernel
theorem dX7_keep_35 : decode cX7_keep 35 = .ok (.iinc 2 1, 3) := by decide +kernel
theorem dX7_keep_38 : decode cX7_keep 38 = .ok (.goto (-26), 3) := by decide +kernel
theorem dX7_keep_41 : decode cX7_keep 41 = .ok (.aload_n 0, 1) := by decide +kernel
theorem dX7_keep_42 : decode cX7_keep 42 = .ok (.getfield 25, 3) := by decide +kernel
theorem dX7_keep_45 : decode cX7_keep 45 = .ok (.iload_n 1, 1) := by decide +kernel
theorem dX7_keep_46 : decode cX7_keep 46 = .ok (.iconst 1, 1) := by decide +kernel
theorem dX7_keep_47 : decode cX7_keep 47 = .ok (.bastore, 1) := by decide +kernel
theorem dX7_keep_48 : decode cX7_keep 48 = .ok (.aload_n 0, 1) := by decide +kernel
theorem dX7_keep_49 : decode cX7_keep 49 = .ok (.getfield 13, 3) := by decide +kernel
theorem dX7_keep_52 : decode cX7_keep 52 = .ok (.iconst 4, 1) := by decide +kernel
theorem dX7_keep_53 : decode cX7_keep 53 = .ok (.iaload, 1) := by decide +kernel
theorem dX7_keep_54 : decode cX7_keep 54 = .ok (.ireturn, 1) := by decide +kernel
theorem dX7_back_0 : decode cX7_back 0 = .ok (.iload_n 1, 1) := by decide +kernel
theorem dX7_back_1 : decode cX7_back 1 = .ok (.invokestatic 169, 3) := by decide +kernel
theorem dX7_back_4 : decode cX7_back 4 = .ok (.ifCond .ne 6, 3) := by decide +kernel
theorem dX7_back_7 : decode cX7_back 7 = .ok (.bipush (-2), 2) := by decide +kernel
theorem dX7_back_9 : decode cX7_back 9 = .ok (.ireturn, 1) := by decide +kernel
theorem dX7_back_10 : decode cX7_back 10 = .ok (.aload_n 0, 1) := by decide +kernel
theorem dX7_back_11 : decode cX7_back 11 = .ok (.getfield 25, 3) := by decide +kernel
theorem dX7_back_14 : decode cX7_back 14 = .ok (.iload_n 1, 1) := by decide +kernel
theorem dX7_back_15 : decode cX7_back 15 = .ok (.baload, 1) := by decide +kernel
theorem dX7_back_16 : decode cX7_back 16 = .ok (.ifCond .ne 6, 3) := by decide +kernel
theorem dX7_back_19 : decode cX7_back 19 = .ok (.bipush (-4), 2) := by decide +kernel
theorem dX7_back_21 : decode cX7_back 21 = .ok (.ireturn, 1) := by decide +kernel
theorem dX7_back_22 : decode cX7_back 22 = .ok (.iconst 0, 1) := by decide +kernel
theorem dX7_back_23 : decode cX7_back 23 = .ok (.istore_n 2, 1) := by decide +kernel
theorem dX7_back_24 : decode cX7_back 24 = .ok (.iload_n 2, 1) := by decide +kernel
theorem dX7_back_25 : decode cX7_back 25 = .ok (.bipush 18, 2) := by decide +kernel
theorem dX7_back_27 : decode cX7_back 27 = .ok (.if_icmp .ge 26, 3) := by decide +kernel
theorem dX7_back_30 : decode cX7_back 30 = .ok (.aload_n 0, 1) := by decide +kernel
theorem dX7_back_31 : decode cX7_back 31 = .ok (.getfield 13, 3) := by decide +kernel
theorem dX7_back_34 : decode cX7_back 34 = .ok (.iload_n 2, 1) := by decide +kernel
theorem dX7_back_35 : decode cX7_back 35 = .ok (.aload_n 0, 1) := by decide +kernel
theorem dX7_back_36 : decode cX7_back 36 = .ok (.getfield 29, 3) := by decide +kernel
theorem dX7_back_39 : decode cX7_back 39 = .ok (.bipush 18, 2) := by decide +kernel
theorem dX7_back_41 : decode cX7_back 41 = .ok (.iload_n 1, 1) := by decide +kernel
theorem dX7_back_42 : decode cX7_back 42 = .ok (.imul, 1) := by decide +kernel
theorem dX7_back_43 : decode cX7_back 43 = .ok (.iload_n 2, 1) := by decide +kernel
theorem dX7_back_44 : decode cX7_back 44 = .ok (.iadd, 1) := by decide +kernel
theorem dX7_back_45 : decode cX7_back 45 = .ok (.iaload, 1) := by decide +kernel
theorem dX7_back_46 : decode cX7_back 46 = .ok (.iastore, 1) := by decide +kernel
theorem dX7_back_47 : decode cX7_back 47 = .ok (.iinc 2 1, 3) := by decide +kernel
theorem dX7_back_50 : decode cX7_back 50 = .ok (.goto (-26), 3) := by decide +kernel
theorem dX7_back_53 : decode cX7_back 53 = .ok (.aload_n 0, 1) := by decide +kernel
theorem dX7_back_54 : decode cX7_back 54 = .ok (.iconst 0, 1) := by decide +kernel
theorem dX7_back_55 : decode cX7_back 55 = .ok (.putfield 117, 3) := by decide +kernel
theorem dX7_back_58 : decode cX7_back 58 = .ok (.aload_n 0, 1) := by decide +kernel
theorem dX7_back_59 : decode cX7_back 59 = .ok (.getfield 13, 3) := by decide +kernel
theorem dX7_back_62 : decode cX7_back 62 = .ok (.iconst 4, 1) := by decide +kernel
theorem dX7_back_63 : decode cX7_back 63 = .ok (.iaload, 1) := by decide +kernel
theorem dX7_back_64 : decode cX7_back 64 = .ok (.ireturn, 1) := by decide +kernel
theorem dX7_soonest_0 : decode cX7_soonest 0 = .ok (.aload_n 0, 1) := by decide +kernel
theorem dX7_soonest_1 : decode cX7_soonest 1 = .ok (.getfield 7, 3) := by decide +kernel
theorem dX7_soonest_4 : decode cX7_soonest 4 = .ok (.bipush 27, 2) := by decide +kernel
theorem dX7_soonest_6 : decode cX7_soonest 6 = .ok (.iaload, 1) := by decide +kernel
theorem dX7_soonest_7 : decode cX7_soonest 7 = .ok (.aload_n 0, 1) := by decide +kernel
theorem dX7_soonest_8 : decode cX7_soonest 8 = .ok (.getfield 13, 3) := by decide +kernel
theorem dX7_soonest_11 : decode cX7_soonest 11 = .ok (.iconst 2, 1) := by decide +kernel
theorem dX7_soonest_12 : decode cX7_soonest 12 = .ok (.iaload, 1) := by decide +kernel
theorem dX7_soonest_13 : decode cX7_soonest 13 = .ok (.isub, 1) := by decide +kernel
theorem dX7_soonest_14 : decode cX7_soonest 14 = .ok (.istore_n 1, 1) := by decide +kernel
theorem dX7_soonest_15 : decode cX7_soonest 15 = .ok (.aload_n 0, 1) := by decide +kernel
theorem dX7_soonest_16 : decode cX7_soonest 16 = .ok (.getfield 13, 3) := by decide +kernel
theorem dX7_soonest_19 : decode cX7_soonest 19 = .ok (.iconst 3, 1) := by decide +kernel
theorem dX7_soonest_20 : decode cX7_soonest 20 = .ok (.iaload, 1) := by decide +kernel
theorem dX7_soonest_21 : decode cX7_soonest 21 = .ok (.iconst 1, 1) := by decide +kernel
theorem dX7_soonest_22 : decode cX7_soonest 22 = .ok (.if_icmp .ne 5, 3) := by decide +kernel
theorem dX7_soonest_25 : decode cX7_soonest 25 = .ok (.iconst (-1), 1) := by decide +kernel
theorem dX7_soonest_26 : decode cX7_soonest 26 = .ok (.ireturn, 1) := by decide +kernel
theorem dX7_soonest_27 : decode cX7_soonest 27 = .ok (.iload_n 1, 1) := by decide +kernel
theorem dX7_soonest_28 : decode cX7_soonest 28 = .ok (.ifCond .gt 28, 3) := by decide +kernel
theorem dX7_soonest_31 : decode cX7_soonest 31 = .ok (.aload_n 0, 1) := by decide +kernel
theorem dX7_soonest_32 : decode cX7_soonest 32 = .ok (.getfield 13, 3) := by decide +kernel
theorem dX7_soonest_35 : decode cX7_soonest 35 = .ok (.iconst 1, 1) := by decide +kernel
theorem dX7_soonest_36 : decode cX7_soonest 36 = .ok (.iaload, 1) := by decide +kernel
theorem dX7_soonest_37 : decode cX7_soonest 37 = .ok (.aload_n 0, 1) := by decide +kernel
theorem dX7_soonest_38 : decode cX7_soonest 38 = .ok (.getfield 13, 3) := by decide +kernel
theorem dX7_soonest_41 : decode cX7_soonest 41 = .ok (.iconst 0, 1) := by decide +kernel
theorem dX7_soonest_42 : decode cX7_soonest 42 = .ok (.iaload, 1) := by decide +kernel
theorem dX7_soonest_43 : decode cX7_soonest 43 = .ok (.iadd, 1) := by decide +kernel
theorem dX7_soonest_44 : decode cX7_soonest 44 = .ok (.aload_n 0, 1) := by decide +kernel
theorem dX7_soonest_45 : decode cX7_soonest 45 = .ok (.getfield 7, 3) := by decide +kernel
theorem dX7_soonest_48 : decode cX7_soonest 48 = .ok (.bipush 26, 2) := by decide +kernel
theorem dX7_soonest_50 : decode cX7_soonest 50 = .ok (.iaload, 1) := by decide +kernel
theorem dX7_soonest_51 : decode cX7_soonest 51 = .ok (.if_icmp .lt 5, 3) := by decide +kernel
theorem dX7_soonest_54 : decode cX7_soonest 54 = .ok (.iconst 0, 1) := by decide +kernel
theorem dX7_soonest_55 : decode cX7_soonest 55 = .ok (.ireturn, 1) := by decide +kernel
theorem dX7_soonest_56 : decode cX7_soonest 56 = .ok (.aload_n 0, 1) := by decide +kernel
theorem dX7_soonest_57 : decode cX7_soonest 57 = .ok (.getfield 13, 3) := by decide +kernel
theorem dX7_soonest_60 : decode cX7_soonest 60 = .ok (.iconst 0, 1) := by decide +kernel
theorem dX7_soonest_61 : decode cX7_soonest 61 = .ok (.iaload, 1) := by decide +kernel
theorem dX7_soonest_62 : decode cX7_soonest 62 = .ok (.aload_n 0, 1) := by decide +kernel
theorem dX7_soonest_63 : decode cX7_soonest 63 = .ok (.getfield 7, 3) := by decide +kernel
theorem dX7_soonest_66 : decode cX7_soonest 66 = .ok (.bipush 26, 2) := by decide +kernel
theorem dX7_soonest_68 : decode cX7_soonest 68 = .ok (.iaload, 1) := by decide +kernel
theorem dX7_soonest_69 : decode cX7_soonest 69 = .ok (.if_icmp .ge 7, 3) := by decide +kernel
theorem dX7_soonest_72 : decode cX7_soonest 72 = .ok (.iconst (-1), 1) := by decide +kernel
theorem dX7_soonest_73 : decode cX7_soonest 73 = .ok (.goto 13, 3) := by decide +kernel
theorem dX7_soonest_76 : decode cX7_soonest 76 = .ok (.iload_n 1, 1) := by decide +kernel
theorem dX7_soonest_77 : decode cX7_soonest 77 = .ok (.iconst 1, 1) := by decide +kernel
theorem dX7_soonest_78 : decode cX7_soonest 78 = .ok (.if_icmp .ge 7, 3) := by decide +kernel
theorem dX7_soonest_81 : decode cX7_soonest 81 = .ok (.iconst 1, 1) := by decide +kernel
theorem dX7_soonest_82 : decode cX7_soonest 82 = .ok (.goto 4, 3) := by decide +kernel
theorem dX7_soonest_85 : decode cX7_soonest 85 = .ok (.iload_n 1, 1) := by decide +kernel
theorem dX7_soonest_86 : decode cX7_soonest 86 = .ok (.ireturn, 1) := by decide +kernel
theorem dX7_soon_0 : decode cX7_soon 0 = .ok (.iload_n 1, 1) := by decide +kernel
theorem dX7_soon_1 : decode cX7_soon 1 = .ok (.invokestatic 169, 3) := by decide +kernel
theorem dX7_soon_4 : decode cX7_soon 4 = .ok (.ifCond .ne 6, 3) := by decide +kernel
theorem dX7_soon_7 : decode cX7_soon 7 = .ok (.bipush (-3), 2) := by decide +kernel
theorem dX7_soon_9 : decode cX7_soon 9 = .ok (.ireturn, 1) := by decide +kernel
theorem dX7_soon_10 : decode cX7_soon 10 = .ok (.aload_n 0, 1) := by decide +kernel
theorem dX7_soon_11 : decode cX7_soon 11 = .ok (.invokevirtual 172, 3) := by decide +kernel
theorem dX7_soon_14 : decode cX7_soon 14 = .ok (.istore_n 2, 1) := by decide +kernel
theorem dX7_soon_15 : decode cX7_soon 15 = .ok (.iload_n 2, 1) := by decide +kernel
theorem dX7_soon_16 : decode cX7_soon 16 = .ok (.aload_n 0, 1) := by decide +kernel
theorem dX7_soon_17 : decode cX7_soon 17 = .ok (.getfield 7, 3) := by decide +kernel
theorem dX7_soon_20 : decode cX7_soon 20 = .ok (.bipush 28, 2) := by decide +kernel
theorem dX7_soon_22 : decode cX7_soon 22 = .ok (.iaload, 1) := by decide +kernel
theorem dX7_soon_23 : decode cX7_soon 23 = .ok (.imul, 1) := by decide +kernel
theorem dX7_soon_24 : decode cX7_soon 24 = .ok (.istore_n 3, 1) := by decide +kernel
theorem dX7_soon_25 : decode cX7_soon 25 = .ok (.aload_n 0, 1) := by decide +kernel
theorem dX7_soon_26 : decode cX7_soon 26 = .ok (.iconst 0, 1) := by decide +kernel
theorem dX7_soon_27 : decode cX7_soon 27 = .ok (.invokevirtual 175, 3) := by decide +kernel
theorem dX7_soon_30 : decode cX7_soon 30 = .ok (.invokestatic 150, 3) := by decide +kernel
theorem dX7_soon_33 : decode cX7_soon 33 = .ok (.istore 4, 2) := by decide +kernel
theorem dX7_soon_35 : decode cX7_soon 35 = .ok (.iload_n 2, 1) := by decide +kernel
theorem dX7_soon_36 : decode cX7_soon 36 = .ok (.ifCond .lt 7, 3) := by decide +kernel
theorem dX7_soon_39 : decode cX7_soon 39 = .ok (.iload_n 1, 1) := by decide +kernel
theorem dX7_soon_40 : decode cX7_soon 40 = .ok (.ifCond .ne 7, 3) := by decide +kernel
theorem dX7_soon_43 : decode cX7_soon 43 = .ok (.iload_n 2, 1) := by decide +kernel
theorem dX7_soon_44 : decode cX7_soon 44 = .ok (.goto 15, 3) := by decide +kernel
theorem dX7_soon_47 : decode cX7_soon 47 = .ok (.iload_n 3, 1) := by decide +kernel
theorem dX7_soon_48 : decode cX7_soon 48 = .ok (.iload 4, 2) := by decide +kernel
theorem dX7_soon_50 : decode cX7_soon 50 = .ok (.if_icmp .ge 7, 3) := by decide +kernel
theorem dX7_soon_53 : decode cX7_soon 53 = .ok (.iload_n 3, 1) := by decide +kernel
theorem dX7_soon_54 : decode cX7_soon 54 = .ok (.goto 5, 3) := by decide +kernel
theorem dX7_soon_57 : decode cX7_soon 57 = .ok (.iload 4, 2) := by decide +kernel
theorem dX7_soon_59 : decode cX7_soon 59 = .ok (.ireturn, 1) := by decide +kernel
theorem dX7_findPlan_0 : decode cX7_findPlan 0 = .ok (.aload_n 0, 1) := by decide +kernel
theorem dX7_findPlan_1 : decode cX7_findPlan 1 = .ok (.getfield 7, 3) := by decide +kernel
theorem dX7_findPlan_4 : decode cX7_findPlan 4 = .ok (.iconst 0, 1) := by decide +kernel
theorem dX7_findPlan_5 : decode cX7_findPlan 5 = .ok (.iaload, 1) := by decide +kernel
theorem dX7_findPlan_6 : decode cX7_findPlan 6 = .ok (.istore_n 2, 1) := by decide +kernel
theorem dX7_findPlan_7 : decode cX7_findPlan 7 = .ok (.iload_n 2, 1) := by decide +kernel
theorem dX7_findPlan_8 : decode cX7_findPlan 8 = .ok (.ifCond .lt 175, 3) := by decide +kernel
theorem dX7_findPlan_11 : decode cX7_findPlan 11 = .ok (.iconst 0, 1) := by decide +kernel
theorem dX7_findPlan_12 : decode cX7_findPlan 12 = .ok (.istore_n 3, 1) := by decide +kernel
theorem dX7_findPlan_13 : decode cX7_findPlan 13 = .ok (.iload_n 3, 1) := by decide +kernel
theorem dX7_findPlan_14 : decode cX7_findPlan 14 = .ok (.bipush 64, 2) := by decide +kernel
theorem dX7_findPlan_16 : decode cX7_findPlan 16 = .ok (.if_icmp .ge 161, 3) := by decide +kernel
theorem dX7_findPlan_19 : decode cX7_findPlan 19 = .ok (.iconst 0, 1) := by decide +kernel
theorem dX7_findPlan_20 : decode cX7_findPlan 20 = .ok (.istore 4, 2) := by decide +kernel
theorem dX7_findPlan_22 : decode cX7_findPlan 22 = .ok (.iload_n 2, 1) := by decide +kernel
theorem dX7_findPlan_23 : decode cX7_findPlan 23 = .ok (.aload_n 0, 1) := by decide +kernel
theorem dX7_findPlan_24 : decode cX7_findPlan 24 = .ok (.getfield 7, 3) := by decide +kernel
theorem dX7_findPlan_27 : decode cX7_findPlan 27 = .ok (.iconst 0, 1) := by decide +kernel
theorem dX7_findPlan_28 : decode cX7_findPlan 28 = .ok (.iaload, 1) := by decide +kernel
theorem dX7_findPlan_29 : decode cX7_findPlan 29 = .ok (.if_icmp .ge 129, 3) := by decide +kernel
theorem dX7_findPlan_32 : decode cX7_findPlan 32 = .ok (.aload_n 0, 1) := by decide +kernel
theorem dX7_findPlan_33 : decode cX7_findPlan 33 = .ok (.getfield 32, 3) := by decide +kernel
theorem dX7_findPlan_36 : decode cX7_findPlan 36 = .ok (.bipush 64, 2) := by decide +kernel
theorem dX7_findPlan_38 : decode cX7_findPlan 38 = .ok (.iload_n 2, 1) := by decide +kernel
theorem dX7_findPlan_39 : decode cX7_findPlan 39 = .ok (.iconst 1, 1) := by decide +kernel
theorem dX7_findPlan_40 : decode cX7_findPlan 40 = .ok (.iadd, 1) := by decide +kernel
theorem dX7_findPlan_41 : decode cX7_findPlan 41 = .ok (.imul, 1) := by decide +kernel
theorem dX7_findPlan_42 : decode cX7_findPlan 42 = .ok (.iload_n 3, 1) := by decide +kernel
theorem dX7_findPlan_43 : decode cX7_findPlan 43 = .ok (.iadd, 1) := by decide +kernel
theorem dX7_findPlan_44 : decode cX7_findPlan 44 = .ok (.iaload, 1) := by decide +kernel
theorem dX7_findPlan_45 : decode cX7_findPlan 45 = .ok (.istore 4, 2) := by decide +kernel
theorem dX7_findPlan_47 : decode cX7_findPlan 47 = .ok (.iconst 0, 1) := by decide +kernel
theorem dX7_findPlan_48 : decode cX7_findPlan 48 = .ok (.istore 5, 2) := by decide +kernel
theorem dX7_findPlan_50 : decode cX7_findPlan 50 = .ok (.iload 5, 2) := by decide +kernel
theorem dX7_findPlan_52 : decode cX7_findPlan 52 = .ok (.aload_n 0, 1) := by decide +kernel
theorem dX7_findPlan_53 : decode cX7_findPlan 53 = .ok (.getfield 7, 3) := by decide +kernel
theorem dX7_findPlan_56 : decode cX7_findPlan 56 = .ok (.bipush 7, 2) := by decide +kernel
theorem dX7_findPlan_58 : decode cX7_findPlan 58 = .ok (.iaload, 1) := by decide +kernel
theorem dX7_findPlan_59 : decode cX7_findPlan 59 = .ok (.if_icmp .ge 99, 3) := by decide +kernel
theorem dX7_findPlan_62 : decode cX7_findPlan 62 = .ok (.aload_n 0, 1) := by decide +kernel
theorem dX7_findPlan_63 : decode cX7_findPlan 63 = .ok (.iload_n 2, 1) := by decide +kernel
theorem dX7_findPlan_64 : decode cX7_findPlan 64 = .ok (.invokevirtual 147, 3) := by decide +kernel
theorem dX7_findPlan_67 : decode cX7_findPlan 67 = .ok (.ifCond .eq 91, 3) := by decide +kernel
theorem dX7_findPlan_70 : decode cX7_findPlan 70 = .ok (.iload_n 3, 1) := by decide +kernel
theorem dX7_findPlan_71 : decode cX7_findPlan 71 = .ok (.iload_n 1, 1) := by decide +kernel
theorem dX7_findPlan_72 : decode cX7_findPlan 72 = .ok (.ior, 1) := by decide +kernel
theorem dX7_findPlan_73 : decode cX7_findPlan 73 = .ok (.iload 5, 2) := by decide +kernel
theorem dX7_findPlan_75 : decode cX7_findPlan 75 = .ok (.invokestatic 160, 3) := by decide +kernel
theorem dX7_findPlan_78 : decode cX7_findPlan 78 = .ok (.ifCond .ne 24, 3) := by decide +kernel
theorem dX7_findPlan_81 : decode cX7_findPlan 81 = .ok (.aload_n 0, 1) := by decide +kernel
theorem dX7_findPlan_82 : decode cX7_findPlan 82 = .ok (.iload 5, 2) := by decide +kernel
theorem dX7_findPlan_84 : decode cX7_findPlan 84 = .ok (.invokevirtual 139, 3) := by decide +kernel
theorem dX7_findPlan_87 : decode cX7_findPlan 87 = .ok (.aload_n 0, 1) := by decide +kernel
theorem dX7_findPlan_88 : decode cX7_findPlan 88 = .ok (.getfield 7, 3) := by decide +kernel
theorem dX7_findPlan_91 : decode cX7_findPlan 91 = .ok (.iconst 1, 1) := by decide +kernel
theorem dX7_findPlan_92 : decode cX7_findPlan 92 = .ok (.iload_n 2, 1) := by decide +kernel
theorem dX7_findPlan_93 : decode cX7_findPlan 93 = .ok (.iadd, 1) := by decide +kernel
theorem dX7_findPlan_94 : decode cX7_findPlan 94 = .ok (.iaload, 1) := by decide +kernel
theorem dX7_findPlan_95 : decode cX7_findPlan 95 = .ok (.if_icmp .lt 7, 3) := by decide +kernel
theorem dX7_findPlan_98 : decode cX7_findPlan 98 = .ok (.iconst 1, 1) := by decide +kernel
theorem dX7_findPlan_99 : decode cX7_findPlan 99 = .ok (.goto 4, 3) := by decide +kernel
theorem dX7_findPlan_102 : decode cX7_findPlan 102 = .ok (.iconst 0, 1) := by decide +kernel
theorem dX7_findPlan_103 : decode cX7_findPlan 103 = .ok (.istore 6, 2) := by decide +kernel
theorem dX7_findPlan_105 : decode cX7_findPlan 105 = .ok (.iload 6, 2) := by decide +kernel
theorem dX7_findPlan_107 : decode cX7_findPlan 107 = .ok (.ifCond .eq 26, 3) := by decide +kernel
theorem dX7_findPlan_110 : decode cX7_findPlan 110 = .ok (.aload_n 0, 1) := by decide +kernel
theorem dX7_findPlan_111 : decode cX7_findPlan 111 = .ok (.getfield 32, 3) := by decide +kernel
theorem dX7_findPlan_114 : decode cX7_findPlan 114 = .ok (.bipush 64, 2) := by decide +kernel
theorem dX7_findPlan_116 : decode cX7_findPlan 116 = .ok (.iload_n 2, 1) := by decide +kernel
theorem dX7_findPlan_117 : decode cX7_findPlan 117 = .ok (.iconst 1, 1) := by decide +kernel
theorem dX7_findPlan_118 : decode cX7_findPlan 118 = .ok (.iadd, 1) := by decide +kernel
theorem dX7_findPlan_119 : decode cX7_findPlan 119 = .ok (.imul, 1) := by decide +kernel
theorem dX7_findPlan_120 : decode cX7_findPlan 120 = .ok (.iload_n 3, 1) := by decide +kernel
theorem dX7_findPlan_121 : decode cX7_findPlan 121 = .ok (.iconst 1, 1) := by decide +kernel
theorem dX7_findPlan_122 : decode cX7_findPlan 122 = .ok (.iload 5, 2) := by decide +kernel
theorem dX7_findPlan_124 : decode cX7_findPlan 124 = .ok (.ishl, 1) := by decide +kernel
theorem dX7_findPlan_125 : decode cX7_findPlan 125 = .ok (.ior, 1) := by decide +kernel
theorem dX7_findPlan_126 : decode cX7_findPlan 126 = .ok (.iadd, 1) := by decide +kernel
theorem dX7_findPlan_127 : decode cX7_findPlan 127 = .ok (.iaload, 1) := by decide +kernel
theorem dX7_findPlan_128 : decode cX7_findPlan 128 = .ok (.iconst 1, 1) := by decide +kernel
theorem dX7_findPlan_129 : decode cX7_findPlan 129 = .ok (.iadd, 1) := by decide +kernel
theorem dX7_findPlan_130 : decode cX7_findPlan 130 = .ok (.goto 4, 3) := by decide +kernel
theorem dX7_findPlan_133 : decode cX7_findPlan 133 = .ok (.iconst 0, 1) := by decide +kernel
theorem dX7_findPlan_134 : decode cX7_findPlan 134 = .ok (.istore 7, 2) := by decide +kernel
theorem dX7_findPlan_136 : decode cX7_findPlan 136 = .ok (.iload 7, 2) := by decide +kernel
theorem dX7_findPlan_138 : decode cX7_findPlan 138 = .ok (.iload 4, 2) := by decide +kernel
theorem dX7_findPlan_140 : decode cX7_findPlan 140 = .ok (.if_icmp .le 8, 3) := by decide +kernel
theorem dX7_findPlan_143 : decode cX7_findPlan 143 = .ok (.iload 7, 2) := by decide +kernel
theorem dX7_findPlan_145 : decode cX7_findPlan 145 = .ok (.goto 5, 3) := by decide +kernel
theorem dX7_findPlan_148 : decode cX7_findPlan 148 = .ok (.iload 4, 2) := by decide +kernel
theorem dX7_findPlan_150 : decode cX7_findPlan 150 = .ok (.istore 4, 2) := by decide +kernel
theorem dX7_findPlan_152 : decode cX7_findPlan 152 = .ok (.iinc 5 1, 3) := by decide +kernel
theorem dX7_findPlan_155 : decode cX7_findPlan 155 = .ok (.goto (-105), 3) := by decide +kernel
theorem dX7_findPlan_158 : decode cX7_findPlan 158 = .ok (.aload_n 0, 1) := by decide +kernel
theorem dX7_findPlan_159 : decode cX7_findPlan 159 = .ok (.getfield 32, 3) := by decide +kernel
theorem dX7_findPlan_162 : decode cX7_findPlan 162 = .ok (.bipush 64, 2) := by decide +kernel
theorem dX7_findPlan_164 : decode cX7_findPlan 164 = .ok (.iload_n 2, 1) := by decide +kernel
theorem dX7_findPlan_165 : decode cX7_findPlan 165 = .ok (.imul, 1) := by decide +kernel
theorem dX7_findPlan_166 : decode cX7_findPlan 166 = .ok (.iload_n 3, 1) := by decide +kernel
theorem dX7_findPlan_167 : decode cX7_findPlan 167 = .ok (.iadd, 1) := by decide +kernel
theorem dX7_findPlan_168 : decode cX7_findPlan 168 = .ok (.iload 4, 2) := by decide +kernel
theorem dX7_findPlan_170 : decode cX7_findPlan 170 = .ok (.iastore, 1) := by decide +kernel
theorem dX7_findPlan_171 : decode cX7_findPlan 171 = .ok (.iinc 3 1, 3) := by decide +kernel
theorem dX7_findPlan_174 : decode cX7_findPlan 174 = .ok (.goto (-161), 3) := by decide +kernel
theorem dX7_findPlan_177 : decode cX7_findPlan 177 = .ok (.iinc 2 (-1), 3) := by decide +kernel
theorem dX7_findPlan_180 : decode cX7_findPlan 180 = .ok (.goto (-173), 3) := by decide +kernel
theorem dX7_findPlan_183 : decode cX7_findPlan 183 = .ok (.return_, 1) := by decide +kernel
theorem dX7_plan_0 : decode cX7_plan 0 = .ok (.iload_n 1, 1) := by decide +kernel
theorem dX7_plan_1 : decode cX7_plan 1 = .ok (.iconst (-1), 1) := by decide +kernel
theorem dX7_plan_2 : decode cX7_plan 2 = .ok (.if_icmp .eq 14, 3) := by decide +kernel
theorem dX7_plan_5 : decode cX7_plan 5 = .ok (.aload_n 0, 1) := by decide +kernel
theorem dX7_plan_6 : decode cX7_plan 6 = .ok (.iload_n 1, 1) := by decide +kernel
theorem dX7_plan_7 : decode cX7_plan 7 = .ok (.invokevirtual 123, 3) := by decide +kernel
theorem dX7_plan_10 : decode cX7_plan 10 = .ok (.ifCond .ne 6, 3) := by decide +kernel
theorem dX7_plan_13 : decode cX7_plan 13 = .ok (.bipush (-2), 2) := by decide +kernel
theorem dX7_plan_15 : decode cX7_plan 15 = .ok (.ireturn, 1) := by decide +kernel
theorem dX7_plan_16 : decode cX7_plan 16 = .ok (.aload_n 0, 1) := by decide +kernel
theorem dX7_plan_17 : decode cX7_plan 17 = .ok (.aload_n 0, 1) := by decide +kernel
theorem dX7_plan_18 : decode cX7_plan 18 = .ok (.getfield 13, 3) := by decide +kernel
theorem dX7_plan_21 : decode cX7_plan 21 = .ok (.iconst 5, 1) := by decide +kernel
theorem dX7_plan_22 : decode cX7_plan 22 = .ok (.iaload, 1) := by decide +kernel
theorem dX7_plan_23 : decode cX7_plan 23 = .ok (.invokevirtual 178, 3) := by decide +kernel
theorem dX7_plan_26 : decode cX7_plan 26 = .ok (.iload_n 1, 1) := by decide +kernel
theorem dX7_plan_27 : decode cX7_plan 27 = .ok (.ifCond .ge 10, 3) := by decide +kernel
theorem dX7_plan_30 : decode cX7_plan 30 = .ok (.aload_n 0, 1) := by decide +kernel
theorem dX7_plan_31 : decode cX7_plan 31 = .ok (.getfield 32, 3) := by decide +kernel
theorem dX7_plan_34 : decode cX7_plan 34 = .ok (.iconst 0, 1) := by decide +kernel
theorem dX7_plan_35 : decode cX7_plan 35 = .ok (.iaload, 1) := by decide +kernel
theorem dX7_plan_36 : decode cX7_plan 36 = .ok (.ireturn, 1) := by decide +kernel
theorem dX7_plan_37 : decode cX7_plan 37 = .ok (.iconst 0, 1) := by decide +kernel
theorem dX7_plan_38 : decode cX7_plan 38 = .ok (.istore_n 2, 1) := by decide +kernel
theorem dX7_plan_39 : decode cX7_plan 39 = .ok (.iconst (-1), 1) := by decide +kernel
theorem dX7_plan_40 : decode cX7_plan 40 = .ok (.istore_n 3, 1) := by decide +kernel
theorem dX7_plan_41 : decode cX7_plan 41 = .ok (.iconst 0, 1) := by decide +kernel
theorem dX7_plan_42 : decode cX7_plan 42 = .ok (.istore 4, 2) := by decide +kernel
theorem dX7_plan_44 : decode cX7_plan 44 = .ok (.iload 4, 2) := by decide +kernel
theorem dX7_plan_46 : decode cX7_plan 46 = .ok (.iload_n 1, 1) := by decide +kernel
theorem dX7_plan_47 : decode cX7_plan 47 = .ok (.if_icmp .gt 145, 3) := by decide +kernel
theorem dX7_plan_50 : decode cX7_plan 50 = .ok (.iconst (-1), 1) := by decide +kernel
theorem dX7_plan_51 : decode cX7_plan 51 = .ok (.istore_n 3, 1) := by decide +kernel
theorem dX7_plan_52 : decode cX7_plan 52 = .ok (.aload_n 0, 1) := by decide +kernel
theorem dX7_plan_53 : decode cX7_plan 53 = .ok (.getfield 7, 3) := by decide +kernel
theorem dX7_plan_56 : decode cX7_plan 56 = .ok (.bipush 7, 2) := by decide +kernel
theorem dX7_plan_58 : decode cX7_plan 58 = .ok (.iaload, 1) := by decide +kernel
theorem dX7_plan_59 : decode cX7_plan 59 = .ok (.iconst 1, 1) := by decide +kernel
theorem dX7_plan_60 : decode cX7_plan 60 = .ok (.isub, 1) := by decide +kernel
theorem dX7_plan_61 : decode cX7_plan 61 = .ok (.istore 5, 2) := by decide +kernel
theorem dX7_plan_63 : decode cX7_plan 63 = .ok (.iload 5, 2) := by decide +kernel
theorem dX7_plan_65 : decode cX7_plan 65 = .ok (.ifCond .lt 107, 3) := by decide +kernel
theorem dX7_plan_68 : decode cX7_plan 68 = .ok (.aload_n 0, 1) := by decide +kernel
theorem dX7_plan_69 : decode cX7_plan 69 = .ok (.iload 4, 2) := by decide +kernel
theorem dX7_plan_71 : decode cX7_plan 71 = .ok (.invokevirtual 147, 3) := by decide +kernel
theorem dX7_plan_74 : decode cX7_plan 74 = .ok (.ifCond .eq 98, 3) := by decide +kernel
theorem dX7_plan_77 : decode cX7_plan 77 = .ok (.iload_n 2, 1) := by decide +kernel
theorem dX7_plan_78 : decode cX7_plan 78 = .ok (.aload_n 0, 1) := by decide +kernel
theorem dX7_plan_79 : decode cX7_plan 79 = .ok (.getfield 13, 3) := by decide +kernel
theorem dX7_plan_82 : decode cX7_plan 82 = .ok (.iconst 5, 1) := by decide +kernel
theorem dX7_plan_83 : decode cX7_plan 83 = .ok (.iaload, 1) := by decide +kernel
theorem dX7_plan_84 : decode cX7_plan 84 = .ok (.ior, 1) := by decide +kernel
theorem dX7_plan_85 : decode cX7_plan 85 = .ok (.iload 5, 2) := by decide +kernel
theorem dX7_plan_87 : decode cX7_plan 87 = .ok (.invokestatic 160, 3) := by decide +kernel
theorem dX7_plan_90 : decode cX7_plan 90 = .ok (.ifCond .ne 25, 3) := by decide +kernel
theorem dX7_plan_93 : decode cX7_plan 93 = .ok (.aload_n 0, 1) := by decide +kernel
theorem dX7_plan_94 : decode cX7_plan 94 = .ok (.iload 5, 2) := by decide +kernel
theorem dX7_plan_96 : decode cX7_plan 96 = .ok (.invokevirtual 139, 3) := by decide +kernel
theorem dX7_plan_99 : decode cX7_plan 99 = .ok (.aload_n 0, 1) := by decide +kernel
theorem dX7_plan_100 : decode cX7_plan 100 = .ok (.getfield 7, 3) := by decide +kernel
theorem dX7_plan_103 : decode cX7_plan 103 = .ok (.iconst 1, 1) := by decide +kernel
theorem dX7_plan_104 : decode cX7_plan 104 = .ok (.iload 4, 2) := by decide +kernel
theorem dX7_plan_106 : decode cX7_plan 106 = .ok (.iadd, 1) := by decide +kernel
theorem dX7_plan_107 : decode cX7_plan 107 = .ok (.iaload, 1) := by decide +kernel
theorem dX7_plan_108 : decode cX7_plan 108 = .ok (.if_icmp .lt 7, 3) := by decide +kernel
theorem dX7_plan_111 : decode cX7_plan 111 = .ok (.iconst 1, 1) := by decide +kernel
theorem dX7_plan_112 : decode cX7_plan 112 = .ok (.goto 4, 3) := by decide +kernel
theorem dX7_plan_115 : decode cX7_plan 115 = .ok (.iconst 0, 1) := by decide +kernel
theorem dX7_plan_116 : decode cX7_plan 116 = .ok (.istore 6, 2) := by decide +kernel
theorem dX7_plan_118 : decode cX7_plan 118 = .ok (.iload 6, 2) := by decide +kernel
theorem dX7_plan_120 : decode cX7_plan 120 = .ok (.ifCond .eq 44, 3) := by decide +kernel
theorem dX7_plan_123 : decode cX7_plan 123 = .ok (.aload_n 0, 1) := by decide +kernel
theorem dX7_plan_124 : decode cX7_plan 124 = .ok (.getfield 32, 3) := by decide +kernel
theorem dX7_plan_127 : decode cX7_plan 127 = .ok (.bipush 64, 2) := by decide +kernel
theorem dX7_plan_129 : decode cX7_plan 129 = .ok (.iload 4, 2) := by decide +kernel
theorem dX7_plan_131 : decode cX7_plan 131 = .ok (.iconst 1, 1) := by decide +kernel
theorem dX7_plan_132 : decode cX7_plan 132 = .ok (.iadd, 1) := by decide +kernel
theorem dX7_plan_133 : decode cX7_plan 133 = .ok (.imul, 1) := by decide +kernel
theorem dX7_plan_134 : decode cX7_plan 134 = .ok (.iload_n 2, 1) := by decide +kernel
theorem dX7_plan_135 : decode cX7_plan 135 = .ok (.iconst 1, 1) := by decide +kernel
theorem dX7_plan_136 : decode cX7_plan 136 = .ok (.iload 5, 2) := by decide +kernel
theorem dX7_plan_138 : decode cX7_plan 138 = .ok (.ishl, 1) := by decide +kernel
theorem dX7_plan_139 : decode cX7_plan 139 = .ok (.ior, 1) := by decide +kernel
theorem dX7_plan_140 : decode cX7_plan 140 = .ok (.iadd, 1) := by decide +kernel
theorem dX7_plan_141 : decode cX7_plan 141 = .ok (.iaload, 1) := by decide +kernel
theorem dX7_plan_142 : decode cX7_plan 142 = .ok (.iconst 1, 1) := by decide +kernel
theorem dX7_plan_143 : decode cX7_plan 143 = .ok (.iadd, 1) := by decide +kernel
theorem dX7_plan_144 : decode cX7_plan 144 = .ok (.aload_n 0, 1) := by decide +kernel
theorem dX7_plan_145 : decode cX7_plan 145 = .ok (.getfield 32, 3) := by decide +kernel
theorem dX7_plan_148 : decode cX7_plan 148 = .ok (.bipush 64, 2) := by decide +kernel
theorem dX7_plan_150 : decode cX7_plan 150 = .ok (.iload 4, 2) := by decide +kernel
theorem dX7_plan_152 : decode cX7_plan 152 = .ok (.imul, 1) := by decide +kernel
theorem dX7_plan_153 : decode cX7_plan 153 = .ok (.iload_n 2, 1) := by decide +kernel
theorem dX7_plan_154 : decode cX7_plan 154 = .ok (.iadd, 1) := by decide +kernel
theorem dX7_plan_155 : decode cX7_plan 155 = .ok (.iaload, 1) := by decide +kernel
theorem dX7_plan_156 : decode cX7_plan 156 = .ok (.if_icmp .ne 8, 3) := by decide +kernel
theorem dX7_plan_159 : decode cX7_plan 159 = .ok (.iload 5, 2) := by decide +kernel
theorem dX7_plan_161 : decode cX7_plan 161 = .ok (.goto 4, 3) := by decide +kernel
theorem dX7_plan_164 : decode cX7_plan 164 = .ok (.iload_n 3, 1) := by decide +kernel
theorem dX7_plan_165 : decode cX7_plan 165 = .ok (.istore_n 3, 1) := by decide +kernel
theorem dX7_plan_166 : decode cX7_plan 166 = .ok (.iinc 5 (-1), 3) := by decide +kernel
theorem dX7_plan_169 : decode cX7_plan 169 = .ok (.goto (-106), 3) := by decide +kernel
theorem dX7_plan_172 : decode cX7_plan 172 = .ok (.iload_n 2, 1) := by decide +kernel
theorem dX7_plan_173 : decode cX7_plan 173 = .ok (.iload_n 3, 1) := by decide +kernel
theorem dX7_plan_174 : decode cX7_plan 174 = .ok (.ifCond .ge 7, 3) := by decide +kernel
theorem dX7_plan_177 : decode cX7_plan 177 = .ok (.iconst 0, 1) := by decide +kernel
theorem dX7_plan_178 : decode cX7_plan 178 = .ok (.goto 6, 3) := by decide +kernel
theorem dX7_plan_181 : decode cX7_plan 181 = .ok (.iconst 1, 1) := by decide +kernel
theorem dX7_plan_182 : decode cX7_plan 182 = .ok (.iload_n 3, 1) := by decide +kernel
theorem dX7_plan_183 : decode cX7_plan 183 = .ok (.ishl, 1) := by decide +kernel
theorem dX7_plan_184 : decode cX7_plan 184 = .ok (.ior, 1) := by decide +kernel
theorem dX7_plan_185 : decode cX7_plan 185 = .ok (.istore_n 2, 1) := by decide +kernel
theorem dX7_plan_186 : decode cX7_plan 186 = .ok (.iinc 4 1, 3) := by decide +kernel
theorem dX7_plan_189 : decode cX7_plan 189 = .ok (.goto (-145), 3) := by decide +kernel
theorem dX7_plan_192 : decode cX7_plan 192 = .ok (.iload_n 3, 1) := by decide +kernel
theorem dX7_plan_193 : decode cX7_plan 193 = .ok (.ireturn, 1) := by decide +kernel
theorem dX7_feel_0 : decode cX7_feel 0 = .ok (.iload_n 1, 1) := by decide +kernel
theorem dX7_feel_1 : decode cX7_feel 1 = .ok (.i2l, 1) := by decide +kernel
theorem dX7_feel_2 : decode cX7_feel 2 = .ok (.lconst 0, 1) := by decide +kernel
theorem dX7_feel_3 : decode cX7_feel 3 = .ok (.ldc2_w 181, 3) := by decide +kernel
theorem dX7_feel_6 : decode cX7_feel 6 = .ok (.invokestatic 45, 3) := by decide +kernel
theorem dX7_feel_9 : decode cX7_feel 9 = .ok (.ifCond .eq 10, 3) := by decide +kernel
theorem dX7_feel_12 : decode cX7_feel 12 = .ok (.iload_n 2, 1) := by decide +kernel
theorem dX7_feel_13 : decode cX7_feel 13 = .ok (.invokestatic 169, 3) := by decide +kernel
theorem dX7_feel_16 : decode cX7_feel 16 = .ok (.ifCond .ne 6, 3) := by decide +kernel
theorem dX7_feel_19 : decode cX7_feel 19 = .ok (.bipush (-3), 2) := by decide +kernel
theorem dX7_feel_21 : decode cX7_feel 21 = .ok (.ireturn, 1) := by decide +kernel
theorem dX7_feel_22 : decode cX7_feel 22 = .ok (.iconst 1, 1) := by decide +kernel
theorem dX7_feel_23 : decode cX7_feel 23 = .ok (.aload_n 0, 1) := by decide +kernel
theorem dX7_feel_24 : decode cX7_feel 24 = .ok (.getfield 7, 3) := by decide +kernel
theorem dX7_feel_27 : decode cX7_feel 27 = .ok (.bipush 7, 2) := by decide +kernel
theorem dX7_feel_29 : decode cX7_feel 29 = .ok (.iaload, 1) := by decide +kernel
theorem dX7_feel_30 : decode cX7_feel 30 = .ok (.ishl, 1) := by decide +kernel
theorem dX7_feel_31 : decode cX7_feel 31 = .ok (.iconst 1, 1) := by decide +kernel
theorem dX7_feel_32 : decode cX7_feel 32 = .ok (.isub, 1) := by decide +kernel
theorem dX7_feel_33 : decode cX7_feel 33 = .ok (.aload_n 0, 1) := by decide +kernel
theorem dX7_feel_34 : decode cX7_feel 34 = .ok (.getfield 13, 3) := by decide +kernel
theorem dX7_feel_37 : decode cX7_feel 37 = .ok (.iconst 5, 1) := by decide +kernel
theorem dX7_feel_38 : decode cX7_feel 38 = .ok (.iaload, 1) := by decide +kernel
theorem dX7_feel_39 : decode cX7_feel 39 = .ok (.iconst (-1), 1) := by decide +kernel
theorem dX7_feel_40 : decode cX7_feel 40 = .ok (.ixor, 1) := by decide +kernel
theorem dX7_feel_41 : decode cX7_feel 41 = .ok (.iand, 1) := by decide +kernel
theorem dX7_feel_42 : decode cX7_feel 42 = .ok (.istore_n 3, 1) := by decide +kernel
theorem dX7_feel_43 : decode cX7_feel 43 = .ok (.iload_n 3, 1) := by decide +kernel
theorem dX7_feel_44 : decode cX7_feel 44 = .ok (.invokestatic 150, 3) := by decide +kernel
theorem dX7_feel_47 : decode cX7_feel 47 = .ok (.iload_n 1, 1) := by decide +kernel
theorem dX7_feel_48 : decode cX7_feel 48 = .ok (.if_icmp .ge 10, 3) := by decide +kernel
theorem dX7_feel_51 : decode cX7_feel 51 = .ok (.iload_n 3, 1) := by decide +kernel
theorem dX7_feel_52 : decode cX7_feel 52 = .ok (.invokestatic 150, 3) := by decide +kernel
theorem dX7_feel_55 : decode cX7_feel 55 = .ok (.goto 4, 3) := by decide +kernel
theorem dX7_feel_58 : decode cX7_feel 58 = .ok (.iload_n 1, 1) := by decide +kernel
theorem dX7_feel_59 : decode cX7_feel 59 = .ok (.istore 4, 2) := by decide +kernel
theorem dX7_feel_61 : decode cX7_feel 61 = .ok (.iconst 0, 1) := by decide +kernel
theorem dX7_feel_62 : decode cX7_feel 62 = .ok (.istore 5, 2) := by decide +kernel
theorem dX7_feel_64 : decode cX7_feel 64 = .ok (.bipush 7, 2) := by decide +kernel
theorem dX7_feel_66 : decode cX7_feel 66 = .ok (.istore 6, 2) := by decide +kernel
theorem dX7_feel_68 : decode cX7_feel 68 = .ok (.iconst 0, 1) := by decide +kernel
theorem dX7_feel_69 : decode cX7_feel 69 = .ok (.istore 7, 2) := by decide +kernel
theorem dX7_feel_71 : decode cX7_feel 71 = .ok (.iload 7, 2) := by decide +kernel
theorem dX7_feel_73 : decode cX7_feel 73 = .ok (.bipush 64, 2) := by decide +kernel
theorem dX7_feel_75 : decode cX7_feel 75 = .ok (.if_icmp .ge 85, 3) := by decide +kernel
theorem dX7_feel_78 : decode cX7_feel 78 = .ok (.iload 7, 2) := by decide +kernel
theorem dX7_feel_80 : decode cX7_feel 80 = .ok (.iload_n 3, 1) := by decide +kernel
theorem dX7_feel_81 : decode cX7_feel 81 = .ok (.iconst (-1), 1) := by decide +kernel
theorem dX7_feel_82 : decode cX7_feel 82 = .ok (.ixor, 1) := by decide +kernel
theorem dX7_feel_83 : decode cX7_feel 83 = .ok (.iand, 1) := by decide +kernel
theorem dX7_feel_84 : decode cX7_feel 84 = .ok (.ifCond .ne 70, 3) := by decide +kernel
theorem dX7_feel_87 : decode cX7_feel 87 = .ok (.iload 7, 2) := by decide +kernel
theorem dX7_feel_89 : decode cX7_feel 89 = .ok (.invokestatic 150, 3) := by decide +kernel
theorem dX7_feel_92 : decode cX7_feel 92 = .ok (.iload 4, 2) := by decide +kernel
theorem dX7_feel_94 : decode cX7_feel 94 = .ok (.if_icmp .ne 60, 3) := by decide +kernel
theorem dX7_feel_97 : decode cX7_feel 97 = .ok (.aload_n 0, 1) := by decide +kernel
theorem dX7_feel_98 : decode cX7_feel 98 = .ok (.aload_n 0, 1) := by decide +kernel
theorem dX7_feel_99 : decode cX7_feel 99 = .ok (.getfield 13, 3) := by decide +kernel
theorem dX7_feel_102 : decode cX7_feel 102 = .ok (.iconst 5, 1) := by decide +kernel
theorem dX7_feel_103 : decode cX7_feel 103 = .ok (.iaload, 1) := by decide +kernel
theorem dX7_feel_104 : decode cX7_feel 104 = .ok (.iload 7, 2) := by decide +kernel
theorem dX7_feel_106 : decode cX7_feel 106 = .ok (.ior, 1) := by decide +kernel
theorem dX7_feel_107 : decode cX7_feel 107 = .ok (.invokevirtual 178, 3) := by decide +kernel
theorem dX7_feel_110 : decode cX7_feel 110 = .ok (.aload_n 0, 1) := by decide +kernel
theorem dX7_feel_111 : decode cX7_feel 111 = .ok (.getfield 32, 3) := by decide +kernel
theorem dX7_feel_114 : decode cX7_feel 114 = .ok (.iconst 0, 1) := by decide +kernel
theorem dX7_feel_115 : decode cX7_feel 115 = .ok (.iaload, 1) := by decide +kernel
theorem dX7_feel_116 : decode cX7_feel 116 = .ok (.iload 6, 2) := by decide +kernel
theorem dX7_feel_118 : decode cX7_feel 118 = .ok (.if_icmp .ge 8, 3) := by decide +kernel
theorem dX7_feel_121 : decode cX7_feel 121 = .ok (.iload 7, 2) := by decide +kernel
theorem dX7_feel_123 : decode cX7_feel 123 = .ok (.goto 5, 3) := by decide +kernel
theorem dX7_feel_126 : decode cX7_feel 126 = .ok (.iload 5, 2) := by decide +kernel
theorem dX7_feel_128 : decode cX7_feel 128 = .ok (.istore 5, 2) := by decide +kernel
theorem dX7_feel_130 : decode cX7_feel 130 = .ok (.aload_n 0, 1) := by decide +kernel
theorem dX7_feel_131 : decode cX7_feel 131 = .ok (.getfield 32, 3) := by decide +kernel
theorem dX7_feel_134 : decode cX7_feel 134 = .ok (.iconst 0, 1) := by decide +kernel
theorem dX7_feel_135 : decode cX7_feel 135 = .ok (.iaload, 1) := by decide +kernel
theorem dX7_feel_136 : decode cX7_feel 136 = .ok (.iload 6, 2) := by decide +kernel
theorem dX7_feel_138 : decode cX7_feel 138 = .ok (.if_icmp .ge 12, 3) := by decide +kernel
theorem dX7_feel_141 : decode cX7_feel 141 = .ok (.aload_n 0, 1) := by decide +kernel
theorem dX7_feel_142 : decode cX7_feel 142 = .ok (.getfield 32, 3) := by decide +kernel
theorem dX7_feel_145 : decode cX7_feel 145 = .ok (.iconst 0, 1) := by decide +kernel
theorem dX7_feel_146 : decode cX7_feel 146 = .ok (.iaload, 1) := by decide +kernel
theorem dX7_feel_147 : decode cX7_feel 147 = .ok (.goto 5, 3) := by decide +kernel
theorem dX7_feel_150 : decode cX7_feel 150 = .ok (.iload 6, 2) := by decide +kernel
theorem dX7_feel_152 : decode cX7_feel 152 = .ok (.istore 6, 2) := by decide +kernel
theorem dX7_feel_154 : decode cX7_feel 154 = .ok (.iinc 7 1, 3) := by decide +kernel
theorem dX7_feel_157 : decode cX7_feel 157 = .ok (.goto (-86), 3) := by decide +kernel
theorem dX7_feel_160 : decode cX7_feel 160 = .ok (.iload_n 2, 1) := by decide +kernel
theorem dX7_feel_161 : decode cX7_feel 161 = .ok (.ifCond .ne 8, 3) := by decide +kernel
theorem dX7_feel_164 : decode cX7_feel 164 = .ok (.iload 5, 2) := by decide +kernel
theorem dX7_feel_166 : decode cX7_feel 166 = .ok (.goto 5, 3) := by decide +kernel
theorem dX7_feel_169 : decode cX7_feel 169 = .ok (.iload 6, 2) := by decide +kernel
theorem dX7_feel_171 : decode cX7_feel 171 = .ok (.ireturn, 1) := by decide +kernel
theorem dX7_names_0 : decode cX7_names 0 = .ok (.iload_n 1, 1) := by decide +kernel
theorem dX7_names_1 : decode cX7_names 1 = .ok (.invokestatic 169, 3) := by decide +kernel
theorem dX7_names_4 : decode cX7_names 4 = .ok (.ifCond .ne 6, 3) := by decide +kernel
theorem dX7_names_7 : decode cX7_names 7 = .ok (.bipush (-3), 2) := by decide +kernel
theorem dX7_names_9 : decode cX7_names 9 = .ok (.ireturn, 1) := by decide +kernel
theorem dX7_names_10 : decode cX7_names 10 = .ok (.iconst 0, 1) := by decide +kernel
theorem dX7_names_11 : decode cX7_names 11 = .ok (.istore_n 2, 1) := by decide +kernel
theorem dX7_names_12 : decode cX7_names 12 = .ok (.iconst 0, 1) := by decide +kernel
theorem dX7_names_13 : decode cX7_names 13 = .ok (.istore_n 3, 1) := by decide +kernel
theorem dX7_names_14 : decode cX7_names 14 = .ok (.iconst 0, 1) := by decide +kernel
theorem dX7_names_15 : decode cX7_names 15 = .ok (.istore 4, 2) := by decide +kernel
theorem dX7_names_17 : decode cX7_names 17 = .ok (.iload 4, 2) := by decide +kernel
theorem dX7_names_19 : decode cX7_names 19 = .ok (.bipush 8, 2) := by decide +kernel
theorem dX7_names_21 : decode cX7_names 21 = .ok (.if_icmp .ge 56, 3) := by decide +kernel
theorem dX7_names_24 : decode cX7_names 24 = .ok (.iload_n 2, 1) := by decide +kernel
theorem dX7_names_25 : decode cX7_names 25 = .ok (.aload_n 0, 1) := by decide +kernel
theorem dX7_names_26 : decode cX7_names 26 = .ok (.iload 4, 2) := by decide +kernel
theorem dX7_names_28 : decode cX7_names 28 = .ok (.invokevirtual 166, 3) := by decide +kernel
theorem dX7_names_31 : decode cX7_names 31 = .ok (.ifCond .ne 10, 3) := by decide +kernel
theorem dX7_names_34 : decode cX7_names 34 = .ok (.iconst 1, 1) := by decide +kernel
theorem dX7_names_35 : decode cX7_names 35 = .ok (.iload 4, 2) := by decide +kernel
theorem dX7_names_37 : decode cX7_names 37 = .ok (.ishl, 1) := by decide +kernel
theorem dX7_names_38 : decode cX7_names 38 = .ok (.goto 4, 3) := by decide +kernel
theorem dX7_names_41 : decode cX7_names 41 = .ok (.iconst 0, 1) := by decide +kernel
theorem dX7_names_42 : decode cX7_names 42 = .ok (.ior, 1) := by decide +kernel
theorem dX7_names_43 : decode cX7_names 43 = .ok (.istore_n 2, 1) := by decide +kernel
theorem dX7_names_44 : decode cX7_names 44 = .ok (.aload_n 0, 1) := by decide +kernel
theorem dX7_names_45 : decode cX7_names 45 = .ok (.iload 4, 2) := by decide +kernel
theorem dX7_names_47 : decode cX7_names 47 = .ok (.invokevirtual 166, 3) := by decide +kernel
theorem dX7_names_50 : decode cX7_names 50 = .ok (.invokestatic 150, 3) := by decide +kernel
theorem dX7_names_53 : decode cX7_names 53 = .ok (.aload_n 0, 1) := by decide +kernel
theorem dX7_names_54 : decode cX7_names 54 = .ok (.iload_n 3, 1) := by decide +kernel
theorem dX7_names_55 : decode cX7_names 55 = .ok (.invokevirtual 166, 3) := by decide +kernel
theorem dX7_names_58 : decode cX7_names 58 = .ok (.invokestatic 150, 3) := by decide +kernel
theorem dX7_names_61 : decode cX7_names 61 = .ok (.if_icmp .ge 8, 3) := by decide +kernel
theorem dX7_names_64 : decode cX7_names 64 = .ok (.iload 4, 2) := by decide +kernel
theorem dX7_names_66 : decode cX7_names 66 = .ok (.goto 4, 3) := by decide +kernel
theorem dX7_names_69 : decode cX7_names 69 = .ok (.iload_n 3, 1) := by decide +kernel
theorem dX7_names_70 : decode cX7_names 70 = .ok (.istore_n 3, 1) := by decide +kernel
theorem dX7_names_71 : decode cX7_names 71 = .ok (.iinc 4 1, 3) := by decide +kernel
theorem dX7_names_74 : decode cX7_names 74 = .ok (.goto (-57), 3) := by decide +kernel
theorem dX7_names_77 : decode cX7_names 77 = .ok (.iload_n 1, 1) := by decide +kernel
theorem dX7_names_78 : decode cX7_names 78 = .ok (.ifCond .ne 7, 3) := by decide +kernel
theorem dX7_names_81 : decode cX7_names 81 = .ok (.iload_n 2, 1) := by decide +kernel
theorem dX7_names_82 : decode cX7_names 82 = .ok (.goto 4, 3) := by decide +kernel
theorem dX7_names_85 : decode cX7_names 85 = .ok (.iload_n 3, 1) := by decide +kernel
theorem dX7_names_86 : decode cX7_names 86 = .ok (.ireturn, 1) := by decide +kernel
theorem dX7_came_0 : decode cX7_came 0 = .ok (.iload_n 1, 1) := by decide +kernel
theorem dX7_came_1 : decode cX7_came 1 = .ok (.i2l, 1) := by decide +kernel
theorem dX7_came_2 : decode cX7_came 2 = .ok (.lconst 0, 1) := by decide +kernel
theorem dX7_came_3 : decode cX7_came 3 = .ok (.iconst 1, 1) := by decide +kernel
theorem dX7_came_4 : decode cX7_came 4 = .ok (.aload_n 0, 1) := by decide +kernel
theorem dX7_came_5 : decode cX7_came 5 = .ok (.getfield 7, 3) := by decide +kernel
theorem dX7_came_8 : decode cX7_came 8 = .ok (.bipush 20, 2) := by decide +kernel
theorem dX7_came_10 : decode cX7_came 10 = .ok (.iaload, 1) := by decide +kernel
theorem dX7_came_11 : decode cX7_came 11 = .ok (.ishl, 1) := by decide +kernel
theorem dX7_came_12 : decode cX7_came 12 = .ok (.iconst 1, 1) := by decide +kernel
theorem dX7_came_13 : decode cX7_came 13 = .ok (.isub, 1) := by decide +kernel
theorem dX7_came_14 : decode cX7_came 14 = .ok (.i2l, 1) := by decide +kernel
theorem dX7_came_15 : decode cX7_came 15 = .ok (.invokestatic 45, 3) := by decide +kernel
theorem dX7_came_18 : decode cX7_came 18 = .ok (.ifCond .ne 6, 3) := by decide +kernel
theorem dX7_came_21 : decode cX7_came 21 = .ok (.bipush (-2), 2) := by decide +kernel
theorem dX7_came_23 : decode cX7_came 23 = .ok (.ireturn, 1) := by decide +kernel
theorem dX7_came_24 : decode cX7_came 24 = .ok (.iconst 0, 1) := by decide +kernel
theorem dX7_came_25 : decode cX7_came 25 = .ok (.istore_n 2, 1) := by decide +kernel
theorem dX7_came_26 : decode cX7_came 26 = .ok (.iconst 0, 1) := by decide +kernel
theorem dX7_came_27 : decode cX7_came 27 = .ok (.istore_n 3, 1) := by decide +kernel
theorem dX7_came_28 : decode cX7_came 28 = .ok (.iload_n 3, 1) := by decide +kernel
theorem dX7_came_29 : decode cX7_came 29 = .ok (.bipush 8, 2) := by decide +kernel
theorem dX7_came_31 : decode cX7_came 31 = .ok (.if_icmp .ge 28, 3) := by decide +kernel
theorem dX7_came_34 : decode cX7_came 34 = .ok (.iload_n 2, 1) := by decide +kernel
theorem dX7_came_35 : decode cX7_came 35 = .ok (.aload_n 0, 1) := by decide +kernel
theorem dX7_came_36 : decode cX7_came 36 = .ok (.iload_n 3, 1) := by decide +kernel
theorem dX7_came_37 : decode cX7_came 37 = .ok (.invokevirtual 166, 3) := by decide +kernel
theorem dX7_came_40 : decode cX7_came 40 = .ok (.iload_n 1, 1) := by decide +kernel
theorem dX7_came_41 : decode cX7_came 41 = .ok (.if_icmp .ne 9, 3) := by decide +kernel
theorem dX7_came_44 : decode cX7_came 44 = .ok (.iconst 1, 1) := by decide +kernel
theorem dX7_came_45 : decode cX7_came 45 = .ok (.iload_n 3, 1) := by decide +kernel
theorem dX7_came_46 : decode cX7_came 46 = .ok (.ishl, 1) := by decide +kernel
theorem dX7_came_47 : decode cX7_came 47 = .ok (.goto 4, 3) := by decide +kernel
theorem dX7_came_50 : decode cX7_came 50 = .ok (.iconst 0, 1) := by decide +kernel
theorem dX7_came_51 : decode cX7_came 51 = .ok (.ior, 1) := by decide +kernel
theorem dX7_came_52 : decode cX7_came 52 = .ok (.istore_n 2, 1) := by decide +kernel
theorem dX7_came_53 : decode cX7_came 53 = .ok (.iinc 3 1, 3) := by decide +kernel
theorem dX7_came_56 : decode cX7_came 56 = .ok (.goto (-28), 3) := by decide +kernel
theorem dX7_came_59 : decode cX7_came 59 = .ok (.iload_n 2, 1) := by decide +kernel
theorem dX7_came_60 : decode cX7_came 60 = .ok (.ireturn, 1) := by decide +kernel
theorem dX7_seen_0 : decode cX7_seen 0 = .ok (.aload_n 0, 1) := by decide +kernel
theorem dX7_seen_1 : decode cX7_seen 1 = .ok (.iload_n 1, 1) := by decide +kernel
theorem dX7_seen_2 : decode cX7_seen 2 = .ok (.invokevirtual 123, 3) := by decide +kernel
theorem dX7_seen_5 : decode cX7_seen 5 = .ok (.ifCond .eq 11, 3) := by decide +kernel
theorem dX7_seen_8 : decode cX7_seen 8 = .ok (.aload_n 0, 1) := by decide +kernel
theorem dX7_seen_9 : decode cX7_seen 9 = .ok (.iload_n 2, 1) := by decide +kernel
theorem dX7_seen_10 : decode cX7_seen 10 = .ok (.invokevirtual 129, 3) := by decide +kernel
theorem dX7_seen_13 : decode cX7_seen 13 = .ok (.ifCond .ne 6, 3) := by decide +kernel
theorem dX7_seen_16 : decode cX7_seen 16 = .ok (.bipush (-2), 2) := by decide +kernel
theorem dX7_seen_18 : decode cX7_seen 18 = .ok (.ireturn, 1) := by decide +kernel
theorem dX7_seen_19 : decode cX7_seen 19 = .ok (.iload_n 3, 1) := by decide +kernel
theorem dX7_seen_20 : decode cX7_seen 20 = .ok (.invokestatic 169, 3) := by decide +kernel
theorem dX7_seen_23 : decode cX7_seen 23 = .ok (.ifCond .ne 6, 3) := by decide +kernel
theorem dX7_seen_26 : decode cX7_seen 26 = .ok (.bipush (-3), 2) := by decide +kernel
theorem dX7_seen_28 : decode cX7_seen 28 = .ok (.ireturn, 1) := by decide +kernel
theorem dX7_seen_29 : decode cX7_seen 29 = .ok (.aload_n 0, 1) := by decide +kernel
theorem dX7_seen_30 : decode cX7_seen 30 = .ok (.getfield 114, 3) := by decide +kernel
theorem dX7_seen_33 : decode cX7_seen 33 = .ok (.bipush 6, 2) := by decide +kernel
theorem dX7_seen_35 : decode cX7_seen 35 = .ok (.if_icmp .ne 6, 3) := by decide +kernel
theorem dX7_seen_38 : decode cX7_seen 38 = .ok (.bipush (-5), 2) := by decide +kernel
theorem dX7_seen_40 : decode cX7_seen 40 = .ok (.ireturn, 1) := by decide +kernel
theorem dX7_seen_41 : decode cX7_seen 41 = .ok (.aload_n 0, 1) := by decide +kernel
theorem dX7_seen_42 : decode cX7_seen 42 = .ok (.getfield 35, 3) := by decide +kernel
theorem dX7_seen_45 : decode cX7_seen 45 = .ok (.iconst 3, 1) := by decide +kernel
theorem dX7_seen_46 : decode cX7_seen 46 = .ok (.aload_n 0, 1) := by decide +kernel
theorem dX7_seen_47 : decode cX7_seen 47 = .ok (.getfield 114, 3) := by decide +kernel
theorem dX7_seen_50 : decode cX7_seen 50 = .ok (.imul, 1) := by decide +kernel
theorem dX7_seen_51 : decode cX7_seen 51 = .ok (.iload_n 1, 1) := by decide +kernel
theorem dX7_seen_52 : decode cX7_seen 52 = .ok (.iastore, 1) := by decide +kernel
theorem dX7_seen_53 : decode cX7_seen 53 = .ok (.aload_n 0, 1) := by decide +kernel
theorem dX7_seen_54 : decode cX7_seen 54 = .ok (.getfield 35, 3) := by decide +kernel
theorem dX7_seen_57 : decode cX7_seen 57 = .ok (.iconst 3, 1) := by decide +kernel
theorem dX7_seen_58 : decode cX7_seen 58 = .ok (.aload_n 0, 1) := by decide +kernel
theorem dX7_seen_59 : decode cX7_seen 59 = .ok (.getfield 114, 3) := by decide +kernel
theorem dX7_seen_62 : decode cX7_seen 62 = .ok (.imul, 1) := by decide +kernel
theorem dX7_seen_63 : decode cX7_seen 63 = .ok (.iconst 1, 1) := by decide +kernel
theorem dX7_seen_64 : decode cX7_seen 64 = .ok (.iadd, 1) := by decide +kernel
theorem dX7_seen_65 : decode cX7_seen 65 = .ok (.iload_n 2, 1) := by decide +kernel
theorem dX7_seen_66 : decode cX7_seen 66 = .ok (.iastore, 1) := by decide +kernel
theorem dX7_seen_67 : decode cX7_seen 67 = .ok (.aload_n 0, 1) := by decide +kernel
theorem dX7_seen_68 : decode cX7_seen 68 = .ok (.getfield 35, 3) := by decide +kernel
theorem dX7_seen_71 : decode cX7_seen 71 = .ok (.iconst 3, 1) := by decide +kernel
theorem dX7_seen_72 : decode cX7_seen 72 = .ok (.aload_n 0, 1) := by decide +kernel
theorem dX7_seen_73 : decode cX7_seen 73 = .ok (.getfield 114, 3) := by decide +kernel
theorem dX7_seen_76 : decode cX7_seen 76 = .ok (.imul, 1) := by decide +kernel
theorem dX7_seen_77 : decode cX7_seen 77 = .ok (.iconst 2, 1) := by decide +kernel
theorem dX7_seen_78 : decode cX7_seen 78 = .ok (.iadd, 1) := by decide +kernel
theorem dX7_seen_79 : decode cX7_seen 79 = .ok (.iload_n 3, 1) := by decide +kernel
theorem dX7_seen_80 : decode cX7_seen 80 = .ok (.iastore, 1) := by decide +kernel
theorem dX7_seen_81 : decode cX7_seen 81 = .ok (.aload_n 0, 1) := by decide +kernel
theorem dX7_seen_82 : decode cX7_seen 82 = .ok (.dup, 1) := by decide +kernel
theorem dX7_seen_83 : decode cX7_seen 83 = .ok (.getfield 114, 3) := by decide +kernel
theorem dX7_seen_86 : decode cX7_seen 86 = .ok (.iconst 1, 1) := by decide +kernel
theorem dX7_seen_87 : decode cX7_seen 87 = .ok (.iadd, 1) := by decide +kernel
theorem dX7_seen_88 : decode cX7_seen 88 = .ok (.putfield 114, 3) := by decide +kernel
theorem dX7_seen_91 : decode cX7_seen 91 = .ok (.aload_n 0, 1) := by decide +kernel
theorem dX7_seen_92 : decode cX7_seen 92 = .ok (.getfield 114, 3) := by decide +kernel
theorem dX7_seen_95 : decode cX7_seen 95 = .ok (.ireturn, 1) := by decide +kernel
theorem dX7_forget_0 : decode cX7_forget 0 = .ok (.aload_n 0, 1) := by decide +kernel
theorem dX7_forget_1 : decode cX7_forget 1 = .ok (.getfield 114, 3) := by decide +kernel
theorem dX7_forget_4 : decode cX7_forget 4 = .ok (.istore_n 1, 1) := by decide +kernel
theorem dX7_forget_5 : decode cX7_forget 5 = .ok (.aload_n 0, 1) := by decide +kernel
theorem dX7_forget_6 : decode cX7_forget 6 = .ok (.iconst 0, 1) := by decide +kernel
theorem dX7_forget_7 : decode cX7_forget 7 = .ok (.putfield 114, 3) := by decide +kernel
theorem dX7_forget_10 : decode cX7_forget 10 = .ok (.iload_n 1, 1) := by decide +kernel
theorem dX7_forget_11 : decode cX7_forget 11 = .ok (.ireturn, 1) := by decide +kernel
theorem dX7_strong_0 : decode cX7_strong 0 = .ok (.aload_n 0, 1) := by decide +kernel
theorem dX7_strong_1 : decode cX7_strong 1 = .ok (.iload_n 1, 1) := by decide +kernel
theorem dX7_strong_2 : decode cX7_strong 2 = .ok (.invokevirtual 129, 3) := by decide +kernel
theorem dX7_strong_5 : decode cX7_strong 5 = .ok (.ifCond .ne 6, 3) := by decide +kernel
theorem dX7_strong_8 : decode cX7_strong 8 = .ok (.bipush (-2), 2) := by decide +kernel
theorem dX7_strong_10 : decode cX7_strong 10 = .ok (.ireturn, 1) := by decide +kernel
theorem dX7_strong_11 : decode cX7_strong 11 = .ok (.iload_n 2, 1) := by decide +kernel
theorem dX7_strong_12 : decode cX7_strong 12 = .ok (.invokestatic 169, 3) := by decide +kernel
theorem dX7_strong_15 : decode cX7_strong 15 = .ok (.ifCond .ne 6, 3) := by decide +kernel
theorem dX7_strong_18 : decode cX7_strong 18 = .ok (.bipush (-3), 2) := by decide +kernel
theorem dX7_strong_20 : decode cX7_strong 20 = .ok (.ireturn, 1) := by decide +kernel
theorem dX7_strong_21 : decode cX7_strong 21 = .ok (.iconst (-1), 1) := by decide +kernel
theorem dX7_strong_22 : decode cX7_strong 22 = .ok (.istore_n 3, 1) := by decide +kernel
theorem dX7_strong_23 : decode cX7_strong 23 = .ok (.iconst (-1), 1) := by decide +kernel
theorem dX7_strong_24 : decode cX7_strong 24 = .ok (.istore 4, 2) := by decide +kernel
theorem dX7_strong_26 : decode cX7_strong 26 = .ok (.iconst 1, 1) := by decide +kernel
theorem dX7_strong_27 : decode cX7_strong 27 = .ok (.istore 5, 2) := by decide +kernel
theorem dX7_strong_29 : decode cX7_strong 29 = .ok (.iload 5, 2) := by decide +kernel
theorem dX7_strong_31 : decode cX7_strong 31 = .ok (.bipush 20, 2) := by decide +kernel
theorem dX7_strong_33 : decode cX7_strong 33 = .ok (.if_icmp .gt 153, 3) := by decide +kernel
theorem dX7_strong_36 : decode cX7_strong 36 = .ok (.iconst 1, 1) := by decide +kernel
theorem dX7_strong_37 : decode cX7_strong 37 = .ok (.istore 6, 2) := by decide +kernel
theorem dX7_strong_39 : decode cX7_strong 39 = .ok (.iconst 0, 1) := by decide +kernel
theorem dX7_strong_40 : decode cX7_strong 40 = .ok (.istore 7, 2) := by decide +kernel
theorem dX7_strong_42 : decode cX7_strong 42 = .ok (.iload 7, 2) := by decide +kernel
theorem dX7_strong_44 : decode cX7_strong 44 = .ok (.aload_n 0, 1) := by decide +kernel
theorem dX7_strong_45 : decode cX7_strong 45 = .ok (.getfield 114, 3) := by decide +kernel
theorem dX7_strong_48 : decode cX7_strong 48 = .ok (.if_icmp .ge 102, 3) := by decide +kernel
theorem dX7_strong_51 : decode cX7_strong 51 = .ok (.aload_n 0, 1) := by decide +kernel
theorem dX7_strong_52 : decode cX7_strong 52 = .ok (.aload_n 0, 1) := by decide +kernel
theorem dX7_strong_53 : decode cX7_strong 53 = .ok (.getfield 7, 3) := by decide +kernel
theorem dX7_strong_56 : decode cX7_strong 56 = .ok (.bipush 8, 2) := by decide +kernel
theorem dX7_strong_58 : decode cX7_strong 58 = .ok (.iload_n 1, 1) := by decide +kernel
theorem dX7_strong_59 : decode cX7_strong 59 = .ok (.iadd, 1) := by decide +kernel
theorem dX7_strong_60 : decode cX7_strong 60 = .ok (.iaload, 1) := by decide +kernel
theorem dX7_strong_61 : decode cX7_strong 61 = .ok (.iload 5, 2) := by decide +kernel
theorem dX7_strong_63 : decode cX7_strong 63 = .ok (.invokevirtual 120, 3) := by decide +kernel
theorem dX7_strong_66 : decode cX7_strong 66 = .ok (.aload_n 0, 1) := by decide +kernel
theorem dX7_strong_67 : decode cX7_strong 67 = .ok (.getfield 7, 3) := by decide +kernel
theorem dX7_strong_70 : decode cX7_strong 70 = .ok (.iconst 1, 1) := by decide +kernel
theorem dX7_strong_71 : decode cX7_strong 71 = .ok (.aload_n 0, 1) := by decide +kernel
theorem dX7_strong_72 : decode cX7_strong 72 = .ok (.getfield 35, 3) := by decide +kernel
theorem dX7_strong_75 : decode cX7_strong 75 = .ok (.iconst 3, 1) := by decide +kernel
theorem dX7_strong_76 : decode cX7_strong 76 = .ok (.iload 7, 2) := by decide +kernel
theorem dX7_strong_78 : decode cX7_strong 78 = .ok (.imul, 1) := by decide +kernel
theorem dX7_strong_79 : decode cX7_strong 79 = .ok (.iaload, 1) := by decide +kernel
theorem dX7_strong_80 : decode cX7_strong 80 = .ok (.iadd, 1) := by decide +kernel
theorem dX7_strong_81 : decode cX7_strong 81 = .ok (.iaload, 1) := by decide +kernel
theorem dX7_strong_82 : decode cX7_strong 82 = .ok (.if_icmp .lt 7, 3) := by decide +kernel
theorem dX7_strong_85 : decode cX7_strong 85 = .ok (.iconst 1, 1) := by decide +kernel
theorem dX7_strong_86 : decode cX7_strong 86 = .ok (.goto 4, 3) := by decide +kernel
theorem dX7_strong_89 : decode cX7_strong 89 = .ok (.iconst 0, 1) := by decide +kernel
theorem dX7_strong_90 : decode cX7_strong 90 = .ok (.istore 8, 2) := by decide +kernel
theorem dX7_strong_92 : decode cX7_strong 92 = .ok (.iload 6, 2) := by decide +kernel
theorem dX7_strong_94 : decode cX7_strong 94 = .ok (.ifCond .eq 47, 3) := by decide +kernel
theorem dX7_strong_97 : decode cX7_strong 97 = .ok (.aload_n 0, 1) := by decide +kernel
theorem dX7_strong_98 : decode cX7_strong 98 = .ok (.getfield 35, 3) := by decide +kernel
theorem dX7_strong_101 : decode cX7_strong 101 = .ok (.iconst 3, 1) := by decide +kernel
theorem dX7_strong_102 : decode cX7_strong 102 = .ok (.iload 7, 2) := by decide +kernel
theorem dX7_strong_104 : decode cX7_strong 104 = .ok (.imul, 1) := by decide +kernel
theorem dX7_strong_105 : decode cX7_strong 105 = .ok (.iconst 1, 1) := by decide +kernel
theorem dX7_strong_106 : decode cX7_strong 106 = .ok (.iadd, 1) := by decide +kernel
theorem dX7_strong_107 : decode cX7_strong 107 = .ok (.iaload, 1) := by decide +kernel
theorem dX7_strong_108 : decode cX7_strong 108 = .ok (.iload_n 1, 1) := by decide +kernel
theorem dX7_strong_109 : decode cX7_strong 109 = .ok (.if_icmp .ne 28, 3) := by decide +kernel
theorem dX7_strong_112 : decode cX7_strong 112 = .ok (.iload 8, 2) := by decide +kernel
theorem dX7_strong_114 : decode cX7_strong 114 = .ok (.aload_n 0, 1) := by decide +kernel
theorem dX7_strong_115 : decode cX7_strong 115 = .ok (.getfield 35, 3) := by decide +kernel
theorem dX7_strong_118 : decode cX7_strong 118 = .ok (.iconst 3, 1) := by decide +kernel
theorem dX7_strong_119 : decode cX7_strong 119 = .ok (.iload 7, 2) := by decide +kernel
theorem dX7_strong_121 : decode cX7_strong 121 = .ok (.imul, 1) := by decide +kernel
theorem dX7_strong_122 : decode cX7_strong 122 = .ok (.iconst 2, 1) := by decide +kernel
theorem dX7_strong_123 : decode cX7_strong 123 = .ok (.iadd, 1) := by decide +kernel
theorem dX7_strong_124 : decode cX7_strong 124 = .ok (.iaload, 1) := by decide +kernel
theorem dX7_strong_125 : decode cX7_strong 125 = .ok (.iconst 1, 1) := by decide +kernel
theorem dX7_strong_126 : decode cX7_strong 126 = .ok (.if_icmp .ne 7, 3) := by decide +kernel
theorem dX7_strong_129 : decode cX7_strong 129 = .ok (.iconst 1, 1) := by decide +kernel
theorem dX7_strong_130 : decode cX7_strong 130 = .ok (.goto 4, 3) := by decide +kernel
theorem dX7_strong_133 : decode cX7_strong 133 = .ok (.iconst 0, 1) := by decide +kernel
theorem dX7_strong_134 : decode cX7_strong 134 = .ok (.if_icmp .ne 7, 3) := by decide +kernel
theorem dX7_strong_137 : decode cX7_strong 137 = .ok (.iconst 1, 1) := by decide +kernel
theorem dX7_strong_138 : decode cX7_strong 138 = .ok (.goto 4, 3) := by decide +kernel
theorem dX7_strong_141 : decode cX7_strong 141 = .ok (.iconst 0, 1) := by decide +kernel
theorem dX7_strong_142 : decode cX7_strong 142 = .ok (.istore 6, 2) := by decide +kernel
theorem dX7_strong_144 : decode cX7_strong 144 = .ok (.iinc 7 1, 3) := by decide +kernel
theorem dX7_strong_147 : decode cX7_strong 147 = .ok (.goto (-105), 3) := by decide +kernel
theorem dX7_strong_150 : decode cX7_strong 150 = .ok (.iload 6, 2) := by decide +kernel
theorem dX7_strong_152 : decode cX7_strong 152 = .ok (.ifCond .eq 12, 3) := by decide +kernel
theorem dX7_strong_155 : decode cX7_strong 155 = .ok (.iload_n 3, 1) := by decide +kernel
theorem dX7_strong_156 : decode cX7_strong 156 = .ok (.ifCond .ge 8, 3) := by decide +kernel
theorem dX7_strong_159 : decode cX7_strong 159 = .ok (.iload 5, 2) := by decide +kernel
theorem dX7_strong_161 : decode cX7_strong 161 = .ok (.goto 4, 3) := by decide +kernel
theorem dX7_strong_164 : decode cX7_strong 164 = .ok (.iload_n 3, 1) := by decide +kernel
theorem dX7_strong_165 : decode cX7_strong 165 = .ok (.istore_n 3, 1) := by decide +kernel
theorem dX7_strong_166 : decode cX7_strong 166 = .ok (.iload 6, 2) := by decide +kernel
theorem dX7_strong_168 : decode cX7_strong 168 = .ok (.ifCond .eq 8, 3) := by decide +kernel
theorem dX7_strong_171 : decode cX7_strong 171 = .ok (.iload 5, 2) := by decide +kernel
theorem dX7_strong_173 : decode cX7_strong 173 = .ok (.goto 5, 3) := by decide +kernel
theorem dX7_strong_176 : decode cX7_strong 176 = .ok (.iload 4, 2) := by decide +kernel
theorem dX7_strong_178 : decode cX7_strong 178 = .ok (.istore 4, 2) := by decide +kernel
theorem dX7_strong_180 : decode cX7_strong 180 = .ok (.iinc 5 1, 3) := by decide +kernel
theorem dX7_strong_183 : decode cX7_strong 183 = .ok (.goto (-154), 3) := by decide +kernel
theorem dX7_strong_186 : decode cX7_strong 186 = .ok (.iload_n 2, 1) := by decide +kernel
theorem dX7_strong_187 : decode cX7_strong 187 = .ok (.ifCond .ne 7, 3) := by decide +kernel
theorem dX7_strong_190 : decode cX7_strong 190 = .ok (.iload_n 3, 1) := by decide +kernel
theorem dX7_strong_191 : decode cX7_strong 191 = .ok (.goto 5, 3) := by decide +kernel
theorem dX7_strong_194 : decode cX7_strong 194 = .ok (.iload 4, 2) := by decide +kernel
theorem dX7_strong_196 : decode cX7_strong 196 = .ok (.ireturn, 1) := by decide +kernel
theorem dX7_boasts_0 : decode cX7_boasts 0 = .ok (.iload_n 1, 1) := by decide +kernel
theorem dX7_boasts_1 : decode cX7_boasts 1 = .ok (.i2l, 1) := by decide +kernel
theorem dX7_boasts_2 : decode cX7_boasts 2 = .ok (.lconst 0, 1) := by decide +kernel
theorem dX7_boasts_3 : decode cX7_boasts 3 = .ok (.ldc2_w 181, 3) := by decide +kernel
theorem dX7_boasts_6 : decode cX7_boasts 6 = .ok (.invokestatic 45, 3) := by decide +kernel
theorem dX7_boasts_9 : decode cX7_boasts 9 = .ok (.ifCond .eq 48, 3) := by decide +kernel
theorem dX7_boasts_12 : decode cX7_boasts 12 = .ok (.iload_n 2, 1) := by decide +kernel
theorem dX7_boasts_13 : decode cX7_boasts 13 = .ok (.i2l, 1) := by decide +kernel
theorem dX7_boasts_14 : decode cX7_boasts 14 = .ok (.lconst 0, 1) := by decide +kernel
theorem dX7_boasts_15 : decode cX7_boasts 15 = .ok (.ldc2_w 183, 3) := by decide +kernel
theorem dX7_boasts_18 : decode cX7_boasts 18 = .ok (.invokestatic 45, 3) := by decide +kernel
theorem dX7_boasts_21 : decode cX7_boasts 21 = .ok (.ifCond .eq 36, 3) := by decide +kernel
theorem dX7_boasts_24 : decode cX7_boasts 24 = .ok (.iload_n 3, 1) := by decide +kernel
theorem dX7_boasts_25 : decode cX7_boasts 25 = .ok (.i2l, 1) := by decide +kernel
theorem dX7_boasts_26 : decode cX7_boasts 26 = .ok (.lconst 0, 1) := by decide +kernel
theorem dX7_boasts_27 : decode cX7_boasts 27 = .ok (.ldc2_w 185, 3) := by decide +kernel
theorem dX7_boasts_30 : decode cX7_boasts 30 = .ok (.invokestatic 45, 3) := by decide +kernel
theorem dX7_boasts_33 : decode cX7_boasts 33 = .ok (.ifCond .eq 24, 3) := by decide +kernel
theorem dX7_boasts_36 : decode cX7_boasts 36 = .ok (.iload 4, 2) := by decide +kernel
theorem dX7_boasts_38 : decode cX7_boasts 38 = .ok (.i2l, 1) := by decide +kernel
theorem dX7_boasts_39 : decode cX7_boasts 39 = .ok (.lconst 0, 1) := by decide +kernel
theorem dX7_boasts_40 : decode cX7_boasts 40 = .ok (.ldc2_w 187, 3) := by decide +kernel
theorem dX7_boasts_43 : decode cX7_boasts 43 = .ok (.invokestatic 45, 3) := by decide +kernel
theorem dX7_boasts_46 : decode cX7_boasts 46 = .ok (.ifCond .eq 11, 3) := by decide +kernel
theorem dX7_boasts_49 : decode cX7_boasts 49 = .ok (.iload 5, 2) := by decide +kernel
theorem dX7_boasts_51 : decode cX7_boasts 51 = .ok (.invokestatic 169, 3) := by decide +kernel
theorem dX7_boasts_54 : decode cX7_boasts 54 = .ok (.ifCond .ne 6, 3) := by decide +kernel
theorem dX7_boasts_57 : decode cX7_boasts 57 = .ok (.bipush (-3), 2) := by decide +kernel
theorem dX7_boasts_59 : decode cX7_boasts 59 = .ok (.ireturn, 1) := by decide +kernel
theorem dX7_boasts_60 : decode cX7_boasts 60 = .ok (.iconst 1, 1) := by decide +kernel
theorem dX7_boasts_61 : decode cX7_boasts 61 = .ok (.istore 6, 2) := by decide +kernel
theorem dX7_boasts_63 : decode cX7_boasts 63 = .ok (.iconst 1, 1) := by decide +kernel
theorem dX7_boasts_64 : decode cX7_boasts 64 = .ok (.istore 7, 2) := by decide +kernel
theorem dX7_boasts_66 : decode cX7_boasts 66 = .ok (.iconst 0, 1) := by decide +kernel
theorem dX7_boasts_67 : decode cX7_boasts 67 = .ok (.istore 8, 2) := by decide +kernel
theorem dX7_boasts_69 : decode cX7_boasts 69 = .ok (.iload 8, 2) := by decide +kernel
theorem dX7_boasts_71 : decode cX7_boasts 71 = .ok (.iload_n 1, 1) := by decide +kernel
theorem dX7_boasts_72 : decode cX7_boasts 72 = .ok (.if_icmp .ge 79, 3) := by decide +kernel
theorem dX7_boasts_75 : decode cX7_boasts 75 = .ok (.iload_n 2, 1) := by decide +kernel
theorem dX7_boasts_76 : decode cX7_boasts 76 = .ok (.iload 8, 2) := by decide +kernel
theorem dX7_boasts_78 : decode cX7_boasts 78 = .ok (.iload_n 3, 1) := by decide +kernel
theorem dX7_boasts_79 : decode cX7_boasts 79 = .ok (.imul, 1) := by decide +kernel
theorem dX7_boasts_80 : decode cX7_boasts 80 = .ok (.iadd, 1) := by decide +kernel
theorem dX7_boasts_81 : decode cX7_boasts 81 = .ok (.istore 9, 2) := by decide +kernel
theorem dX7_boasts_83 : decode cX7_boasts 83 = .ok (.iload 9, 2) := by decide +kernel
theorem dX7_boasts_85 : decode cX7_boasts 85 = .ok (.bipush 10, 2) := by decide +kernel
theorem dX7_boasts_87 : decode cX7_boasts 87 = .ok (.if_icmp .ge 8, 3) := by decide +kernel
theorem dX7_boasts_90 : decode cX7_boasts 90 = .ok (.iload 4, 2) := by decide +kernel
theorem dX7_boasts_92 : decode cX7_boasts 92 = .ok (.goto 15, 3) := by decide +kernel
theorem dX7_boasts_95 : decode cX7_boasts 95 = .ok (.iload 4, 2) := by decide +kernel
theorem dX7_boasts_97 : decode cX7_boasts 97 = .ok (.iload 9, 2) := by decide +kernel
theorem dX7_boasts_99 : decode cX7_boasts 99 = .ok (.bipush 10, 2) := by decide +kernel
theorem dX7_boasts_101 : decode cX7_boasts 101 = .ok (.isub, 1) := by decide +kernel
theorem dX7_boasts_102 : decode cX7_boasts 102 = .ok (.iconst 5, 1) := by decide +kernel
theorem dX7_boasts_103 : decode cX7_boasts 103 = .ok (.idiv, 1) := by decide +kernel
theorem dX7_boasts_104 : decode cX7_boasts 104 = .ok (.isub, 1) := by decide +kernel
theorem dX7_boasts_105 : decode cX7_boasts 105 = .ok (.iconst 1, 1) := by decide +kernel
theorem dX7_boasts_106 : decode cX7_boasts 106 = .ok (.isub, 1) := by decide +kernel
theorem dX7_boasts_107 : decode cX7_boasts 107 = .ok (.iconst 1, 1) := by decide +kernel
theorem dX7_boasts_108 : decode cX7_boasts 108 = .ok (.iadd, 1) := by decide +kernel
theorem dX7_boasts_109 : decode cX7_boasts 109 = .ok (.istore 10, 2) := by decide +kernel
theorem dX7_boasts_111 : decode cX7_boasts 111 = .ok (.iload 6, 2) := by decide +kernel
theorem dX7_boasts_113 : decode cX7_boasts 113 = .ok (.iload 10, 2) := by decide +kernel
theorem dX7_boasts_115 : decode cX7_boasts 115 = .ok (.ifCond .ge 7, 3) := by decide +kernel
theorem dX7_boasts_118 : decode cX7_boasts 118 = .ok (.iconst 5, 1) := by decide +kernel
theorem dX7_boasts_119 : decode cX7_boasts 119 = .ok (.goto 17, 3) := by decide +kernel
theorem dX7_boasts_122 : decode cX7_boasts 122 = .ok (.iload 10, 2) := by decide +kernel
theorem dX7_boasts_124 : decode cX7_boasts 124 = .ok (.iconst 5, 1) := by decide +kernel
theorem dX7_boasts_125 : decode cX7_boasts 125 = .ok (.if_icmp .le 7, 3) := by decide +kernel
theorem dX7_boasts_128 : decode cX7_boasts 128 = .ok (.iconst 0, 1) := by decide +kernel
theorem dX7_boasts_129 : decode cX7_boasts 129 = .ok (.goto 7, 3) := by decide +kernel
theorem dX7_boasts_132 : decode cX7_boasts 132 = .ok (.iconst 5, 1) := by decide +kernel
theorem dX7_boasts_133 : decode cX7_boasts 133 = .ok (.iload 10, 2) := by decide +kernel
theorem dX7_boasts_135 : decode cX7_boasts 135 = .ok (.isub, 1) := by decide +kernel
theorem dX7_boasts_136 : decode cX7_boasts 136 = .ok (.imul, 1) := by decide +kernel
theorem dX7_boasts_137 : decode cX7_boasts 137 = .ok (.istore 6, 2) := by decide +kernel
theorem dX7_boasts_139 : decode cX7_boasts 139 = .ok (.iload 7, 2) := by decide +kernel
theorem dX7_boasts_141 : decode cX7_boasts 141 = .ok (.iconst 5, 1) := by decide +kernel
theorem dX7_boasts_142 : decode cX7_boasts 142 = .ok (.imul, 1) := by decide +kernel
theorem dX7_boasts_143 : decode cX7_boasts 143 = .ok (.istore 7, 2) := by decide +kernel
theorem dX7_boasts_145 : decode cX7_boasts 145 = .ok (.iinc 8 1, 3) := by decide +kernel
theorem dX7_boasts_148 : decode cX7_boasts 148 = .ok (.goto (-79), 3) := by decide +kernel
theorem dX7_boasts_151 : decode cX7_boasts 151 = .ok (.iload 6, 2) := by decide +kernel
theorem dX7_boasts_153 : decode cX7_boasts 153 = .ok (.istore 8, 2) := by decide +kernel
theorem dX7_boasts_155 : decode cX7_boasts 155 = .ok (.iload 7, 2) := by decide +kernel
theorem dX7_boasts_157 : decode cX7_boasts 157 = .ok (.istore 9, 2) := by decide +kernel
theorem dX7_boasts_159 : decode cX7_boasts 159 = .ok (.iload 9, 2) := by decide +kernel
theorem dX7_boasts_161 : decode cX7_boasts 161 = .ok (.ifCond .eq 21, 3) := by decide +kernel
theorem dX7_boasts_164 : decode cX7_boasts 164 = .ok (.iload 8, 2) := by decide +kernel
theorem dX7_boasts_166 : decode cX7_boasts 166 = .ok (.iload 9, 2) := by decide +kernel
theorem dX7_boasts_168 : decode cX7_boasts 168 = .ok (.irem, 1) := by decide +kernel
theorem dX7_boasts_169 : decode cX7_boasts 169 = .ok (.istore 10, 2) := by decide +kernel
theorem dX7_boasts_171 : decode cX7_boasts 171 = .ok (.iload 9, 2) := by decide +kernel
theorem dX7_boasts_173 : decode cX7_boasts 173 = .ok (.istore 8, 2) := by decide +kernel
theorem dX7_boasts_175 : decode cX7_boasts 175 = .ok (.iload 10, 2) := by decide +kernel
theorem dX7_boasts_177 : decode cX7_boasts 177 = .ok (.istore 9, 2) := by decide +kernel
theorem dX7_boasts_179 : decode cX7_boasts 179 = .ok (.goto (-20), 3) := by decide +kernel
theorem dX7_boasts_182 : decode cX7_boasts 182 = .ok (.iload 5, 2) := by decide +kernel
theorem dX7_boasts_184 : decode cX7_boasts 184 = .ok (.ifCond .ne 11, 3) := by decide +kernel
theorem dX7_boasts_187 : decode cX7_boasts 187 = .ok (.iload 6, 2) := by decide +kernel
theorem dX7_boasts_189 : decode cX7_boasts 189 = .ok (.iload 8, 2) := by decide +kernel
theorem dX7_boasts_191 : decode cX7_boasts 191 = .ok (.idiv, 1) := by decide +kernel
theorem dX7_boasts_192 : decode cX7_boasts 192 = .ok (.goto 8, 3) := by decide +kernel
theorem dX7_boasts_195 : decode cX7_boasts 195 = .ok (.iload 7, 2) := by decide +kernel
theorem dX7_boasts_197 : decode cX7_boasts 197 = .ok (.iload 8, 2) := by decide +kernel
theorem dX7_boasts_199 : decode cX7_boasts 199 = .ok (.idiv, 1) := by decide +kernel
theorem dX7_boasts_200 : decode cX7_boasts 200 = .ok (.ireturn, 1) := by decide +kernel
theorem dX7_count_0 : decode cX7_count 0 = .ok (.iload_n 1, 1) := by decide +kernel
theorem dX7_count_1 : decode cX7_count 1 = .ok (.tableswitch 173 0 14 #[75, 82, 90, 98, 105, 112, 119, 126, 133, 139, 145, 151, 158, 163, 168], 75) := by decide +kernel
theorem dX7_count_76 : decode cX7_count 76 = .ok (.aload_n 0, 1) := by decide +kernel
theorem dX7_count_77 : decode cX7_count 77 = .ok (.getfield 7, 3) := by decide +kernel
theorem dX7_count_80 : decode cX7_count 80 = .ok (.iconst 0, 1) := by decide +kernel
theorem dX7_count_81 : decode cX7_count 81 = .ok (.iaload, 1) := by decide +kernel
theorem dX7_count_82 : decode cX7_count 82 = .ok (.ireturn, 1) := by decide +kernel
theorem dX7_count_83 : decode cX7_count 83 = .ok (.aload_n 0, 1) := by decide +kernel
theorem dX7_count_84 : decode cX7_count 84 = .ok (.getfield 7, 3) := by decide +kernel
theorem dX7_count_87 : decode cX7_count 87 = .ok (.bipush 7, 2) := by decide +kernel
theorem dX7_count_89 : decode cX7_count 89 = .ok (.iaload, 1) := by decide +kernel
theorem dX7_count_90 : decode cX7_count 90 = .ok (.ireturn, 1) := by decide +kernel
theorem dX7_count_91 : decode cX7_count 91 = .ok (.aload_n 0, 1) := by decide +kernel
theorem dX7_count_92 : decode cX7_count 92 = .ok (.getfield 7, 3) := by decide +kernel
theorem dX7_count_95 : decode cX7_count 95 = .ok (.bipush 20, 2) := by decide +kernel
theorem dX7_count_97 : decode cX7_count 97 = .ok (.iaload, 1) := by decide +kernel
theorem dX7_count_98 : decode cX7_count 98 = .ok (.ireturn, 1) := by decide +kernel
theorem dX7_count_99 : decode cX7_count 99 = .ok (.aload_n 0, 1) := by decide +kernel
theorem dX7_count_100 : decode cX7_count 100 = .ok (.getfield 13, 3) := by decide +kernel
theorem dX7_count_103 : decode cX7_count 103 = .ok (.iconst 4, 1) := by decide +kernel
theorem dX7_count_104 : decode cX7_count 104 = .ok (.iaload, 1) := by decide +kernel
theorem dX7_count_105 : decode cX7_count 105 = .ok (.ireturn, 1) := by decide +kernel
theorem dX7_count_106 : decode cX7_count 106 = .ok (.aload_n 0, 1) := by decide +kernel
theorem dX7_count_107 : decode cX7_count 107 = .ok (.getfield 13, 3) := by decide +kernel
theorem dX7_count_110 : decode cX7_count 110 = .ok (.iconst 0, 1) := by decide +kernel
theorem dX7_count_111 : decode cX7_count 111 = .ok (.iaload, 1) := by decide +kernel
theorem dX7_count_112 : decode cX7_count 112 = .ok (.ireturn, 1) := by decide +kernel
theorem dX7_count_113 : decode cX7_count 113 = .ok (.aload_n 0, 1) := by decide +kernel
theorem dX7_count_114 : decode cX7_count 114 = .ok (.getfield 13, 3) := by decide +kernel
theorem dX7_count_117 : decode cX7_count 117 = .ok (.iconst 1, 1) := by decide +kernel
theorem dX7_count_118 : decode cX7_count 118 = .ok (.iaload, 1) := by decide +kernel
theorem dX7_count_119 : decode cX7_count 119 = .ok (.ireturn, 1) := by decide +kernel
theorem dX7_count_120 : decode cX7_count 120 = .ok (.aload_n 0, 1) := by decide +kernel
theorem dX7_count_121 : decode cX7_count 121 = .ok (.getfield 13, 3) := by decide +kernel
theorem dX7_count_124 : decode cX7_count 124 = .ok (.iconst 2, 1) := by decide +kernel
theorem dX7_count_125 : decode cX7_count 125 = .ok (.iaload, 1) := by decide +kernel
theorem dX7_count_126 : decode cX7_count 126 = .ok (.ireturn, 1) := by decide +kernel
theorem dX7_count_127 : decode cX7_count 127 = .ok (.aload_n 0, 1) := by decide +kernel
theorem dX7_count_128 : decode cX7_count 128 = .ok (.getfield 13, 3) := by decide +kernel
theorem dX7_count_131 : decode cX7_count 131 = .ok (.iconst 3, 1) := by decide +kernel
theorem dX7_count_132 : decode cX7_count 132 = .ok (.iaload, 1) := by decide +kernel
theorem dX7_count_133 : decode cX7_count 133 = .ok (.ireturn, 1) := by decide +kernel
theorem dX7_count_134 : decode cX7_count 134 = .ok (.aload_n 0, 1) := by decide +kernel
theorem dX7_count_135 : decode cX7_count 135 = .ok (.iconst 0, 1) := by decide +kernel
theorem dX7_count_136 : decode cX7_count 136 = .ok (.invokevirtual 175, 3) := by decide +kernel
theorem dX7_count_139 : decode cX7_count 139 = .ok (.ireturn, 1) := by decide +kernel
theorem dX7_count_140 : decode cX7_count 140 = .ok (.aload_n 0, 1) := by decide +kernel
theorem dX7_count_141 : decode cX7_count 141 = .ok (.iconst 1, 1) := by decide +kernel
theorem dX7_count_142 : decode cX7_count 142 = .ok (.invokevirtual 175, 3) := by decide +kernel
theorem dX7_count_145 : decode cX7_count 145 = .ok (.ireturn, 1) := by decide +kernel
theorem dX7_count_146 : decode cX7_count 146 = .ok (.aload_n 0, 1) := by decide +kernel
theorem dX7_count_147 : decode cX7_count 147 = .ok (.iconst 2, 1) := by decide +kernel
theorem dX7_count_148 : decode cX7_count 148 = .ok (.invokevirtual 175, 3) := by decide +kernel
theorem dX7_count_151 : decode cX7_count 151 = .ok (.ireturn, 1) := by decide +kernel
theorem dX7_count_152 : decode cX7_count 152 = .ok (.aload_n 0, 1) := by decide +kernel
theorem dX7_count_153 : decode cX7_count 153 = .ok (.getfield 13, 3) := by decide +kernel
theorem dX7_count_156 : decode cX7_count 156 = .ok (.iconst 5, 1) := by decide +kernel
theorem dX7_count_157 : decode cX7_count 157 = .ok (.iaload, 1) := by decide +kernel
theorem dX7_count_158 : decode cX7_count 158 = .ok (.ireturn, 1) := by decide +kernel
theorem dX7_count_159 : decode cX7_count 159 = .ok (.aload_n 0, 1) := by decide +kernel
theorem dX7_count_160 : decode cX7_count 160 = .ok (.getfield 114, 3) := by decide +kernel
theorem dX7_count_163 : decode cX7_count 163 = .ok (.ireturn, 1) := by decide +kernel
theorem dX7_count_164 : decode cX7_count 164 = .ok (.aload_n 0, 1) := by decide +kernel
theorem dX7_count_165 : decode cX7_count 165 = .ok (.getfield 117, 3) := by decide +kernel
theorem dX7_count_168 : decode cX7_count 168 = .ok (.ireturn, 1) := by decide +kernel
theorem dX7_count_169 : decode cX7_count 169 = .ok (.aload_n 0, 1) := by decide +kernel
theorem dX7_count_170 : decode cX7_count 170 = .ok (.getfield 51, 3) := by decide +kernel
theorem dX7_count_173 : decode cX7_count 173 = .ok (.ireturn, 1) := by decide +kernel
theorem dX7_count_174 : decode cX7_count 174 = .ok (.bipush (-3), 2) := by decide +kernel
theorem dX7_count_176 : decode cX7_count 176 = .ok (.ireturn, 1) := by decide +kernel
end
section
theorem dL_law_0 : decode cL_law 0 = .ok (.new 7, 3) := by decide +kernel
theorem dL_law_3 : decode cL_law 3 = .ok (.dup, 1) := by decide +kernel
theorem dL_law_4 : decode cL_law 4 = .ok (.invokespecial 9, 3) := by decide +kernel
theorem dL_law_7 : decode cL_law 7 = .ok (.astore_n 1, 1) := by decide +kernel
theorem dL_law_8 : decode cL_law 8 = .ok (.new 10, 3) := by decide +kernel
theorem dL_law_11 : decode cL_law 11 = .ok (.dup, 1) := by decide +kernel
theorem dL_law_12 : decode cL_law 12 = .ok (.invokespecial 12, 3) := by decide +kernel
theorem dL_law_15 : decode cL_law 15 = .ok (.astore_n 2, 1) := by decide +kernel
theorem dL_law_16 : decode cL_law 16 = .ok (.iconst 0, 1) := by decide +kernel
theorem dL_law_17 : decode cL_law 17 = .ok (.istore_n 3, 1) := by decide +kernel
theorem dL_law_18 : decode cL_law 18 = .ok (.iload_n 3, 1) := by decide +kernel
theorem dL_law_19 : decode cL_law 19 = .ok (.aload_n 0, 1) := by decide +kernel
theorem dL_law_20 : decode cL_law 20 = .ok (.arraylength, 1) := by decide +kernel
theorem dL_law_21 : decode cL_law 21 = .ok (.bipush 6, 2) := by decide +kernel
theorem dL_law_23 : decode cL_law 23 = .ok (.isub, 1) := by decide +kernel
theorem dL_law_24 : decode cL_law 24 = .ok (.if_icmp .gt 782, 3) := by decide +kernel
theorem dL_law_27 : decode cL_law 27 = .ok (.aload_n 0, 1) := by decide +kernel
theorem dL_law_28 : decode cL_law 28 = .ok (.iload_n 3, 1) := by decide +kernel
theorem dL_law_29 : decode cL_law 29 = .ok (.iaload, 1) := by decide +kernel
theorem dL_law_30 : decode cL_law 30 = .ok (.bipush 31, 2) := by decide +kernel
theorem dL_law_32 : decode cL_law 32 = .ok (.iand, 1) := by decide +kernel
theorem dL_law_33 : decode cL_law 33 = .ok (.tableswitch 767 0 25 #[119, 142, 155, 168, 181, 214, 247, 270, 303, 326, 339, 362, 395, 408, 421, 444, 467, 490, 513, 546, 569, 592, 635, 648, 681, 744], 119) := by decide +kernel
theorem dL_law_152 : decode cL_law 152 = .ok (.aload_n 1, 1) := by decide +kernel
theorem dL_law_153 : decode cL_law 153 = .ok (.aload_n 0, 1) := by decide +kernel
theorem dL_law_154 : decode cL_law 154 = .ok (.iload_n 3, 1) := by decide +kernel
theorem dL_law_155 : decode cL_law 155 = .ok (.iconst 1, 1) := by decide +kernel
theorem dL_law_156 : decode cL_law 156 = .ok (.iadd, 1) := by decide +kernel
theorem dL_law_157 : decode cL_law 157 = .ok (.iaload, 1) := by decide +kernel
theorem dL_law_158 : decode cL_law 158 = .ok (.invokevirtual 13, 3) := by decide +kernel
theorem dL_law_161 : decode cL_law 161 = .ok (.aload_n 2, 1) := by decide +kernel
theorem dL_law_162 : decode cL_law 162 = .ok (.aload_n 0, 1) := by decide +kernel
theorem dL_law_163 : decode cL_law 163 = .ok (.iload_n 3, 1) := by decide +kernel
theorem dL_law_164 : decode cL_law 164 = .ok (.iconst 1, 1) := by decide +kernel
theorem dL_law_165 : decode cL_law 165 = .ok (.iadd, 1) := by decide +kernel
theorem dL_law_166 : decode cL_law 166 = .ok (.iaload, 1) := by decide +kernel
theorem dL_law_167 : decode cL_law 167 = .ok (.invokevirtual 17, 3) := by decide +kernel
theorem dL_law_170 : decode cL_law 170 = .ok (.if_icmp .eq 630, 3) := by decide +kernel
theorem dL_law_173 : decode cL_law 173 = .ok (.iconst 0, 1) := by decide +kernel
theorem dL_law_174 : decode cL_law 174 = .ok (.ireturn, 1) := by decide +kernel
theorem dL_law_175 : decode cL_law 175 = .ok (.aload_n 1, 1) := by decide +kernel
theorem dL_law_176 : decode cL_law 176 = .ok (.invokevirtual 18, 3) := by decide +kernel
theorem dL_law_179 : decode cL_law 179 = .ok (.aload_n 2, 1) := by decide +kernel
theorem dL_law_180 : decode cL_law 180 = .ok (.invokevirtual 22, 3) := by decide +kernel
theorem dL_law_183 : decode cL_law 183 = .ok (.if_icmp .eq 617, 3) := by decide +kernel
theorem dL_law_186 : decode cL_law 186 = .ok (.iconst 0, 1) := by decide +kernel
theorem dL_law_187 : decode cL_law 187 = .ok (.ireturn, 1) := by decide +kernel
theorem dL_law_188 : decode cL_law 188 = .ok (.aload_n 1, 1) := by decide +kernel
theorem dL_law_189 : decode cL_law 189 = .ok (.invokevirtual 23, 3) := by decide +kernel
theorem dL_law_192 : decode cL_law 192 = .ok (.aload_n 2, 1) := by decide +kernel
theorem dL_law_193 : decode cL_law 193 = .ok (.invokevirtual 26, 3) := by decide +kernel
theorem dL_law_196 : decode cL_law 196 = .ok (.if_icmp .eq 604, 3) := by decide +kernel
theorem dL_law_199 : decode cL_law 199 = .ok (.iconst 0, 1) := by decide +kernel
theorem dL_law_200 : decode cL_law 200 = .ok (.ireturn, 1) := by decide +kernel
theorem dL_law_201 : decode cL_law 201 = .ok (.aload_n 1, 1) := by decide +kernel
theorem dL_law_202 : decode cL_law 202 = .ok (.invokevirtual 27, 3) := by decide +kernel
theorem dL_law_205 : decode cL_law 205 = .ok (.aload_n 2, 1) := by decide +kernel
theorem dL_law_206 : decode cL_law 206 = .ok (.invokevirtual 30, 3) := by decide +kernel
theorem dL_law_209 : decode cL_law 209 = .ok (.if_icmp .eq 591, 3) := by decide +kernel
theorem dL_law_212 : decode cL_law 212 = .ok (.iconst 0, 1) := by decide +kernel
theorem dL_law_213 : decode cL_law 213 = .ok (.ireturn, 1) := by decide +kernel
theorem dL_law_214 : decode cL_law 214 = .ok (.aload_n 1, 1) := by decide +kernel
theorem dL_law_215 : decode cL_law 215 = .ok (.aload_n 0, 1) := by decide +kernel
theorem dL_law_216 : decode cL_law 216 = .ok (.iload_n 3, 1) := by decide +kernel
theorem dL_law_217 : decode cL_law 217 = .ok (.iconst 1, 1) := by decide +kernel
theorem dL_law_218 : decode cL_law 218 = .ok (.iadd, 1) := by decide +kernel
theorem dL_law_219 : decode cL_law 219 = .ok (.iaload, 1) := by decide +kernel
theorem dL_law_220 : decode cL_law 220 = .ok (.aload_n 0, 1) := by decide +kernel
theorem dL_law_221 : decode cL_law 221 = .ok (.iload_n 3, 1) := by decide +kernel
theorem dL_law_222 : decode cL_law 222 = .ok (.iconst 2, 1) := by decide +kernel
theorem dL_law_223 : decode cL_law 223 = .ok (.iadd, 1) := by decide +kernel
theorem dL_law_224 : decode cL_law 224 = .ok (.iaload, 1) := by decide +kernel
theorem dL_law_225 : decode cL_law 225 = .ok (.invokevirtual 31, 3) := by decide +kernel
theorem dL_law_228 : decode cL_law 228 = .ok (.aload_n 2, 1) := by decide +kernel
theorem dL_law_229 : decode cL_law 229 = .ok (.aload_n 0, 1) := by decide +kernel
theorem dL_law_230 : decode cL_law 230 = .ok (.iload_n 3, 1) := by decide +kernel
theorem dL_law_231 : decode cL_law 231 = .ok (.iconst 1, 1) := by decide +kernel
theorem dL_law_232 : decode cL_law 232 = .ok (.iadd, 1) := by decide +kernel
theorem dL_law_233 : decode cL_law 233 = .ok (.iaload, 1) := by decide +kernel
theorem dL_law_234 : decode cL_law 234 = .ok (.aload_n 0, 1) := by decide +kernel
theorem dL_law_235 : decode cL_law 235 = .ok (.iload_n 3, 1) := by decide +kernel
theorem dL_law_236 : decode cL_law 236 = .ok (.iconst 2, 1) := by decide +kernel
theorem dL_law_237 : decode cL_law 237 = .ok (.iadd, 1) := by decide +kernel
theorem dL_law_238 : decode cL_law 238 = .ok (.iaload, 1) := by decide +kernel
theorem dL_law_239 : decode cL_law 239 = .ok (.invokevirtual 35, 3) := by decide +kernel
theorem dL_law_242 : decode cL_law 242 = .ok (.if_icmp .eq 558, 3) := by decide +kernel
theorem dL_law_245 : decode cL_law 245 = .ok (.iconst 0, 1) := by decide +kernel
theorem dL_law_246 : decode cL_law 246 = .ok (.ireturn, 1) := by decide +kernel
theorem dL_law_247 : decode cL_law 247 = .ok (.aload_n 1, 1) := by decide +kernel
theorem dL_law_248 : decode cL_law 248 = .ok (.aload_n 0, 1) := by decide +kernel
theorem dL_law_249 : decode cL_law 249 = .ok (.iload_n 3, 1) := by decide +kernel
theorem dL_law_250 : decode cL_law 250 = .ok (.iconst 1, 1) := by decide +kernel
theorem dL_law_251 : decode cL_law 251 = .ok (.iadd, 1) := by decide +kernel
theorem dL_law_252 : decode cL_law 252 = .ok (.iaload, 1) := by decide +kernel
theorem dL_law_253 : decode cL_law 253 = .ok (.aload_n 0, 1) := by decide +kernel
theorem dL_law_254 : decode cL_law 254 = .ok (.iload_n 3, 1) := by decide +kernel
theorem dL_law_255 : decode cL_law 255 = .ok (.iconst 2, 1) := by decide +kernel
theorem dL_law_256 : decode cL_law 256 = .ok (.iadd, 1) := by decide +kernel
theorem dL_law_257 : decode cL_law 257 = .ok (.iaload, 1) := by decide +kernel
theorem dL_law_258 : decode cL_law 258 = .ok (.invokevirtual 36, 3) := by decide +kernel
theorem dL_law_261 : decode cL_law 261 = .ok (.aload_n 2, 1) := by decide +kernel
theorem dL_law_262 : decode cL_law 262 = .ok (.aload_n 0, 1) := by decide +kernel
theorem dL_law_263 : decode cL_law 263 = .ok (.iload_n 3, 1) := by decide +kernel
theorem dL_law_264 : decode cL_law 264 = .ok (.iconst 1, 1) := by decide +kernel
theorem dL_law_265 : decode cL_law 265 = .ok (.iadd, 1) := by decide +kernel
theorem dL_law_266 : decode cL_law 266 = .ok (.iaload, 1) := by decide +kernel
theorem dL_law_267 : decode cL_law 267 = .ok (.aload_n 0, 1) := by decide +kernel
theorem dL_law_268 : decode cL_law 268 = .ok (.iload_n 3, 1) := by decide +kernel
theorem dL_law_269 : decode cL_law 269 = .ok (.iconst 2, 1) := by decide +kernel
theorem dL_law_270 : decode cL_law 270 = .ok (.iadd, 1) := by decide +kernel
theorem dL_law_271 : decode cL_law 271 = .ok (.iaload, 1) := by decide +kernel
theorem dL_law_272 : decode cL_law 272 = .ok (.invokevirtual 39, 3) := by decide +kernel
theorem dL_law_275 : decode cL_law 275 = .ok (.if_icmp .eq 525, 3) := by decide +kernel
theorem dL_law_278 : decode cL_law 278 = .ok (.iconst 0, 1) := by decide +kernel
theorem dL_law_279 : decode cL_law 279 = .ok (.ireturn, 1) := by decide +kernel
theorem dL_law_280 : decode cL_law 280 = .ok (.aload_n 1, 1) := by decide +kernel
theorem dL_law_281 : decode cL_law 281 = .ok (.aload_n 0, 1) := by decide +kernel
theorem dL_law_282 : decode cL_law 282 = .ok (.iload_n 3, 1) := by decide +kernel
theorem dL_law_283 : decode cL_law 283 = .ok (.iconst 1, 1) := by decide +kernel
theorem dL_law_284 : decode cL_law 284 = .ok (.iadd, 1) := by decide +kernel
theorem dL_law_285 : decode cL_law 285 = .ok (.iaload, 1) := by decide +kernel
theorem dL_law_286 : decode cL_law 286 = .ok (.invokevirtual 40, 3) := by decide +kernel
theorem dL_law_289 : decode cL_law 289 = .ok (.aload_n 2, 1) := by decide +kernel
theorem dL_law_290 : decode cL_law 290 = .ok (.aload_n 0, 1) := by decide +kernel
theorem dL_law_291 : decode cL_law 291 = .ok (.iload_n 3, 1) := by decide +kernel
theorem dL_law_292 : decode cL_law 292 = .ok (.iconst 1, 1) := by decide +kernel
theorem dL_law_293 : decode cL_law 293 = .ok (.iadd, 1) := by decide +kernel
theorem dL_law_294 : decode cL_law 294 = .ok (.iaload, 1) := by decide +kernel
theorem dL_law_295 : decode cL_law 295 = .ok (.invokevirtual 43, 3) := by decide +kernel
theorem dL_law_298 : decode cL_law 298 = .ok (.if_icmp .eq 502, 3) := by decide +kernel
theorem dL_law_301 : decode cL_law 301 = .ok (.iconst 0, 1) := by decide +kernel
theorem dL_law_302 : decode cL_law 302 = .ok (.ireturn, 1) := by decide +kernel
theorem dL_law_303 : decode cL_law 303 = .ok (.aload_n 1, 1) := by decide +kernel
theorem dL_law_304 : decode cL_law 304 = .ok (.aload_n 0, 1) := by decide +kernel
theorem dL_law_305 : decode cL_law 305 = .ok (.iload_n 3, 1) := by decide +kernel
theorem dL_law_306 : decode cL_law 306 = .ok (.iconst 1, 1) := by decide +kernel
theorem dL_law_307 : decode cL_law 307 = .ok (.iadd, 1) := by decide +kernel
theorem dL_law_308 : decode cL_law 308 = .ok (.iaload, 1) := by decide +kernel
theorem dL_law_309 : decode cL_law 309 = .ok (.aload_n 0, 1) := by decide +kernel
theorem dL_law_310 : decode cL_law 310 = .ok (.iload_n 3, 1) := by decide +kernel
theorem dL_law_311 : decode cL_law 311 = .ok (.iconst 2, 1) := by decide +kernel
theorem dL_law_312 : decode cL_law 312 = .ok (.iadd, 1) := by decide +kernel
theorem dL_law_313 : decode cL_law 313 = .ok (.iaload, 1) := by decide +kernel
theorem dL_law_314 : decode cL_law 314 = .ok (.invokevirtual 44, 3) := by decide +kernel
theorem dL_law_317 : decode cL_law 317 = .ok (.aload_n 2, 1) := by decide +kernel
theorem dL_law_318 : decode cL_law 318 = .ok (.aload_n 0, 1) := by decide +kernel
theorem dL_law_319 : decode cL_law 319 = .ok (.iload_n 3, 1) := by decide +kernel
theorem dL_law_320 : decode cL_law 320 = .ok (.iconst 1, 1) := by decide +kernel
theorem dL_law_321 : decode cL_law 321 = .ok (.iadd, 1) := by decide +kernel
theorem dL_law_322 : decode cL_law 322 = .ok (.iaload, 1) := by decide +kernel
theorem dL_law_323 : decode cL_law 323 = .ok (.aload_n 0, 1) := by decide +kernel
theorem dL_law_324 : decode cL_law 324 = .ok (.iload_n 3, 1) := by decide +kernel
theorem dL_law_325 : decode cL_law 325 = .ok (.iconst 2, 1) := by decide +kernel
theorem dL_law_326 : decode cL_law 326 = .ok (.iadd, 1) := by decide +kernel
theorem dL_law_327 : decode cL_law 327 = .ok (.iaload, 1) := by decide +kernel
theorem dL_law_328 : decode cL_law 328 = .ok (.invokevirtual 47, 3) := by decide +kernel
theorem dL_law_331 : decode cL_law 331 = .ok (.if_icmp .eq 469, 3) := by decide +kernel
theorem dL_law_334 : decode cL_law 334 = .ok (.iconst 0, 1) := by decide +kernel
theorem dL_law_335 : decode cL_law 335 = .ok (.ireturn, 1) := by decide +kernel
theorem dL_law_336 : decode cL_law 336 = .ok (.aload_n 1, 1) := by decide +kernel
theorem dL_law_337 : decode cL_law 337 = .ok (.aload_n 0, 1) := by decide +kernel
theorem dL_law_338 : decode cL_law 338 = .ok (.iload_n 3, 1) := by decide +kernel
theorem dL_law_339 : decode cL_law 339 = .ok (.iconst 1, 1) := by decide +kernel
theorem dL_law_340 : decode cL_law 340 = .ok (.iadd, 1) := by decide +kernel
theorem dL_law_341 : decode cL_law 341 = .ok (.iaload, 1) := by decide +kernel
theorem dL_law_342 : decode cL_law 342 = .ok (.invokevirtual 48, 3) := by decide +kernel
theorem dL_law_345 : decode cL_law 345 = .ok (.aload_n 2, 1) := by decide +kernel
theorem dL_law_346 : decode cL_law 346 = .ok (.aload_n 0, 1) := by decide +kernel
theorem dL_law_347 : decode cL_law 347 = .ok (.iload_n 3, 1) := by decide +kernel
theorem dL_law_348 : decode cL_law 348 = .ok (.iconst 1, 1) := by decide +kernel
theorem dL_law_349 : decode cL_law 349 = .ok (.iadd, 1) := by decide +kernel
theorem dL_law_350 : decode cL_law 350 = .ok (.iaload, 1) := by decide +kernel
theorem dL_law_351 : decode cL_law 351 = .ok (.invokevirtual 51, 3) := by decide +kernel
theorem dL_law_354 : decode cL_law 354 = .ok (.if_icmp .eq 446, 3) := by decide +kernel
theorem dL_law_357 : decode cL_law 357 = .ok (.iconst 0, 1) := by decide +kernel
theorem dL_law_358 : decode cL_law 358 = .ok (.ireturn, 1) := by decide +kernel
theorem dL_law_359 : decode cL_law 359 = .ok (.aload_n 1, 1) := by decide +kernel
theorem dL_law_360 : decode cL_law 360 = .ok (.invokevirtual 52, 3) := by decide +kernel
theorem dL_law_363 : decode cL_law 363 = .ok (.aload_n 2, 1) := by decide +kernel
theorem dL_law_364 : decode cL_law 364 = .ok (.invokevirtual 55, 3) := by decide +kernel
theorem dL_law_367 : decode cL_law 367 = .ok (.if_icmp .eq 433, 3) := by decide +kernel
theorem dL_law_370 : decode cL_law 370 = .ok (.iconst 0, 1) := by decide +kernel
theorem dL_law_371 : decode cL_law 371 = .ok (.ireturn, 1) := by decide +kernel
theorem dL_law_372 : decode cL_law 372 = .ok (.aload_n 1, 1) := by decide +kernel
theorem dL_law_373 : decode cL_law 373 = .ok (.aload_n 0, 1) := by decide +kernel
theorem dL_law_374 : decode cL_law 374 = .ok (.iload_n 3, 1) := by decide +kernel
theorem dL_law_375 : decode cL_law 375 = .ok (.iconst 1, 1) := by decide +kernel
theorem dL_law_376 : decode cL_law 376 = .ok (.iadd, 1) := by decide +kernel
theorem dL_law_377 : decode cL_law 377 = .ok (.iaload, 1) := by decide +kernel
theorem dL_law_378 : decode cL_law 378 = .ok (.invokevirtual 56, 3) := by decide +kernel
theorem dL_law_381 : decode cL_law 381 = .ok (.aload_n 2, 1) := by decide +kernel
theorem dL_law_382 : decode cL_law 382 = .ok (.aload_n 0, 1) := by decide +kernel
theorem dL_law_383 : decode cL_law 383 = .ok (.iload_n 3, 1) := by decide +kernel
theorem dL_law_384 : decode cL_law 384 = .ok (.iconst 1, 1) := by decide +kernel
theorem dL_law_385 : decode cL_law 385 = .ok (.iadd, 1) := by decide +kernel
theorem dL_law_386 : decode cL_law 386 = .ok (.iaload, 1) := by decide +kernel
theorem dL_law_387 : decode cL_law 387 = .ok (.invokevirtual 59, 3) := by decide +kernel
theorem dL_law_390 : decode cL_law 390 = .ok (.if_icmp .eq 410, 3) := by decide +kernel
theorem dL_law_393 : decode cL_law 393 = .ok (.iconst 0, 1) := by decide +kernel
theorem dL_law_394 : decode cL_law 394 = .ok (.ireturn, 1) := by decide +kernel
theorem dL_law_395 : decode cL_law 395 = .ok (.aload_n 1, 1) := by decide +kernel
theorem dL_law_396 : decode cL_law 396 = .ok (.aload_n 0, 1) := by decide +kernel
theorem dL_law_397 : decode cL_law 397 = .ok (.iload_n 3, 1) := by decide +kernel
theorem dL_law_398 : decode cL_law 398 = .ok (.iconst 1, 1) := by decide +kernel
theorem dL_law_399 : decode cL_law 399 = .ok (.iadd, 1) := by decide +kernel
theorem dL_law_400 : decode cL_law 400 = .ok (.iaload, 1) := by decide +kernel
theorem dL_law_401 : decode cL_law 401 = .ok (.aload_n 0, 1) := by decide +kernel
theorem dL_law_402 : decode cL_law 402 = .ok (.iload_n 3, 1) := by decide +kernel
theorem dL_law_403 : decode cL_law 403 = .ok (.iconst 2, 1) := by decide +kernel
theorem dL_law_404 : decode cL_law 404 = .ok (.iadd, 1) := by decide +kernel
theorem dL_law_405 : decode cL_law 405 = .ok (.iaload, 1) := by decide +kernel
theorem dL_law_406 : decode cL_law 406 = .ok (.invokevirtual 60, 3) := by decide +kernel
theorem dL_law_409 : decode cL_law 409 = .ok (.aload_n 2, 1) := by decide +kernel
theorem dL_law_410 : decode cL_law 410 = .ok (.aload_n 0, 1) := by decide +kernel
theorem dL_law_411 : decode cL_law 411 = .ok (.iload_n 3, 1) := by decide +kernel
theorem dL_law_412 : decode cL_law 412 = .ok (.iconst 1, 1) := by decide +kernel
theorem dL_law_413 : decode cL_law 413 = .ok (.iadd, 1) := by decide +kernel
theorem dL_law_414 : decode cL_law 414 = .ok (.iaload, 1) := by decide +kernel
theorem dL_law_415 : decode cL_law 415 = .ok (.aload_n 0, 1) := by decide +kernel
theorem dL_law_416 : decode cL_law 416 = .ok (.iload_n 3, 1) := by decide +kernel
theorem dL_law_417 : decode cL_law 417 = .ok (.iconst 2, 1) := by decide +kernel
theorem dL_law_418 : decode cL_law 418 = .ok (.iadd, 1) := by decide +kernel
theorem dL_law_419 : decode cL_law 419 = .ok (.iaload, 1) := by decide +kernel
theorem dL_law_420 : decode cL_law 420 = .ok (.invokevirtual 63, 3) := by decide +kernel
theorem dL_law_423 : decode cL_law 423 = .ok (.if_icmp .eq 377, 3) := by decide +kernel
theorem dL_law_426 : decode cL_law 426 = .ok (.iconst 0, 1) := by decide +kernel
theorem dL_law_427 : decode cL_law 427 = .ok (.ireturn, 1) := by decide +kernel
theorem dL_law_428 : decode cL_law 428 = .ok (.aload_n 1, 1) := by decide +kernel
theorem dL_law_429 : decode cL_law 429 = .ok (.invokevirtual 64, 3) := by decide +kernel
theorem dL_law_432 : decode cL_law 432 = .ok (.aload_n 2, 1) := by decide +kernel
theorem dL_law_433 : decode cL_law 433 = .ok (.invokevirtual 67, 3) := by decide +kernel
theorem dL_law_436 : decode cL_law 436 = .ok (.if_icmp .eq 364, 3) := by decide +kernel
theorem dL_law_439 : decode cL_law 439 = .ok (.iconst 0, 1) := by decide +kernel
theorem dL_law_440 : decode cL_law 440 = .ok (.ireturn, 1) := by decide +kernel
theorem dL_law_441 : decode cL_law 441 = .ok (.aload_n 1, 1) := by decide +kernel
theorem dL_law_442 : decode cL_law 442 = .ok (.invokevirtual 68, 3) := by decide +kernel
theorem dL_law_445 : decode cL_law 445 = .ok (.aload_n 2, 1) := by decide +kernel
theorem dL_law_446 : decode cL_law 446 = .ok (.invokevirtual 71, 3) := by decide +kernel
theorem dL_law_449 : decode cL_law 449 = .ok (.if_icmp .eq 351, 3) := by decide +kernel
theorem dL_law_452 : decode cL_law 452 = .ok (.iconst 0, 1) := by decide +kernel
theorem dL_law_453 : decode cL_law 453 = .ok (.ireturn, 1) := by decide +kernel
theorem dL_law_454 : decode cL_law 454 = .ok (.aload_n 1, 1) := by decide +kernel
theorem dL_law_455 : decode cL_law 455 = .ok (.aload_n 0, 1) := by decide +kernel
theorem dL_law_456 : decode cL_law 456 = .ok (.iload_n 3, 1) := by decide +kernel
theorem dL_law_457 : decode cL_law 457 = .ok (.iconst 1, 1) := by decide +kernel
theorem dL_law_458 : decode cL_law 458 = .ok (.iadd, 1) := by decide +kernel
theorem dL_law_459 : decode cL_law 459 = .ok (.iaload, 1) := by decide +kernel
theorem dL_law_460 : decode cL_law 460 = .ok (.invokevirtual 72, 3) := by decide +kernel
theorem dL_law_463 : decode cL_law 463 = .ok (.aload_n 2, 1) := by decide +kernel
theorem dL_law_464 : decode cL_law 464 = .ok (.aload_n 0, 1) := by decide +kernel
theorem dL_law_465 : decode cL_law 465 = .ok (.iload_n 3, 1) := by decide +kernel
theorem dL_law_466 : decode cL_law 466 = .ok (.iconst 1, 1) := by decide +kernel
theorem dL_law_467 : decode cL_law 467 = .ok (.iadd, 1) := by decide +kernel
theorem dL_law_468 : decode cL_law 468 = .ok (.iaload, 1) := by decide +kernel
theorem dL_law_469 : decode cL_law 469 = .ok (.invokevirtual 75, 3) := by decide +kernel
theorem dL_law_472 : decode cL_law 472 = .ok (.if_icmp .eq 328, 3) := by decide +kernel
theorem dL_law_475 : decode cL_law 475 = .ok (.iconst 0, 1) := by decide +kernel
theorem dL_law_476 : decode cL_law 476 = .ok (.ireturn, 1) := by decide +kernel
theorem dL_law_477 : decode cL_law 477 = .ok (.aload_n 1, 1) := by decide +kernel
theorem dL_law_478 : decode cL_law 478 = .ok (.aload_n 0, 1) := by decide +kernel
theorem dL_law_479 : decode cL_law 479 = .ok (.iload_n 3, 1) := by decide +kernel
theorem dL_law_480 : decode cL_law 480 = .ok (.iconst 1, 1) := by decide +kernel
theorem dL_law_481 : decode cL_law 481 = .ok (.iadd, 1) := by decide +kernel
theorem dL_law_482 : decode cL_law 482 = .ok (.iaload, 1) := by decide +kernel
theorem dL_law_483 : decode cL_law 483 = .ok (.invokevirtual 76, 3) := by decide +kernel
theorem dL_law_486 : decode cL_law 486 = .ok (.aload_n 2, 1) := by decide +kernel
theorem dL_law_487 : decode cL_law 487 = .ok (.aload_n 0, 1) := by decide +kernel
theorem dL_law_488 : decode cL_law 488 = .ok (.iload_n 3, 1) := by decide +kernel
theorem dL_law_489 : decode cL_law 489 = .ok (.iconst 1, 1) := by decide +kernel
theorem dL_law_490 : decode cL_law 490 = .ok (.iadd, 1) := by decide +kernel
theorem dL_law_491 : decode cL_law 491 = .ok (.iaload, 1) := by decide +kernel
theorem dL_law_492 : decode cL_law 492 = .ok (.invokevirtual 79, 3) := by decide +kernel
theorem dL_law_495 : decode cL_law 495 = .ok (.if_icmp .eq 305, 3) := by decide +kernel
theorem dL_law_498 : decode cL_law 498 = .ok (.iconst 0, 1) := by decide +kernel
theorem dL_law_499 : decode cL_law 499 = .ok (.ireturn, 1) := by decide +kernel
theorem dL_law_500 : decode cL_law 500 = .ok (.aload_n 1, 1) := by decide +kernel
theorem dL_law_501 : decode cL_law 501 = .ok (.aload_n 0, 1) := by decide +kernel
theorem dL_law_502 : decode cL_law 502 = .ok (.iload_n 3, 1) := by decide +kernel
theorem dL_law_503 : decode cL_law 503 = .ok (.iconst 1, 1) := by decide +kernel
theorem dL_law_504 : decode cL_law 504 = .ok (.iadd, 1) := by decide +kernel
theorem dL_law_505 : decode cL_law 505 = .ok (.iaload, 1) := by decide +kernel
theorem dL_law_506 : decode cL_law 506 = .ok (.invokevirtual 80, 3) := by decide +kernel
theorem dL_law_509 : decode cL_law 509 = .ok (.aload_n 2, 1) := by decide +kernel
theorem dL_law_510 : decode cL_law 510 = .ok (.aload_n 0, 1) := by decide +kernel
theorem dL_law_511 : decode cL_law 511 = .ok (.iload_n 3, 1) := by decide +kernel
theorem dL_law_512 : decode cL_law 512 = .ok (.iconst 1, 1) := by decide +kernel
theorem dL_law_513 : decode cL_law 513 = .ok (.iadd, 1) := by decide +kernel
theorem dL_law_514 : decode cL_law 514 = .ok (.iaload, 1) := by decide +kernel
theorem dL_law_515 : decode cL_law 515 = .ok (.invokevirtual 83, 3) := by decide +kernel
theorem dL_law_518 : decode cL_law 518 = .ok (.if_icmp .eq 282, 3) := by decide +kernel
theorem dL_law_521 : decode cL_law 521 = .ok (.iconst 0, 1) := by decide +kernel
theorem dL_law_522 : decode cL_law 522 = .ok (.ireturn, 1) := by decide +kernel
theorem dL_law_523 : decode cL_law 523 = .ok (.aload_n 1, 1) := by decide +kernel
theorem dL_law_524 : decode cL_law 524 = .ok (.aload_n 0, 1) := by decide +kernel
theorem dL_law_525 : decode cL_law 525 = .ok (.iload_n 3, 1) := by decide +kernel
theorem dL_law_526 : decode cL_law 526 = .ok (.iconst 1, 1) := by decide +kernel
theorem dL_law_527 : decode cL_law 527 = .ok (.iadd, 1) := by decide +kernel
theorem dL_law_528 : decode cL_law 528 = .ok (.iaload, 1) := by decide +kernel
theorem dL_law_529 : decode cL_law 529 = .ok (.invokevirtual 84, 3) := by decide +kernel
theorem dL_law_532 : decode cL_law 532 = .ok (.aload_n 2, 1) := by decide +kernel
theorem dL_law_533 : decode cL_law 533 = .ok (.aload_n 0, 1) := by decide +kernel
theorem dL_law_534 : decode cL_law 534 = .ok (.iload_n 3, 1) := by decide +kernel
theorem dL_law_535 : decode cL_law 535 = .ok (.iconst 1, 1) := by decide +kernel
theorem dL_law_536 : decode cL_law 536 = .ok (.iadd, 1) := by decide +kernel
theorem dL_law_537 : decode cL_law 537 = .ok (.iaload, 1) := by decide +kernel
theorem dL_law_538 : decode cL_law 538 = .ok (.invokevirtual 87, 3) := by decide +kernel
theorem dL_law_541 : decode cL_law 541 = .ok (.if_icmp .eq 259, 3) := by decide +kernel
theorem dL_law_544 : decode cL_law 544 = .ok (.iconst 0, 1) := by decide +kernel
theorem dL_law_545 : decode cL_law 545 = .ok (.ireturn, 1) := by decide +kernel
theorem dL_law_546 : decode cL_law 546 = .ok (.aload_n 1, 1) := by decide +kernel
theorem dL_law_547 : decode cL_law 547 = .ok (.aload_n 0, 1) := by decide +kernel
theorem dL_law_548 : decode cL_law 548 = .ok (.iload_n 3, 1) := by decide +kernel
theorem dL_law_549 : decode cL_law 549 = .ok (.iconst 1, 1) := by decide +kernel
theorem dL_law_550 : decode cL_law 550 = .ok (.iadd, 1) := by decide +kernel
theorem dL_law_551 : decode cL_law 551 = .ok (.iaload, 1) := by decide +kernel
theorem dL_law_552 : decode cL_law 552 = .ok (.aload_n 0, 1) := by decide +kernel
theorem dL_law_553 : decode cL_law 553 = .ok (.iload_n 3, 1) := by decide +kernel
theorem dL_law_554 : decode cL_law 554 = .ok (.iconst 2, 1) := by decide +kernel
theorem dL_law_555 : decode cL_law 555 = .ok (.iadd, 1) := by decide +kernel
theorem dL_law_556 : decode cL_law 556 = .ok (.iaload, 1) := by decide +kernel
theorem dL_law_557 : decode cL_law 557 = .ok (.invokevirtual 88, 3) := by decide +kernel
theorem dL_law_560 : decode cL_law 560 = .ok (.aload_n 2, 1) := by decide +kernel
theorem dL_law_561 : decode cL_law 561 = .ok (.aload_n 0, 1) := by decide +kernel
theorem dL_law_562 : decode cL_law 562 = .ok (.iload_n 3, 1) := by decide +kernel
theorem dL_law_563 : decode cL_law 563 = .ok (.iconst 1, 1) := by decide +kernel
theorem dL_law_564 : decode cL_law 564 = .ok (.iadd, 1) := by decide +kernel
theorem dL_law_565 : decode cL_law 565 = .ok (.iaload, 1) := by decide +kernel
theorem dL_law_566 : decode cL_law 566 = .ok (.aload_n 0, 1) := by decide +kernel
theorem dL_law_567 : decode cL_law 567 = .ok (.iload_n 3, 1) := by decide +kernel
theorem dL_law_568 : decode cL_law 568 = .ok (.iconst 2, 1) := by decide +kernel
theorem dL_law_569 : decode cL_law 569 = .ok (.iadd, 1) := by decide +kernel
theorem dL_law_570 : decode cL_law 570 = .ok (.iaload, 1) := by decide +kernel
theorem dL_law_571 : decode cL_law 571 = .ok (.invokevirtual 91, 3) := by decide +kernel
theorem dL_law_574 : decode cL_law 574 = .ok (.if_icmp .eq 226, 3) := by decide +kernel
theorem dL_law_577 : decode cL_law 577 = .ok (.iconst 0, 1) := by decide +kernel
theorem dL_law_578 : decode cL_law 578 = .ok (.ireturn, 1) := by decide +kernel
theorem dL_law_579 : decode cL_law 579 = .ok (.aload_n 1, 1) := by decide +kernel
theorem dL_law_580 : decode cL_law 580 = .ok (.aload_n 0, 1) := by decide +kernel
theorem dL_law_581 : decode cL_law 581 = .ok (.iload_n 3, 1) := by decide +kernel
theorem dL_law_582 : decode cL_law 582 = .ok (.iconst 1, 1) := by decide +kernel
theorem dL_law_583 : decode cL_law 583 = .ok (.iadd, 1) := by decide +kernel
theorem dL_law_584 : decode cL_law 584 = .ok (.iaload, 1) := by decide +kernel
theorem dL_law_585 : decode cL_law 585 = .ok (.invokevirtual 92, 3) := by decide +kernel
theorem dL_law_588 : decode cL_law 588 = .ok (.aload_n 2, 1) := by decide +kernel
theorem dL_law_589 : decode cL_law 589 = .ok (.aload_n 0, 1) := by decide +kernel
theorem dL_law_590 : decode cL_law 590 = .ok (.iload_n 3, 1) := by decide +kernel
theorem dL_law_591 : decode cL_law 591 = .ok (.iconst 1, 1) := by decide +kernel
theorem dL_law_592 : decode cL_law 592 = .ok (.iadd, 1) := by decide +kernel
theorem dL_law_593 : decode cL_law 593 = .ok (.iaload, 1) := by decide +kernel
theorem dL_law_594 : decode cL_law 594 = .ok (.invokevirtual 95, 3) := by decide +kernel
theorem dL_law_597 : decode cL_law 597 = .ok (.if_icmp .eq 203, 3) := by decide +kernel
theorem dL_law_600 : decode cL_law 600 = .ok (.iconst 0, 1) := by decide +kernel
theorem dL_law_601 : decode cL_law 601 = .ok (.ireturn, 1) := by decide +kernel
theorem dL_law_602 : decode cL_law 602 = .ok (.aload_n 1, 1) := by decide +kernel
theorem dL_law_603 : decode cL_law 603 = .ok (.aload_n 0, 1) := by decide +kernel
theorem dL_law_604 : decode cL_law 604 = .ok (.iload_n 3, 1) := by decide +kernel
theorem dL_law_605 : decode cL_law 605 = .ok (.iconst 1, 1) := by decide +kernel
theorem dL_law_606 : decode cL_law 606 = .ok (.iadd, 1) := by decide +kernel
theorem dL_law_607 : decode cL_law 607 = .ok (.iaload, 1) := by decide +kernel
theorem dL_law_608 : decode cL_law 608 = .ok (.invokevirtual 96, 3) := by decide +kernel
theorem dL_law_611 : decode cL_law 611 = .ok (.aload_n 2, 1) := by decide +kernel
theorem dL_law_612 : decode cL_law 612 = .ok (.aload_n 0, 1) := by decide +kernel
theorem dL_law_613 : decode cL_law 613 = .ok (.iload_n 3, 1) := by decide +kernel
theorem dL_law_614 : decode cL_law 614 = .ok (.iconst 1, 1) := by decide +kernel
theorem dL_law_615 : decode cL_law 615 = .ok (.iadd, 1) := by decide +kernel
theorem dL_law_616 : decode cL_law 616 = .ok (.iaload, 1) := by decide +kernel
theorem dL_law_617 : decode cL_law 617 = .ok (.invokevirtual 99, 3) := by decide +kernel
theorem dL_law_620 : decode cL_law 620 = .ok (.if_icmp .eq 180, 3) := by decide +kernel
theorem dL_law_623 : decode cL_law 623 = .ok (.iconst 0, 1) := by decide +kernel
theorem dL_law_624 : decode cL_law 624 = .ok (.ireturn, 1) := by decide +kernel
theorem dL_law_625 : decode cL_law 625 = .ok (.aload_n 1, 1) := by decide +kernel
theorem dL_law_626 : decode cL_law 626 = .ok (.aload_n 0, 1) := by decide +kernel
theorem dL_law_627 : decode cL_law 627 = .ok (.iload_n 3, 1) := by decide +kernel
theorem dL_law_628 : decode cL_law 628 = .ok (.iconst 1, 1) := by decide +kernel
theorem dL_law_629 : decode cL_law 629 = .ok (.iadd, 1) := by decide +kernel
theorem dL_law_630 : decode cL_law 630 = .ok (.iaload, 1) := by decide +kernel
theorem dL_law_631 : decode cL_law 631 = .ok (.aload_n 0, 1) := by decide +kernel
theorem dL_law_632 : decode cL_law 632 = .ok (.iload_n 3, 1) := by decide +kernel
theorem dL_law_633 : decode cL_law 633 = .ok (.iconst 2, 1) := by decide +kernel
theorem dL_law_634 : decode cL_law 634 = .ok (.iadd, 1) := by decide +kernel
theorem dL_law_635 : decode cL_law 635 = .ok (.iaload, 1) := by decide +kernel
theorem dL_law_636 : decode cL_law 636 = .ok (.aload_n 0, 1) := by decide +kernel
theorem dL_law_637 : decode cL_law 637 = .ok (.iload_n 3, 1) := by decide +kernel
theorem dL_law_638 : decode cL_law 638 = .ok (.iconst 3, 1) := by decide +kernel
theorem dL_law_639 : decode cL_law 639 = .ok (.iadd, 1) := by decide +kernel
theorem dL_law_640 : decode cL_law 640 = .ok (.iaload, 1) := by decide +kernel
theorem dL_law_641 : decode cL_law 641 = .ok (.invokevirtual 100, 3) := by decide +kernel
theorem dL_law_644 : decode cL_law 644 = .ok (.aload_n 2, 1) := by decide +kernel
theorem dL_law_645 : decode cL_law 645 = .ok (.aload_n 0, 1) := by decide +kernel
theorem dL_law_646 : decode cL_law 646 = .ok (.iload_n 3, 1) := by decide +kernel
theorem dL_law_647 : decode cL_law 647 = .ok (.iconst 1, 1) := by decide +kernel
theorem dL_law_648 : decode cL_law 648 = .ok (.iadd, 1) := by decide +kernel
theorem dL_law_649 : decode cL_law 649 = .ok (.iaload, 1) := by decide +kernel
theorem dL_law_650 : decode cL_law 650 = .ok (.aload_n 0, 1) := by decide +kernel
theorem dL_law_651 : decode cL_law 651 = .ok (.iload_n 3, 1) := by decide +kernel
theorem dL_law_652 : decode cL_law 652 = .ok (.iconst 2, 1) := by decide +kernel
theorem dL_law_653 : decode cL_law 653 = .ok (.iadd, 1) := by decide +kernel
theorem dL_law_654 : decode cL_law 654 = .ok (.iaload, 1) := by decide +kernel
theorem dL_law_655 : decode cL_law 655 = .ok (.aload_n 0, 1) := by decide +kernel
theorem dL_law_656 : decode cL_law 656 = .ok (.iload_n 3, 1) := by decide +kernel
theorem dL_law_657 : decode cL_law 657 = .ok (.iconst 3, 1) := by decide +kernel
theorem dL_law_658 : decode cL_law 658 = .ok (.iadd, 1) := by decide +kernel
theorem dL_law_659 : decode cL_law 659 = .ok (.iaload, 1) := by decide +kernel
theorem dL_law_660 : decode cL_law 660 = .ok (.invokevirtual 104, 3) := by decide +kernel
theorem dL_law_663 : decode cL_law 663 = .ok (.if_icmp .eq 137, 3) := by decide +kernel
theorem dL_law_666 : decode cL_law 666 = .ok (.iconst 0, 1) := by decide +kernel
theorem dL_law_667 : decode cL_law 667 = .ok (.ireturn, 1) := by decide +kernel
theorem dL_law_668 : decode cL_law 668 = .ok (.aload_n 1, 1) := by decide +kernel
theorem dL_law_669 : decode cL_law 669 = .ok (.invokevirtual 105, 3) := by decide +kernel
theorem dL_law_672 : decode cL_law 672 = .ok (.aload_n 2, 1) := by decide +kernel
theorem dL_law_673 : decode cL_law 673 = .ok (.invokevirtual 108, 3) := by decide +kernel
theorem dL_law_676 : decode cL_law 676 = .ok (.if_icmp .eq 124, 3) := by decide +kernel
theorem dL_law_679 : decode cL_law 679 = .ok (.iconst 0, 1) := by decide +kernel
theorem dL_law_680 : decode cL_law 680 = .ok (.ireturn, 1) := by decide +kernel
theorem dL_law_681 : decode cL_law 681 = .ok (.aload_n 1, 1) := by decide +kernel
theorem dL_law_682 : decode cL_law 682 = .ok (.aload_n 0, 1) := by decide +kernel
theorem dL_law_683 : decode cL_law 683 = .ok (.iload_n 3, 1) := by decide +kernel
theorem dL_law_684 : decode cL_law 684 = .ok (.iconst 1, 1) := by decide +kernel
theorem dL_law_685 : decode cL_law 685 = .ok (.iadd, 1) := by decide +kernel
theorem dL_law_686 : decode cL_law 686 = .ok (.iaload, 1) := by decide +kernel
theorem dL_law_687 : decode cL_law 687 = .ok (.aload_n 0, 1) := by decide +kernel
theorem dL_law_688 : decode cL_law 688 = .ok (.iload_n 3, 1) := by decide +kernel
theorem dL_law_689 : decode cL_law 689 = .ok (.iconst 2, 1) := by decide +kernel
theorem dL_law_690 : decode cL_law 690 = .ok (.iadd, 1) := by decide +kernel
theorem dL_law_691 : decode cL_law 691 = .ok (.iaload, 1) := by decide +kernel
theorem dL_law_692 : decode cL_law 692 = .ok (.invokevirtual 109, 3) := by decide +kernel
theorem dL_law_695 : decode cL_law 695 = .ok (.aload_n 2, 1) := by decide +kernel
theorem dL_law_696 : decode cL_law 696 = .ok (.aload_n 0, 1) := by decide +kernel
theorem dL_law_697 : decode cL_law 697 = .ok (.iload_n 3, 1) := by decide +kernel
theorem dL_law_698 : decode cL_law 698 = .ok (.iconst 1, 1) := by decide +kernel
theorem dL_law_699 : decode cL_law 699 = .ok (.iadd, 1) := by decide +kernel
theorem dL_law_700 : decode cL_law 700 = .ok (.iaload, 1) := by decide +kernel
theorem dL_law_701 : decode cL_law 701 = .ok (.aload_n 0, 1) := by decide +kernel
theorem dL_law_702 : decode cL_law 702 = .ok (.iload_n 3, 1) := by decide +kernel
theorem dL_law_703 : decode cL_law 703 = .ok (.iconst 2, 1) := by decide +kernel
theorem dL_law_704 : decode cL_law 704 = .ok (.iadd, 1) := by decide +kernel
theorem dL_law_705 : decode cL_law 705 = .ok (.iaload, 1) := by decide +kernel
theorem dL_law_706 : decode cL_law 706 = .ok (.invokevirtual 112, 3) := by decide +kernel
theorem dL_law_709 : decode cL_law 709 = .ok (.if_icmp .eq 91, 3) := by decide +kernel
theorem dL_law_712 : decode cL_law 712 = .ok (.iconst 0, 1) := by decide +kernel
theorem dL_law_713 : decode cL_law 713 = .ok (.ireturn, 1) := by decide +kernel
theorem dL_law_714 : decode cL_law 714 = .ok (.aload_n 1, 1) := by decide +kernel
theorem dL_law_715 : decode cL_law 715 = .ok (.aload_n 0, 1) := by decide +kernel
theorem dL_law_716 : decode cL_law 716 = .ok (.iload_n 3, 1) := by decide +kernel
theorem dL_law_717 : decode cL_law 717 = .ok (.iconst 1, 1) := by decide +kernel
theorem dL_law_718 : decode cL_law 718 = .ok (.iadd, 1) := by decide +kernel
theorem dL_law_719 : decode cL_law 719 = .ok (.iaload, 1) := by decide +kernel
theorem dL_law_720 : decode cL_law 720 = .ok (.aload_n 0, 1) := by decide +kernel
theorem dL_law_721 : decode cL_law 721 = .ok (.iload_n 3, 1) := by decide +kernel
theorem dL_law_722 : decode cL_law 722 = .ok (.iconst 2, 1) := by decide +kernel
theorem dL_law_723 : decode cL_law 723 = .ok (.iadd, 1) := by decide +kernel
theorem dL_law_724 : decode cL_law 724 = .ok (.iaload, 1) := by decide +kernel
theorem dL_law_725 : decode cL_law 725 = .ok (.aload_n 0, 1) := by decide +kernel
theorem dL_law_726 : decode cL_law 726 = .ok (.iload_n 3, 1) := by decide +kernel
theorem dL_law_727 : decode cL_law 727 = .ok (.iconst 3, 1) := by decide +kernel
theorem dL_law_728 : decode cL_law 728 = .ok (.iadd, 1) := by decide +kernel
theorem dL_law_729 : decode cL_law 729 = .ok (.iaload, 1) := by decide +kernel
theorem dL_law_730 : decode cL_law 730 = .ok (.aload_n 0, 1) := by decide +kernel
theorem dL_law_731 : decode cL_law 731 = .ok (.iload_n 3, 1) := by decide +kernel
theorem dL_law_732 : decode cL_law 732 = .ok (.iconst 4, 1) := by decide +kernel
theorem dL_law_733 : decode cL_law 733 = .ok (.iadd, 1) := by decide +kernel
theorem dL_law_734 : decode cL_law 734 = .ok (.iaload, 1) := by decide +kernel
theorem dL_law_735 : decode cL_law 735 = .ok (.aload_n 0, 1) := by decide +kernel
theorem dL_law_736 : decode cL_law 736 = .ok (.iload_n 3, 1) := by decide +kernel
theorem dL_law_737 : decode cL_law 737 = .ok (.iconst 5, 1) := by decide +kernel
theorem dL_law_738 : decode cL_law 738 = .ok (.iadd, 1) := by decide +kernel
theorem dL_law_739 : decode cL_law 739 = .ok (.iaload, 1) := by decide +kernel
theorem dL_law_740 : decode cL_law 740 = .ok (.invokevirtual 113, 3) := by decide +kernel
theorem dL_law_743 : decode cL_law 743 = .ok (.aload_n 2, 1) := by decide +kernel
theorem dL_law_744 : decode cL_law 744 = .ok (.aload_n 0, 1) := by decide +kernel
theorem dL_law_745 : decode cL_law 745 = .ok (.iload_n 3, 1) := by decide +kernel
theorem dL_law_746 : decode cL_law 746 = .ok (.iconst 1, 1) := by decide +kernel
theorem dL_law_747 : decode cL_law 747 = .ok (.iadd, 1) := by decide +kernel
theorem dL_law_748 : decode cL_law 748 = .ok (.iaload, 1) := by decide +kernel
theorem dL_law_749 : decode cL_law 749 = .ok (.aload_n 0, 1) := by decide +kernel
theorem dL_law_750 : decode cL_law 750 = .ok (.iload_n 3, 1) := by decide +kernel
theorem dL_law_751 : decode cL_law 751 = .ok (.iconst 2, 1) := by decide +kernel
theorem dL_law_752 : decode cL_law 752 = .ok (.iadd, 1) := by decide +kernel
theorem dL_law_753 : decode cL_law 753 = .ok (.iaload, 1) := by decide +kernel
theorem dL_law_754 : decode cL_law 754 = .ok (.aload_n 0, 1) := by decide +kernel
theorem dL_law_755 : decode cL_law 755 = .ok (.iload_n 3, 1) := by decide +kernel
theorem dL_law_756 : decode cL_law 756 = .ok (.iconst 3, 1) := by decide +kernel
theorem dL_law_757 : decode cL_law 757 = .ok (.iadd, 1) := by decide +kernel
theorem dL_law_758 : decode cL_law 758 = .ok (.iaload, 1) := by decide +kernel
theorem dL_law_759 : decode cL_law 759 = .ok (.aload_n 0, 1) := by decide +kernel
theorem dL_law_760 : decode cL_law 760 = .ok (.iload_n 3, 1) := by decide +kernel
theorem dL_law_761 : decode cL_law 761 = .ok (.iconst 4, 1) := by decide +kernel
theorem dL_law_762 : decode cL_law 762 = .ok (.iadd, 1) := by decide +kernel
theorem dL_law_763 : decode cL_law 763 = .ok (.iaload, 1) := by decide +kernel
theorem dL_law_764 : decode cL_law 764 = .ok (.aload_n 0, 1) := by decide +kernel
theorem dL_law_765 : decode cL_law 765 = .ok (.iload_n 3, 1) := by decide +kernel
theorem dL_law_766 : decode cL_law 766 = .ok (.iconst 5, 1) := by decide +kernel
theorem dL_law_767 : decode cL_law 767 = .ok (.iadd, 1) := by decide +kernel
theorem dL_law_768 : decode cL_law 768 = .ok (.iaload, 1) := by decide +kernel
theorem dL_law_769 : decode cL_law 769 = .ok (.invokevirtual 117, 3) := by decide +kernel
theorem dL_law_772 : decode cL_law 772 = .ok (.if_icmp .eq 28, 3) := by decide +kernel
theorem dL_law_775 : decode cL_law 775 = .ok (.iconst 0, 1) := by decide +kernel
theorem dL_law_776 : decode cL_law 776 = .ok (.ireturn, 1) := by decide +kernel
theorem dL_law_777 : decode cL_law 777 = .ok (.aload_n 1, 1) := by decide +kernel
theorem dL_law_778 : decode cL_law 778 = .ok (.aload_n 0, 1) := by decide +kernel
theorem dL_law_779 : decode cL_law 779 = .ok (.iload_n 3, 1) := by decide +kernel
theorem dL_law_780 : decode cL_law 780 = .ok (.iconst 1, 1) := by decide +kernel
theorem dL_law_781 : decode cL_law 781 = .ok (.iadd, 1) := by decide +kernel
theorem dL_law_782 : decode cL_law 782 = .ok (.iaload, 1) := by decide +kernel
theorem dL_law_783 : decode cL_law 783 = .ok (.invokevirtual 118, 3) := by decide +kernel
theorem dL_law_786 : decode cL_law 786 = .ok (.aload_n 2, 1) := by decide +kernel
theorem dL_law_787 : decode cL_law 787 = .ok (.aload_n 0, 1) := by decide +kernel
theorem dL_law_788 : decode cL_law 788 = .ok (.iload_n 3, 1) := by decide +kernel
theorem dL_law_789 : decode cL_law 789 = .ok (.iconst 1, 1) := by decide +kernel
theorem dL_law_790 : decode cL_law 790 = .ok (.iadd, 1) := by decide +kernel
theorem dL_law_791 : decode cL_law 791 = .ok (.iaload, 1) := by decide +kernel
theorem dL_law_792 : decode cL_law 792 = .ok (.invokevirtual 121, 3) := by decide +kernel
theorem dL_law_795 : decode cL_law 795 = .ok (.if_icmp .eq 5, 3) := by decide +kernel
theorem dL_law_798 : decode cL_law 798 = .ok (.iconst 0, 1) := by decide +kernel
theorem dL_law_799 : decode cL_law 799 = .ok (.ireturn, 1) := by decide +kernel
theorem dL_law_800 : decode cL_law 800 = .ok (.iinc 3 6, 3) := by decide +kernel
theorem dL_law_803 : decode cL_law 803 = .ok (.goto (-785), 3) := by decide +kernel
theorem dL_law_806 : decode cL_law 806 = .ok (.iconst 1, 1) := by decide +kernel
theorem dL_law_807 : decode cL_law 807 = .ok (.ireturn, 1) := by decide +kernel
end
section
/-! ===== the layer: one memory for all cells that the law has made; rows by instruction ===== -/
abbrev MM : Type := Nat → Option va_E
def mu (μ : MM) (a : Nat) (e : va_E) : MM := fun q => if q = a then some e else μ q
theorem mu_self {μ : MM} {a : Nat} {e : va_E} : mu μ a e a = some e := if_pos rfl
theorem mu_ne {μ : MM} {a b : Nat} {e : va_E} (h : b ≠ a) : mu μ a e b = μ b := if_neg h
theorem mu_mu {μ : MM} {a : Nat} {e e' : va_E} : mu (mu μ a e) a e' = mu μ a e' := by
  funext q
  by_cases h : q = a <;> simp [mu, h]
theorem mu_comm {μ : MM} {a b : Nat} {e e' : va_E} (h : a ≠ b) : mu (mu μ a e) b e' = mu (mu μ b e') a e := by
  funext q
  by_cases h1 : q = a
  · subst h1; simp [mu, h]
  · by_cases h2 : q = b
    · subst h2; simp [mu, h1]
    · simp [mu, h1, h2]
abbrev KK : Type := va_G × (ClassId × ClassId × ClassId × ClassId) × (Nat → Nat) × (Nat → Nat) × (Nat → Nat) × Nat
def kD (Γ : KK) : va_G := Γ.1
def kcI (Γ : KK) : ClassId := Γ.2.1.1
def kcC (Γ : KK) : ClassId := Γ.2.1.2.1
def kcZ (Γ : KK) : ClassId := Γ.2.1.2.2.1
def kcS (Γ : KK) : ClassId := Γ.2.1.2.2.2
def kS (Γ : KK) : Nat → Nat := Γ.2.2.1
def kQ (Γ : KK) : Nat → Nat := Γ.2.2.2.1
def kV (Γ : KK) : Nat → Nat := Γ.2.2.2.2.1
def kB (Γ : KK) : Nat := Γ.2.2.2.2.2
def kA (Γ : KK) : Nat → Prop := fun q => kB Γ ≤ q
def kT (Γ : KK) : List (ClassId × FieldType) := [(kcI Γ, .int), (kcC Γ, .char), (kcZ Γ, .boolean), (kcS Γ, .object "NobodyCave$Scene")]
def xI (Γ : KK) (n : Nat) (f : Nat → Int32) : va_E := .inl (kcI Γ, n, .inl f)
def xC (Γ : KK) (n : Nat) (f : Nat → Int32) : va_E := .inl (kcC Γ, n, .inl f)
def xZ (Γ : KK) (n : Nat) (f : Nat → Int32) : va_E := .inl (kcZ Γ, n, .inl f)
def xS (Γ : KK) (n : Nat) (f : Nat → Option Nat) : va_E := .inl (kcS Γ, n, .inr (.inr (.inr (.inr f))))
def xO (ci : Nat) (fs : List Value) : va_E := .inr (ci, fs)
def mP (Γ : KK) (μ : MM) (H : Heap) : Prop := ∀ (a : Nat) (e : va_E), μ a = some e → va_at (kD Γ) vwCl (a, e) H ∧ kA Γ a
theorem mP.set {Γ : KK} {μ : MM} {H H1 : Heap} {a : Nat} {e : va_E} (h : mP Γ μ H) (ha : kA Γ a) (he : va_at (kD Γ) vwCl (a, e) H1) (oq : ∀ q : Nat, q ≠ a → H1[q]? = H[q]?) : mP Γ (mu μ a e) H1 := by
  intro b f hb
  by_cases hba : b = a
  · subst hba
    rw [mu_self] at hb
    cases hb
    exact ⟨he, ha⟩
  · rw [mu_ne hba] at hb
    exact ⟨(h b f hb).1.kept (oq b hba), (h b f hb).2⟩
theorem mP.push {Γ : KK} {μ : MM} {H H1 : Heap} {a : Nat} {e : va_E} (h : mP Γ μ H) (ha : kA Γ a) (hz : H.size = a) (he : va_at (kD Γ) vwCl (a, e) H1) (oq : ∀ q : Nat, q < a → H1[q]? = H[q]?) : mP Γ (mu μ a e) H1 := by
  intro b f hb
  by_cases hba : b = a
  · subst hba
    rw [mu_self] at hb
    cases hb
    exact ⟨he, ha⟩
  · rw [mu_ne hba] at hb
    exact ⟨(h b f hb).1.kept (oq b (by have := (h b f hb).1.lt; rw [hz] at this; exact this)), (h b f hb).2⟩
theorem arrV_congr {cA : ClassId} {n : Nat} {f g : Nat → Value} (h : ∀ j, j < n → f j = g j) : arrV cA n f = arrV cA n g := by
  have : (fun j : Fin n => f j.val) = (fun j : Fin n => g j.val) := funext fun j => h j.val j.isLt
  simp only [arrV, this]
theorem mP.congrI {Γ : KK} {μ : MM} {H : Heap} {a n : Nat} {f g : Nat → Int32} (hfg : ∀ j, j < n → f j = g j) (h : mP Γ (mu μ a (xI Γ n f)) H) : mP Γ (mu μ a (xI Γ n g)) H := by
  intro b e hb
  by_cases hba : b = a
  · subst hba
    rw [mu_self] at hb
    cases hb
    have h1 := h b _ mu_self
    refine ⟨?_, h1.2⟩
    have h2 : H[b]? = some (vp_cell (kcI Γ) (n, .inl f)) := h1.1
    show H[b]? = some (vp_cell (kcI Γ) (n, .inl g))
    rw [h2, vp_cell_i, vp_cell_i, arrV_congr (fun j hj => by rw [hfg j hj])]
  · rw [mu_ne hba] at hb
    exact h b e (by rw [mu_ne hba]; exact hb)
theorem mP.to {Γ : KK} {μ μ' : MM} {H : Heap} (h : mP Γ μ H) (he : ∀ a e, μ' a = some e → ∃ e0, μ a = some e0 ∧ ∀ H, va_at (kD Γ) vwCl (a, e0) H → va_at (kD Γ) vwCl (a, e) H) : mP Γ μ' H := by
  intro a e ha
  obtain ⟨e0, h0, h1⟩ := he a e ha
  exact ⟨h1 H (h a e0 h0).1, (h a e0 h0).2⟩
/-- locals, by their places; a long's second place is none -/
def lh (ls : Array Slot) (nL : Nat) (lv : List (Option Value)) : Prop := ls.size = nL ∧ lv_wf ls ∧ ∀ (i : Nat) (v : Value), lv[i]? = some (some v) → ls[i]? = some (.val v)
def lvp (lv : List (Option Value)) : List (Nat × Value) := (List.range lv.length).filterMap (fun i => match lv[i]? with
  | some (some v) => some (i, v)
  | _ => none)
theorem lvp_mem {lv : List (Option Value)} {i : Nat} {v : Value} : (i, v) ∈ lvp lv ↔ lv[i]? = some (some v) := by
  unfold lvp
  rw [List.mem_filterMap]
  constructor
  · rintro ⟨j, hj, h⟩
    split at h
    · rename_i w hw
      cases h
      exact hw
    · cases h
  · intro h
    refine ⟨i, List.mem_range.mpr (List.getElem?_eq_some_iff.mp h).1, ?_⟩
    rw [h]
theorem lh.has {ls : Array Slot} {nL : Nat} {lv : List (Option Value)} (h : lh ls nL lv) : lv_has ls nL (lvp lv) := ⟨h.1, h.2.1, fun q hq => h.2.2 q.1 q.2 (lvp_mem.mp hq)⟩
def lok (lv : List (Option Value)) (i : Nat) : Bool := match i with
  | 0 => true
  | j + 1 => match lv[j]? with
    | some (some v) => !(v.category == 2)
    | _ => true
theorem lh.st1 {ls : Array Slot} {nL i : Nat} {lv : List (Option Value)} {v : Value} (h : lv_has ls nL ((i, v) :: (lvp lv).filter (fun q => !(q.1 == i) && !(q.1 + 1 == i && q.2.category == 2)))) (ho : lok lv i = true) : lh ls nL (lv.set i (some v)) := by
  refine ⟨h.1, h.2.1, fun j w hj => ?_⟩
  by_cases hji : j = i
  · subst hji
    rw [List.getElem?_set] at hj
    simp only [if_true] at hj
    split at hj
    · cases hj
      exact h.2.2 (j, v) List.mem_cons_self
    · cases hj
  · rw [List.getElem?_set_ne (Ne.symm hji)] at hj
    refine h.2.2 (j, w) (List.mem_cons_of_mem _ (List.mem_filter.mpr ⟨lvp_mem.mpr hj, ?_⟩))
    have h1 : (j == i) = false := by simp [hji]
    by_cases h2 : j + 1 = i
    · subst h2
      simp only [lok, hj] at ho
      simp only [h1, Bool.not_false, Bool.true_and, beq_self_eq_true, Bool.true_and]
      exact ho
    · have h3 : (j + 1 == i) = false := by simp [h2]
      simp [h1, h3]
theorem lh.st2 {ls : Array Slot} {nL i : Nat} {lv : List (Option Value)} {v : Value} (h : lv_has ls nL ((i, v) :: (lvp lv).filter (fun q => !(q.1 == i) && (!(q.1 == i + 1) && !(q.1 + 1 == i && q.2.category == 2))))) (ho : lok lv i = true) : lh ls nL ((lv.set i (some v)).set (i + 1) none) := by
  refine ⟨h.1, h.2.1, fun j w hj => ?_⟩
  by_cases hj1 : j = i + 1
  · subst hj1
    rw [List.getElem?_set] at hj
    simp only [if_true] at hj
    split at hj <;> cases hj
  · rw [List.getElem?_set_ne (Ne.symm hj1)] at hj
    by_cases hji : j = i
    · subst hji
      rw [List.getElem?_set] at hj
      simp only [if_true] at hj
      split at hj
      · cases hj
        exact h.2.2 (j, v) List.mem_cons_self
      · cases hj
    · rw [List.getElem?_set_ne (Ne.symm hji)] at hj
      refine h.2.2 (j, w) (List.mem_cons_of_mem _ (List.mem_filter.mpr ⟨lvp_mem.mpr hj, ?_⟩))
      have h1 : (j == i) = false := by simp [hji]
      have h4 : (j == i + 1) = false := by simp [hj1]
      by_cases h2 : j + 1 = i
      · subst h2
        simp only [lok, hj] at ho
        simp only [h1, h4, Bool.not_false, Bool.true_and, beq_self_eq_true, Bool.true_and]
        exact ho
      · have h3 : (j + 1 == i) = false := by simp [h2]
        simp [h1, h3, h4]
def lve : List Value → List (Option Value)
  | [] => []
  | v :: vs => if v.category = 2 then some v :: none :: lve vs else some v :: lve vs
theorem lve_args : ∀ (vs : List Value) (k i : Nat) (v : Value), (lve vs)[i]? = some (some v) → (k + i, v) ∈ lv_args k vs
  | [], _, i, v, h => by simp [lve] at h
  | x :: xs, k, i, v, h => by
    unfold lve at h
    unfold lv_args
    by_cases hc : x.category = 2
    · rw [if_pos hc] at h
      rw [if_pos hc]
      match i, h with
      | 0, h => simp at h; subst h; exact List.mem_cons_self
      | 1, h => simp at h
      | i + 2, h =>
        have h1 := lve_args xs (k + 2) i v (by simpa using h)
        rw [show k + (i + 2) = k + 2 + i by omega]
        exact List.mem_cons_of_mem _ h1
    · rw [if_neg hc] at h
      rw [if_neg hc]
      match i, h with
      | 0, h => simp at h; subst h; exact List.mem_cons_self
      | i + 1, h =>
        have h1 := lve_args xs (k + 1) i v (by simpa using h)
        rw [show k + (i + 1) = k + 1 + i by omega]
        exact List.mem_cons_of_mem _ h1
theorem lh.entry {vs : List Value} {n : Nat} (h : (lg_sl vs).length ≤ n) : lh ((lg_sl vs ++ List.replicate (n - (lg_sl vs).length) Slot.unset).toArray) n (lve vs ++ List.replicate (n - (lve vs).length) none) := by
  have h0 := lv_entry vs h
  refine ⟨h0.1, h0.2.1, fun i v hi => ?_⟩
  have h1 : (lve vs)[i]? = some (some v) := by
    by_cases hl : i < (lve vs).length
    · rw [List.getElem?_append_left hl] at hi
      exact hi
    · rw [List.getElem?_append_right (by omega), List.getElem?_replicate] at hi
      split at hi <;> cases hi
  have h2 := lve_args vs 0 i v h1
  rw [Nat.zero_add] at h2
  exact h0.2.2 (i, v) h2

/-- links among nest mates -/
def NW : List Cond := [(Cond.methodLinkNest "NobodyCave" 9 ⟨"NobodyCave$Text", "<init>", "()V"⟩ "NobodyCave"),
  (Cond.methodLinkNest "NobodyCave" 28 ⟨"NobodyCave$Scene", "<init>", "()V"⟩ "NobodyCave"),
  (Cond.methodLinkNest "NobodyCave$Past" 17 ⟨"NobodyCave$Scene", "<init>", "()V"⟩ "NobodyCave"),
  (Cond.methodLinkNest "NobodyCave" 50 ⟨"NobodyCave$Planner", "<init>", "()V"⟩ "NobodyCave"),
  (Cond.methodLinkNest "NobodyCave" 57 ⟨"NobodyCave$Sights", "<init>", "()V"⟩ "NobodyCave"),
  (Cond.methodLinkNest "NobodyCave$Scene" 40 ⟨"NobodyCave", "allBits", "(I)I"⟩ "NobodyCave"),
  (Cond.fieldLinkNest "NobodyCave$Text" 48 "NobodyCave" "LEAST" "[I" "NobodyCave"),
  (Cond.fieldLinkNest "NobodyCave$Text" 52 "NobodyCave" "MOST" "[I" "NobodyCave"),
  (Cond.methodLinkNest "NobodyCave$Text" 55 ⟨"NobodyCave", "isOutside", "(III)Z"⟩ "NobodyCave"),
  (Cond.methodLinkNest "NobodyCave$Scene" 62 ⟨"NobodyCave", "hasBit", "(II)Z"⟩ "NobodyCave"),
  (Cond.methodLinkNest "NobodyCave$Told" 70 ⟨"NobodyCave", "bearing", "(II)I"⟩ "NobodyCave"),
  (Cond.methodLinkNest "NobodyCave$Told" 80 ⟨"NobodyCave", "hasBit", "(II)Z"⟩ "NobodyCave"),
  (Cond.methodLinkNest "NobodyCave$Planner" 37 ⟨"NobodyCave", "hasBit", "(II)Z"⟩ "NobodyCave"),
  (Cond.methodLinkNest "NobodyCave$Told" 63 ⟨"NobodyCave", "allBits", "(I)I"⟩ "NobodyCave"),
  (Cond.methodLinkNest "NobodyCave$Sights" 35 ⟨"NobodyCave", "bearing", "(II)I"⟩ "NobodyCave")]
theorem NW_kind : ∀ w ∈ NW, (∃ (a : String) (i : Nat) (y : MethodName) (h : String), w = .methodLinkNest a i y h) ∨ (∃ (a : String) (i : Nat) (b n d h : String), w = .fieldLinkNest a i b n d h) := by
  unfold NW
  simp only [List.forall_mem_cons]
  repeat' apply And.intro
  all_goals first | exact Or.inl ⟨_, _, _, _, rfl⟩ | exact Or.inr ⟨_, _, _, _, _, _, rfl⟩ | (intro _ h; cases h)
def stN (i : Nat) : String := match i with
  | 0 => "OVER"
  | 1 => "LEAST"
  | _ => "MOST"
def stL (i : Nat) : Nat := match i with
  | 0 => 5
  | _ => 11
def stV (i : Nat) : List Int32 := match i with
  | 0 => [-1, 0, 1, 1, 0]
  | 1 => [0, 1, 1, 1, 1, 1, 0, 0, 1, 1, 0]
  | _ => [0, 20, 20, 20, 20, 20, 255, 50, 9, 9, 3]

def strI (i : Nat) : Nat := [86, 88, 90, 92, 94, 96, 98, 100, 102, 104, 106].getD i 0
def strT (i : Nat) : String := ["cave", "man", "woolly", "ram", "tied", "bell", "near", "wine", "sleep", "hard", "eats"].getD i ""
def strL : List Nat := [4, 3, 6, 3, 4, 4, 4, 4, 5, 4, 4]
def strB : List (List Int32) := [[99, 97, 118, 101], [109, 97, 110], [119, 111, 111, 108, 108, 121], [114, 97, 109], [116, 105, 101, 100], [98, 101, 108, 108], [110, 101, 97, 114], [119, 105, 110, 101], [115, 108, 101, 101, 112], [104, 97, 114, 100], [101, 97, 116, 115]]
/-- what holds of the machine's tables and of the old cells at every method's start -/
def GG (Γ : KK) (U : State) : Prop :=
  va_K (kD Γ) vwCl (kT Γ) U ∧ (∀ w ∈ NW, va_Nw w U) ∧ va_AO "NobodyCave$Scene" U ∧
  (∀ i, i < 3 → va_Z "NobodyCave" (stN i) "[I" (.ref (kS Γ i)) (kA Γ) U U.heap ∧ va_T .int (kS Γ i) (stL i) (fun j => .int ((stV i).getD j 0)) (kA Γ) U U.heap) ∧
  vk_S 11 strL strB (kQ Γ) (kV Γ) (kA Γ) U U.heap ∧ (∀ i, i < 11 → vk_R "NobodyCave$Text" (strI i) (strT i) (kQ Γ i) U) ∧
  va_Z "java/lang/String" "COMPACT_STRINGS" "Z" (.int 1) (kA Γ) U U.heap
theorem GG.move {Γ : KK} {s U : State} (h : GG Γ s) (hW : s.WarmedH U.vm) (hk : ∀ q : Nat, q < s.heap.size → ¬ kA Γ q → U.heap[q]? = s.heap[q]?) : GG Γ U := by
  obtain ⟨h1, h2, h3, h4, h5, h6, h7⟩ := h
  refine ⟨h1.moved hW.alike, fun w hw => ?_, h3.moved hW.alike, fun i hi => ⟨((h4 i hi).1.moved hW.alike).kept hk, ((h4 i hi).2.moved hW.alike).kept hk⟩, (h5.moved hW.alike).kept hk, fun i hi => (h6 i hi).warm hW, (h7.moved hW.alike).kept hk⟩
  rcases NW_kind w hw with ⟨a, i, y, hh, rfl⟩ | ⟨a, i, b, n, d, hh, rfl⟩
  · exact (h2 _ hw).warmM hW
  · exact (h2 _ hw).warmF hW
theorem GG.same {Γ : KK} {u U : State} (h : GG Γ u) (hv : U.vm = u.vm) (hh : U.heap = u.heap) : GG Γ U := by
  obtain ⟨h1, h2, h3, h4, h5, h6, h7⟩ := h
  have ha : u.vm.Alike U.vm := by rw [hv]; exact Vm.Alike.refl _
  refine ⟨h1.moved ha, fun w hw => ?_, h3.moved ha, fun i hi => ?_, ?_, fun i hi => (h6 i hi).same hv, ?_⟩
  · rcases NW_kind w hw with ⟨a, i, y, hq, rfl⟩ | ⟨a, i, b, n, d, hq, rfl⟩
    · exact (h2 _ hw).same rfl hv.symm
    · exact (h2 _ hw).same rfl hv.symm
  · rw [hh]; exact ⟨(h4 i hi).1.moved ha, (h4 i hi).2.moved ha⟩
  · rw [hh]; exact h5.moved ha
  · rw [hh]; exact h7.moved ha
/-- a method: its name, code, locals, answer -/
abbrev MD : Type := MethodName × ByteArray × Nat × Option FieldType
def RM (k mc ms : Nat) : Room := { frames := k, cells := mc, slots := ms, locals := 40 * k }
def CP (Γ : KK) (sz : Nat) (av : List Value) (μ : MM) : Array Value → State → Prop := fun a U => a = av.toArray ∧ GG Γ U ∧ mP Γ μ U.heap ∧ kB Γ ≤ U.heap.size ∧ U.heap.size = sz
def CQ (Γ : KK) (mc : Nat) (post : Option Value → MM → Prop) : Array Value → State → Outcome → State → Prop := fun _ st o t => ∃ (r : Option Value) (μ : MM), o = .returned r ∧ post r μ ∧ mP Γ μ t.heap ∧ t.heap.size = st.heap.size + mc ∧ ∀ q : Nat, q < kB Γ → t.heap[q]? = st.heap[q]?
/-- a method's contract: from the memory μ it answers and leaves a memory by 'post' -/
def CT (Γ : KK) (l : Launch) (k sz mc ms : Nat) (md : MD) (av : List Value) (μ : MM) (post : Option Value → MM → Prop) : Prop :=
  Met l md.1 (.code md.1 md.2.1 md.2.2.1 md.2.2.2 :: GT) (RM k mc ms) (CP Γ sz av μ) (CQ Γ mc post) mc ms (kA Γ)
def ri (post : Int32 → MM → Prop) : Option Value → MM → Prop := fun r μ => ∃ i, r = some (.int i) ∧ post i μ
def rl (post : Int64 → MM → Prop) : Option Value → MM → Prop := fun r μ => ∃ i, r = some (.long i) ∧ post i μ
def rr (post : Nat → MM → Prop) : Option Value → MM → Prop := fun r μ => ∃ i, r = some (.ref i) ∧ post i μ
def rv (post : MM → Prop) : Option Value → MM → Prop := fun r μ => r = none ∧ post μ
def cX (Γ : KK) (p : Program) (R : Room) (s : State) (m : MethodId) (args : Array Value) (meth : Method) (c : Code) (cc : ByteArray) (ret : Option FieldType) (nm own : String) (k mc ms nL : Nat) : Prop :=
  p.tables.exec = Jvm.exec ∧ c.code = cc ∧ meth.sig.returnType = ret ∧ c.maxLocals = nL ∧ s.vm.findClass own = some m.cls ∧ (∀ w ∈ GT, w.before args s = true) ∧ GG Γ s ∧ kB Γ ≤ s.heap.size ∧ meth.locks = false ∧ meth.name = nm ∧ k ≤ R.frames ∧ 40 * k ≤ R.locals ∧ mc ≤ R.cells ∧ ms ≤ R.slots
def vV (Γ : KK) (p : Program) (l : Launch) (e : Env) (R : Room) (s : State) (m : MethodId) (args : Array Value) (below : List Frame) (meth : Method) (c : Code) (Q : State → Prop) (nL cells slots pc : Nat) (lv : List (Option Value)) (st : List Value) (μ : MM) : Prop :=
  ∀ (H : Heap) (locs : List Loc) (ls : Array Slot), mP Γ μ H → H.size = s.heap.size + cells → va_S (kA Γ) s.heap H locs → lh ls nL lv → W p l e R s m args below meth c H locs cells slots Q (F0 m pc ls st)
abbrev vQ (Γ : KK) (s : State) (args : Array Value) (below : List Frame) (mc ms : Nat) (post : Option Value → MM → Prop) : State → Prop := MQ below (CQ Γ mc post) args s mc ms (kA Γ)
theorem CT.start {Γ : KK} {l : Launch} {k sz mc ms : Nat} {y : MethodName} {cc : ByteArray} {nL : Nat} {ret : Option FieldType} {av : List Value} {μ : MM} {post : Option Value → MM → Prop} (hy : plainName y.cls = true) (ha : (lg_sl av).length ≤ nL)
    (body : ∀ (p : Program) (e : Env) (R : Room) (s : State) (m : MethodId) (below : List Frame) (meth : Method) (c : Code), cX Γ p R s m av.toArray meth c cc ret y.name y.cls k mc ms nL → s.heap.size = sz →
      vV Γ p l e R s m av.toArray below meth c (vQ Γ s av.toArray below mc ms post) nL 0 0 0 (lve av ++ List.replicate (nL - (lve av).length) none) [] μ) : CT Γ l k sz mc ms (y, cc, nL, ret) av μ post := by
  refine Met.ofW (cc := cc) (maxL := nL) (ret := ret) hy rfl ?_
  intro p e s m args below meth c s₁ B hml hv
  obtain ⟨rfl, hG, hP, hB, hz⟩ := hv
  have hts := atoms_spec (ws := (.code y cc nL ret :: GT)) B.pre
  have hown : s.vm.findClass y.cls = some m.cls := findClass_of_methodNamed B.named
  rw [lg_entry_eq]
  exact body p e _ s m below meth c ⟨B.exec, B.bytes, B.returns, hml, hown, fun w hw => hts w (List.mem_cons_of_mem _ hw), hG, hB, B.notSynchronized, (name_of_methodNamed B.named B.method).1, Nat.le_refl _, Nat.le_refl _, Nat.le_refl _, Nat.le_refl _⟩ hz s.heap [] _ hP rfl va_S.rf (lh.entry ha)

section LY
variable {Γ : KK} {p : Program} {l : Launch} {e : Env} {R : Room} {s : State} {m : MethodId} {args : Array Value} {below : List Frame} {meth : Method} {c : Code} {Q : State → Prop} {cc : ByteArray} {ret : Option FieldType} {nm own : String} {k mc ms nL cells slots pc : Nat} {lv : List (Option Value)} {st : List Value} {μ : MM}
theorem r_iconst (X : cX Γ p R s m args meth c cc ret nm own k mc ms nL) {n : Int} {v : Int32} (hd : decode cc pc = .ok (.iconst n, 1)) (hv : Int32.ofInt n = v) (kk : vV Γ p l e R s m args below meth c Q nL cells slots (pc + 1) (lv) (.int v :: st) (μ)) : vV Γ p l e R s m args below meth c Q nL cells slots (pc) (lv) (st) (μ) := fun H locs ls h1 h2 h3 h4 => lv_iconst X.1 X.2.1 hd hv (kk H locs ls h1 h2 h3 h4)
theorem r_bipush (X : cX Γ p R s m args meth c cc ret nm own k mc ms nL) {n : Int} {v : Int32} (hd : decode cc pc = .ok (.bipush n, 2)) (hv : (Int8.ofInt n).toInt32 = v) (kk : vV Γ p l e R s m args below meth c Q nL cells slots (pc + 2) (lv) (.int v :: st) (μ)) : vV Γ p l e R s m args below meth c Q nL cells slots (pc) (lv) (st) (μ) := fun H locs ls h1 h2 h3 h4 => lv_bipush X.1 X.2.1 hd hv (kk H locs ls h1 h2 h3 h4)
theorem r_sipush (X : cX Γ p R s m args meth c cc ret nm own k mc ms nL) {n : Int} {v : Int32} (hd : decode cc pc = .ok (.sipush n, 3)) (hv : (Int16.ofInt n).toInt32 = v) (kk : vV Γ p l e R s m args below meth c Q nL cells slots (pc + 3) (lv) (.int v :: st) (μ)) : vV Γ p l e R s m args below meth c Q nL cells slots (pc) (lv) (st) (μ) := fun H locs ls h1 h2 h3 h4 => lv_sipush X.1 X.2.1 hd hv (kk H locs ls h1 h2 h3 h4)
theorem r_lconst (X : cX Γ p R s m args meth c cc ret nm own k mc ms nL) {n : Fin 2} {v : Int64} (hd : decode cc pc = .ok (.lconst n, 1)) (hv : Int64.ofNat n.val = v) (kk : vV Γ p l e R s m args below meth c Q nL cells slots (pc + 1) (lv) (.long v :: st) (μ)) : vV Γ p l e R s m args below meth c Q nL cells slots (pc) (lv) (st) (μ) := fun H locs ls h1 h2 h3 h4 => lv_lconst X.1 X.2.1 hd hv (kk H locs ls h1 h2 h3 h4)
theorem r_iload_n (X : cX Γ p R s m args meth c cc ret nm own k mc ms nL) {j : Fin 4} {x : Int32} (hd : decode cc pc = .ok (.iload_n j, 1)) (hl : lv[(j : Nat)]? = some (some (.int x))) (kk : vV Γ p l e R s m args below meth c Q nL cells slots (pc + 1) (lv) (.int x :: st) (μ)) : vV Γ p l e R s m args below meth c Q nL cells slots (pc) (lv) (st) (μ) := fun H locs ls h1 h2 h3 h4 => lv_iload_n X.1 X.2.1 hd rfl (h4.2.2 _ _ hl) (kk H locs ls h1 h2 h3 h4)
theorem r_iload (X : cX Γ p R s m args meth c cc ret nm own k mc ms nL) {j : Nat} {x : Int32} (hd : decode cc pc = .ok (.iload j, 2)) (hl : lv[j]? = some (some (.int x))) (kk : vV Γ p l e R s m args below meth c Q nL cells slots (pc + 2) (lv) (.int x :: st) (μ)) : vV Γ p l e R s m args below meth c Q nL cells slots (pc) (lv) (st) (μ) := fun H locs ls h1 h2 h3 h4 => lv_iload X.1 X.2.1 hd (h4.2.2 _ _ hl) (kk H locs ls h1 h2 h3 h4)
theorem r_aload_n (X : cX Γ p R s m args meth c cc ret nm own k mc ms nL) {j : Fin 4} {x : Nat} (hd : decode cc pc = .ok (.aload_n j, 1)) (hl : lv[(j : Nat)]? = some (some (.ref x))) (kk : vV Γ p l e R s m args below meth c Q nL cells slots (pc + 1) (lv) (.ref x :: st) (μ)) : vV Γ p l e R s m args below meth c Q nL cells slots (pc) (lv) (st) (μ) := fun H locs ls h1 h2 h3 h4 => lv_aload_n X.1 X.2.1 hd rfl (h4.2.2 _ _ hl) (kk H locs ls h1 h2 h3 h4)
theorem r_aload (X : cX Γ p R s m args meth c cc ret nm own k mc ms nL) {j : Nat} {x : Nat} (hd : decode cc pc = .ok (.aload j, 2)) (hl : lv[j]? = some (some (.ref x))) (kk : vV Γ p l e R s m args below meth c Q nL cells slots (pc + 2) (lv) (.ref x :: st) (μ)) : vV Γ p l e R s m args below meth c Q nL cells slots (pc) (lv) (st) (μ) := fun H locs ls h1 h2 h3 h4 => lv_aload X.1 X.2.1 hd (h4.2.2 _ _ hl) (kk H locs ls h1 h2 h3 h4)
theorem r_lload_n (X : cX Γ p R s m args meth c cc ret nm own k mc ms nL) {j : Fin 4} {x : Int64} (hd : decode cc pc = .ok (.lload_n j, 1)) (hl : lv[(j : Nat)]? = some (some (.long x))) (kk : vV Γ p l e R s m args below meth c Q nL cells slots (pc + 1) (lv) (.long x :: st) (μ)) : vV Γ p l e R s m args below meth c Q nL cells slots (pc) (lv) (st) (μ) := fun H locs ls h1 h2 h3 h4 => lv_lload_n X.1 X.2.1 hd rfl (h4.2.2 _ _ hl) (kk H locs ls h1 h2 h3 h4)
theorem r_lload (X : cX Γ p R s m args meth c cc ret nm own k mc ms nL) {j : Nat} {x : Int64} (hd : decode cc pc = .ok (.lload j, 2)) (hl : lv[j]? = some (some (.long x))) (kk : vV Γ p l e R s m args below meth c Q nL cells slots (pc + 2) (lv) (.long x :: st) (μ)) : vV Γ p l e R s m args below meth c Q nL cells slots (pc) (lv) (st) (μ) := fun H locs ls h1 h2 h3 h4 => lv_lload X.1 X.2.1 hd (h4.2.2 _ _ hl) (kk H locs ls h1 h2 h3 h4)
theorem r_istore_n (X : cX Γ p R s m args meth c cc ret nm own k mc ms nL) {j : Fin 4} {x : Int32} (hd : decode cc pc = .ok (.istore_n j, 1)) (hn : (j : Nat) < nL) (ho : lok lv (j : Nat) = true) (kk : vV Γ p l e R s m args below meth c Q nL cells slots (pc + 1) (lv.set (j : Nat) (some (.int x))) (st) (μ)) : vV Γ p l e R s m args below meth c Q nL cells slots (pc) (lv) (.int x :: st) (μ) := fun H locs ls h1 h2 h3 h4 => lv_istore_n X.1 X.2.1 hd rfl h4.has hn rfl (fun ls h => kk H locs ls h1 h2 h3 (lh.st1 h ho))
theorem r_istore (X : cX Γ p R s m args meth c cc ret nm own k mc ms nL) {j : Nat} {x : Int32} (hd : decode cc pc = .ok (.istore j, 2)) (hn : j < nL) (ho : lok lv j = true) (kk : vV Γ p l e R s m args below meth c Q nL cells slots (pc + 2) (lv.set j (some (.int x))) (st) (μ)) : vV Γ p l e R s m args below meth c Q nL cells slots (pc) (lv) (.int x :: st) (μ) := fun H locs ls h1 h2 h3 h4 => lv_istore X.1 X.2.1 hd h4.has hn rfl (fun ls h => kk H locs ls h1 h2 h3 (lh.st1 h ho))
theorem r_astore_n (X : cX Γ p R s m args meth c cc ret nm own k mc ms nL) {j : Fin 4} {x : Nat} (hd : decode cc pc = .ok (.astore_n j, 1)) (hn : (j : Nat) < nL) (ho : lok lv (j : Nat) = true) (kk : vV Γ p l e R s m args below meth c Q nL cells slots (pc + 1) (lv.set (j : Nat) (some (.ref x))) (st) (μ)) : vV Γ p l e R s m args below meth c Q nL cells slots (pc) (lv) (.ref x :: st) (μ) := fun H locs ls h1 h2 h3 h4 => lv_astore_n X.1 X.2.1 hd rfl h4.has hn rfl (fun ls h => kk H locs ls h1 h2 h3 (lh.st1 h ho))
theorem r_astore (X : cX Γ p R s m args meth c cc ret nm own k mc ms nL) {j : Nat} {x : Nat} (hd : decode cc pc = .ok (.astore j, 2)) (hn : j < nL) (ho : lok lv j = true) (kk : vV Γ p l e R s m args below meth c Q nL cells slots (pc + 2) (lv.set j (some (.ref x))) (st) (μ)) : vV Γ p l e R s m args below meth c Q nL cells slots (pc) (lv) (.ref x :: st) (μ) := fun H locs ls h1 h2 h3 h4 => lv_astore X.1 X.2.1 hd h4.has hn rfl (fun ls h => kk H locs ls h1 h2 h3 (lh.st1 h ho))
theorem r_lstore_n (X : cX Γ p R s m args meth c cc ret nm own k mc ms nL) {j : Fin 4} {x : Int64} (hd : decode cc pc = .ok (.lstore_n j, 1)) (hn : (j : Nat) + 1 < nL) (ho : lok lv (j : Nat) = true) (kk : vV Γ p l e R s m args below meth c Q nL cells slots (pc + 1) ((lv.set (j : Nat) (some (.long x))).set ((j : Nat) + 1) none) (st) (μ)) : vV Γ p l e R s m args below meth c Q nL cells slots (pc) (lv) (.long x :: st) (μ) := fun H locs ls h1 h2 h3 h4 => lv_lstore_n X.1 X.2.1 hd rfl h4.has hn rfl (fun ls h => kk H locs ls h1 h2 h3 (lh.st2 h ho))
theorem r_lstore (X : cX Γ p R s m args meth c cc ret nm own k mc ms nL) {j : Nat} {x : Int64} (hd : decode cc pc = .ok (.lstore j, 2)) (hn : j + 1 < nL) (ho : lok lv j = true) (kk : vV Γ p l e R s m args below meth c Q nL cells slots (pc + 2) ((lv.set j (some (.long x))).set (j + 1) none) (st) (μ)) : vV Γ p l e R s m args below meth c Q nL cells slots (pc) (lv) (.long x :: st) (μ) := fun H locs ls h1 h2 h3 h4 => lv_lstore X.1 X.2.1 hd h4.has hn rfl (fun ls h => kk H locs ls h1 h2 h3 (lh.st2 h ho))
theorem r_iinc (X : cX Γ p R s m args meth c cc ret nm own k mc ms nL) {j : Nat} {n : Int} {x v : Int32} (hd : decode cc pc = .ok (.iinc j n, 3)) (hl : lv[j]? = some (some (.int x))) (hv : x + Int32.ofInt n = v) (hn : j < nL) (ho : lok lv j = true) (kk : vV Γ p l e R s m args below meth c Q nL cells slots (pc + 3) (lv.set j (some (.int v))) (st) (μ)) : vV Γ p l e R s m args below meth c Q nL cells slots (pc) (lv) (st) (μ) := by
  intro H locs ls h1 h2 h3 h4
  obtain ⟨q, hq⟩ := List.getElem?_of_mem (lvp_mem.mpr hl)
  exact lv_iinc X.1 X.2.1 hd h4.has hq hv hn rfl (fun ls h => kk H locs ls h1 h2 h3 (lh.st1 h ho))
theorem r_iadd (X : cX Γ p R s m args meth c cc ret nm own k mc ms nL) {x y : Int32} (hd : decode cc pc = .ok (.iadd, 1)) (kk : vV Γ p l e R s m args below meth c Q nL cells slots (pc + 1) (lv) (.int (x + y) :: st) (μ)) : vV Γ p l e R s m args below meth c Q nL cells slots (pc) (lv) (.int y :: .int x :: st) (μ) := fun H locs ls h1 h2 h3 h4 => lv_iadd X.1 X.2.1 hd (kk H locs ls h1 h2 h3 h4)
theorem r_isub (X : cX Γ p R s m args meth c cc ret nm own k mc ms nL) {x y : Int32} (hd : decode cc pc = .ok (.isub, 1)) (kk : vV Γ p l e R s m args below meth c Q nL cells slots (pc + 1) (lv) (.int (x - y) :: st) (μ)) : vV Γ p l e R s m args below meth c Q nL cells slots (pc) (lv) (.int y :: .int x :: st) (μ) := fun H locs ls h1 h2 h3 h4 => lv_isub X.1 X.2.1 hd (kk H locs ls h1 h2 h3 h4)
theorem r_imul (X : cX Γ p R s m args meth c cc ret nm own k mc ms nL) {x y : Int32} (hd : decode cc pc = .ok (.imul, 1)) (kk : vV Γ p l e R s m args below meth c Q nL cells slots (pc + 1) (lv) (.int (x * y) :: st) (μ)) : vV Γ p l e R s m args below meth c Q nL cells slots (pc) (lv) (.int y :: .int x :: st) (μ) := fun H locs ls h1 h2 h3 h4 => lv_imul X.1 X.2.1 hd (kk H locs ls h1 h2 h3 h4)
theorem r_iand (X : cX Γ p R s m args meth c cc ret nm own k mc ms nL) {x y : Int32} (hd : decode cc pc = .ok (.iand, 1)) (kk : vV Γ p l e R s m args below meth c Q nL cells slots (pc + 1) (lv) (.int (x &&& y) :: st) (μ)) : vV Γ p l e R s m args below meth c Q nL cells slots (pc) (lv) (.int y :: .int x :: st) (μ) := fun H locs ls h1 h2 h3 h4 => lv_iand X.1 X.2.1 hd (kk H locs ls h1 h2 h3 h4)
theorem r_ior (X : cX Γ p R s m args meth c cc ret nm own k mc ms nL) {x y : Int32} (hd : decode cc pc = .ok (.ior, 1)) (kk : vV Γ p l e R s m args below meth c Q nL cells slots (pc + 1) (lv) (.int (x ||| y) :: st) (μ)) : vV Γ p l e R s m args below meth c Q nL cells slots (pc) (lv) (.int y :: .int x :: st) (μ) := fun H locs ls h1 h2 h3 h4 => lv_ior X.1 X.2.1 hd (kk H locs ls h1 h2 h3 h4)
theorem r_ixor (X : cX Γ p R s m args meth c cc ret nm own k mc ms nL) {x y : Int32} (hd : decode cc pc = .ok (.ixor, 1)) (kk : vV Γ p l e R s m args below meth c Q nL cells slots (pc + 1) (lv) (.int (x ^^^ y) :: st) (μ)) : vV Γ p l e R s m args below meth c Q nL cells slots (pc) (lv) (.int y :: .int x :: st) (μ) := fun H locs ls h1 h2 h3 h4 => lv_ixor X.1 X.2.1 hd (kk H locs ls h1 h2 h3 h4)
theorem r_ishl (X : cX Γ p R s m args meth c cc ret nm own k mc ms nL) {x y : Int32} (hd : decode cc pc = .ok (.ishl, 1)) (kk : vV Γ p l e R s m args below meth c Q nL cells slots (pc + 1) (lv) (.int (x <<< (y &&& 31)) :: st) (μ)) : vV Γ p l e R s m args below meth c Q nL cells slots (pc) (lv) (.int y :: .int x :: st) (μ) := fun H locs ls h1 h2 h3 h4 => lv_ishl X.1 X.2.1 hd (kk H locs ls h1 h2 h3 h4)
theorem r_ishr (X : cX Γ p R s m args meth c cc ret nm own k mc ms nL) {x y : Int32} (hd : decode cc pc = .ok (.ishr, 1)) (kk : vV Γ p l e R s m args below meth c Q nL cells slots (pc + 1) (lv) (.int (x >>> (y &&& 31)) :: st) (μ)) : vV Γ p l e R s m args below meth c Q nL cells slots (pc) (lv) (.int y :: .int x :: st) (μ) := fun H locs ls h1 h2 h3 h4 => lv_ishr X.1 X.2.1 hd (kk H locs ls h1 h2 h3 h4)
theorem r_idiv (X : cX Γ p R s m args meth c cc ret nm own k mc ms nL) {x y : Int32} (hd : decode cc pc = .ok (.idiv, 1)) (hne : ¬ y = 0) (kk : vV Γ p l e R s m args below meth c Q nL cells slots (pc + 1) (lv) (.int (x / y) :: st) (μ)) : vV Γ p l e R s m args below meth c Q nL cells slots (pc) (lv) (.int y :: .int x :: st) (μ) := fun H locs ls h1 h2 h3 h4 => lv_idiv X.1 X.2.1 hd hne (kk H locs ls h1 h2 h3 h4)
theorem r_irem (X : cX Γ p R s m args meth c cc ret nm own k mc ms nL) {x y : Int32} (hd : decode cc pc = .ok (.irem, 1)) (hne : ¬ y = 0) (kk : vV Γ p l e R s m args below meth c Q nL cells slots (pc + 1) (lv) (.int (x - x / y * y) :: st) (μ)) : vV Γ p l e R s m args below meth c Q nL cells slots (pc) (lv) (.int y :: .int x :: st) (μ) := fun H locs ls h1 h2 h3 h4 => lv_irem X.1 X.2.1 hd hne (kk H locs ls h1 h2 h3 h4)
theorem r_iushr (X : cX Γ p R s m args meth c cc ret nm own k mc ms nL) {x y v : Int32} (hd : decode cc pc = .ok (.iushr, 1)) (hv : (x.toUInt32 >>> (y.toUInt32 &&& Int32.toUInt32 31)).toInt32 = v) (kk : vV Γ p l e R s m args below meth c Q nL cells slots (pc + 1) (lv) (.int v :: st) (μ)) : vV Γ p l e R s m args below meth c Q nL cells slots (pc) (lv) (.int y :: .int x :: st) (μ) := fun H locs ls h1 h2 h3 h4 => lv_iushr X.1 X.2.1 hd hv (kk H locs ls h1 h2 h3 h4)
theorem r_i2c (X : cX Γ p R s m args meth c cc ret nm own k mc ms nL) {x v : Int32} (hd : decode cc pc = .ok (.i2c, 1)) (hv : (x.toUInt32 % 65536).toInt32 = v) (kk : vV Γ p l e R s m args below meth c Q nL cells slots (pc + 1) (lv) (.int v :: st) (μ)) : vV Γ p l e R s m args below meth c Q nL cells slots (pc) (lv) (.int x :: st) (μ) := fun H locs ls h1 h2 h3 h4 => lv_i2c X.1 X.2.1 hd hv (kk H locs ls h1 h2 h3 h4)
theorem r_i2l (X : cX Γ p R s m args meth c cc ret nm own k mc ms nL) {x : Int32} {v : Int64} (hd : decode cc pc = .ok (.i2l, 1)) (hv : x.toInt64 = v) (kk : vV Γ p l e R s m args below meth c Q nL cells slots (pc + 1) (lv) (.long v :: st) (μ)) : vV Γ p l e R s m args below meth c Q nL cells slots (pc) (lv) (.int x :: st) (μ) := fun H locs ls h1 h2 h3 h4 => lv_i2l X.1 X.2.1 hd hv (kk H locs ls h1 h2 h3 h4)
theorem r_ladd (X : cX Γ p R s m args meth c cc ret nm own k mc ms nL) {x y : Int64} (hd : decode cc pc = .ok (.ladd, 1)) (kk : vV Γ p l e R s m args below meth c Q nL cells slots (pc + 1) (lv) (.long (x + y) :: st) (μ)) : vV Γ p l e R s m args below meth c Q nL cells slots (pc) (lv) (.long y :: .long x :: st) (μ) := fun H locs ls h1 h2 h3 h4 => lv_ladd X.1 X.2.1 hd (kk H locs ls h1 h2 h3 h4)
theorem r_lsub (X : cX Γ p R s m args meth c cc ret nm own k mc ms nL) {x y : Int64} (hd : decode cc pc = .ok (.lsub, 1)) (kk : vV Γ p l e R s m args below meth c Q nL cells slots (pc + 1) (lv) (.long (x - y) :: st) (μ)) : vV Γ p l e R s m args below meth c Q nL cells slots (pc) (lv) (.long y :: .long x :: st) (μ) := fun H locs ls h1 h2 h3 h4 => lv_lsub X.1 X.2.1 hd (kk H locs ls h1 h2 h3 h4)
theorem r_lmul (X : cX Γ p R s m args meth c cc ret nm own k mc ms nL) {x y : Int64} (hd : decode cc pc = .ok (.lmul, 1)) (kk : vV Γ p l e R s m args below meth c Q nL cells slots (pc + 1) (lv) (.long (x * y) :: st) (μ)) : vV Γ p l e R s m args below meth c Q nL cells slots (pc) (lv) (.long y :: .long x :: st) (μ) := fun H locs ls h1 h2 h3 h4 => lv_lmul X.1 X.2.1 hd (kk H locs ls h1 h2 h3 h4)
theorem r_lcmp (X : cX Γ p R s m args meth c cc ret nm own k mc ms nL) {x y : Int64} (hd : decode cc pc = .ok (.lcmp, 1)) (kk : vV Γ p l e R s m args below meth c Q nL cells slots (pc + 1) (lv) (.int (lg_cmp x y) :: st) (μ)) : vV Γ p l e R s m args below meth c Q nL cells slots (pc) (lv) (.long y :: .long x :: st) (μ) := fun H locs ls h1 h2 h3 h4 => W.lcmp X.1 X.2.1 hd (kk H locs ls h1 h2 h3 h4)
theorem r_dup (X : cX Γ p R s m args meth c cc ret nm own k mc ms nL) {v : Value} (hd : decode cc pc = .ok (.dup, 1)) (hc : v.category = 1) (kk : vV Γ p l e R s m args below meth c Q nL cells slots (pc + 1) (lv) (v :: v :: st) (μ)) : vV Γ p l e R s m args below meth c Q nL cells slots (pc) (lv) (v :: st) (μ) := fun H locs ls h1 h2 h3 h4 => lv_dup X.1 X.2.1 hd hc (kk H locs ls h1 h2 h3 h4)
theorem r_pop (X : cX Γ p R s m args meth c cc ret nm own k mc ms nL) {v : Value} (hd : decode cc pc = .ok (.pop, 1)) (hc : v.category = 1) (kk : vV Γ p l e R s m args below meth c Q nL cells slots (pc + 1) (lv) (st) (μ)) : vV Γ p l e R s m args below meth c Q nL cells slots (pc) (lv) (v :: st) (μ) := fun H locs ls h1 h2 h3 h4 => lv_pop X.1 X.2.1 hd hc (kk H locs ls h1 h2 h3 h4)
theorem r_dup_x1 (X : cX Γ p R s m args meth c cc ret nm own k mc ms nL) {v w : Value} (hd : decode cc pc = .ok (.dup_x1, 1)) (hc : v.category = 1) (hc2 : w.category = 1) (kk : vV Γ p l e R s m args below meth c Q nL cells slots (pc + 1) (lv) (v :: w :: v :: st) (μ)) : vV Γ p l e R s m args below meth c Q nL cells slots (pc) (lv) (v :: w :: st) (μ) := fun H locs ls h1 h2 h3 h4 => lv_dup_x1 X.1 X.2.1 hd hc hc2 (kk H locs ls h1 h2 h3 h4)
theorem r_dup_x2 (X : cX Γ p R s m args meth c cc ret nm own k mc ms nL) {v w u : Value} (hd : decode cc pc = .ok (.dup_x2, 1)) (hc : v.category = 1) (hc2 : w.category = 1) (hc3 : u.category = 1) (kk : vV Γ p l e R s m args below meth c Q nL cells slots (pc + 1) (lv) (v :: w :: u :: v :: st) (μ)) : vV Γ p l e R s m args below meth c Q nL cells slots (pc) (lv) (v :: w :: u :: st) (μ) := fun H locs ls h1 h2 h3 h4 => lv_dup_x2 X.1 X.2.1 hd hc hc2 hc3 (kk H locs ls h1 h2 h3 h4)
theorem r_dup2 (X : cX Γ p R s m args meth c cc ret nm own k mc ms nL) {v w : Value} (hd : decode cc pc = .ok (.dup2, 1)) (hc : v.category = 1) (hc2 : w.category = 1) (kk : vV Γ p l e R s m args below meth c Q nL cells slots (pc + 1) (lv) (v :: w :: v :: w :: st) (μ)) : vV Γ p l e R s m args below meth c Q nL cells slots (pc) (lv) (v :: w :: st) (μ) := fun H locs ls h1 h2 h3 h4 => lv_dup2_11 X.1 X.2.1 hd hc hc2 (kk H locs ls h1 h2 h3 h4)
theorem r_if_eq (X : cX Γ p R s m args meth c cc ret nm own k mc ms nL) {x : Int32} {off : Int} (tgt : Nat) (hd : decode cc pc = .ok (.ifCond .eq off, 3)) (ht : (pc : Int) + off = (tgt : Int)) (kt : x = nI 0 → vV Γ p l e R s m args below meth c Q nL cells slots (tgt) (lv) (st) (μ)) (kf : ¬ (x = nI 0) → vV Γ p l e R s m args below meth c Q nL cells slots (pc + 3) (lv) (st) (μ)) : vV Γ p l e R s m args below meth c Q nL cells slots (pc) (lv) (.int x :: st) (μ) := by
  rw [nI_0] at kt kf
  exact fun H locs ls h1 h2 h3 h4 => lv_if_eq X.1 X.2.1 hd ht (fun q => kt q H locs ls h1 h2 h3 h4) (fun q => kf q H locs ls h1 h2 h3 h4)
theorem r_icmp_eq (X : cX Γ p R s m args meth c cc ret nm own k mc ms nL) {x y : Int32} {off : Int} (tgt : Nat) (hd : decode cc pc = .ok (.if_icmp .eq off, 3)) (ht : (pc : Int) + off = (tgt : Int)) (kt : x = y → vV Γ p l e R s m args below meth c Q nL cells slots (tgt) (lv) (st) (μ)) (kf : ¬ (x = y) → vV Γ p l e R s m args below meth c Q nL cells slots (pc + 3) (lv) (st) (μ)) : vV Γ p l e R s m args below meth c Q nL cells slots (pc) (lv) (.int y :: .int x :: st) (μ) := by
  exact fun H locs ls h1 h2 h3 h4 => lv_icmp_eq X.1 X.2.1 hd ht (fun q => kt q H locs ls h1 h2 h3 h4) (fun q => kf q H locs ls h1 h2 h3 h4)
theorem r_if_ne (X : cX Γ p R s m args meth c cc ret nm own k mc ms nL) {x : Int32} {off : Int} (tgt : Nat) (hd : decode cc pc = .ok (.ifCond .ne off, 3)) (ht : (pc : Int) + off = (tgt : Int)) (kt : ¬ x = nI 0 → vV Γ p l e R s m args below meth c Q nL cells slots (tgt) (lv) (st) (μ)) (kf : x = nI 0 → vV Γ p l e R s m args below meth c Q nL cells slots (pc + 3) (lv) (st) (μ)) : vV Γ p l e R s m args below meth c Q nL cells slots (pc) (lv) (.int x :: st) (μ) := by
  intro H locs ls h1 h2 h3 h4
  rw [nI_0] at kt kf; exact lv_if_ne X.1 X.2.1 hd ht (fun q => kt q H locs ls h1 h2 h3 h4) (fun q => kf q H locs ls h1 h2 h3 h4)
theorem r_icmp_ne (X : cX Γ p R s m args meth c cc ret nm own k mc ms nL) {x y : Int32} {off : Int} (tgt : Nat) (hd : decode cc pc = .ok (.if_icmp .ne off, 3)) (ht : (pc : Int) + off = (tgt : Int)) (kt : ¬ x = y → vV Γ p l e R s m args below meth c Q nL cells slots (tgt) (lv) (st) (μ)) (kf : x = y → vV Γ p l e R s m args below meth c Q nL cells slots (pc + 3) (lv) (st) (μ)) : vV Γ p l e R s m args below meth c Q nL cells slots (pc) (lv) (.int y :: .int x :: st) (μ) := by
  intro H locs ls h1 h2 h3 h4
  exact lv_icmp_ne X.1 X.2.1 hd ht (fun q => kt q H locs ls h1 h2 h3 h4) (fun q => kf q H locs ls h1 h2 h3 h4)
theorem r_if_lt (X : cX Γ p R s m args meth c cc ret nm own k mc ms nL) {x : Int32} {off : Int} (tgt : Nat) (hd : decode cc pc = .ok (.ifCond .lt off, 3)) (ht : (pc : Int) + off = (tgt : Int)) (kt : x < nI 0 → vV Γ p l e R s m args below meth c Q nL cells slots (tgt) (lv) (st) (μ)) (kf : ¬ (x < nI 0) → vV Γ p l e R s m args below meth c Q nL cells slots (pc + 3) (lv) (st) (μ)) : vV Γ p l e R s m args below meth c Q nL cells slots (pc) (lv) (.int x :: st) (μ) := by
  rw [nI_0] at kt kf
  exact fun H locs ls h1 h2 h3 h4 => lv_if_lt X.1 X.2.1 hd ht (fun q => kt q H locs ls h1 h2 h3 h4) (fun q => kf q H locs ls h1 h2 h3 h4)
theorem r_icmp_lt (X : cX Γ p R s m args meth c cc ret nm own k mc ms nL) {x y : Int32} {off : Int} (tgt : Nat) (hd : decode cc pc = .ok (.if_icmp .lt off, 3)) (ht : (pc : Int) + off = (tgt : Int)) (kt : x < y → vV Γ p l e R s m args below meth c Q nL cells slots (tgt) (lv) (st) (μ)) (kf : ¬ (x < y) → vV Γ p l e R s m args below meth c Q nL cells slots (pc + 3) (lv) (st) (μ)) : vV Γ p l e R s m args below meth c Q nL cells slots (pc) (lv) (.int y :: .int x :: st) (μ) := by
  exact fun H locs ls h1 h2 h3 h4 => lv_icmp_lt X.1 X.2.1 hd ht (fun q => kt q H locs ls h1 h2 h3 h4) (fun q => kf q H locs ls h1 h2 h3 h4)
theorem r_if_ge (X : cX Γ p R s m args meth c cc ret nm own k mc ms nL) {x : Int32} {off : Int} (tgt : Nat) (hd : decode cc pc = .ok (.ifCond .ge off, 3)) (ht : (pc : Int) + off = (tgt : Int)) (kt : nI 0 ≤ x → vV Γ p l e R s m args below meth c Q nL cells slots (tgt) (lv) (st) (μ)) (kf : ¬ (nI 0 ≤ x) → vV Γ p l e R s m args below meth c Q nL cells slots (pc + 3) (lv) (st) (μ)) : vV Γ p l e R s m args below meth c Q nL cells slots (pc) (lv) (.int x :: st) (μ) := by
  rw [nI_0] at kt kf
  exact fun H locs ls h1 h2 h3 h4 => lv_if_ge X.1 X.2.1 hd ht (fun q => kt q H locs ls h1 h2 h3 h4) (fun q => kf q H locs ls h1 h2 h3 h4)
theorem r_icmp_ge (X : cX Γ p R s m args meth c cc ret nm own k mc ms nL) {x y : Int32} {off : Int} (tgt : Nat) (hd : decode cc pc = .ok (.if_icmp .ge off, 3)) (ht : (pc : Int) + off = (tgt : Int)) (kt : y ≤ x → vV Γ p l e R s m args below meth c Q nL cells slots (tgt) (lv) (st) (μ)) (kf : ¬ (y ≤ x) → vV Γ p l e R s m args below meth c Q nL cells slots (pc + 3) (lv) (st) (μ)) : vV Γ p l e R s m args below meth c Q nL cells slots (pc) (lv) (.int y :: .int x :: st) (μ) := by
  exact fun H locs ls h1 h2 h3 h4 => lv_icmp_ge X.1 X.2.1 hd ht (fun q => kt q H locs ls h1 h2 h3 h4) (fun q => kf q H locs ls h1 h2 h3 h4)
theorem r_if_gt (X : cX Γ p R s m args meth c cc ret nm own k mc ms nL) {x : Int32} {off : Int} (tgt : Nat) (hd : decode cc pc = .ok (.ifCond .gt off, 3)) (ht : (pc : Int) + off = (tgt : Int)) (kt : nI 0 < x → vV Γ p l e R s m args below meth c Q nL cells slots (tgt) (lv) (st) (μ)) (kf : ¬ (nI 0 < x) → vV Γ p l e R s m args below meth c Q nL cells slots (pc + 3) (lv) (st) (μ)) : vV Γ p l e R s m args below meth c Q nL cells slots (pc) (lv) (.int x :: st) (μ) := by
  rw [nI_0] at kt kf
  exact fun H locs ls h1 h2 h3 h4 => lv_if_gt X.1 X.2.1 hd ht (fun q => kt q H locs ls h1 h2 h3 h4) (fun q => kf q H locs ls h1 h2 h3 h4)
theorem r_icmp_gt (X : cX Γ p R s m args meth c cc ret nm own k mc ms nL) {x y : Int32} {off : Int} (tgt : Nat) (hd : decode cc pc = .ok (.if_icmp .gt off, 3)) (ht : (pc : Int) + off = (tgt : Int)) (kt : y < x → vV Γ p l e R s m args below meth c Q nL cells slots (tgt) (lv) (st) (μ)) (kf : ¬ (y < x) → vV Γ p l e R s m args below meth c Q nL cells slots (pc + 3) (lv) (st) (μ)) : vV Γ p l e R s m args below meth c Q nL cells slots (pc) (lv) (.int y :: .int x :: st) (μ) := by
  exact fun H locs ls h1 h2 h3 h4 => lv_icmp_gt X.1 X.2.1 hd ht (fun q => kt q H locs ls h1 h2 h3 h4) (fun q => kf q H locs ls h1 h2 h3 h4)
theorem r_if_le (X : cX Γ p R s m args meth c cc ret nm own k mc ms nL) {x : Int32} {off : Int} (tgt : Nat) (hd : decode cc pc = .ok (.ifCond .le off, 3)) (ht : (pc : Int) + off = (tgt : Int)) (kt : x ≤ nI 0 → vV Γ p l e R s m args below meth c Q nL cells slots (tgt) (lv) (st) (μ)) (kf : ¬ (x ≤ nI 0) → vV Γ p l e R s m args below meth c Q nL cells slots (pc + 3) (lv) (st) (μ)) : vV Γ p l e R s m args below meth c Q nL cells slots (pc) (lv) (.int x :: st) (μ) := by
  rw [nI_0] at kt kf
  exact fun H locs ls h1 h2 h3 h4 => lv_if_le X.1 X.2.1 hd ht (fun q => kt q H locs ls h1 h2 h3 h4) (fun q => kf q H locs ls h1 h2 h3 h4)
theorem r_icmp_le (X : cX Γ p R s m args meth c cc ret nm own k mc ms nL) {x y : Int32} {off : Int} (tgt : Nat) (hd : decode cc pc = .ok (.if_icmp .le off, 3)) (ht : (pc : Int) + off = (tgt : Int)) (kt : x ≤ y → vV Γ p l e R s m args below meth c Q nL cells slots (tgt) (lv) (st) (μ)) (kf : ¬ (x ≤ y) → vV Γ p l e R s m args below meth c Q nL cells slots (pc + 3) (lv) (st) (μ)) : vV Γ p l e R s m args below meth c Q nL cells slots (pc) (lv) (.int y :: .int x :: st) (μ) := by
  exact fun H locs ls h1 h2 h3 h4 => lv_icmp_le X.1 X.2.1 hd ht (fun q => kt q H locs ls h1 h2 h3 h4) (fun q => kf q H locs ls h1 h2 h3 h4)
theorem r_goto (X : cX Γ p R s m args meth c cc ret nm own k mc ms nL) {off : Int} (tgt : Nat) (hd : decode cc pc = .ok (.goto off, 3)) (ht : (pc : Int) + off = (tgt : Int)) (kk : vV Γ p l e R s m args below meth c Q nL cells slots (tgt) (lv) (st) (μ)) : vV Γ p l e R s m args below meth c Q nL cells slots (pc) (lv) (st) (μ) := fun H locs ls h1 h2 h3 h4 => lv_goto X.1 X.2.1 hd ht (kk H locs ls h1 h2 h3 h4)
theorem r_tableOut (X : cX Γ p R s m args meth c cc ret nm own k mc ms nL) {dflt lo hi : Int} {offs : Array Int} {len : Nat} {x : Int32} (tgt : Nat) (hd : decode cc pc = .ok (.tableswitch dflt lo hi offs, len)) (h : x.toInt < lo ∨ hi < x.toInt) (ht : (pc : Int) + dflt = (tgt : Int)) (kk : vV Γ p l e R s m args below meth c Q nL cells slots (tgt) (lv) (st) (μ)) : vV Γ p l e R s m args below meth c Q nL cells slots (pc) (lv) (.int x :: st) (μ) := fun H locs ls h1 h2 h3 h4 => lv_tableOut X.1 X.2.1 hd h ht (kk H locs ls h1 h2 h3 h4)
theorem r_tableIn (X : cX Γ p R s m args meth c cc ret nm own k mc ms nL) {dflt lo hi : Int} {offs : Array Int} {len : Nat} {x : Int32} {off : Int} (tgt : Nat) (hd : decode cc pc = .ok (.tableswitch dflt lo hi offs, len)) (g1 : ¬ x.toInt < lo) (g2 : ¬ hi < x.toInt) (ho : offs[(x.toInt - lo).toNat]? = some off) (ht : (pc : Int) + off = (tgt : Int)) (kk : vV Γ p l e R s m args below meth c Q nL cells slots (tgt) (lv) (st) (μ)) : vV Γ p l e R s m args below meth c Q nL cells slots (pc) (lv) (.int x :: st) (μ) := fun H locs ls h1 h2 h3 h4 => lv_tableIn X.1 X.2.1 hd g1 g2 ho ht (kk H locs ls h1 h2 h3 h4)
theorem r_ldcw (X : cX Γ p R s m args meth c cc ret nm own k mc ms nL) {idx : Nat} {v : Int32} (hw : Cond.constant own idx v ∈ GT) (hd : decode cc pc = .ok (.ldc_w idx, 3)) (kk : vV Γ p l e R s m args below meth c Q nL cells slots (pc + 3) (lv) (.int v :: st) (μ)) : vV Γ p l e R s m args below meth c Q nL cells slots (pc) (lv) (st) (μ) := fun H locs ls h1 h2 h3 h4 => lv_ldcw X.1 X.2.1 X.2.2.2.2.1 (X.2.2.2.2.2.1 _ hw) hd (kk H locs ls h1 h2 h3 h4)
theorem r_ldc2 (X : cX Γ p R s m args meth c cc ret nm own k mc ms nL) {idx : Nat} {v : Int64} (hw : Cond.constantLong own idx v ∈ GT) (hd : decode cc pc = .ok (.ldc2_w idx, 3)) (kk : vV Γ p l e R s m args below meth c Q nL cells slots (pc + 3) (lv) (.long v :: st) (μ)) : vV Γ p l e R s m args below meth c Q nL cells slots (pc) (lv) (st) (μ) := fun H locs ls h1 h2 h3 h4 => lv_ldc2 X.1 X.2.1 X.2.2.2.2.1 (X.2.2.2.2.2.1 _ hw) hd (kk H locs ls h1 h2 h3 h4)
def LC (C : String) (T : u_T) (N : Nat) : Prop := (∀ w ∈ u_ws C T N, w ∈ GT) ∧ ∃ ty0 : Nat → FieldType, (∀ k, k < N → parseFieldDescriptor (T k).2.2.1 = some (ty0 k)) ∧ ∀ a, a < N → ∀ b, b < N → a ≠ b → (T a).2.1 ≠ (T b).2.1
/-- a field's link: place idx in own's pool is field kf of class ci -/
def LF (own : String) (idx ci kf : Nat) (C : String) (T : u_T) (N : Nat) (ty : FieldType) (fin : Bool) : Prop := vwCl[ci]? = some (C, T, N) ∧ kf < N ∧ Cond.fieldLink own idx (T kf).1 (T kf).2.1 (T kf).2.2.1 ∈ GT ∧ LC C T N ∧ parseFieldDescriptor (T kf).2.2.1 = some ty ∧ (T kf).2.2.2 = fin ∧ (T kf).1 = C
theorem r_get (X : cX Γ p R s m args meth c cc ret nm own k mc ms nL) {idx ci kf N a : Nat} {C : String} {T : u_T} {ty : FieldType} {fin : Bool} {fs : List Value} {v : Value} (L : LF own idx ci kf C T N ty fin) (hd : decode cc pc = .ok (.getfield idx, 3)) (hμ : μ a = some (xO ci fs)) (hv : fs[kf]? = some v) (kk : vV Γ p l e R s m args below meth c Q nL cells slots (pc + 3) (lv) (v :: st) (μ)) : vV Γ p l e R s m args below meth c Q nL cells slots (pc) (lv) (.ref a :: st) (μ) := by
  intro H locs ls h1 h2 h3 h4
  obtain ⟨hc, hk, hl, hC, -⟩ := L
  exact va_get (D := kD Γ) (cl := vwCl) (tys := kT Γ) (ws := [(a, xO ci fs)]) X.1 X.2.1 X.2.2.2.2.2.1 hC.1 X.2.2.2.2.1 X.2.2.2.2.2.2.1.1 (fun j q hj => by
    match j, hj with
    | 0, hj => cases hj; exact (h1 a _ hμ).1) 0 rfl hc kf hk (X.2.2.2.2.2.1 _ hl) (fun _ h9 => h9) hv hd (kk H locs ls h1 h2 h3 h4)
theorem r_put (X : cX Γ p R s m args meth c cc ret nm own k mc ms nL) {idx ci kf N a : Nat} {C : String} {T : u_T} {ty : FieldType} {fs : List Value} {v : Value} (L : LF own idx ci kf C T N ty false) (hd : decode cc pc = .ok (.putfield idx, 3)) (hμ : μ a = some (xO ci fs)) (hn : narrow ty v = v) (hf : fits ty v = true) (hlen : kf < fs.length) (kk : vV Γ p l e R s m args below meth c Q nL cells slots (pc + 3) (lv) (st) (mu μ a (xO ci (fs.set kf v)))) : vV Γ p l e R s m args below meth c Q nL cells slots (pc) (lv) (v :: .ref a :: st) (μ) := by
  intro H locs ls h1 h2 h3 h4
  obtain ⟨hc, hk, hl, ⟨hin, ty0, hty, hnm⟩, hd2, hfin, hdecl⟩ := L
  have hts := X.2.2.2.2.2.1
  have hK := X.2.2.2.2.2.2.1.1
  have hap := va_apart (own := own) hts hin ty0 hty hnm hK hc
  obtain ⟨hat, hkA⟩ := h1 a _ hμ
  obtain ⟨r, e1, cell, q1, q2, q3, q4⟩ := hat
  have hr : r = (C, T, N) := Option.some.inj (e1.symm.trans hc)
  subst hr
  obtain ⟨hS, hfc, kC, hkC, hkind⟩ := hK.1 ci _ hc
  obtain ⟨cf, kf', fi, f, hi, hsl⟩ := hS kf hk
  have hlay := hts _ (hin _ (u_in_lay hk))
  unfold u_lay at hlay
  rw [if_neg (by rw [hfin]; decide)] at hlay
  have hst := (u_facts hfc hkC (u_lays hts hin hk) hi).1
  have h6 := u_store hfc hkC hkind hlay hi hd2 hn hf
  refine W.putK X.1 X.2.1 (f := f) ⟨X.2.2.2.2.1, hts _ hl, ⟨_, _, _, hi⟩, hst⟩ (by rw [q2]; exact h6) q1 q3 (by rw [hsl]; exact k2_hasslot (q4 kf hk)) rfl rfl hd fun H' g1 g2 g3 => ?_
  rw [hsl] at g1 ⊢
  exact kk H' _ ls (h1.set hkA ⟨_, hc, t_OB.to (V := updV (vp_V fs) kf v) ⟨_, g1, q2, q3, t_set q4 hap hk v⟩ (fun j _ => vp_updV_set hlen v j)⟩ g3) (g2.trans h2) (h3.put g2 g3 hkA) h4
theorem r_putS (X : cX Γ p R s m args meth c cc ret nm own k mc ms nL) {idx ci kf N a : Nat} {C : String} {T : u_T} {ty : FieldType} {fs : List Value} {v : Value} (L : LF own idx ci kf C T N ty false) (hd : decode cc pc = .ok (.putfield idx, 3)) (hn : narrow ty v = v) (hf : fits ty v = true) (hlen : kf < fs.length) (kk : vV Γ p l e R s m args below meth c Q nL cells slots (pc + 3) (lv) (st) (mu μ a (xO ci (fs.set kf v)))) : vV Γ p l e R s m args below meth c Q nL cells slots (pc) (lv) (v :: .ref a :: st) (mu μ a (xO ci fs)) :=
  r_put X L hd mu_self hn hf hlen (by rw [mu_mu]; exact kk)
theorem r_putF (X : cX Γ p R s m args meth c cc ret nm own k mc ms nL) {idx ci kf N a : Nat} {C : String} {T : u_T} {ty : FieldType} {fs : List Value} {v : Value} (L : LF own idx ci kf C T N ty true) (hini : nm = "<init>") (hC2 : C = own) (hd : decode cc pc = .ok (.putfield idx, 3)) (hμ : μ a = some (xO ci fs)) (hn : narrow ty v = v) (hf : fits ty v = true) (hlen : kf < fs.length) (kk : vV Γ p l e R s m args below meth c Q nL cells slots (pc + 3) (lv) (st) (mu μ a (xO ci (fs.set kf v)))) : vV Γ p l e R s m args below meth c Q nL cells slots (pc) (lv) (v :: .ref a :: st) (μ) := by
  intro H locs ls h1 h2 h3 h4
  obtain ⟨hc, hk, hl, ⟨hin, ty0, hty, hnm⟩, hd2, hfin, hdecl⟩ := L
  have hts := X.2.2.2.2.2.1
  have hK := X.2.2.2.2.2.2.1.1
  have hown := X.2.2.2.2.1
  have hap := va_apart (own := own) hts hin ty0 hty hnm hK hc
  obtain ⟨hat, hkA⟩ := h1 a _ hμ
  obtain ⟨r, e1, cell, q1, q2, q3, q4⟩ := hat
  have hr : r = (C, T, N) := Option.some.inj (e1.symm.trans hc)
  subst hr
  obtain ⟨hS, hfc, kC, hkC, hkind⟩ := hK.1 ci _ hc
  obtain ⟨cf, kf', fi, f, hi, hsl⟩ := hS kf hk
  have hlay := hts _ (hin _ (u_in_lay hk))
  unfold u_lay at hlay
  rw [if_pos hfin] at hlay
  have hst := (u_facts hfc hkC (u_lays hts hin hk) hi).1
  have hcf : m.cls = cf := by
    obtain ⟨_, _, c', _, _, _, -, -, hf', -, -, -, hown2, -⟩ := Cond.laysFinal_spec hlay
    have e1 : c' = cf := by have := hi.symm.trans hf'; simp at this; exact this.1.symm
    rw [hdecl, hC2] at hown2
    rw [← e1]; exact Option.some.inj (hown.symm.trans hown2)
  have h6 := u_fits hfc hkC hkind (Or.inr hlay) hi hd2 hn hf
  refine W.putFinK X.1 X.2.1 hown (hts _ hl) hi hst hcf (X.2.2.2.2.2.2.2.2.2.1.trans hini) (by rw [q2]; exact h6) q1 q3 (by rw [hsl]; exact k2_hasslot (q4 kf hk)) rfl rfl hd fun H' g1 g2 g3 => ?_
  rw [hsl] at g1 ⊢
  exact kk H' _ ls (h1.set hkA ⟨_, hc, t_OB.to (V := updV (vp_V fs) kf v) ⟨_, g1, q2, q3, t_set q4 hap hk v⟩ (fun j _ => vp_updV_set hlen v j)⟩ g3) (g2.trans h2) (h3.put g2 g3 hkA) h4
theorem r_putFS (X : cX Γ p R s m args meth c cc ret nm own k mc ms nL) {idx ci kf N a : Nat} {C : String} {T : u_T} {ty : FieldType} {fs : List Value} {v : Value} (L : LF own idx ci kf C T N ty true) (hini : nm = "<init>") (hC2 : C = own) (hd : decode cc pc = .ok (.putfield idx, 3)) (hn : narrow ty v = v) (hf : fits ty v = true) (hlen : kf < fs.length) (kk : vV Γ p l e R s m args below meth c Q nL cells slots (pc + 3) (lv) (st) (mu μ a (xO ci (fs.set kf v)))) : vV Γ p l e R s m args below meth c Q nL cells slots (pc) (lv) (v :: .ref a :: st) (mu μ a (xO ci fs)) :=
  r_putF X L hini hC2 hd mu_self hn hf hlen (by rw [mu_mu]; exact kk)
theorem nI_vp {j n : Nat} (hj : j < n) (hn : n < 2 ^ 31) : vp_in (nI j) n := nI_in hj hn
theorem r_iald (X : cX Γ p R s m args meth c cc ret nm own k mc ms nL) {a n j : Nat} {f : Nat → Int32} (hd : decode cc pc = .ok (.iaload, 1)) (hμ : μ a = some (xI Γ n f)) (hj : j < n) (hn : n < 2 ^ 31) (kk : vV Γ p l e R s m args below meth c Q nL cells slots (pc + 1) (lv) (.int (f j) :: st) (μ)) : vV Γ p l e R s m args below meth c Q nL cells slots (pc) (lv) (.int (nI j) :: .ref a :: st) (μ) := by
  intro H locs ls h1 h2 h3 h4
  have e := nI_clamp (n := j) (by omega)
  refine W.iald (v := .int (f j)) X.1 X.2.1 ((h1 a _ hμ).1 : H[a]? = some (vp_cell _ _)) ((X.2.2.2.2.2.2.1.1.2 0 _ rfl).1 n (fun j => .int (f j))) (fun q => by cases q) (by show ¬ (nI j < 0 ∨ (arrV _ _ _).slots.size ≤ _); rw [arrV_size]; exact nI_vp hj hn) (by show (arrV _ _ _).slots[_]? = _; rw [e, arrV_read _ _ hj]) rfl rfl hd (kk H locs ls h1 h2 h3 h4)
theorem r_iast (X : cX Γ p R s m args meth c cc ret nm own k mc ms nL) {a n j : Nat} {f : Nat → Int32} {x : Int32} (hd : decode cc pc = .ok (.iastore, 1)) (hμ : μ a = some (xI Γ n f)) (hj : j < n) (hn : n < 2 ^ 31) (kk : vV Γ p l e R s m args below meth c Q nL cells slots (pc + 1) (lv) (st) (mu μ a (xI Γ n (upd f j x)))) : vV Γ p l e R s m args below meth c Q nL cells slots (pc) (lv) (.int x :: .int (nI j) :: .ref a :: st) (μ) := by
  intro H locs ls h1 h2 h3 h4
  have e := nI_clamp (n := j) (by omega)
  refine W.iast X.1 X.2.1 ((h1 a _ hμ).1 : H[a]? = some (vp_cell _ _)) ((X.2.2.2.2.2.2.1.1.2 0 _ rfl).1 n (fun j => .int (f j))) (fun q => by cases q) (by show ¬ (nI j < 0 ∨ (arrV _ _ _).slots.size ≤ _); rw [arrV_size]; exact nI_vp hj hn) rfl rfl hd fun H1 g1 g2 g3 => ?_
  refine kk H1 _ ls (h1.set (h1 a _ hμ).2 ?_ g3) (g2.trans h2) (h3.put g2 g3 (h1 a _ hμ).2) h4
  show H1[a]? = some (vp_cell _ _)
  rw [g1, e]
  rw [vp_cell_i, vp_cell_i, arrV_store]
  congr 2
  funext q
  by_cases hq : q = j
  · subst hq
    simp only [updV, upd, if_true]
  · simp only [updV, upd, if_neg hq]
theorem r_ialen (X : cX Γ p R s m args meth c cc ret nm own k mc ms nL) {a n : Nat} {f : Nat → Int32} (hd : decode cc pc = .ok (.arraylength, 1)) (hμ : μ a = some (xI Γ n f)) (kk : vV Γ p l e R s m args below meth c Q nL cells slots (pc + 1) (lv) (.int (nI n) :: st) (μ)) : vV Γ p l e R s m args below meth c Q nL cells slots (pc) (lv) (.ref a :: st) (μ) := by
  intro H locs ls h1 h2 h3 h4
  exact W.alen (n := nI n) X.1 X.2.1 ((h1 a _ hμ).1 : H[a]? = some (vp_cell _ _)) ((X.2.2.2.2.2.2.1.1.2 0 _ rfl).1 n (fun j => .int (f j))) (by rw [vp_cell_i, arrV_size] <;> rfl) rfl rfl hd (kk H locs ls h1 h2 h3 h4)
theorem r_cald (X : cX Γ p R s m args meth c cc ret nm own k mc ms nL) {a n j : Nat} {f : Nat → Int32} (hd : decode cc pc = .ok (.caload, 1)) (hμ : μ a = some (xC Γ n f)) (hj : j < n) (hn : n < 2 ^ 31) (kk : vV Γ p l e R s m args below meth c Q nL cells slots (pc + 1) (lv) (.int (f j) :: st) (μ)) : vV Γ p l e R s m args below meth c Q nL cells slots (pc) (lv) (.int (nI j) :: .ref a :: st) (μ) := by
  intro H locs ls h1 h2 h3 h4
  have e := nI_clamp (n := j) (by omega)
  refine W.cald (v := .int (f j)) X.1 X.2.1 ((h1 a _ hμ).1 : H[a]? = some (vp_cell _ _)) ((X.2.2.2.2.2.2.1.1.2 1 _ rfl).1 n (fun j => .int (f j))) (fun q => by cases q) (by show ¬ (nI j < 0 ∨ (arrV _ _ _).slots.size ≤ _); rw [arrV_size]; exact nI_vp hj hn) (by show (arrV _ _ _).slots[_]? = _; rw [e, arrV_read _ _ hj]) rfl rfl hd (kk H locs ls h1 h2 h3 h4)
theorem r_cast (X : cX Γ p R s m args meth c cc ret nm own k mc ms nL) {a n j : Nat} {f : Nat → Int32} {x : Int32} (hd : decode cc pc = .ok (.castore, 1)) (hx : vp_nar .char x = x) (hμ : μ a = some (xC Γ n f)) (hj : j < n) (hn : n < 2 ^ 31) (kk : vV Γ p l e R s m args below meth c Q nL cells slots (pc + 1) (lv) (st) (mu μ a (xC Γ n (upd f j x)))) : vV Γ p l e R s m args below meth c Q nL cells slots (pc) (lv) (.int x :: .int (nI j) :: .ref a :: st) (μ) := by
  intro H locs ls h1 h2 h3 h4
  have e := nI_clamp (n := j) (by omega)
  refine W.cast X.1 X.2.1 ((h1 a _ hμ).1 : H[a]? = some (vp_cell _ _)) ((X.2.2.2.2.2.2.1.1.2 1 _ rfl).1 n (fun j => .int (f j))) (fun q => by cases q) (by show ¬ (nI j < 0 ∨ (arrV _ _ _).slots.size ≤ _); rw [arrV_size]; exact nI_vp hj hn) rfl rfl hd fun H1 g1 g2 g3 => ?_
  refine kk H1 _ ls (h1.set (h1 a _ hμ).2 ?_ g3) (g2.trans h2) (h3.put g2 g3 (h1 a _ hμ).2) h4
  show H1[a]? = some (vp_cell _ _)
  rw [g1, e]
  rw [vp_cell_i, vp_cell_i, arrV_store]
  congr 2
  funext q
  by_cases hq : q = j
  · subst hq
    have hx2 : narrow .char (.int x) = .int x := by
      have : narrow .char (.int x) = .int (vp_nar .char x) := rfl
      rw [this, hx]
    simp only [updV, upd, if_true, hx2]
  · simp only [updV, upd, if_neg hq]
theorem r_calen (X : cX Γ p R s m args meth c cc ret nm own k mc ms nL) {a n : Nat} {f : Nat → Int32} (hd : decode cc pc = .ok (.arraylength, 1)) (hμ : μ a = some (xC Γ n f)) (kk : vV Γ p l e R s m args below meth c Q nL cells slots (pc + 1) (lv) (.int (nI n) :: st) (μ)) : vV Γ p l e R s m args below meth c Q nL cells slots (pc) (lv) (.ref a :: st) (μ) := by
  intro H locs ls h1 h2 h3 h4
  exact W.alen (n := nI n) X.1 X.2.1 ((h1 a _ hμ).1 : H[a]? = some (vp_cell _ _)) ((X.2.2.2.2.2.2.1.1.2 1 _ rfl).1 n (fun j => .int (f j))) (by rw [vp_cell_i, arrV_size] <;> rfl) rfl rfl hd (kk H locs ls h1 h2 h3 h4)
theorem r_zald (X : cX Γ p R s m args meth c cc ret nm own k mc ms nL) {a n j : Nat} {f : Nat → Int32} (hd : decode cc pc = .ok (.baload, 1)) (hμ : μ a = some (xZ Γ n f)) (hj : j < n) (hn : n < 2 ^ 31) (kk : vV Γ p l e R s m args below meth c Q nL cells slots (pc + 1) (lv) (.int (f j) :: st) (μ)) : vV Γ p l e R s m args below meth c Q nL cells slots (pc) (lv) (.int (nI j) :: .ref a :: st) (μ) := by
  intro H locs ls h1 h2 h3 h4
  have e := nI_clamp (n := j) (by omega)
  refine W.zald (v := .int (f j)) X.1 X.2.1 ((h1 a _ hμ).1 : H[a]? = some (vp_cell _ _)) ((X.2.2.2.2.2.2.1.1.2 2 _ rfl).1 n (fun j => .int (f j))) (fun q => by cases q) (by show ¬ (nI j < 0 ∨ (arrV _ _ _).slots.size ≤ _); rw [arrV_size]; exact nI_vp hj hn) (by show (arrV _ _ _).slots[_]? = _; rw [e, arrV_read _ _ hj]) rfl rfl hd (kk H locs ls h1 h2 h3 h4)
theorem r_zast (X : cX Γ p R s m args meth c cc ret nm own k mc ms nL) {a n j : Nat} {f : Nat → Int32} {x : Int32} (hd : decode cc pc = .ok (.bastore, 1)) (hx : vp_nar .boolean x = x) (hμ : μ a = some (xZ Γ n f)) (hj : j < n) (hn : n < 2 ^ 31) (kk : vV Γ p l e R s m args below meth c Q nL cells slots (pc + 1) (lv) (st) (mu μ a (xZ Γ n (upd f j x)))) : vV Γ p l e R s m args below meth c Q nL cells slots (pc) (lv) (.int x :: .int (nI j) :: .ref a :: st) (μ) := by
  intro H locs ls h1 h2 h3 h4
  have e := nI_clamp (n := j) (by omega)
  refine W.zast X.1 X.2.1 ((h1 a _ hμ).1 : H[a]? = some (vp_cell _ _)) ((X.2.2.2.2.2.2.1.1.2 2 _ rfl).1 n (fun j => .int (f j))) (fun q => by cases q) (by show ¬ (nI j < 0 ∨ (arrV _ _ _).slots.size ≤ _); rw [arrV_size]; exact nI_vp hj hn) rfl rfl hd fun H1 g1 g2 g3 => ?_
  refine kk H1 _ ls (h1.set (h1 a _ hμ).2 ?_ g3) (g2.trans h2) (h3.put g2 g3 (h1 a _ hμ).2) h4
  show H1[a]? = some (vp_cell _ _)
  rw [g1, e]
  rw [vp_cell_i, vp_cell_i, arrV_store]
  congr 2
  funext q
  by_cases hq : q = j
  · subst hq
    have hx2 : narrow .boolean (.int x) = .int x := by
      have : narrow .boolean (.int x) = .int (vp_nar .boolean x) := rfl
      rw [this, hx]
    simp only [updV, upd, if_true, hx2]
  · simp only [updV, upd, if_neg hq]
theorem r_zalen (X : cX Γ p R s m args meth c cc ret nm own k mc ms nL) {a n : Nat} {f : Nat → Int32} (hd : decode cc pc = .ok (.arraylength, 1)) (hμ : μ a = some (xZ Γ n f)) (kk : vV Γ p l e R s m args below meth c Q nL cells slots (pc + 1) (lv) (.int (nI n) :: st) (μ)) : vV Γ p l e R s m args below meth c Q nL cells slots (pc) (lv) (.ref a :: st) (μ) := by
  intro H locs ls h1 h2 h3 h4
  exact W.alen (n := nI n) X.1 X.2.1 ((h1 a _ hμ).1 : H[a]? = some (vp_cell _ _)) ((X.2.2.2.2.2.2.1.1.2 2 _ rfl).1 n (fun j => .int (f j))) (by rw [vp_cell_i, arrV_size] <;> rfl) rfl rfl hd (kk H locs ls h1 h2 h3 h4)
theorem r_sald (X : cX Γ p R s m args meth c cc ret nm own k mc ms nL) {a n j b : Nat} {f : Nat → Option Nat} (hd : decode cc pc = .ok (.aaload, 1)) (hμ : μ a = some (xS Γ n f)) (hj : j < n) (hn : n < 2 ^ 31) (hf : f j = some b) (kk : vV Γ p l e R s m args below meth c Q nL cells slots (pc + 1) (lv) (.ref b :: st) (μ)) : vV Γ p l e R s m args below meth c Q nL cells slots (pc) (lv) (.int (nI j) :: .ref a :: st) (μ) := by
  intro H locs ls h1 h2 h3 h4
  have e := nI_clamp (n := j) (by omega)
  refine W.aald (v := va_rf (f j)) (ty := .object "NobodyCave$Scene") X.1 X.2.1 ((h1 a _ hμ).1 : H[a]? = some (vp_cell _ _)) ((X.2.2.2.2.2.2.1.1.2 3 _ rfl).1 n (fun j => va_rf (f j))) rfl (fun q => by cases q) (by show ¬ (nI j < 0 ∨ (arrV _ _ _).slots.size ≤ _); rw [arrV_size]; exact nI_vp hj hn) (by show (arrV _ _ _).slots[_]? = _; rw [e, arrV_read _ _ hj]) rfl rfl hd ?_
  rw [hf]
  exact (kk H locs ls h1 h2 h3 h4)
theorem r_sast (X : cX Γ p R s m args meth c cc ret nm own k mc ms nL) {a n j b : Nat} {f : Nat → Option Nat} {fs : List Value} (hd : decode cc pc = .ok (.aastore, 1)) (hμ : μ a = some (xS Γ n f)) (hv : μ b = some (xO 2 fs)) (hj : j < n) (hn : n < 2 ^ 31) (kk : vV Γ p l e R s m args below meth c Q nL cells slots (pc + 1) (lv) (st) (mu μ a (xS Γ n (va_up f j (some b))))) : vV Γ p l e R s m args below meth c Q nL cells slots (pc) (lv) (.ref b :: .int (nI j) :: .ref a :: st) (μ) := by
  intro H locs ls h1 h2 h3 h4
  have e := nI_clamp (n := j) (by omega)
  have h0 : ¬ nI j < 0 := nI_pos (by omega)
  obtain ⟨r', hr', cellV, g1, g2, g3, -⟩ := (h1 b _ hv).1
  have hK := X.2.2.2.2.2.2.1.1
  have hcls := (hK.1 2 (RX2, TX2, 10) rfl).2
  obtain ⟨kA', comp, k1, k2, k3, -⟩ := (hK.2 3 _ rfl).2
  have hcomp : comp = (kD Γ).1 2 := Option.some.inj (k3.symm.trans hcls.1)
  subst hcomp
  obtain ⟨kC, hkC, -⟩ := hcls.2
  refine W.aast X.1 X.2.1 ((h1 a _ hμ).1 : H[a]? = some (vp_cell _ _)) (fun q h => by cases h) (fun h => by cases h) k1 k2 rfl hkC ⟨h0, by show _ < (arrV _ _ _).slots.size; rw [arrV_size, e]; exact hj⟩ g1 (fun q h => by rw [g3] at h; cases h) (by rw [g2]; exact hkC) (by rw [g2]; exact va_assign hcls) rfl rfl hd fun H1 q1 q2 q3 => ?_
  refine kk H1 _ ls (h1.set (h1 a _ hμ).2 ?_ q3) (q2.trans h2) (h3.put q2 q3 (h1 a _ hμ).2) h4
  show H1[a]? = some (vp_cell _ _)
  rw [q1, e]
  rw [vp_cell_q, vp_cell_q, arrV_store]
  congr 2
  funext q
  by_cases hq : q = j
  · subst hq
    simp only [updV, va_up, if_true, va_rf]
  · simp only [updV, va_up, if_neg hq]
end LY
end
section
section LZ
variable {Γ : KK} {p : Program} {l : Launch} {e : Env} {R : Room} {s : State} {m : MethodId} {args : Array Value} {below : List Frame} {meth : Method} {c : Code} {Q : State → Prop} {cc : ByteArray} {ret : Option FieldType} {nm own : String} {k mc ms nL cells slots pc : Nat} {lv : List (Option Value)} {st : List Value} {μ : MM}
theorem vV.sub {μ' : MM} (h : ∀ H, mP Γ μ H → mP Γ μ' H) (kk : vV Γ p l e R s m args below meth c Q nL cells slots pc lv st μ') : vV Γ p l e R s m args below meth c Q nL cells slots pc lv st μ := fun H locs ls h1 h2 h3 h4 => kk H locs ls (h H h1) h2 h3 h4
/-- another memory of the same heap, found there -/
theorem vV.sub' {P : MM → Prop} (h : ∀ H, mP Γ μ H → ∃ μ', mP Γ μ' H ∧ P μ') (kk : ∀ μ', P μ' → vV Γ p l e R s m args below meth c Q nL cells slots pc lv st μ') : vV Γ p l e R s m args below meth c Q nL cells slots pc lv st μ := fun H locs ls h1 h2 h3 h4 => by
  obtain ⟨μ', g1, g2⟩ := h H h1
  exact kk μ' g2 H locs ls g1 h2 h3 h4
/-- fewer known locals -/
theorem vV.loc {lv' : List (Option Value)} (h : ∀ (i : Nat) (v : Value), lv'[i]? = some (some v) → lv[i]? = some (some v)) (kk : vV Γ p l e R s m args below meth c Q nL cells slots pc lv' st μ) : vV Γ p l e R s m args below meth c Q nL cells slots pc lv st μ := fun H locs ls h1 h2 h3 h4 => kk H locs ls h1 h2 h3 ⟨h4.1, h4.2.1, fun i v hi => h4.2.2 i v (h i v hi)⟩
theorem CP_blind {sz : Nat} {av : List Value} : FrameBlind (CP Γ sz av μ) := fun a U g mk h => ⟨h.1, h.2.1.same rfl rfl, h.2.2⟩
def vRun (Γ : KK) (p : Program) (l : Launch) (e : Env) (R : Room) (s : State) (m : MethodId) (args : Array Value) (below : List Frame) (meth : Method) (c : Code) (nL cells slots mc' ms' pc : Nat) (lv : List (Option Value)) (st : List Value) (μ : MM) (rest : List Value) (post : Option Value → MM → Prop) : Prop :=
  ∀ (H : Heap) (locs : List Loc) (ls : Array Slot), mP Γ μ H → H.size = s.heap.size + cells → va_S (kA Γ) s.heap H locs → lh ls nL lv → va_Run p l e R s m args below meth c H locs cells slots mc' ms' (F0 m pc ls st) rest (CQ Γ mc' post #[]) (kA Γ)
theorem vRun.go (X : cX Γ p R s m args meth c cc ret nm own k mc ms nL) {mc' ms' : Nat} {rest : List Value} {post : Option Value → MM → Prop} (hr : vRun Γ p l e R s m args below meth c nL cells slots mc' ms' pc lv st μ rest post)
    (kk : ∀ r μ', post r μ' → vV Γ p l e R s m args below meth c Q nL (cells + mc') (slots + ms') (pc + 3) lv (r.toList ++ rest) μ') : vV Γ p l e R s m args below meth c Q nL cells slots pc lv st μ := by
  intro H locs ls h1 h2 h3 h4 T hT XT
  obtain ⟨v, st₀, t, T', L, h0, X', hL, e1, e2, ⟨r, μ', hr', hp, hP, hz, hk⟩, stp⟩ := hr H locs ls h1 h2 h3 h4 T hT XT
  cases hr'
  rw [h0] at hz hk
  obtain ⟨t2, a1, b1⟩ := kk v μ' hp T'.heap (locs ++ L) ls (by rw [e1]; exact hP) (by rw [e1, hz, h2, Nat.add_assoc]) ⟨by rw [e1, hz]; exact Nat.le_trans h3.1 (Nat.le_add_right _ _), fun q g1 g2 => by rw [e1, hk q (Nat.lt_of_not_le g2)]; exact h3.2.1 q g1 g2, fun q hq => by
    rcases List.mem_append.mp hq with h | h
    · exact h3.2.2 q h
    · exact hL q h⟩ h4 T' rfl X'
  exact ⟨t2, stp t2 a1, b1⟩
theorem c_i (X : cX Γ p R s m args meth c cc ret nm own k mc ms nL) {mc' ms' : Nat} {rest : List Value} {post : Int32 → MM → Prop} (hr : vRun Γ p l e R s m args below meth c nL cells slots mc' ms' pc lv st μ rest (ri post))
    (kk : ∀ i μ', post i μ' → vV Γ p l e R s m args below meth c Q nL (cells + mc') (slots + ms') (pc + 3) lv (.int i :: rest) μ') : vV Γ p l e R s m args below meth c Q nL cells slots pc lv st μ := hr.go X (fun r μ' h => by
  obtain ⟨i, rfl, h⟩ := h
  exact kk i μ' h)
theorem c_l (X : cX Γ p R s m args meth c cc ret nm own k mc ms nL) {mc' ms' : Nat} {rest : List Value} {post : Int64 → MM → Prop} (hr : vRun Γ p l e R s m args below meth c nL cells slots mc' ms' pc lv st μ rest (rl post))
    (kk : ∀ i μ', post i μ' → vV Γ p l e R s m args below meth c Q nL (cells + mc') (slots + ms') (pc + 3) lv (.long i :: rest) μ') : vV Γ p l e R s m args below meth c Q nL cells slots pc lv st μ := hr.go X (fun r μ' h => by
  obtain ⟨i, rfl, h⟩ := h
  exact kk i μ' h)
theorem c_r (X : cX Γ p R s m args meth c cc ret nm own k mc ms nL) {mc' ms' : Nat} {rest : List Value} {post : Nat → MM → Prop} (hr : vRun Γ p l e R s m args below meth c nL cells slots mc' ms' pc lv st μ rest (rr post))
    (kk : ∀ i μ', post i μ' → vV Γ p l e R s m args below meth c Q nL (cells + mc') (slots + ms') (pc + 3) lv (.ref i :: rest) μ') : vV Γ p l e R s m args below meth c Q nL cells slots pc lv st μ := hr.go X (fun r μ' h => by
  obtain ⟨i, rfl, h⟩ := h
  exact kk i μ' h)
theorem c_v (X : cX Γ p R s m args meth c cc ret nm own k mc ms nL) {mc' ms' : Nat} {rest : List Value} {post : MM → Prop} (hr : vRun Γ p l e R s m args below meth c nL cells slots mc' ms' pc lv st μ rest (rv post))
    (kk : ∀ μ', post μ' → vV Γ p l e R s m args below meth c Q nL (cells + mc') (slots + ms') (pc + 3) lv rest μ') : vV Γ p l e R s m args below meth c Q nL cells slots pc lv st μ := hr.go X (fun r μ' h => by
  obtain ⟨rfl, h⟩ := h
  exact kk μ' h)
abbrev mW (md : MD) : List Cond := .code md.1 md.2.1 md.2.2.1 md.2.2.2 :: GT
def mOk (md : MD) (n : Nat) : Prop := Cond.code md.1 md.2.1 md.2.2.1 md.2.2.2 ∈ GT ∧ Cond.initialized md.1.cls ∈ GT ∧ md.1.cls ≠ "java/lang/invoke/MethodHandle" ∧ md.1.cls ≠ "java/lang/invoke/VarHandle" ∧ (parseMethodDescriptor md.1.desc).map (fun d => d.parameters.length) = some n ∧ md.2.2.1 ≤ 21
theorem mOk.good {md : MD} {n : Nat} (h : mOk md n) : GoodIn GT (mW md) := fun w hw => by
  rcases List.mem_cons.mp hw with rfl | h1
  · exact ⟨h.1, GT_good _ h.1⟩
  · exact ⟨h1, GT_good _ h1⟩
/-- links of calls -/
def LV (own : String) (idx : Nat) (md : MD) (n : Nat) : Prop := mOk md n ∧ Cond.methodLink own idx md.1 ∈ GT ∧ Cond.instanceMethod md.1 ∈ GT ∧ Cond.selects md.1.cls md.1 md.1 ∈ GT
def LkS (own : String) (idx : Nat) (md : MD) (n : Nat) : Prop := mOk md n ∧ Cond.methodLink own idx md.1 ∈ GT ∧ Cond.static md.1 ∈ GT
def LSN (own : String) (idx : Nat) (md : MD) (n : Nat) : Prop := mOk md n ∧ Cond.methodLinkNest own idx md.1 "NobodyCave" ∈ NW ∧ Cond.static md.1 ∈ GT
def LI (own : String) (idx : Nat) (md : MD) (n : Nat) : Prop := mOk md n ∧ Cond.methodLink own idx md.1 ∈ GT ∧ Cond.instanceMethod md.1 ∈ GT ∧ md.1.name = "<init>" ∧ md.2.2.2 = none
def LIN (own : String) (idx : Nat) (md : MD) (n : Nat) : Prop := mOk md n ∧ Cond.methodLinkNest own idx md.1 "NobodyCave" ∈ NW ∧ Cond.instanceMethod md.1 ∈ GT ∧ md.1.name = "<init>" ∧ md.2.2.2 = none
theorem room_ok {j mc' ms' : Nat} {md : MD} {n : Nat} (X : cX Γ p R s m args meth c cc ret nm own k mc ms nL) (hm : mOk md n) (hj : j + 1 ≤ k) : (RM j mc' ms').frames + 1 ≤ R.frames ∧ 8 + (md.2.2.1 + 11) + (RM j mc' ms').locals ≤ R.locals := by
  have h1 := X.2.2.2.2.2.2.2.2.2.2.1
  have h2 := X.2.2.2.2.2.2.2.2.2.2.2.1
  have h3 := hm.2.2.2.2.2
  show j + 1 ≤ R.frames ∧ 8 + (md.2.2.1 + 11) + 40 * j ≤ R.locals
  omega
theorem pre_ok {av : List Value} (X : cX Γ p R s m args meth c cc ret nm own k mc ms nL) {H : Heap} {locs : List Loc} (h1 : mP Γ μ H) (h2 : H.size = s.heap.size + cells) (h3 : va_S (kA Γ) s.heap H locs) : ∀ U : State, U.heap = H → s.WarmedH U.vm → CP Γ (s.heap.size + cells) av μ av.toArray U := fun U hU hW =>
  ⟨rfl, X.2.2.2.2.2.2.1.move hW (fun q hq hA => by rw [hU]; exact h3.2.1 q hq hA), by rw [hU]; exact h1, by rw [hU]; exact Nat.le_trans X.2.2.2.2.2.2.2.1 h3.1, by rw [hU]; exact h2⟩

theorem rV (X : cX Γ p R s m args meth c cc ret nm own k mc ms nL) {mc' ms' j idx ci n b : Nat} {md : MD} {fs As rest : List Value} {post : Option Value → MM → Prop} (L : LV own idx md n) (hct : CT Γ l j (s.heap.size + cells) mc' ms' md (.ref b :: As) μ post) (hd : decode cc pc = .ok (.invokevirtual idx, 3)) (hb : μ b = some (xO ci fs)) (hc : (vwCl[ci]?).map (fun q => q.1) = some md.1.cls) (hn : As.length = n) (hst : st = As.reverse ++ .ref b :: rest) (hcat : (rest.map fun v => v.category).sum ≤ 8) (hj : j + 1 ≤ k) (hcl : cells + mc' ≤ mc) (hsl : slots + ms' ≤ ms) : vRun Γ p l e R s m args below meth c nL cells slots mc' ms' pc lv st μ rest post := by
  intro H locs ls h1 h2 h3 h4
  have hts := X.2.2.2.2.2.1
  have hin : cells + mc' ≤ R.cells ∧ slots + ms' ≤ R.slots := ⟨Nat.le_trans hcl X.2.2.2.2.2.2.2.2.2.2.2.2.1, Nat.le_trans hsl X.2.2.2.2.2.2.2.2.2.2.2.2.2⟩
  have S : CallFix p m c cc nL s args GT own := ⟨X.1, X.2.1, X.2.2.2.1, X.2.2.2.2.1, hts⟩
  subst hst
  obtain ⟨hm, l1, l2, l3⟩ := L
  have hG : GoodIn GT (wsV own idx md.1.cls md.1 (mW md)) := fun w hw => by
    simp only [wsV, List.mem_append, List.mem_cons, List.not_mem_nil, or_false] at hw
    rcases hw with (rfl | rfl | rfl | rfl) | hw
    · exact ⟨l1, GT_good _ l1⟩
    · exact ⟨l2, GT_good _ l2⟩
    · exact ⟨l3, GT_good _ l3⟩
    · exact ⟨hm.2.1, GT_good _ hm.2.1⟩
    · exact hm.good w (by rcases hw with rfl | hw; exact List.mem_cons_self; exact List.mem_cons_of_mem _ hw)
  have hrec : ∃ cell : Cell, H[b]? = some cell ∧ cell.vm.isStatics = false ∧ s.vm.findClass md.1.cls = some cell.cls := by
    cases hq : vwCl[ci]? with
    | none => rw [hq] at hc; cases hc
    | some q =>
      rw [hq] at hc
      have hc2 : q.1 = md.1.cls := Option.some.inj hc
      have := va_recv (ws := [(b, xO ci fs)]) X.2.2.2.2.2.2.1.1 (H := H) (fun j q hj => by
        match j, hj with
        | 0, hj => cases hj; exact (h1 b _ hb).1) hq (q0 := 0) rfl
      rw [hc2] at this
      exact this
  exact va_runV (As := As) (rest := rest) S hct (cwV n hts hG rfl rfl rfl ⟨rfl, hm.2.2.1, hm.2.2.2.1, hm.2.2.2.2.1⟩ (room_ok X hm hj)) ⟨CP_blind, hrec, pre_ok X h1 h2 h3⟩ rfl hn h4.1 rfl (lv_room hcat) hd hin
theorem rS (X : cX Γ p R s m args meth c cc ret nm own k mc ms nL) {mc' ms' j idx n : Nat} {md : MD} {As rest : List Value} {post : Option Value → MM → Prop} (L : LkS own idx md n) (hct : CT Γ l j (s.heap.size + cells) mc' ms' md As μ post) (hd : decode cc pc = .ok (.invokestatic idx, 3)) (hn : As.length = n) (hst : st = As.reverse ++ rest) (hcat : (rest.map fun v => v.category).sum ≤ 8) (hj : j + 1 ≤ k) (hcl : cells + mc' ≤ mc) (hsl : slots + ms' ≤ ms) : vRun Γ p l e R s m args below meth c nL cells slots mc' ms' pc lv st μ rest post := by
  intro H locs ls h1 h2 h3 h4
  have hts := X.2.2.2.2.2.1
  have hin : cells + mc' ≤ R.cells ∧ slots + ms' ≤ R.slots := ⟨Nat.le_trans hcl X.2.2.2.2.2.2.2.2.2.2.2.2.1, Nat.le_trans hsl X.2.2.2.2.2.2.2.2.2.2.2.2.2⟩
  have S : CallFix p m c cc nL s args GT own := ⟨X.1, X.2.1, X.2.2.2.1, X.2.2.2.2.1, hts⟩
  subst hst
  obtain ⟨hm, l1, l2⟩ := L
  have hG : GoodIn GT (va_wsS own idx md.1 (mW md)) := fun w hw => by
    simp only [va_wsS, List.mem_append, List.mem_cons, List.not_mem_nil, or_false] at hw
    rcases hw with (rfl | rfl | rfl) | hw
    · exact ⟨l1, GT_good _ l1⟩
    · exact ⟨l2, GT_good _ l2⟩
    · exact ⟨hm.2.1, GT_good _ hm.2.1⟩
    · exact hm.good w (by rcases hw with rfl | hw; exact List.mem_cons_self; exact List.mem_cons_of_mem _ hw)
  exact va_runS (As := As) (rest := rest) S hct (va_cwS n hts hG rfl rfl rfl ⟨hm.2.2.1, hm.2.2.2.1, hm.2.2.2.2.1⟩ (room_ok X hm hj)) ⟨CP_blind, pre_ok X h1 h2 h3⟩ rfl hn h4.1 rfl (lv_room hcat) hd hin
theorem rSN (X : cX Γ p R s m args meth c cc ret nm own k mc ms nL) {mc' ms' j idx n : Nat} {md : MD} {As rest : List Value} {post : Option Value → MM → Prop} (L : LSN own idx md n) (hct : CT Γ l j (s.heap.size + cells) mc' ms' md As μ post) (hd : decode cc pc = .ok (.invokestatic idx, 3)) (hn : As.length = n) (hst : st = As.reverse ++ rest) (hcat : (rest.map fun v => v.category).sum ≤ 8) (hj : j + 1 ≤ k) (hcl : cells + mc' ≤ mc) (hsl : slots + ms' ≤ ms) : vRun Γ p l e R s m args below meth c nL cells slots mc' ms' pc lv st μ rest post := by
  intro H locs ls h1 h2 h3 h4
  have hts := X.2.2.2.2.2.1
  have hin : cells + mc' ≤ R.cells ∧ slots + ms' ≤ R.slots := ⟨Nat.le_trans hcl X.2.2.2.2.2.2.2.2.2.2.2.2.1, Nat.le_trans hsl X.2.2.2.2.2.2.2.2.2.2.2.2.2⟩
  have S : CallFix p m c cc nL s args GT own := ⟨X.1, X.2.1, X.2.2.2.1, X.2.2.2.2.1, hts⟩
  subst hst
  obtain ⟨hm, l1, l2⟩ := L
  exact va_runSN (As := As) (rest := rest) S hct ⟨va_cnB n hts hm.good rfl rfl rfl (X.2.2.2.2.2.2.1.2.1 _ l1) (hts _ hm.2.1) ⟨hm.2.2.1, hm.2.2.2.1, hm.2.2.2.2.1⟩ (room_ok X hm hj), hts _ l2, trivial⟩ ⟨CP_blind, pre_ok X h1 h2 h3⟩ rfl hn h4.1 rfl (lv_room hcat) hd hin
theorem rI (X : cX Γ p R s m args meth c cc ret nm own k mc ms nL) {mc' ms' j idx n b nL' : Nat} {y : MethodName} {by' : ByteArray} {As rest : List Value} {post : Option Value → MM → Prop} (L : LI own idx (y, by', nL', none) n) (hct : CT Γ l j (s.heap.size + cells) mc' ms' (y, by', nL', none) (.ref b :: As) μ post) (hd : decode cc pc = .ok (.invokespecial idx, 3)) (hn : As.length = n) (hst : st = As.reverse ++ .ref b :: rest) (hcat : (rest.map fun v => v.category).sum ≤ 8) (hj : j + 1 ≤ k) (hcl : cells + mc' ≤ mc) (hsl : slots + ms' ≤ ms) : vRun Γ p l e R s m args below meth c nL cells slots mc' ms' pc lv st μ rest post := by
  intro H locs ls h1 h2 h3 h4
  have hts := X.2.2.2.2.2.1
  have hin : cells + mc' ≤ R.cells ∧ slots + ms' ≤ R.slots := ⟨Nat.le_trans hcl X.2.2.2.2.2.2.2.2.2.2.2.2.1, Nat.le_trans hsl X.2.2.2.2.2.2.2.2.2.2.2.2.2⟩
  have S : CallFix p m c cc nL s args GT own := ⟨X.1, X.2.1, X.2.2.2.1, X.2.2.2.2.1, hts⟩
  subst hst
  obtain ⟨hm, l1, l2, l3, l4⟩ := L
  exact va_runI (As := As) (rest := rest) S hct (cwI n hts hm.good rfl rfl rfl (hts _ hm.2.1) (hts _ l1) (hts _ l2) l3 ⟨hm.2.2.1, hm.2.2.2.1, hm.2.2.2.2.1⟩ (room_ok X hm hj)) ⟨CP_blind, pre_ok X h1 h2 h3⟩ rfl hn h4.1 rfl (lv_room hcat) hd hin
theorem rIN (X : cX Γ p R s m args meth c cc ret nm own k mc ms nL) {mc' ms' j idx n b nL' : Nat} {y : MethodName} {by' : ByteArray} {As rest : List Value} {post : Option Value → MM → Prop} (L : LIN own idx (y, by', nL', none) n) (hct : CT Γ l j (s.heap.size + cells) mc' ms' (y, by', nL', none) (.ref b :: As) μ post) (hd : decode cc pc = .ok (.invokespecial idx, 3)) (hn : As.length = n) (hst : st = As.reverse ++ .ref b :: rest) (hcat : (rest.map fun v => v.category).sum ≤ 8) (hj : j + 1 ≤ k) (hcl : cells + mc' ≤ mc) (hsl : slots + ms' ≤ ms) : vRun Γ p l e R s m args below meth c nL cells slots mc' ms' pc lv st μ rest post := by
  intro H locs ls h1 h2 h3 h4
  have hts := X.2.2.2.2.2.1
  have hin : cells + mc' ≤ R.cells ∧ slots + ms' ≤ R.slots := ⟨Nat.le_trans hcl X.2.2.2.2.2.2.2.2.2.2.2.2.1, Nat.le_trans hsl X.2.2.2.2.2.2.2.2.2.2.2.2.2⟩
  have S : CallFix p m c cc nL s args GT own := ⟨X.1, X.2.1, X.2.2.2.1, X.2.2.2.2.1, hts⟩
  subst hst
  obtain ⟨hm, l1, l2, l3, l4⟩ := L
  exact va_runIN (As := As) (rest := rest) S hct ⟨va_cnB n hts hm.good rfl rfl rfl (X.2.2.2.2.2.2.1.2.1 _ l1) (hts _ hm.2.1) ⟨hm.2.2.1, hm.2.2.2.1, hm.2.2.2.2.1⟩ (room_ok X hm hj), l3, hts _ l2⟩ ⟨CP_blind, pre_ok X h1 h2 h3⟩ rfl hn h4.1 rfl (lv_room hcat) hd hin
theorem r_objInit (X : cX Γ p R s m args meth c cc ret nm own k mc ms nL) {idx a : Nat} (L : Cond.methodLink own idx objectInit ∈ GT ∧ Cond.instanceMethod objectInit ∈ GT ∧ Cond.code objectInit ⟨#[0xb1]⟩ 1 none ∈ GT) (hd : decode cc pc = .ok (.invokespecial idx, 3)) (hk : 1 ≤ k) (hcat : (st.map fun v => v.category).sum ≤ 8) (kk : vV Γ p l e R s m args below meth c Q nL (cells) (slots) (pc + 3) (lv) (st) (μ)) : vV Γ p l e R s m args below meth c Q nL (cells) (slots) (pc) (lv) (.ref a :: st) (μ) := by
  intro H locs ls h1 h2 h3 h4
  have hts := X.2.2.2.2.2.1
  have q1 := X.2.2.2.2.2.2.2.2.2.2.1
  have q2 := X.2.2.2.2.2.2.2.2.2.2.2.1
  refine W.objInit X.1 X.2.1 X.2.2.2.2.1 (hts _ L.1) (hts _ L.2.1) (hts _ L.2.2) rfl (by rw [X.2.2.2.1]; exact h4.1) rfl hd (by omega) (by show 2 * 0 + _ + 12 ≤ _; omega) (kk H locs ls h1 h2 h3 h4)
theorem r_iret (X : cX Γ p R s m args meth c cc (some .int) nm own k mc ms nL) (hd : decode cc pc = .ok (.ireturn, 1)) {v : Int32} {post : Int32 → MM → Prop} (hp : post v μ) : vV Γ p l e R s m args below meth c (vQ Γ s args below mc ms (ri post)) nL mc ms pc lv ([.int v]) μ := fun H locs ls h1 h2 h3 h4 => W.iret X.1 X.2.1 X.2.2.1 (fun t ht hW => ⟨some (.int v), μ, rfl, ⟨v, rfl, hp⟩, by rw [ht]; exact h1, by rw [ht]; exact h2, fun q hq => by rw [ht]; exact h3.2.1 q (Nat.lt_of_lt_of_le hq X.2.2.2.2.2.2.2.1) (Nat.not_le.mpr hq)⟩) h3.2.2 hd X.2.2.2.2.2.2.2.2.1
theorem r_zret {ty : FieldType} (X : cX Γ p R s m args meth c cc (some ty) nm own k mc ms nL) (hd : decode cc pc = .ok (.ireturn, 1)) {v : Int32} {post : Int32 → MM → Prop} (hn : narrow ty (.int v) = .int v) (hp : post v μ) : vV Γ p l e R s m args below meth c (vQ Γ s args below mc ms (ri post)) nL mc ms pc lv ([.int v]) μ := fun H locs ls h1 h2 h3 h4 => W.zret X.1 X.2.1 X.2.2.1 hn (fun t ht hW => ⟨some (.int v), μ, rfl, ⟨v, rfl, hp⟩, by rw [ht]; exact h1, by rw [ht]; exact h2, fun q hq => by rw [ht]; exact h3.2.1 q (Nat.lt_of_lt_of_le hq X.2.2.2.2.2.2.2.1) (Nat.not_le.mpr hq)⟩) h3.2.2 hd X.2.2.2.2.2.2.2.2.1
theorem r_lret (X : cX Γ p R s m args meth c cc (some .long) nm own k mc ms nL) (hd : decode cc pc = .ok (.lreturn, 1)) {v : Int64} {post : Int64 → MM → Prop} (hp : post v μ) : vV Γ p l e R s m args below meth c (vQ Γ s args below mc ms (rl post)) nL mc ms pc lv ([.long v]) μ := fun H locs ls h1 h2 h3 h4 => W.lret X.1 X.2.1 X.2.2.1 (fun t ht hW => ⟨some (.long v), μ, rfl, ⟨v, rfl, hp⟩, by rw [ht]; exact h1, by rw [ht]; exact h2, fun q hq => by rw [ht]; exact h3.2.1 q (Nat.lt_of_lt_of_le hq X.2.2.2.2.2.2.2.1) (Nat.not_le.mpr hq)⟩) h3.2.2 hd X.2.2.2.2.2.2.2.2.1
theorem r_aret {C : String} (X : cX Γ p R s m args meth c cc (some (.object C)) nm own k mc ms nL) (hd : decode cc pc = .ok (.areturn, 1)) {v : Nat} {post : Nat → MM → Prop} (hp : post v μ) : vV Γ p l e R s m args below meth c (vQ Γ s args below mc ms (rr post)) nL mc ms pc lv ([.ref v]) μ := fun H locs ls h1 h2 h3 h4 => W.aret X.1 X.2.1 X.2.2.1 (Or.inl ⟨_, rfl⟩) (Or.inr ⟨_, rfl⟩) (fun t ht hW => ⟨some (.ref v), μ, rfl, ⟨v, rfl, hp⟩, by rw [ht]; exact h1, by rw [ht]; exact h2, fun q hq => by rw [ht]; exact h3.2.1 q (Nat.lt_of_lt_of_le hq X.2.2.2.2.2.2.2.1) (Nat.not_le.mpr hq)⟩) h3.2.2 hd X.2.2.2.2.2.2.2.2.1
theorem r_vret (X : cX Γ p R s m args meth c cc none nm own k mc ms nL) (hd : decode cc pc = .ok (.return_, 1)) {post : MM → Prop} (hp : post μ) : vV Γ p l e R s m args below meth c (vQ Γ s args below mc ms (rv post)) nL mc ms pc lv ([]) μ := fun H locs ls h1 h2 h3 h4 => W.vret X.1 X.2.1 X.2.2.1 (fun t ht hW => ⟨none, μ, rfl, ⟨rfl, hp⟩, by rw [ht]; exact h1, by rw [ht]; exact h2, fun q hq => by rw [ht]; exact h3.2.1 q (Nat.lt_of_lt_of_le hq X.2.2.2.2.2.2.2.1) (Nat.not_le.mpr hq)⟩) h3.2.2 hd X.2.2.2.2.2.2.2.2.1
def LN (own : String) (idx ci : Nat) (C : String) (T : u_T) (N : Nat) (fs : List Value) : Prop := vwCl[ci]? = some (C, T, N) ∧ Cond.classLink own idx C ∈ GT ∧ Cond.instantiable C N ∈ GT ∧ Cond.initialized C ∈ GT ∧ (∀ w ∈ u_ws C T N, w ∈ GT) ∧ ∃ ty : Nat → FieldType, (∀ k, k < N → parseFieldDescriptor (T k).2.2.1 = some (ty k)) ∧ ∀ j, j < N → defaultValue (ty j) = vp_V fs j
theorem r_new (X : cX Γ p R s m args meth c cc ret nm own k mc ms nL) {idx ci N : Nat} {C : String} {T : u_T} {fs : List Value} (L : LN own idx ci C T N fs) (hd : decode cc pc = .ok (.new idx, 3)) (hcl : cells + 1 ≤ mc) (hsl : slots + N ≤ ms) (kk : vV Γ p l e R s m args below meth c Q nL (cells + 1) (slots + N) (pc + 3) (lv) (.ref (s.heap.size + cells) :: st) (mu μ (s.heap.size + cells) (xO ci fs))) : vV Γ p l e R s m args below meth c Q nL (cells) (slots) (pc) (lv) (st) (μ) := by
  intro H locs ls h1 h2 h3 h4
  obtain ⟨hc, l1, l2, l3, hin, ty, hty, hfs⟩ := L
  have hts := X.2.2.2.2.2.1
  have hKn := X.2.2.2.2.2.2.1.1.1 ci _ hc
  refine W.newcK X.1 X.2.1 X.2.2.2.2.1 (hts _ l1) (hts _ l2) (hts _ l3) rfl hd (Nat.le_trans hcl X.2.2.2.2.2.2.2.2.2.2.2.2.1) (Nat.le_trans hsl X.2.2.2.2.2.2.2.2.2.2.2.2.2) hKn.2.1 h2 fun H1 kC hkC e1 z1 o1 => ?_
  refine kk H1 locs ls (h1.push (Nat.le_trans X.2.2.2.2.2.2.2.1 (Nat.le_add_right _ _)) h2 ⟨_, hc, (u_born ty hts hin hKn hkC e1 hty).to hfs⟩ o1) (by rw [z1, Nat.add_assoc]) ⟨Nat.le_trans h3.1 (by omega), fun q g1 g2 => (o1 q (Nat.lt_of_lt_of_le g1 (Nat.le_add_right _ _))).trans (h3.2.1 q g1 g2), h3.2.2⟩ h4
theorem r_newaI (X : cX Γ p R s m args meth c cc ret nm own k mc ms nL) {N : Nat} (L : Cond.arrayClass .int ∈ GT) (hd : decode cc pc = .ok (.newarray .int, 2)) (hN : N < 1000) (hcl : cells + 1 ≤ mc) (hsl : slots + N ≤ ms) (kk : vV Γ p l e R s m args below meth c Q nL (cells + 1) (slots + N) (pc + 2) (lv) (.ref (s.heap.size + cells) :: st) (mu μ (s.heap.size + cells) (xI Γ N (fun _ => nI 0)))) : vV Γ p l e R s m args below meth c Q nL (cells) (slots) (pc) (lv) (.int (nI N) :: st) (μ) := by
  intro H locs ls h1 h2 h3 h4
  have hts := X.2.2.2.2.2.1
  have hcb : componentBytes (newarray.typeOf .int) ≤ 8 := by decide
  refine va_newaK X.1 X.2.1 (atype := .int) (hts _ L) rfl hd rfl (nI_pos (by omega)) (nI_clamp (by omega)) (Nat.le_trans (Nat.mul_le_mul (Nat.le_of_lt hN) hcb) (by decide)) (Nat.le_trans hcl X.2.2.2.2.2.2.2.2.2.2.2.2.1) (Nat.le_trans hsl X.2.2.2.2.2.2.2.2.2.2.2.2.2) h2 fun H1 cA e1 z1 o1 hAr hNm => ?_
  have hcA : cA = kcI Γ := Option.some.inj (hNm.symm.trans (X.2.2.2.2.2.2.1.1.2 0 _ rfl).2)
  subst hcA
  refine kk H1 locs ls (h1.push (Nat.le_trans X.2.2.2.2.2.2.2.1 (Nat.le_add_right _ _)) h2 ?_ o1) (by rw [z1, Nat.add_assoc]) ⟨Nat.le_trans h3.1 (by omega), fun q g1 g2 => (o1 q (Nat.lt_of_lt_of_le g1 (Nat.le_add_right _ _))).trans (h3.2.1 q g1 g2), h3.2.2⟩ h4
  show H1[_]? = some (vp_cell _ _)
  rw [vp_cell_i, e1]
  rfl
theorem r_newaC (X : cX Γ p R s m args meth c cc ret nm own k mc ms nL) {N : Nat} (L : Cond.arrayClass .char ∈ GT) (hd : decode cc pc = .ok (.newarray .char, 2)) (hN : N < 1000) (hcl : cells + 1 ≤ mc) (hsl : slots + N ≤ ms) (kk : vV Γ p l e R s m args below meth c Q nL (cells + 1) (slots + N) (pc + 2) (lv) (.ref (s.heap.size + cells) :: st) (mu μ (s.heap.size + cells) (xC Γ N (fun _ => nI 0)))) : vV Γ p l e R s m args below meth c Q nL (cells) (slots) (pc) (lv) (.int (nI N) :: st) (μ) := by
  intro H locs ls h1 h2 h3 h4
  have hts := X.2.2.2.2.2.1
  have hcb : componentBytes (newarray.typeOf .char) ≤ 8 := by decide
  refine va_newaK X.1 X.2.1 (atype := .char) (hts _ L) rfl hd rfl (nI_pos (by omega)) (nI_clamp (by omega)) (Nat.le_trans (Nat.mul_le_mul (Nat.le_of_lt hN) hcb) (by decide)) (Nat.le_trans hcl X.2.2.2.2.2.2.2.2.2.2.2.2.1) (Nat.le_trans hsl X.2.2.2.2.2.2.2.2.2.2.2.2.2) h2 fun H1 cA e1 z1 o1 hAr hNm => ?_
  have hcA : cA = kcC Γ := Option.some.inj (hNm.symm.trans (X.2.2.2.2.2.2.1.1.2 1 _ rfl).2)
  subst hcA
  refine kk H1 locs ls (h1.push (Nat.le_trans X.2.2.2.2.2.2.2.1 (Nat.le_add_right _ _)) h2 ?_ o1) (by rw [z1, Nat.add_assoc]) ⟨Nat.le_trans h3.1 (by omega), fun q g1 g2 => (o1 q (Nat.lt_of_lt_of_le g1 (Nat.le_add_right _ _))).trans (h3.2.1 q g1 g2), h3.2.2⟩ h4
  show H1[_]? = some (vp_cell _ _)
  rw [vp_cell_i, e1]
  rfl
theorem r_newaZ (X : cX Γ p R s m args meth c cc ret nm own k mc ms nL) {N : Nat} (L : Cond.arrayClass .boolean ∈ GT) (hd : decode cc pc = .ok (.newarray .boolean, 2)) (hN : N < 1000) (hcl : cells + 1 ≤ mc) (hsl : slots + N ≤ ms) (kk : vV Γ p l e R s m args below meth c Q nL (cells + 1) (slots + N) (pc + 2) (lv) (.ref (s.heap.size + cells) :: st) (mu μ (s.heap.size + cells) (xZ Γ N (fun _ => nI 0)))) : vV Γ p l e R s m args below meth c Q nL (cells) (slots) (pc) (lv) (.int (nI N) :: st) (μ) := by
  intro H locs ls h1 h2 h3 h4
  have hts := X.2.2.2.2.2.1
  have hcb : componentBytes (newarray.typeOf .boolean) ≤ 8 := by decide
  refine va_newaK X.1 X.2.1 (atype := .boolean) (hts _ L) rfl hd rfl (nI_pos (by omega)) (nI_clamp (by omega)) (Nat.le_trans (Nat.mul_le_mul (Nat.le_of_lt hN) hcb) (by decide)) (Nat.le_trans hcl X.2.2.2.2.2.2.2.2.2.2.2.2.1) (Nat.le_trans hsl X.2.2.2.2.2.2.2.2.2.2.2.2.2) h2 fun H1 cA e1 z1 o1 hAr hNm => ?_
  have hcA : cA = kcZ Γ := Option.some.inj (hNm.symm.trans (X.2.2.2.2.2.2.1.1.2 2 _ rfl).2)
  subst hcA
  refine kk H1 locs ls (h1.push (Nat.le_trans X.2.2.2.2.2.2.2.1 (Nat.le_add_right _ _)) h2 ?_ o1) (by rw [z1, Nat.add_assoc]) ⟨Nat.le_trans h3.1 (by omega), fun q g1 g2 => (o1 q (Nat.lt_of_lt_of_le g1 (Nat.le_add_right _ _))).trans (h3.2.1 q g1 g2), h3.2.2⟩ h4
  show H1[_]? = some (vp_cell _ _)
  rw [vp_cell_i, e1]
  rfl
theorem r_newaS (X : cX Γ p R s m args meth c cc ret nm own k mc ms nL) {N idx : Nat} (L : Cond.classLink own idx "NobodyCave$Scene" ∈ GT) (hd : decode cc pc = .ok (.anewarray idx, 3)) (hN : N < 1000) (hcl : cells + 1 ≤ mc) (hsl : slots + N ≤ ms) (kk : vV Γ p l e R s m args below meth c Q nL (cells + 1) (slots + N) (pc + 3) (lv) (.ref (s.heap.size + cells) :: st) (mu μ (s.heap.size + cells) (xS Γ N (fun _ => none)))) : vV Γ p l e R s m args below meth c Q nL (cells) (slots) (pc) (lv) (.int (nI N) :: st) (μ) := by
  intro H locs ls h1 h2 h3 h4
  have hts := X.2.2.2.2.2.1
  have ec := nI_clamp (n := N) (by omega)
  have hR1 := X.2.2.2.2.2.2.2.2.2.2.2.2.1
  have hR2 := X.2.2.2.2.2.2.2.2.2.2.2.2.2
  refine W.anew X.1 X.2.1 X.2.2.2.2.1 (hts _ L) (va_AO.use X.2.2.2.2.2.2.1.2.2.1) rfl hd rfl (nI_pos (by omega)) (by rw [ec]; omega) (by omega) (by rw [ec]; omega) fun cA kA' comp f1 f2 f3 f4 => ?_
  have hcA : cA = kcS Γ := by
    obtain ⟨_, _, _, _, _, hq⟩ := (X.2.2.2.2.2.2.1.1.2 3 _ rfl).2
    exact Option.some.inj (f1.symm.trans hq)
  subst hcA
  rw [ec, h2]
  generalize hH1 : H.push ({ cls := kcS Γ, slots := Array.replicate N .null, vm := .none } : Cell) = H1
  have z1 : H1.size = H.size + 1 := by rw [← hH1, Array.size_push]
  have e1 : H1[H.size]? = some (arrV (kcS Γ) N (fun _ => .null)) := by rw [← hH1, Array.getElem?_push_size, ← arrV_new]
  have o1 : ∀ q : Nat, q < H.size → H1[q]? = H[q]? := fun q hq => by rw [← hH1, Array.getElem?_push, if_neg (Nat.ne_of_lt hq)]
  rw [h2] at e1 o1 z1
  refine kk H1 locs ls (h1.push (Nat.le_trans X.2.2.2.2.2.2.2.1 (Nat.le_add_right _ _)) h2 ?_ o1) (by rw [z1, Nat.add_assoc]) ⟨Nat.le_trans h3.1 (by omega), fun q g1 g2 => (o1 q (Nat.lt_of_lt_of_le g1 (Nat.le_add_right _ _))).trans (h3.2.1 q g1 g2), h3.2.2⟩ h4
  show H1[_]? = some (vp_cell _ _)
  rw [vp_cell_q, e1]
  rfl
theorem r_max (X : cX Γ p R s m args meth c cc ret nm own k mc ms nL) {idx : Nat} {x y : Int32} (L : Cond.methodLink own idx Lib.Math.max.name ∈ GT ∧ Cond.static Lib.Math.max.name ∈ GT ∧ Cond.initialized "java/lang/Math" ∈ GT ∧ Cond.code Lib.Math.max.name Lib.Math.max.code 2 (some .int) ∈ GT) (hd : decode cc pc = .ok (.invokestatic idx, 3)) (hk : 1 ≤ k) (hcat : (st.map fun v => v.category).sum ≤ 8) (hcl : cells ≤ mc) (hsl : slots ≤ ms) (kk : vV Γ p l e R s m args below meth c Q nL (cells) (slots) (pc + 3) (lv) (.int (if x < y then y else x) :: st) (μ)) : vV Γ p l e R s m args below meth c Q nL (cells) (slots) (pc) (lv) (.int y :: .int x :: st) (μ) := by
  intro H locs ls h1 h2 h3 h4
  have hts := X.2.2.2.2.2.1
  have q1 := X.2.2.2.2.2.2.2.2.2.2.1
  have q2 := X.2.2.2.2.2.2.2.2.2.2.2.1
  have q3 := X.2.2.2.2.2.2.2.2.2.2.2.2.1
  have q4 := X.2.2.2.2.2.2.2.2.2.2.2.2.2
  exact va_mmax X.1 X.2.1 (X.2.2.2.1.trans h4.1.symm) X.2.2.2.2.1 (hts _ L.1) (hts _ L.2.1) (hts _ L.2.2.1) (hts _ L.2.2.2) (by omega) (by omega) (by omega) (by omega) hd (kk H locs ls h1 h2 h3 h4)
theorem r_min (X : cX Γ p R s m args meth c cc ret nm own k mc ms nL) {idx : Nat} {x y : Int32} (L : Cond.methodLink own idx Lib.Math.min.name ∈ GT ∧ Cond.static Lib.Math.min.name ∈ GT ∧ Cond.initialized "java/lang/Math" ∈ GT ∧ Cond.code Lib.Math.min.name Lib.Math.min.code 2 (some .int) ∈ GT) (hd : decode cc pc = .ok (.invokestatic idx, 3)) (hk : 1 ≤ k) (hcat : (st.map fun v => v.category).sum ≤ 8) (hcl : cells ≤ mc) (hsl : slots ≤ ms) (kk : vV Γ p l e R s m args below meth c Q nL (cells) (slots) (pc + 3) (lv) (.int (if y < x then y else x) :: st) (μ)) : vV Γ p l e R s m args below meth c Q nL (cells) (slots) (pc) (lv) (.int y :: .int x :: st) (μ) := by
  intro H locs ls h1 h2 h3 h4
  have hts := X.2.2.2.2.2.1
  have q1 := X.2.2.2.2.2.2.2.2.2.2.1
  have q2 := X.2.2.2.2.2.2.2.2.2.2.2.1
  have q3 := X.2.2.2.2.2.2.2.2.2.2.2.2.1
  have q4 := X.2.2.2.2.2.2.2.2.2.2.2.2.2
  exact va_mmin X.1 X.2.1 (X.2.2.2.1.trans h4.1.symm) X.2.2.2.2.1 (hts _ L.1) (hts _ L.2.1) (hts _ L.2.2.1) (hts _ L.2.2.2) (by omega) (by omega) (by omega) (by omega) hd (kk H locs ls h1 h2 h3 h4)
theorem r_gets (X : cX Γ p R s m args meth c cc ret nm own k mc ms nL) {idx i : Nat} (hi : i < 3) (L : Cond.fieldLink own idx "NobodyCave" (stN i) "[I" ∈ GT) (hd : decode cc pc = .ok (.getstatic idx, 3)) (kk : vV Γ p l e R s m args below meth c Q nL (cells) (slots) (pc + 3) (lv) (.ref (kS Γ i) :: st) (μ)) : vV Γ p l e R s m args below meth c Q nL (cells) (slots) (pc) (lv) (st) (μ) := fun H locs ls h1 h2 h3 h4 => va_gets X.1 X.2.1 (X.2.2.2.2.2.2.1.2.2.2.1 i hi).1 h3 X.2.2.2.2.1 (X.2.2.2.2.2.1 _ L) (fun _ h => h) hd (kk H locs ls h1 h2 h3 h4)
theorem r_getsN (X : cX Γ p R s m args meth c cc ret nm own k mc ms nL) {idx i : Nat} (hi : i < 3) (L : Cond.fieldLinkNest own idx "NobodyCave" (stN i) "[I" "NobodyCave" ∈ NW) (hd : decode cc pc = .ok (.getstatic idx, 3)) (kk : vV Γ p l e R s m args below meth c Q nL (cells) (slots) (pc + 3) (lv) (.ref (kS Γ i) :: st) (μ)) : vV Γ p l e R s m args below meth c Q nL (cells) (slots) (pc) (lv) (st) (μ) := fun H locs ls h1 h2 h3 h4 => va_getsN X.1 X.2.1 (X.2.2.2.2.2.2.1.2.2.2.1 i hi).1 h3 X.2.2.2.2.1 (va_Nw.use rfl (X.2.2.2.2.2.2.1.2.1 _ L)) (fun _ h => h) hd (kk H locs ls h1 h2 h3 h4)
theorem r_tald (X : cX Γ p R s m args meth c cc ret nm own k mc ms nL) {i j : Nat} (hi : i < 3) (hd : decode cc pc = .ok (.iaload, 1)) (hj : j < stL i) (kk : vV Γ p l e R s m args below meth c Q nL (cells) (slots) (pc + 1) (lv) (.int ((stV i).getD j 0) :: st) (μ)) : vV Γ p l e R s m args below meth c Q nL (cells) (slots) (pc) (lv) (.int (nI j) :: .ref (kS Γ i) :: st) (μ) := by
  intro H locs ls h1 h2 h3 h4
  have hs : stL i ≤ 11 := by unfold stL; split <;> decide
  exact va_ti X.1 X.2.1 (X.2.2.2.2.2.2.1.2.2.2.1 i hi).2 h3 (nI_vp hj (by omega)) (by rw [nI_clamp (by omega)]) hd (kk H locs ls h1 h2 h3 h4)
theorem r_talen (X : cX Γ p R s m args meth c cc ret nm own k mc ms nL) {i : Nat} (hi : i < 3) (hd : decode cc pc = .ok (.arraylength, 1)) (kk : vV Γ p l e R s m args below meth c Q nL (cells) (slots) (pc + 1) (lv) (.int (nI (stL i)) :: st) (μ)) : vV Γ p l e R s m args below meth c Q nL (cells) (slots) (pc) (lv) (.ref (kS Γ i) :: st) (μ) := fun H locs ls h1 h2 h3 h4 => va_tlen X.1 X.2.1 (X.2.2.2.2.2.2.1.2.2.2.1 i hi).2 h3 rfl hd (kk H locs ls h1 h2 h3 h4)
theorem r_gcs (X : cX Γ p R s m args meth c cc ret nm own k mc ms nL) {idx : Nat} (L : Cond.fieldLink own idx "java/lang/String" "COMPACT_STRINGS" "Z" ∈ GT) (hd : decode cc pc = .ok (.getstatic idx, 3)) (kk : vV Γ p l e R s m args below meth c Q nL (cells) (slots) (pc + 3) (lv) (.int 1 :: st) (μ)) : vV Γ p l e R s m args below meth c Q nL (cells) (slots) (pc) (lv) (st) (μ) := fun H locs ls h1 h2 h3 h4 => va_gets X.1 X.2.1 X.2.2.2.2.2.2.1.2.2.2.2.2.2 h3 X.2.2.2.2.1 (X.2.2.2.2.2.1 _ L) (fun _ h => h) hd (kk H locs ls h1 h2 h3 h4)
theorem r_ldcS (X : cX Γ p R s m args meth c cc ret nm own k mc ms nL) {i idx : Nat} (hi : i < 11) (hx : strI i = idx) (ho : own = "NobodyCave$Text") (hd : decode cc pc = .ok (.ldc idx, 2)) (kk : vV Γ p l e R s m args below meth c Q nL (cells) (slots) (pc + 2) (lv) (.ref (kQ Γ i) :: st) (μ)) : vV Γ p l e R s m args below meth c Q nL (cells) (slots) (pc) (lv) (st) (μ) := by
  subst ho
  subst hx
  exact fun H locs ls h1 h2 h3 h4 => va_ldcS X.1 X.2.1 X.2.2.2.2.1 (X.2.2.2.2.2.2.1.2.2.2.2.2.1 i hi) hd (kk H locs ls h1 h2 h3 h4)
theorem r_copyI (X : cX Γ p R s m args meth c cc ret nm own k mc ms nL) {idx a a0 N : Nat} {f g : Nat → Int32} (L : Cond.methodLink own idx arraycopyName ∈ GT ∧ Cond.native arraycopyName ∈ GT ∧ Cond.static arraycopyName ∈ GT ∧ Cond.initialized "java/lang/System" ∈ GT) (hd : decode cc pc = .ok (.invokestatic idx, 3)) (hk : 1 ≤ k) (hcat : (st.map fun v => v.category).sum ≤ 8) (hN : N < 1000) (ha0 : μ a0 = some (xI Γ N f)) (ha1 : μ a = some (xI Γ N g)) (kk : vV Γ p l e R s m args below meth c Q nL (cells) (slots) (pc + 3) (lv) (st) (mu μ a (xI Γ N f))) : vV Γ p l e R s m args below meth c Q nL (cells) (slots) (pc) (lv) (.int (nI N) :: .int (nI 0) :: .ref a :: .int (nI 0) :: .ref a0 :: st) (μ) := by
  intro H locs ls h1 h2 h3 h4
  have hts := X.2.2.2.2.2.1
  have q1 := X.2.2.2.2.2.2.2.2.2.2.1
  have q2 := X.2.2.2.2.2.2.2.2.2.2.2.1
  have hKt : ArrOfT s (kcI Γ) .int := (X.2.2.2.2.2.2.1.1.2 0 _ rfl).1
  have eN := nI_clamp (n := N) (by omega)
  have e0 := nI_clamp (n := 0) (by omega)
  have iN := nI_toInt (n := N) (by omega)
  have i0 := nI_toInt (n := 0) (by omega)
  have hc0 : H[a0]? = some (vp_cell (kcI Γ) (N, .inl f)) := (h1 a0 _ ha0).1
  have hc1 : H[a]? = some (vp_cell (kcI Γ) (N, .inl g)) := (h1 a _ ha1).1
  obtain ⟨-, k0, hk0, cm0, hkk0⟩ := hKt N (fun j => .int (f j))
  obtain ⟨-, k1, hk1, cm1, hkk1⟩ := hKt N (fun j => .int (g j))
  intro T hT XT
  have hnw : nativeFrameWords "java/lang/System" "arraycopy" 5 + 11 ≤ 32 := by decide +kernel
  have hroom : 2 * 0 + (st.map fun v => v.category).sum + (nativeFrameWords "java/lang/System" "arraycopy" 5 + 11) ≤ R.locals := by omega
  obtain ⟨vm', X', step⟩ := XT.arraycopy X.1 X.2.2.2.2.1 (hts _ L.1) (hts _ L.2.1) (hts _ L.2.2.1) (hts _ L.2.2.2) (src := a0) (dst := a) (cs := vp_cell (kcI Γ) (N, .inl f)) (cd := vp_cell (kcI Γ) (N, .inl g)) (srcPos := nI 0) (destPos := nI 0) (n := nI N) (by rw [hT]; exact hc0) (by rw [hT]; exact hc1)
    (fun _ h => by cases h) (fun _ h => by cases h) (fun h => by cases h) (fun h => by cases h) hk0 hk1 hkk0 hkk1 (by decide) (nI_pos (by omega)) (nI_pos (by omega)) (nI_pos (by omega))
    (by rw [i0, iN]; show ¬ _ > ((arrV (kcI Γ) N (fun j => .int (f j))).slots.size : Int); rw [arrV_size]; omega)
    (by rw [i0, iN]; show ¬ _ > ((arrV (kcI Γ) N (fun j => .int (g j))).slots.size : Int); rw [arrV_size]; omega)
    (fun vm₁ _ i hi => by
      rw [eN] at hi
      have e : (vp_cell (kcI Γ) (N, .inl f)).slots.getD ((nI 0).toNatClampNeg + i) .null = .int (f i) := by
        show (arrV (kcI Γ) N (fun j => .int (f j))).slots.getD _ _ = _
        rw [Array.getD_eq_getD_getElem?, e0, Nat.zero_add, arrV_read _ _ hi]
        rfl
      refine ⟨?_, ?_⟩
      · rw [e]
        rfl
      · rw [e]
        exact trivial)
    (g := F0 m pc ls (.int (nI N) :: .int (nI 0) :: .ref a :: .int (nI 0) :: .ref a0 :: st)) rfl (by rw [X.2.2.2.1]; exact h4.1) (rest := st) rfl (by rw [X.2.1]; exact hd) (by omega) hroom
  have e1 : copied (vp_cell (kcI Γ) (N, .inl f)) (vp_cell (kcI Γ) (N, .inl g)) (nI 0) (nI 0) (nI N) = vp_cell (kcI Γ) (N, .inl f) := by
    have := va_copied (fun z : Int32 => Value.int z) (kcI Γ) (kcI Γ) (n0 := N) (n1 := N) (sp := 0) (dp := 0) (n := N) f g (by omega)
    show (vp_cell (kcI Γ) (N, .inl g)).storeRun (nI 0).toNatClampNeg ((vp_cell (kcI Γ) (N, .inl f)).stretch (nI 0).toNatClampNeg (nI N).toNatClampNeg) = _
    rw [e0, eN, vp_cell_i, vp_cell_i, this]
    exact arrV_congr (fun j hj => by simp [va_cpy, hj])
  rw [e1] at X' step
  have hl : a < H.size := (Array.getElem?_eq_some_iff.mp hc1).1
  have hheap : ((T.setVm vm').setCell a (vp_cell (kcI Γ) (N, .inl f))).heap = H.setIfInBounds a (vp_cell (kcI Γ) (N, .inl f)) := by rw [← hT]; rfl
  have oq : ∀ q : Nat, q ≠ a → (H.setIfInBounds a (vp_cell (kcI Γ) (N, .inl f)))[q]? = H[q]? := fun q hq => by simp [Array.getElem?_setIfInBounds, Ne.symm hq]
  have hkA := (h1 a _ ha1).2
  obtain ⟨t, a1, b1⟩ := kk _ _ ls (h1.set hkA (show (H.setIfInBounds a _)[a]? = some _ by simp [Array.getElem?_setIfInBounds, hl]) oq) (by rw [Array.size_setIfInBounds]; exact h2) ⟨by rw [Array.size_setIfInBounds]; exact h3.1, fun q g1 g2 => by
      rw [oq q (fun e => g2 (by rw [e]; exact hkA))]
      exact h3.2.1 q g1 g2, fun q hq => by
      rcases List.mem_append.mp hq with h | h
      · exact h3.2.2 q h
      · obtain ⟨z, -, hz⟩ := List.mem_map.mp h
        rw [← hz]
        exact hkA⟩ h4 _ hheap X'
  exact ⟨t, step t a1, b1⟩
end LZ
end
section
theorem i_X0 : ∀ w ∈ u_ws RX0 TX0 3, w ∈ lw_tbl := by decide +kernel
theorem i_X1 : ∀ w ∈ u_ws RX1 TX1 2, w ∈ lw_tbl := by decide +kernel
theorem i_X2 : ∀ w ∈ u_ws RX2 TX2 10, w ∈ lw_tbl := by decide +kernel
theorem i_X3 : ∀ w ∈ u_ws RX3 TX3 4, w ∈ lw_tbl := by decide +kernel
theorem i_X4 : ∀ w ∈ u_ws RX4 TX4 5, w ∈ lw_tbl := by decide +kernel
theorem i_X5 : ∀ w ∈ u_ws RX5 TX5 11, w ∈ lw_tbl := by decide +kernel
theorem i_X6 : ∀ w ∈ u_ws RX6 TX6 9, w ∈ lw_tbl := by decide +kernel
theorem i_X7 : ∀ w ∈ u_ws RX7 TX7 17, w ∈ lw_tbl := by decide +kernel
abbrev mJ0_charAt_5068e : MD := (yJ0_charAt_5068e, cJ0_charAt_5068e, 2, (some .char))
theorem ok_mJ0_charAt_5068e : mOk mJ0_charAt_5068e 1 := ⟨GT_at 359 (by decide +kernel) rfl, GT_at 43 (by decide +kernel) rfl, by decide +kernel, by decide +kernel, by decide +kernel, by decide +kernel⟩
abbrev mJ0_checkIndex_df160 : MD := (yJ0_checkIndex_df160, cJ0_checkIndex_df160, 2, none)
theorem ok_mJ0_checkIndex_df160 : mOk mJ0_checkIndex_df160 2 := ⟨GT_at 369 (by decide +kernel) rfl, GT_at 43 (by decide +kernel) rfl, by decide +kernel, by decide +kernel, by decide +kernel, by decide +kernel⟩
abbrev mJ0_coder_7d493 : MD := (yJ0_coder_7d493, cJ0_coder_7d493, 1, (some .byte))
theorem ok_mJ0_coder_7d493 : mOk mJ0_coder_7d493 0 := ⟨GT_at 353 (by decide +kernel) rfl, GT_at 43 (by decide +kernel) rfl, by decide +kernel, by decide +kernel, by decide +kernel, by decide +kernel⟩
abbrev mJ0_isLatin1_aae02 : MD := (yJ0_isLatin1_aae02, cJ0_isLatin1_aae02, 1, (some .boolean))
theorem ok_mJ0_isLatin1_aae02 : mOk mJ0_isLatin1_aae02 0 := ⟨GT_at 363 (by decide +kernel) rfl, GT_at 43 (by decide +kernel) rfl, by decide +kernel, by decide +kernel, by decide +kernel, by decide +kernel⟩
abbrev mJ0_length_8abf5 : MD := (yJ0_length_8abf5, cJ0_length_8abf5, 1, (some .int))
theorem ok_mJ0_length_8abf5 : mOk mJ0_length_8abf5 0 := ⟨GT_at 349 (by decide +kernel) rfl, GT_at 43 (by decide +kernel) rfl, by decide +kernel, by decide +kernel, by decide +kernel, by decide +kernel⟩
abbrev mJ1_charAt_3b067 : MD := (yJ1_charAt_3b067, cJ1_charAt_3b067, 2, (some .char))
theorem ok_mJ1_charAt_3b067 : mOk mJ1_charAt_3b067 2 := ⟨GT_at 366 (by decide +kernel) rfl, GT_at 44 (by decide +kernel) rfl, by decide +kernel, by decide +kernel, by decide +kernel, by decide +kernel⟩
abbrev mJ2_charAt_3b067 : MD := (yJ2_charAt_3b067, cJ2_charAt_3b067, 2, (some .char))
theorem ok_mJ2_charAt_3b067 : mOk mJ2_charAt_3b067 2 := ⟨GT_at 377 (by decide +kernel) rfl, GT_at 46 (by decide +kernel) rfl, by decide +kernel, by decide +kernel, by decide +kernel, by decide +kernel⟩
abbrev mJ2_checkIndex_2214a : MD := (yJ2_checkIndex_2214a, cJ2_checkIndex_2214a, 2, none)
theorem ok_mJ2_checkIndex_2214a : mOk mJ2_checkIndex_2214a 2 := ⟨GT_at 380 (by decide +kernel) rfl, GT_at 46 (by decide +kernel) rfl, by decide +kernel, by decide +kernel, by decide +kernel, by decide +kernel⟩
abbrev mJ2_getChar_3b067 : MD := (yJ2_getChar_3b067, cJ2_getChar_3b067, 2, (some .char))
theorem ok_mJ2_getChar_3b067 : mOk mJ2_getChar_3b067 2 := ⟨GT_at 387 (by decide +kernel) rfl, GT_at 46 (by decide +kernel) rfl, by decide +kernel, by decide +kernel, by decide +kernel, by decide +kernel⟩
abbrev mJ2_length_9d52b : MD := (yJ2_length_9d52b, cJ2_length_9d52b, 1, (some .int))
theorem ok_mJ2_length_9d52b : mOk mJ2_length_9d52b 1 := ⟨GT_at 383 (by decide +kernel) rfl, GT_at 46 (by decide +kernel) rfl, by decide +kernel, by decide +kernel, by decide +kernel, by decide +kernel⟩
abbrev mJ3_checkIndex_8e157 : MD := (yJ3_checkIndex_8e157, cJ3_checkIndex_8e157, 3, (some .int))
theorem ok_mJ3_checkIndex_8e157 : mOk mJ3_checkIndex_8e157 3 := ⟨GT_at 374 (by decide +kernel) rfl, GT_at 45 (by decide +kernel) rfl, by decide +kernel, by decide +kernel, by decide +kernel, by decide +kernel⟩
abbrev mJ6_bitCount_0f7a4 : MD := (yJ6_bitCount_0f7a4, cJ6_bitCount_0f7a4, 1, (some .int))
theorem ok_mJ6_bitCount_0f7a4 : mOk mJ6_bitCount_0f7a4 1 := ⟨GT_at 521 (by decide +kernel) rfl, GT_at 48 (by decide +kernel) rfl, by decide +kernel, by decide +kernel, by decide +kernel, by decide +kernel⟩
abbrev mJ9_max_7cf53 : MD := (yJ9_max_7cf53, cJ9_max_7cf53, 2, (some .int))
theorem ok_mJ9_max_7cf53 : mOk mJ9_max_7cf53 2 := ⟨GT_at 484 (by decide +kernel) rfl, GT_at 47 (by decide +kernel) rfl, by decide +kernel, by decide +kernel, by decide +kernel, by decide +kernel⟩
abbrev mJ9_min_7cf53 : MD := (yJ9_min_7cf53, cJ9_min_7cf53, 2, (some .int))
theorem ok_mJ9_min_7cf53 : mOk mJ9_min_7cf53 2 := ⟨GT_at 500 (by decide +kernel) rfl, GT_at 47 (by decide +kernel) rfl, by decide +kernel, by decide +kernel, by decide +kernel, by decide +kernel⟩
abbrev mX0_clear : MD := (yX0_clear, cX0_clear, 1, none)
theorem ok_mX0_clear : mOk mX0_clear 0 := ⟨GT_at 428 (by decide +kernel) rfl, GT_at 38 (by decide +kernel) rfl, by decide +kernel, by decide +kernel, by decide +kernel, by decide +kernel⟩
abbrev mX0_init : MD := (yX0_init, cX0_init, 2, none)
theorem ok_mX0_init : mOk mX0_init 0 := ⟨GT_at 195 (by decide +kernel) rfl, GT_at 38 (by decide +kernel) rfl, by decide +kernel, by decide +kernel, by decide +kernel, by decide +kernel⟩
abbrev mX0_pop : MD := (yX0_pop, cX0_pop, 2, (some .boolean))
theorem ok_mX0_pop : mOk mX0_pop 1 := ⟨GT_at 555 (by decide +kernel) rfl, GT_at 38 (by decide +kernel) rfl, by decide +kernel, by decide +kernel, by decide +kernel, by decide +kernel⟩
abbrev mX0_push : MD := (yX0_push, cX0_push, 2, none)
theorem ok_mX0_push : mOk mX0_push 1 := ⟨GT_at 492 (by decide +kernel) rfl, GT_at 38 (by decide +kernel) rfl, by decide +kernel, by decide +kernel, by decide +kernel, by decide +kernel⟩
abbrev mX1_bestFelt : MD := (yX1_bestFelt, cX1_bestFelt, 7, (some .int))
theorem ok_mX1_bestFelt : mOk mX1_bestFelt 2 := ⟨GT_at 615 (by decide +kernel) rfl, GT_at 39 (by decide +kernel) rfl, by decide +kernel, by decide +kernel, by decide +kernel, by decide +kernel⟩
abbrev mX1_bestFrom : MD := (yX1_bestFrom, cX1_bestFrom, 7, (some .int))
theorem ok_mX1_bestFrom : mOk mX1_bestFrom 2 := ⟨GT_at 589 (by decide +kernel) rfl, GT_at 39 (by decide +kernel) rfl, by decide +kernel, by decide +kernel, by decide +kernel, by decide +kernel⟩
abbrev mX1_firstBest : MD := (yX1_firstBest, cX1_firstBest, 5, (some .int))
theorem ok_mX1_firstBest : mOk mX1_firstBest 2 := ⟨GT_at 602 (by decide +kernel) rfl, GT_at 39 (by decide +kernel) rfl, by decide +kernel, by decide +kernel, by decide +kernel, by decide +kernel⟩
abbrev mX1_fitting : MD := (yX1_fitting, cX1_fitting, 5, (some .int))
theorem ok_mX1_fitting : mOk mX1_fitting 3 := ⟨GT_at 583 (by decide +kernel) rfl, GT_at 39 (by decide +kernel) rfl, by decide +kernel, by decide +kernel, by decide +kernel, by decide +kernel⟩
abbrev mX1_init : MD := (yX1_init, cX1_init, 1, none)
theorem ok_mX1_init : mOk mX1_init 0 := ⟨GT_at 215 (by decide +kernel) rfl, GT_at 39 (by decide +kernel) rfl, by decide +kernel, by decide +kernel, by decide +kernel, by decide +kernel⟩
abbrev mX1_mostOut : MD := (yX1_mostOut, cX1_mostOut, 2, (some .int))
theorem ok_mX1_mostOut : mOk mX1_mostOut 1 := ⟨GT_at 594 (by decide +kernel) rfl, GT_at 39 (by decide +kernel) rfl, by decide +kernel, by decide +kernel, by decide +kernel, by decide +kernel⟩
abbrev mX1_reckon : MD := (yX1_reckon, cX1_reckon, 6, none)
theorem ok_mX1_reckon : mOk mX1_reckon 2 := ⟨GT_at 580 (by decide +kernel) rfl, GT_at 39 (by decide +kernel) rfl, by decide +kernel, by decide +kernel, by decide +kernel, by decide +kernel⟩
abbrev mX1_sheepOf : MD := (yX1_sheepOf, cX1_sheepOf, 5, (some .int))
theorem ok_mX1_sheepOf : mOk mX1_sheepOf 1 := ⟨GT_at 598 (by decide +kernel) rfl, GT_at 39 (by decide +kernel) rfl, by decide +kernel, by decide +kernel, by decide +kernel, by decide +kernel⟩
abbrev mX2_begin : MD := (yX2_begin, cX2_begin, 3, none)
theorem ok_mX2_begin : mOk mX2_begin 1 := ⟨GT_at 248 (by decide +kernel) rfl, GT_at 37 (by decide +kernel) rfl, by decide +kernel, by decide +kernel, by decide +kernel, by decide +kernel⟩
abbrev mX2_canHide : MD := (yX2_canHide, cX2_canHide, 3, (some .boolean))
theorem ok_mX2_canHide : mOk mX2_canHide 2 := ⟨GT_at 532 (by decide +kernel) rfl, GT_at 37 (by decide +kernel) rfl, by decide +kernel, by decide +kernel, by decide +kernel, by decide +kernel⟩
abbrev mX2_copy : MD := (yX2_copy, cX2_copy, 2, none)
theorem ok_mX2_copy : mOk mX2_copy 1 := ⟨GT_at 496 (by decide +kernel) rfl, GT_at 37 (by decide +kernel) rfl, by decide +kernel, by decide +kernel, by decide +kernel, by decide +kernel⟩
abbrev mX2_eatFirst : MD := (yX2_eatFirst, cX2_eatFirst, 5, (some .int))
theorem ok_mX2_eatFirst : mOk mX2_eatFirst 1 := ⟨GT_at 508 (by decide +kernel) rfl, GT_at 37 (by decide +kernel) rfl, by decide +kernel, by decide +kernel, by decide +kernel, by decide +kernel⟩
abbrev mX2_init : MD := (yX2_init, cX2_init, 1, none)
theorem ok_mX2_init : mOk mX2_init 0 := ⟨GT_at 146 (by decide +kernel) rfl, GT_at 37 (by decide +kernel) rfl, by decide +kernel, by decide +kernel, by decide +kernel, by decide +kernel⟩
abbrev mX2_leave : MD := (yX2_leave, cX2_leave, 5, (some .int))
theorem ok_mX2_leave : mOk mX2_leave 1 := ⟨GT_at 541 (by decide +kernel) rfl, GT_at 37 (by decide +kernel) rfl, by decide +kernel, by decide +kernel, by decide +kernel, by decide +kernel⟩
abbrev mX2_stateOf : MD := (yX2_stateOf, cX2_stateOf, 2, (some .int))
theorem ok_mX2_stateOf : mOk mX2_stateOf 1 := ⟨GT_at 440 (by decide +kernel) rfl, GT_at 37 (by decide +kernel) rfl, by decide +kernel, by decide +kernel, by decide +kernel, by decide +kernel⟩
abbrev mX2_whoIsUnder : MD := (yX2_whoIsUnder, cX2_whoIsUnder, 3, (some .int))
theorem ok_mX2_whoIsUnder : mOk mX2_whoIsUnder 1 := ⟨GT_at 456 (by decide +kernel) rfl, GT_at 37 (by decide +kernel) rfl, by decide +kernel, by decide +kernel, by decide +kernel, by decide +kernel⟩
abbrev mX3_add : MD := (yX3_add, cX3_add, 4, (some .boolean))
theorem ok_mX3_add : mOk mX3_add 3 := ⟨GT_at 644 (by decide +kernel) rfl, GT_at 40 (by decide +kernel) rfl, by decide +kernel, by decide +kernel, by decide +kernel, by decide +kernel⟩
abbrev mX3_greatestStrong : MD := (yX3_greatestStrong, cX3_greatestStrong, 4, (some .int))
theorem ok_mX3_greatestStrong : mOk mX3_greatestStrong 2 := ⟨GT_at 665 (by decide +kernel) rfl, GT_at 40 (by decide +kernel) rfl, by decide +kernel, by decide +kernel, by decide +kernel, by decide +kernel⟩
abbrev mX3_init : MD := (yX3_init, cX3_init, 1, none)
theorem ok_mX3_init : mOk mX3_init 0 := ⟨GT_at 229 (by decide +kernel) rfl, GT_at 40 (by decide +kernel) rfl, by decide +kernel, by decide +kernel, by decide +kernel, by decide +kernel⟩
abbrev mX3_leastStrong : MD := (yX3_leastStrong, cX3_leastStrong, 4, (some .int))
theorem ok_mX3_leastStrong : mOk mX3_leastStrong 2 := ⟨GT_at 656 (by decide +kernel) rfl, GT_at 40 (by decide +kernel) rfl, by decide +kernel, by decide +kernel, by decide +kernel, by decide +kernel⟩
abbrev mX3_wouldBeSo : MD := (yX3_wouldBeSo, cX3_wouldBeSo, 6, (some .boolean))
theorem ok_mX3_wouldBeSo : mOk mX3_wouldBeSo 3 := ⟨GT_at 660 (by decide +kernel) rfl, GT_at 40 (by decide +kernel) rfl, by decide +kernel, by decide +kernel, by decide +kernel, by decide +kernel⟩
abbrev mX4_add : MD := (yX4_add, cX4_add, 2, (some .boolean))
theorem ok_mX4_add : mOk mX4_add 1 := ⟨GT_at 290 (by decide +kernel) rfl, GT_at 35 (by decide +kernel) rfl, by decide +kernel, by decide +kernel, by decide +kernel, by decide +kernel⟩
abbrev mX4_init : MD := (yX4_init, cX4_init, 1, none)
theorem ok_mX4_init : mOk mX4_init 0 := ⟨GT_at 61 (by decide +kernel) rfl, GT_at 35 (by decide +kernel) rfl, by decide +kernel, by decide +kernel, by decide +kernel, by decide +kernel⟩
abbrev mX4_isDigit : MD := (yX4_isDigit, cX4_isDigit, 1, (some .boolean))
theorem ok_mX4_isDigit : mOk mX4_isDigit 1 := ⟨GT_at 323 (by decide +kernel) rfl, GT_at 35 (by decide +kernel) rfl, by decide +kernel, by decide +kernel, by decide +kernel, by decide +kernel⟩
abbrev mX4_isSmall : MD := (yX4_isSmall, cX4_isSmall, 1, (some .boolean))
theorem ok_mX4_isSmall : mOk mX4_isSmall 1 := ⟨GT_at 320 (by decide +kernel) rfl, GT_at 35 (by decide +kernel) rfl, by decide +kernel, by decide +kernel, by decide +kernel, by decide +kernel⟩
abbrev mX4_nextToken : MD := (yX4_nextToken, cX4_nextToken, 3, none)
theorem ok_mX4_nextToken : mOk mX4_nextToken 0 := ⟨GT_at 317 (by decide +kernel) rfl, GT_at 35 (by decide +kernel) rfl, by decide +kernel, by decide +kernel, by decide +kernel, by decide +kernel⟩
abbrev mX4_numberHere : MD := (yX4_numberHere, cX4_numberHere, 3, (some .int))
theorem ok_mX4_numberHere : mOk mX4_numberHere 0 := ⟨GT_at 401 (by decide +kernel) rfl, GT_at 35 (by decide +kernel) rfl, by decide +kernel, by decide +kernel, by decide +kernel, by decide +kernel⟩
abbrev mX4_read : MD := (yX4_read, cX4_read, 3, (some .int))
theorem ok_mX4_read : mOk mX4_read 1 := ⟨GT_at 309 (by decide +kernel) rfl, GT_at 35 (by decide +kernel) rfl, by decide +kernel, by decide +kernel, by decide +kernel, by decide +kernel⟩
abbrev mX4_readClause : MD := (yX4_readClause, cX4_readClause, 4, (some .boolean))
theorem ok_mX4_readClause : mOk mX4_readClause 1 := ⟨GT_at 313 (by decide +kernel) rfl, GT_at 35 (by decide +kernel) rfl, by decide +kernel, by decide +kernel, by decide +kernel, by decide +kernel⟩
abbrev mX4_spelling : MD := (yX4_spelling, cX4_spelling, 1, (some (.object "java/lang/String")))
theorem ok_mX4_spelling : mOk mX4_spelling 1 := ⟨GT_at 330 (by decide +kernel) rfl, GT_at 35 (by decide +kernel) rfl, by decide +kernel, by decide +kernel, by decide +kernel, by decide +kernel⟩
abbrev mX4_tokenIs : MD := (yX4_tokenIs, cX4_tokenIs, 3, (some .boolean))
theorem ok_mX4_tokenIs : mOk mX4_tokenIs 1 := ⟨GT_at 345 (by decide +kernel) rfl, GT_at 35 (by decide +kernel) rfl, by decide +kernel, by decide +kernel, by decide +kernel, by decide +kernel⟩
abbrev mX4_wordHere : MD := (yX4_wordHere, cX4_wordHere, 2, (some .int))
theorem ok_mX4_wordHere : mOk mX4_wordHere 0 := ⟨GT_at 327 (by decide +kernel) rfl, GT_at 35 (by decide +kernel) rfl, by decide +kernel, by decide +kernel, by decide +kernel, by decide +kernel⟩
abbrev mX5_addSheep : MD := (yX5_addSheep, cX5_addSheep, 3, none)
theorem ok_mX5_addSheep : mOk mX5_addSheep 2 := ⟨GT_at 415 (by decide +kernel) rfl, GT_at 36 (by decide +kernel) rfl, by decide +kernel, by decide +kernel, by decide +kernel, by decide +kernel⟩
abbrev mX5_allSheep : MD := (yX5_allSheep, cX5_allSheep, 1, (some .int))
theorem ok_mX5_allSheep : mOk mX5_allSheep 0 := ⟨GT_at 610 (by decide +kernel) rfl, GT_at 36 (by decide +kernel) rfl, by decide +kernel, by decide +kernel, by decide +kernel, by decide +kernel⟩
abbrev mX5_bears : MD := (yX5_bears, cX5_bears, 2, (some .int))
theorem ok_mX5_bears : mOk mX5_bears 1 := ⟨GT_at 477 (by decide +kernel) rfl, GT_at 36 (by decide +kernel) rfl, by decide +kernel, by decide +kernel, by decide +kernel, by decide +kernel⟩
abbrev mX5_bearsMan : MD := (yX5_bearsMan, cX5_bearsMan, 3, (some .boolean))
theorem ok_mX5_bearsMan : mOk mX5_bearsMan 2 := ⟨GT_at 545 (by decide +kernel) rfl, GT_at 36 (by decide +kernel) rfl, by decide +kernel, by decide +kernel, by decide +kernel, by decide +kernel⟩
abbrev mX5_comers : MD := (yX5_comers, cX5_comers, 4, (some .int))
theorem ok_mX5_comers : mOk mX5_comers 1 := ⟨GT_at 517 (by decide +kernel) rfl, GT_at 36 (by decide +kernel) rfl, by decide +kernel, by decide +kernel, by decide +kernel, by decide +kernel⟩
abbrev mX5_copy : MD := (yX5_copy, cX5_copy, 2, none)
theorem ok_mX5_copy : mOk mX5_copy 1 := ⟨GT_at 302 (by decide +kernel) rfl, GT_at 36 (by decide +kernel) rfl, by decide +kernel, by decide +kernel, by decide +kernel, by decide +kernel⟩
abbrev mX5_hasMan : MD := (yX5_hasMan, cX5_hasMan, 2, (some .boolean))
theorem ok_mX5_hasMan : mOk mX5_hasMan 1 := ⟨GT_at 436 (by decide +kernel) rfl, GT_at 36 (by decide +kernel) rfl, by decide +kernel, by decide +kernel, by decide +kernel, by decide +kernel⟩
abbrev mX5_hasNeighbour : MD := (yX5_hasNeighbour, cX5_hasNeighbour, 2, (some .boolean))
theorem ok_mX5_hasNeighbour : mOk mX5_hasNeighbour 1 := ⟨GT_at 464 (by decide +kernel) rfl, GT_at 36 (by decide +kernel) rfl, by decide +kernel, by decide +kernel, by decide +kernel, by decide +kernel⟩
abbrev mX5_hasRoomFor : MD := (yX5_hasRoomFor, cX5_hasRoomFor, 2, (some .boolean))
theorem ok_mX5_hasRoomFor : mOk mX5_hasRoomFor 1 := ⟨GT_at 397 (by decide +kernel) rfl, GT_at 36 (by decide +kernel) rfl, by decide +kernel, by decide +kernel, by decide +kernel, by decide +kernel⟩
abbrev mX5_hasSheep : MD := (yX5_hasSheep, cX5_hasSheep, 2, (some .boolean))
theorem ok_mX5_hasSheep : mOk mX5_hasSheep 1 := ⟨GT_at 451 (by decide +kernel) rfl, GT_at 36 (by decide +kernel) rfl, by decide +kernel, by decide +kernel, by decide +kernel, by decide +kernel⟩
abbrev mX5_init : MD := (yX5_init, cX5_init, 1, none)
theorem ok_mX5_init : mOk mX5_init 0 := ⟨GT_at 86 (by decide +kernel) rfl, GT_at 36 (by decide +kernel) rfl, by decide +kernel, by decide +kernel, by decide +kernel, by decide +kernel⟩
abbrev mX5_namesFor : MD := (yX5_namesFor, cX5_namesFor, 4, (some .int))
theorem ok_mX5_namesFor : mOk mX5_namesFor 1 := ⟨GT_at 625 (by decide +kernel) rfl, GT_at 36 (by decide +kernel) rfl, by decide +kernel, by decide +kernel, by decide +kernel, by decide +kernel⟩
abbrev mX5_quietestName : MD := (yX5_quietestName, cX5_quietestName, 5, (some .int))
theorem ok_mX5_quietestName : mOk mX5_quietestName 0 := ⟨GT_at 630 (by decide +kernel) rfl, GT_at 36 (by decide +kernel) rfl, by decide +kernel, by decide +kernel, by decide +kernel, by decide +kernel⟩
abbrev mX5_reset : MD := (yX5_reset, cX5_reset, 1, none)
theorem ok_mX5_reset : mOk mX5_reset 0 := ⟨GT_at 91 (by decide +kernel) rfl, GT_at 36 (by decide +kernel) rfl, by decide +kernel, by decide +kernel, by decide +kernel, by decide +kernel⟩
abbrev mX5_tell : MD := (yX5_tell, cX5_tell, 3, none)
theorem ok_mX5_tell : mOk mX5_tell 2 := ⟨GT_at 410 (by decide +kernel) rfl, GT_at 36 (by decide +kernel) rfl, by decide +kernel, by decide +kernel, by decide +kernel, by decide +kernel⟩
abbrev mX6_allBits : MD := (yX6_allBits, cX6_allBits, 1, (some .int))
theorem ok_mX6_allBits : mOk mX6_allBits 1 := ⟨GT_at 251 (by decide +kernel) rfl, GT_at 34 (by decide +kernel) rfl, by decide +kernel, by decide +kernel, by decide +kernel, by decide +kernel⟩
abbrev mX6_as : MD := (yX6_as, cX6_as, 3, (some .int))
theorem ok_mX6_as : mOk mX6_as 2 := ⟨GT_at 468 (by decide +kernel) rfl, GT_at 34 (by decide +kernel) rfl, by decide +kernel, by decide +kernel, by decide +kernel, by decide +kernel⟩
abbrev mX6_back : MD := (yX6_back, cX6_back, 2, (some .int))
theorem ok_mX6_back : mOk mX6_back 1 := ⟨GT_at 564 (by decide +kernel) rfl, GT_at 34 (by decide +kernel) rfl, by decide +kernel, by decide +kernel, by decide +kernel, by decide +kernel⟩
abbrev mX6_bearing : MD := (yX6_bearing, cX6_bearing, 2, (some .int))
theorem ok_mX6_bearing : mOk mX6_bearing 2 := ⟨GT_at 481 (by decide +kernel) rfl, GT_at 34 (by decide +kernel) rfl, by decide +kernel, by decide +kernel, by decide +kernel, by decide +kernel⟩
abbrev mX6_beginAnew : MD := (yX6_beginAnew, cX6_beginAnew, 2, none)
theorem ok_mX6_beginAnew : mOk mX6_beginAnew 0 := ⟨GT_at 424 (by decide +kernel) rfl, GT_at 34 (by decide +kernel) rfl, by decide +kernel, by decide +kernel, by decide +kernel, by decide +kernel⟩
abbrev mX6_blind : MD := (yX6_blind, cX6_blind, 3, (some .int))
theorem ok_mX6_blind : mOk mX6_blind 1 := ⟨GT_at 513 (by decide +kernel) rfl, GT_at 34 (by decide +kernel) rfl, by decide +kernel, by decide +kernel, by decide +kernel, by decide +kernel⟩
abbrev mX6_boasts : MD := (yX6_boasts, cX6_boasts, 9, (some .int))
theorem ok_mX6_boasts : mOk mX6_boasts 5 := ⟨GT_at 669 (by decide +kernel) rfl, GT_at 34 (by decide +kernel) rfl, by decide +kernel, by decide +kernel, by decide +kernel, by decide +kernel⟩
abbrev mX6_came : MD := (yX6_came, cX6_came, 2, (some .int))
theorem ok_mX6_came : mOk mX6_came 1 := ⟨GT_at 635 (by decide +kernel) rfl, GT_at 34 (by decide +kernel) rfl, by decide +kernel, by decide +kernel, by decide +kernel, by decide +kernel⟩
abbrev mX6_cave : MD := (yX6_cave, cX6_cave, 1, (some .int))
theorem ok_mX6_cave : mOk mX6_cave 0 := ⟨GT_at 420 (by decide +kernel) rfl, GT_at 34 (by decide +kernel) rfl, by decide +kernel, by decide +kernel, by decide +kernel, by decide +kernel⟩
abbrev mX6_count : MD := (yX6_count, cX6_count, 2, (some .int))
theorem ok_mX6_count : mOk mX6_count 1 := ⟨GT_at 676 (by decide +kernel) rfl, GT_at 34 (by decide +kernel) rfl, by decide +kernel, by decide +kernel, by decide +kernel, by decide +kernel⟩
abbrev mX6_day : MD := (yX6_day, cX6_day, 2, (some .int))
theorem ok_mX6_day : mOk mX6_day 0 := ⟨GT_at 504 (by decide +kernel) rfl, GT_at 34 (by decide +kernel) rfl, by decide +kernel, by decide +kernel, by decide +kernel, by decide +kernel⟩
abbrev mX6_daysTillBlinded : MD := (yX6_daysTillBlinded, cX6_daysTillBlinded, 3, (some .int))
theorem ok_mX6_daysTillBlinded : mOk mX6_daysTillBlinded 0 := ⟨GT_at 572 (by decide +kernel) rfl, GT_at 34 (by decide +kernel) rfl, by decide +kernel, by decide +kernel, by decide +kernel, by decide +kernel⟩
abbrev mX6_erase : MD := (yX6_erase, cX6_erase, 2, (some .int))
theorem ok_mX6_erase : mOk mX6_erase 0 := ⟨GT_at 294 (by decide +kernel) rfl, GT_at 34 (by decide +kernel) rfl, by decide +kernel, by decide +kernel, by decide +kernel, by decide +kernel⟩
abbrev mX6_fallsThatMiss : MD := (yX6_fallsThatMiss, cX6_fallsThatMiss, 4, (some .int))
theorem ok_mX6_fallsThatMiss : mOk mX6_fallsThatMiss 2 := ⟨GT_at 672 (by decide +kernel) rfl, GT_at 34 (by decide +kernel) rfl, by decide +kernel, by decide +kernel, by decide +kernel, by decide +kernel⟩
abbrev mX6_fault : MD := (yX6_fault, cX6_fault, 1, (some .int))
theorem ok_mX6_fault : mOk mX6_fault 0 := ⟨GT_at 298 (by decide +kernel) rfl, GT_at 34 (by decide +kernel) rfl, by decide +kernel, by decide +kernel, by decide +kernel, by decide +kernel⟩
abbrev mX6_feel : MD := (yX6_feel, cX6_feel, 4, (some .int))
theorem ok_mX6_feel : mOk mX6_feel 2 := ⟨GT_at 606 (by decide +kernel) rfl, GT_at 34 (by decide +kernel) rfl, by decide +kernel, by decide +kernel, by decide +kernel, by decide +kernel⟩
abbrev mX6_forget : MD := (yX6_forget, cX6_forget, 2, (some .int))
theorem ok_mX6_forget : mOk mX6_forget 0 := ⟨GT_at 648 (by decide +kernel) rfl, GT_at 34 (by decide +kernel) rfl, by decide +kernel, by decide +kernel, by decide +kernel, by decide +kernel⟩
abbrev mX6_give : MD := (yX6_give, cX6_give, 2, (some .int))
theorem ok_mX6_give : mOk mX6_give 1 := ⟨GT_at 488 (by decide +kernel) rfl, GT_at 34 (by decide +kernel) rfl, by decide +kernel, by decide +kernel, by decide +kernel, by decide +kernel⟩
abbrev mX6_hasBit : MD := (yX6_hasBit, cX6_hasBit, 2, (some .boolean))
theorem ok_mX6_hasBit : mOk mX6_hasBit 2 := ⟨GT_at 443 (by decide +kernel) rfl, GT_at 34 (by decide +kernel) rfl, by decide +kernel, by decide +kernel, by decide +kernel, by decide +kernel⟩
abbrev mX6_hide : MD := (yX6_hide, cX6_hide, 4, (some .int))
theorem ok_mX6_hide : mOk mX6_hide 2 := ⟨GT_at 528 (by decide +kernel) rfl, GT_at 34 (by decide +kernel) rfl, by decide +kernel, by decide +kernel, by decide +kernel, by decide +kernel⟩
abbrev mX6_init : MD := (yX6_init, cX6_init, 2, none)
theorem ok_mX6_init : mOk mX6_init 0 := ⟨GT_at 53 (by decide +kernel) rfl, GT_at 34 (by decide +kernel) rfl, by decide +kernel, by decide +kernel, by decide +kernel, by decide +kernel⟩
abbrev mX6_isOutside : MD := (yX6_isOutside, cX6_isOutside, 3, (some .boolean))
theorem ok_mX6_isOutside : mOk mX6_isOutside 3 := ⟨GT_at 286 (by decide +kernel) rfl, GT_at 34 (by decide +kernel) rfl, by decide +kernel, by decide +kernel, by decide +kernel, by decide +kernel⟩
abbrev mX6_isUnderKind : MD := (yX6_isUnderKind, cX6_isUnderKind, 4, (some .boolean))
theorem ok_mX6_isUnderKind : mOk mX6_isUnderKind 2 := ⟨GT_at 473 (by decide +kernel) rfl, GT_at 34 (by decide +kernel) rfl, by decide +kernel, by decide +kernel, by decide +kernel, by decide +kernel⟩
abbrev mX6_keep : MD := (yX6_keep, cX6_keep, 2, (some .int))
theorem ok_mX6_keep : mOk mX6_keep 1 := ⟨GT_at 559 (by decide +kernel) rfl, GT_at 34 (by decide +kernel) rfl, by decide +kernel, by decide +kernel, by decide +kernel, by decide +kernel⟩
abbrev mX6_man : MD := (yX6_man, cX6_man, 3, (some .int))
theorem ok_mX6_man : mOk mX6_man 2 := ⟨GT_at 432 (by decide +kernel) rfl, GT_at 34 (by decide +kernel) rfl, by decide +kernel, by decide +kernel, by decide +kernel, by decide +kernel⟩
abbrev mX6_morning : MD := (yX6_morning, cX6_morning, 1, (some .int))
theorem ok_mX6_morning : mOk mX6_morning 0 := ⟨GT_at 537 (by decide +kernel) rfl, GT_at 34 (by decide +kernel) rfl, by decide +kernel, by decide +kernel, by decide +kernel, by decide +kernel⟩
abbrev mX6_names : MD := (yX6_names, cX6_names, 2, (some .int))
theorem ok_mX6_names : mOk mX6_names 1 := ⟨GT_at 621 (by decide +kernel) rfl, GT_at 34 (by decide +kernel) rfl, by decide +kernel, by decide +kernel, by decide +kernel, by decide +kernel⟩
abbrev mX6_near : MD := (yX6_near, cX6_near, 2, (some .int))
theorem ok_mX6_near : mOk mX6_near 1 := ⟨GT_at 460 (by decide +kernel) rfl, GT_at 34 (by decide +kernel) rfl, by decide +kernel, by decide +kernel, by decide +kernel, by decide +kernel⟩
abbrev mX6_plan : MD := (yX6_plan, cX6_plan, 2, (some .int))
theorem ok_mX6_plan : mOk mX6_plan 1 := ⟨GT_at 576 (by decide +kernel) rfl, GT_at 34 (by decide +kernel) rfl, by decide +kernel, by decide +kernel, by decide +kernel, by decide +kernel⟩
abbrev mX6_seen : MD := (yX6_seen, cX6_seen, 4, (some .int))
theorem ok_mX6_seen : mOk mX6_seen 3 := ⟨GT_at 640 (by decide +kernel) rfl, GT_at 34 (by decide +kernel) rfl, by decide +kernel, by decide +kernel, by decide +kernel, by decide +kernel⟩
abbrev mX6_sheep : MD := (yX6_sheep, cX6_sheep, 3, (some .int))
theorem ok_mX6_sheep : mOk mX6_sheep 2 := ⟨GT_at 447 (by decide +kernel) rfl, GT_at 34 (by decide +kernel) rfl, by decide +kernel, by decide +kernel, by decide +kernel, by decide +kernel⟩
abbrev mX6_soon : MD := (yX6_soon, cX6_soon, 3, (some .int))
theorem ok_mX6_soon : mOk mX6_soon 1 := ⟨GT_at 568 (by decide +kernel) rfl, GT_at 34 (by decide +kernel) rfl, by decide +kernel, by decide +kernel, by decide +kernel, by decide +kernel⟩
abbrev mX6_strong : MD := (yX6_strong, cX6_strong, 3, (some .int))
theorem ok_mX6_strong : mOk mX6_strong 2 := ⟨GT_at 652 (by decide +kernel) rfl, GT_at 34 (by decide +kernel) rfl, by decide +kernel, by decide +kernel, by decide +kernel, by decide +kernel⟩
abbrev mX6_undo : MD := (yX6_undo, cX6_undo, 1, (some .int))
theorem ok_mX6_undo : mOk mX6_undo 0 := ⟨GT_at 551 (by decide +kernel) rfl, GT_at 34 (by decide +kernel) rfl, by decide +kernel, by decide +kernel, by decide +kernel, by decide +kernel⟩
abbrev mX6_write : MD := (yX6_write, cX6_write, 2, (some .int))
theorem ok_mX6_write : mOk mX6_write 1 := ⟨GT_at 283 (by decide +kernel) rfl, GT_at 34 (by decide +kernel) rfl, by decide +kernel, by decide +kernel, by decide +kernel, by decide +kernel⟩
abbrev mX7_anew : MD := (yX7_anew, cX7_anew, 2, none)
theorem ok_mX7_anew : mOk mX7_anew 0 := ⟨GT_at 689 (by decide +kernel) rfl, GT_at 41 (by decide +kernel) rfl, by decide +kernel, by decide +kernel, by decide +kernel, by decide +kernel⟩
abbrev mX7_as : MD := (yX7_as, cX7_as, 5, (some .int))
theorem ok_mX7_as : mOk mX7_as 2 := ⟨GT_at 831 (by decide +kernel) rfl, GT_at 41 (by decide +kernel) rfl, by decide +kernel, by decide +kernel, by decide +kernel, by decide +kernel⟩
abbrev mX7_back : MD := (yX7_back, cX7_back, 3, (some .int))
theorem ok_mX7_back : mOk mX7_back 1 := ⟨GT_at 903 (by decide +kernel) rfl, GT_at 41 (by decide +kernel) rfl, by decide +kernel, by decide +kernel, by decide +kernel, by decide +kernel⟩
abbrev mX7_bears : MD := (yX7_bears, cX7_bears, 2, (some .int))
theorem ok_mX7_bears : mOk mX7_bears 1 := ⟨GT_at 836 (by decide +kernel) rfl, GT_at 41 (by decide +kernel) rfl, by decide +kernel, by decide +kernel, by decide +kernel, by decide +kernel⟩
abbrev mX7_bearsBy : MD := (yX7_bearsBy, cX7_bearsBy, 3, (some .int))
theorem ok_mX7_bearsBy : mOk mX7_bearsBy 2 := ⟨GT_at 840 (by decide +kernel) rfl, GT_at 41 (by decide +kernel) rfl, by decide +kernel, by decide +kernel, by decide +kernel, by decide +kernel⟩
abbrev mX7_blind : MD := (yX7_blind, cX7_blind, 3, (some .int))
theorem ok_mX7_blind : mOk mX7_blind 1 := ⟨GT_at 872 (by decide +kernel) rfl, GT_at 41 (by decide +kernel) rfl, by decide +kernel, by decide +kernel, by decide +kernel, by decide +kernel⟩
abbrev mX7_boasts : MD := (yX7_boasts, cX7_boasts, 11, (some .int))
theorem ok_mX7_boasts : mOk mX7_boasts 5 := ⟨GT_at 952 (by decide +kernel) rfl, GT_at 41 (by decide +kernel) rfl, by decide +kernel, by decide +kernel, by decide +kernel, by decide +kernel⟩
abbrev mX7_came : MD := (yX7_came, cX7_came, 4, (some .int))
theorem ok_mX7_came : mOk mX7_came 1 := ⟨GT_at 936 (by decide +kernel) rfl, GT_at 41 (by decide +kernel) rfl, by decide +kernel, by decide +kernel, by decide +kernel, by decide +kernel⟩
abbrev mX7_cave : MD := (yX7_cave, cX7_cave, 2, (some .int))
theorem ok_mX7_cave : mOk mX7_cave 0 := ⟨GT_at 801 (by decide +kernel) rfl, GT_at 41 (by decide +kernel) rfl, by decide +kernel, by decide +kernel, by decide +kernel, by decide +kernel⟩
abbrev mX7_comeBy : MD := (yX7_comeBy, cX7_comeBy, 4, (some .int))
theorem ok_mX7_comeBy : mOk mX7_comeBy 1 := ⟨GT_at 877 (by decide +kernel) rfl, GT_at 41 (by decide +kernel) rfl, by decide +kernel, by decide +kernel, by decide +kernel, by decide +kernel⟩
abbrev mX7_count : MD := (yX7_count, cX7_count, 2, (some .int))
theorem ok_mX7_count : mOk mX7_count 1 := ⟨GT_at 959 (by decide +kernel) rfl, GT_at 41 (by decide +kernel) rfl, by decide +kernel, by decide +kernel, by decide +kernel, by decide +kernel⟩
abbrev mX7_day : MD := (yX7_day, cX7_day, 2, (some .int))
theorem ok_mX7_day : mOk mX7_day 0 := ⟨GT_at 853 (by decide +kernel) rfl, GT_at 41 (by decide +kernel) rfl, by decide +kernel, by decide +kernel, by decide +kernel, by decide +kernel⟩
abbrev mX7_eat : MD := (yX7_eat, cX7_eat, 2, none)
theorem ok_mX7_eat : mOk mX7_eat 1 := ⟨GT_at 868 (by decide +kernel) rfl, GT_at 41 (by decide +kernel) rfl, by decide +kernel, by decide +kernel, by decide +kernel, by decide +kernel⟩
abbrev mX7_eatFirst : MD := (yX7_eatFirst, cX7_eatFirst, 4, (some .int))
theorem ok_mX7_eatFirst : mOk mX7_eatFirst 1 := ⟨GT_at 857 (by decide +kernel) rfl, GT_at 41 (by decide +kernel) rfl, by decide +kernel, by decide +kernel, by decide +kernel, by decide +kernel⟩
abbrev mX7_erase : MD := (yX7_erase, cX7_erase, 2, (some .int))
theorem ok_mX7_erase : mOk mX7_erase 0 := ⟨GT_at 753 (by decide +kernel) rfl, GT_at 41 (by decide +kernel) rfl, by decide +kernel, by decide +kernel, by decide +kernel, by decide +kernel⟩
abbrev mX7_fault : MD := (yX7_fault, cX7_fault, 1, (some .int))
theorem ok_mX7_fault : mOk mX7_fault 0 := ⟨GT_at 757 (by decide +kernel) rfl, GT_at 41 (by decide +kernel) rfl, by decide +kernel, by decide +kernel, by decide +kernel, by decide +kernel⟩
abbrev mX7_feel : MD := (yX7_feel, cX7_feel, 8, (some .int))
theorem ok_mX7_feel : mOk mX7_feel 2 := ⟨GT_at 927 (by decide +kernel) rfl, GT_at 41 (by decide +kernel) rfl, by decide +kernel, by decide +kernel, by decide +kernel, by decide +kernel⟩
abbrev mX7_findPlan : MD := (yX7_findPlan, cX7_findPlan, 8, none)
theorem ok_mX7_findPlan : mOk mX7_findPlan 1 := ⟨GT_at 923 (by decide +kernel) rfl, GT_at 41 (by decide +kernel) rfl, by decide +kernel, by decide +kernel, by decide +kernel, by decide +kernel⟩
abbrev mX7_forget : MD := (yX7_forget, cX7_forget, 2, (some .int))
theorem ok_mX7_forget : mOk mX7_forget 0 := ⟨GT_at 944 (by decide +kernel) rfl, GT_at 41 (by decide +kernel) rfl, by decide +kernel, by decide +kernel, by decide +kernel, by decide +kernel⟩
abbrev mX7_give : MD := (yX7_give, cX7_give, 2, (some .int))
theorem ok_mX7_give : mOk mX7_give 1 := ⟨GT_at 844 (by decide +kernel) rfl, GT_at 41 (by decide +kernel) rfl, by decide +kernel, by decide +kernel, by decide +kernel, by decide +kernel⟩
abbrev mX7_has : MD := (yX7_has, cX7_has, 2, (some .boolean))
theorem ok_mX7_has : mOk mX7_has 2 := ⟨GT_at 880 (by decide +kernel) rfl, GT_at 41 (by decide +kernel) rfl, by decide +kernel, by decide +kernel, by decide +kernel, by decide +kernel⟩
abbrev mX7_hide : MD := (yX7_hide, cX7_hide, 5, (some .int))
theorem ok_mX7_hide : mOk mX7_hide 2 := ⟨GT_at 884 (by decide +kernel) rfl, GT_at 41 (by decide +kernel) rfl, by decide +kernel, by decide +kernel, by decide +kernel, by decide +kernel⟩
abbrev mX7_in : MD := (yX7_in, cX7_in, 6, (some .boolean))
theorem ok_mX7_in : mOk mX7_in 3 := ⟨GT_at 749 (by decide +kernel) rfl, GT_at 41 (by decide +kernel) rfl, by decide +kernel, by decide +kernel, by decide +kernel, by decide +kernel⟩
abbrev mX7_init : MD := (yX7_init, cX7_init, 1, none)
theorem ok_mX7_init : mOk mX7_init 0 := ⟨GT_at 681 (by decide +kernel) rfl, GT_at 41 (by decide +kernel) rfl, by decide +kernel, by decide +kernel, by decide +kernel, by decide +kernel⟩
abbrev mX7_isIn : MD := (yX7_isIn, cX7_isIn, 2, (some .boolean))
theorem ok_mX7_isIn : mOk mX7_isIn 1 := ⟨GT_at 861 (by decide +kernel) rfl, GT_at 41 (by decide +kernel) rfl, by decide +kernel, by decide +kernel, by decide +kernel, by decide +kernel⟩
abbrev mX7_isMan : MD := (yX7_isMan, cX7_isMan, 2, (some .boolean))
theorem ok_mX7_isMan : mOk mX7_isMan 1 := ⟨GT_at 809 (by decide +kernel) rfl, GT_at 41 (by decide +kernel) rfl, by decide +kernel, by decide +kernel, by decide +kernel, by decide +kernel⟩
abbrev mX7_isSheep : MD := (yX7_isSheep, cX7_isSheep, 2, (some .boolean))
theorem ok_mX7_isSheep : mOk mX7_isSheep 1 := ⟨GT_at 818 (by decide +kernel) rfl, GT_at 41 (by decide +kernel) rfl, by decide +kernel, by decide +kernel, by decide +kernel, by decide +kernel⟩
abbrev mX7_isWhat : MD := (yX7_isWhat, cX7_isWhat, 1, (some .boolean))
theorem ok_mX7_isWhat : mOk mX7_isWhat 1 := ⟨GT_at 899 (by decide +kernel) rfl, GT_at 41 (by decide +kernel) rfl, by decide +kernel, by decide +kernel, by decide +kernel, by decide +kernel⟩
abbrev mX7_keep : MD := (yX7_keep, cX7_keep, 3, (some .int))
theorem ok_mX7_keep : mOk mX7_keep 1 := ⟨GT_at 896 (by decide +kernel) rfl, GT_at 41 (by decide +kernel) rfl, by decide +kernel, by decide +kernel, by decide +kernel, by decide +kernel⟩
abbrev mX7_letterAt : MD := (yX7_letterAt, cX7_letterAt, 2, (some .int))
theorem ok_mX7_letterAt : mOk mX7_letterAt 1 := ⟨GT_at 769 (by decide +kernel) rfl, GT_at 41 (by decide +kernel) rfl, by decide +kernel, by decide +kernel, by decide +kernel, by decide +kernel⟩
abbrev mX7_man : MD := (yX7_man, cX7_man, 3, (some .int))
theorem ok_mX7_man : mOk mX7_man 2 := ⟨GT_at 805 (by decide +kernel) rfl, GT_at 41 (by decide +kernel) rfl, by decide +kernel, by decide +kernel, by decide +kernel, by decide +kernel⟩
abbrev mX7_menOf : MD := (yX7_menOf, cX7_menOf, 4, (some .int))
theorem ok_mX7_menOf : mOk mX7_menOf 1 := ⟨GT_at 915 (by decide +kernel) rfl, GT_at 41 (by decide +kernel) rfl, by decide +kernel, by decide +kernel, by decide +kernel, by decide +kernel⟩
abbrev mX7_morning : MD := (yX7_morning, cX7_morning, 5, (some .int))
theorem ok_mX7_morning : mOk mX7_morning 0 := ⟨GT_at 888 (by decide +kernel) rfl, GT_at 41 (by decide +kernel) rfl, by decide +kernel, by decide +kernel, by decide +kernel, by decide +kernel⟩
abbrev mX7_names : MD := (yX7_names, cX7_names, 5, (some .int))
theorem ok_mX7_names : mOk mX7_names 1 := ⟨GT_at 932 (by decide +kernel) rfl, GT_at 41 (by decide +kernel) rfl, by decide +kernel, by decide +kernel, by decide +kernel, by decide +kernel⟩
abbrev mX7_near : MD := (yX7_near, cX7_near, 2, (some .int))
theorem ok_mX7_near : mOk mX7_near 1 := ⟨GT_at 827 (by decide +kernel) rfl, GT_at 41 (by decide +kernel) rfl, by decide +kernel, by decide +kernel, by decide +kernel, by decide +kernel⟩
abbrev mX7_nextToken : MD := (yX7_nextToken, cX7_nextToken, 1, none)
theorem ok_mX7_nextToken : mOk mX7_nextToken 0 := ⟨GT_at 765 (by decide +kernel) rfl, GT_at 41 (by decide +kernel) rfl, by decide +kernel, by decide +kernel, by decide +kernel, by decide +kernel⟩
abbrev mX7_note : MD := (yX7_note, cX7_note, 2, none)
theorem ok_mX7_note : mOk mX7_note 0 := ⟨GT_at 849 (by decide +kernel) rfl, GT_at 41 (by decide +kernel) rfl, by decide +kernel, by decide +kernel, by decide +kernel, by decide +kernel⟩
abbrev mX7_number : MD := (yX7_number, cX7_number, 3, (some .int))
theorem ok_mX7_number : mOk mX7_number 2 := ⟨GT_at 797 (by decide +kernel) rfl, GT_at 41 (by decide +kernel) rfl, by decide +kernel, by decide +kernel, by decide +kernel, by decide +kernel⟩
abbrev mX7_ones : MD := (yX7_ones, cX7_ones, 3, (some .int))
theorem ok_mX7_ones : mOk mX7_ones 1 := ⟨GT_at 864 (by decide +kernel) rfl, GT_at 41 (by decide +kernel) rfl, by decide +kernel, by decide +kernel, by decide +kernel, by decide +kernel⟩
abbrev mX7_plan : MD := (yX7_plan, cX7_plan, 7, (some .int))
theorem ok_mX7_plan : mOk mX7_plan 1 := ⟨GT_at 919 (by decide +kernel) rfl, GT_at 41 (by decide +kernel) rfl, by decide +kernel, by decide +kernel, by decide +kernel, by decide +kernel⟩
abbrev mX7_readClause : MD := (yX7_readClause, cX7_readClause, 3, (some .boolean))
theorem ok_mX7_readClause : mOk mX7_readClause 0 := ⟨GT_at 777 (by decide +kernel) rfl, GT_at 41 (by decide +kernel) rfl, by decide +kernel, by decide +kernel, by decide +kernel, by decide +kernel⟩
abbrev mX7_readOne : MD := (yX7_readOne, cX7_readOne, 8, (some .boolean))
theorem ok_mX7_readOne : mOk mX7_readOne 5 := ⟨GT_at 793 (by decide +kernel) rfl, GT_at 41 (by decide +kernel) rfl, by decide +kernel, by decide +kernel, by decide +kernel, by decide +kernel⟩
abbrev mX7_readText : MD := (yX7_readText, cX7_readText, 2, (some .boolean))
theorem ok_mX7_readText : mOk mX7_readText 0 := ⟨GT_at 761 (by decide +kernel) rfl, GT_at 41 (by decide +kernel) rfl, by decide +kernel, by decide +kernel, by decide +kernel, by decide +kernel⟩
abbrev mX7_seen : MD := (yX7_seen, cX7_seen, 4, (some .int))
theorem ok_mX7_seen : mOk mX7_seen 3 := ⟨GT_at 940 (by decide +kernel) rfl, GT_at 41 (by decide +kernel) rfl, by decide +kernel, by decide +kernel, by decide +kernel, by decide +kernel⟩
abbrev mX7_sheep : MD := (yX7_sheep, cX7_sheep, 3, (some .int))
theorem ok_mX7_sheep : mOk mX7_sheep 2 := ⟨GT_at 814 (by decide +kernel) rfl, GT_at 41 (by decide +kernel) rfl, by decide +kernel, by decide +kernel, by decide +kernel, by decide +kernel⟩
abbrev mX7_soon : MD := (yX7_soon, cX7_soon, 5, (some .int))
theorem ok_mX7_soon : mOk mX7_soon 1 := ⟨GT_at 907 (by decide +kernel) rfl, GT_at 41 (by decide +kernel) rfl, by decide +kernel, by decide +kernel, by decide +kernel, by decide +kernel⟩
abbrev mX7_soonest : MD := (yX7_soonest, cX7_soonest, 2, (some .int))
theorem ok_mX7_soonest : mOk mX7_soonest 0 := ⟨GT_at 911 (by decide +kernel) rfl, GT_at 41 (by decide +kernel) rfl, by decide +kernel, by decide +kernel, by decide +kernel, by decide +kernel⟩
abbrev mX7_spelt : MD := (yX7_spelt, cX7_spelt, 9, (some .long))
theorem ok_mX7_spelt : mOk mX7_spelt 7 := ⟨GT_at 789 (by decide +kernel) rfl, GT_at 41 (by decide +kernel) rfl, by decide +kernel, by decide +kernel, by decide +kernel, by decide +kernel⟩
abbrev mX7_strong : MD := (yX7_strong, cX7_strong, 9, (some .int))
theorem ok_mX7_strong : mOk mX7_strong 2 := ⟨GT_at 948 (by decide +kernel) rfl, GT_at 41 (by decide +kernel) rfl, by decide +kernel, by decide +kernel, by decide +kernel, by decide +kernel⟩
abbrev mX7_takeFirst : MD := (yX7_takeFirst, cX7_takeFirst, 1, none)
theorem ok_mX7_takeFirst : mOk mX7_takeFirst 1 := ⟨GT_at 685 (by decide +kernel) rfl, GT_at 41 (by decide +kernel) rfl, by decide +kernel, by decide +kernel, by decide +kernel, by decide +kernel⟩
abbrev mX7_under : MD := (yX7_under, cX7_under, 4, (some .int))
theorem ok_mX7_under : mOk mX7_under 1 := ⟨GT_at 823 (by decide +kernel) rfl, GT_at 41 (by decide +kernel) rfl, by decide +kernel, by decide +kernel, by decide +kernel, by decide +kernel⟩
abbrev mX7_undo : MD := (yX7_undo, cX7_undo, 2, (some .int))
theorem ok_mX7_undo : mOk mX7_undo 0 := ⟨GT_at 892 (by decide +kernel) rfl, GT_at 41 (by decide +kernel) rfl, by decide +kernel, by decide +kernel, by decide +kernel, by decide +kernel⟩
abbrev mX7_verb : MD := (yX7_verb, cX7_verb, 3, (some .int))
theorem ok_mX7_verb : mOk mX7_verb 0 := ⟨GT_at 781 (by decide +kernel) rfl, GT_at 41 (by decide +kernel) rfl, by decide +kernel, by decide +kernel, by decide +kernel, by decide +kernel⟩
abbrev mX7_wordOf : MD := (yX7_wordOf, cX7_wordOf, 4, (some .long))
theorem ok_mX7_wordOf : mOk mX7_wordOf 0 := ⟨GT_at 785 (by decide +kernel) rfl, GT_at 41 (by decide +kernel) rfl, by decide +kernel, by decide +kernel, by decide +kernel, by decide +kernel⟩
abbrev mX7_write : MD := (yX7_write, cX7_write, 2, (some .int))
theorem ok_mX7_write : mOk mX7_write 1 := ⟨GT_at 745 (by decide +kernel) rfl, GT_at 41 (by decide +kernel) rfl, by decide +kernel, by decide +kernel, by decide +kernel, by decide +kernel⟩
theorem lc_X0 : LC RX0 TX0 3 := ⟨fun w hw => List.mem_filter.mpr ⟨i_X0 w hw, (List.all_eq_true.mp (show (u_ws RX0 TX0 3).all goodWord = true by decide +kernel)) w hw⟩, tyX0, tyX0_ok, nmX0⟩
theorem lc_X1 : LC RX1 TX1 2 := ⟨fun w hw => List.mem_filter.mpr ⟨i_X1 w hw, (List.all_eq_true.mp (show (u_ws RX1 TX1 2).all goodWord = true by decide +kernel)) w hw⟩, tyX1, tyX1_ok, nmX1⟩
theorem lc_X2 : LC RX2 TX2 10 := ⟨fun w hw => List.mem_filter.mpr ⟨i_X2 w hw, (List.all_eq_true.mp (show (u_ws RX2 TX2 10).all goodWord = true by decide +kernel)) w hw⟩, tyX2, tyX2_ok, nmX2⟩
theorem lc_X3 : LC RX3 TX3 4 := ⟨fun w hw => List.mem_filter.mpr ⟨i_X3 w hw, (List.all_eq_true.mp (show (u_ws RX3 TX3 4).all goodWord = true by decide +kernel)) w hw⟩, tyX3, tyX3_ok, nmX3⟩
theorem lc_X4 : LC RX4 TX4 5 := ⟨fun w hw => List.mem_filter.mpr ⟨i_X4 w hw, (List.all_eq_true.mp (show (u_ws RX4 TX4 5).all goodWord = true by decide +kernel)) w hw⟩, tyX4, tyX4_ok, nmX4⟩
theorem lc_X5 : LC RX5 TX5 11 := ⟨fun w hw => List.mem_filter.mpr ⟨i_X5 w hw, (List.all_eq_true.mp (show (u_ws RX5 TX5 11).all goodWord = true by decide +kernel)) w hw⟩, tyX5, tyX5_ok, nmX5⟩
theorem lc_X6 : LC RX6 TX6 9 := ⟨fun w hw => List.mem_filter.mpr ⟨i_X6 w hw, (List.all_eq_true.mp (show (u_ws RX6 TX6 9).all goodWord = true by decide +kernel)) w hw⟩, tyX6, tyX6_ok, nmX6⟩
theorem lc_X7 : LC RX7 TX7 17 := ⟨fun w hw => List.mem_filter.mpr ⟨i_X7 w hw, (List.all_eq_true.mp (show (u_ws RX7 TX7 17).all goodWord = true by decide +kernel)) w hw⟩, tyX7, tyX7_ok, nmX7⟩
theorem cl_L_7 : Cond.classLink RL 7 RX6 ∈ GT := GT_at 49 (by decide +kernel) rfl
theorem n_L_7 : LN RL 7 6 RX6 TX6 9 [.null, .null, .null, .null, .null, .null, .null, .null, .null] := ⟨rfl, cl_L_7, GT_at 50 (by decide +kernel) rfl, GT_at 34 (by decide +kernel) rfl, lc_X6.1, tyX6, tyX6_ok, fun j hj => by
  match j, hj with
  | 0, _ => rfl
  | 1, _ => rfl
  | 2, _ => rfl
  | 3, _ => rfl
  | 4, _ => rfl
  | 5, _ => rfl
  | 6, _ => rfl
  | 7, _ => rfl
  | 8, _ => rfl⟩
theorem l_L_9 : LI RL 9 mX6_init 0 := ⟨ok_mX6_init, GT_at 51 (by decide +kernel) rfl, GT_at 52 (by decide +kernel) rfl, rfl, rfl⟩
theorem l_X6_1 : Cond.methodLink RX6 1 objectInit ∈ GT ∧ Cond.instanceMethod objectInit ∈ GT ∧ Cond.code objectInit ⟨#[0xb1]⟩ 1 none ∈ GT := ⟨GT_at 54 (by decide +kernel) rfl, GT_at 55 (by decide +kernel) rfl, GT_at 56 (by decide +kernel) rfl⟩
theorem cl_X6_7 : Cond.classLink RX6 7 RX4 ∈ GT := GT_at 57 (by decide +kernel) rfl
theorem n_X6_7 : LN RX6 7 4 RX4 TX4 5 [.null, .int (nI 0), .int (nI 0), .int (nI 0), .int (nI 0)] := ⟨rfl, cl_X6_7, GT_at 58 (by decide +kernel) rfl, GT_at 35 (by decide +kernel) rfl, lc_X4.1, tyX4, tyX4_ok, fun j hj => by
  match j, hj with
  | 0, _ => rfl
  | 1, _ => rfl
  | 2, _ => rfl
  | 3, _ => rfl
  | 4, _ => rfl⟩
theorem l_X6_9 : LIN RX6 9 mX4_init 0 := ⟨ok_mX4_init, by decide +kernel, GT_at 60 (by decide +kernel) rfl, rfl, rfl⟩
theorem l_X4_3 : Cond.methodLink RX4 3 objectInit ∈ GT ∧ Cond.instanceMethod objectInit ∈ GT ∧ Cond.code objectInit ⟨#[0xb1]⟩ 1 none ∈ GT := ⟨GT_at 62 (by decide +kernel) rfl, GT_at 55 (by decide +kernel) rfl, GT_at 56 (by decide +kernel) rfl⟩
theorem f_X4_9 : LF RX4 9 4 0 RX4 TX4 5 (tyX4 0) true := ⟨rfl, by decide, GT_at 63 (by decide +kernel) rfl, lc_X4, by decide +kernel, rfl, rfl⟩
theorem f_X4_15 : LF RX4 15 4 1 RX4 TX4 5 (tyX4 1) false := ⟨rfl, by decide, GT_at 64 (by decide +kernel) rfl, lc_X4, by decide +kernel, rfl, rfl⟩
theorem f_X6_74 : LF RX6 74 4 1 RX4 TX4 5 (tyX4 1) false := ⟨rfl, by decide, GT_at 65 (by decide +kernel) rfl, lc_X4, by decide +kernel, rfl, rfl⟩
theorem f_X4_32 : LF RX4 32 4 2 RX4 TX4 5 (tyX4 2) false := ⟨rfl, by decide, GT_at 66 (by decide +kernel) rfl, lc_X4, by decide +kernel, rfl, rfl⟩
theorem f_X6_88 : LF RX6 88 4 2 RX4 TX4 5 (tyX4 2) false := ⟨rfl, by decide, GT_at 67 (by decide +kernel) rfl, lc_X4, by decide +kernel, rfl, rfl⟩
theorem f_X4_26 : LF RX4 26 4 3 RX4 TX4 5 (tyX4 3) false := ⟨rfl, by decide, GT_at 68 (by decide +kernel) rfl, lc_X4, by decide +kernel, rfl, rfl⟩
theorem f_X4_19 : LF RX4 19 4 4 RX4 TX4 5 (tyX4 4) false := ⟨rfl, by decide, GT_at 69 (by decide +kernel) rfl, lc_X4, by decide +kernel, rfl, rfl⟩
theorem cl_X6_16 : Cond.classLink RX6 16 RX5 ∈ GT := GT_at 82 (by decide +kernel) rfl
theorem n_X6_16 : LN RX6 16 5 RX5 TX5 11 [.int (nI 0), .int (nI 0), .int (nI 0), .int (nI 0), .int (nI 0), .int (nI 0), .int (nI 0), .null, .null, .null, .null] := ⟨rfl, cl_X6_16, GT_at 83 (by decide +kernel) rfl, GT_at 36 (by decide +kernel) rfl, lc_X5.1, tyX5, tyX5_ok, fun j hj => by
  match j, hj with
  | 0, _ => rfl
  | 1, _ => rfl
  | 2, _ => rfl
  | 3, _ => rfl
  | 4, _ => rfl
  | 5, _ => rfl
  | 6, _ => rfl
  | 7, _ => rfl
  | 8, _ => rfl
  | 9, _ => rfl
  | 10, _ => rfl⟩
theorem l_X6_18 : LI RX6 18 mX5_init 0 := ⟨ok_mX5_init, GT_at 84 (by decide +kernel) rfl, GT_at 85 (by decide +kernel) rfl, rfl, rfl⟩
theorem l_X5_3 : Cond.methodLink RX5 3 objectInit ∈ GT ∧ Cond.instanceMethod objectInit ∈ GT ∧ Cond.code objectInit ⟨#[0xb1]⟩ 1 none ∈ GT := ⟨GT_at 87 (by decide +kernel) rfl, GT_at 55 (by decide +kernel) rfl, GT_at 56 (by decide +kernel) rfl⟩
theorem l_X5_24 : LV RX5 24 mX5_reset 0 := ⟨ok_mX5_reset, GT_at 88 (by decide +kernel) rfl, GT_at 89 (by decide +kernel) rfl, GT_at 90 (by decide +kernel) rfl⟩
theorem f_X5_27 : LF RX5 27 5 0 RX5 TX5 11 (tyX5 0) false := ⟨rfl, by decide, GT_at 92 (by decide +kernel) rfl, lc_X5, by decide +kernel, rfl, rfl⟩
theorem f_X2_37 : LF RX2 37 5 0 RX5 TX5 11 (tyX5 0) false := ⟨rfl, by decide, GT_at 93 (by decide +kernel) rfl, lc_X5, by decide +kernel, rfl, rfl⟩
theorem f_X6_253 : LF RX6 253 5 0 RX5 TX5 11 (tyX5 0) false := ⟨rfl, by decide, GT_at 94 (by decide +kernel) rfl, lc_X5, by decide +kernel, rfl, rfl⟩
theorem f_X1_18 : LF RX1 18 5 1 RX5 TX5 11 (tyX5 1) false := ⟨rfl, by decide, GT_at 95 (by decide +kernel) rfl, lc_X5, by decide +kernel, rfl, rfl⟩
theorem f_X5_31 : LF RX5 31 5 1 RX5 TX5 11 (tyX5 1) false := ⟨rfl, by decide, GT_at 96 (by decide +kernel) rfl, lc_X5, by decide +kernel, rfl, rfl⟩
theorem f_X6_256 : LF RX6 256 5 1 RX5 TX5 11 (tyX5 1) false := ⟨rfl, by decide, GT_at 97 (by decide +kernel) rfl, lc_X5, by decide +kernel, rfl, rfl⟩
theorem f_X5_34 : LF RX5 34 5 2 RX5 TX5 11 (tyX5 2) false := ⟨rfl, by decide, GT_at 98 (by decide +kernel) rfl, lc_X5, by decide +kernel, rfl, rfl⟩
theorem f_X6_233 : LF RX6 233 5 2 RX5 TX5 11 (tyX5 2) false := ⟨rfl, by decide, GT_at 99 (by decide +kernel) rfl, lc_X5, by decide +kernel, rfl, rfl⟩
theorem f_X2_19 : LF RX2 19 5 3 RX5 TX5 11 (tyX5 3) false := ⟨rfl, by decide, GT_at 100 (by decide +kernel) rfl, lc_X5, by decide +kernel, rfl, rfl⟩
theorem f_X5_37 : LF RX5 37 5 3 RX5 TX5 11 (tyX5 3) false := ⟨rfl, by decide, GT_at 101 (by decide +kernel) rfl, lc_X5, by decide +kernel, rfl, rfl⟩
theorem f_X5_40 : LF RX5 40 5 4 RX5 TX5 11 (tyX5 4) false := ⟨rfl, by decide, GT_at 102 (by decide +kernel) rfl, lc_X5, by decide +kernel, rfl, rfl⟩
theorem f_X6_172 : LF RX6 172 5 4 RX5 TX5 11 (tyX5 4) false := ⟨rfl, by decide, GT_at 103 (by decide +kernel) rfl, lc_X5, by decide +kernel, rfl, rfl⟩
theorem f_X5_43 : LF RX5 43 5 5 RX5 TX5 11 (tyX5 5) false := ⟨rfl, by decide, GT_at 104 (by decide +kernel) rfl, lc_X5, by decide +kernel, rfl, rfl⟩
theorem f_X6_175 : LF RX6 175 5 5 RX5 TX5 11 (tyX5 5) false := ⟨rfl, by decide, GT_at 105 (by decide +kernel) rfl, lc_X5, by decide +kernel, rfl, rfl⟩
theorem f_X5_46 : LF RX5 46 5 6 RX5 TX5 11 (tyX5 6) false := ⟨rfl, by decide, GT_at 106 (by decide +kernel) rfl, lc_X5, by decide +kernel, rfl, rfl⟩
theorem f_X6_157 : LF RX6 157 5 6 RX5 TX5 11 (tyX5 6) false := ⟨rfl, by decide, GT_at 107 (by decide +kernel) rfl, lc_X5, by decide +kernel, rfl, rfl⟩
theorem f_X5_9 : LF RX5 9 5 7 RX5 TX5 11 (tyX5 7) true := ⟨rfl, by decide, GT_at 108 (by decide +kernel) rfl, lc_X5, by decide +kernel, rfl, rfl⟩
theorem f_X3_39 : LF RX3 39 5 7 RX5 TX5 11 (tyX5 7) true := ⟨rfl, by decide, GT_at 109 (by decide +kernel) rfl, lc_X5, by decide +kernel, rfl, rfl⟩
theorem f_X6_95 : LF RX6 95 5 7 RX5 TX5 11 (tyX5 7) true := ⟨rfl, by decide, GT_at 110 (by decide +kernel) rfl, lc_X5, by decide +kernel, rfl, rfl⟩
theorem f_X5_15 : LF RX5 15 5 8 RX5 TX5 11 (tyX5 8) true := ⟨rfl, by decide, GT_at 111 (by decide +kernel) rfl, lc_X5, by decide +kernel, rfl, rfl⟩
theorem f_X3_30 : LF RX3 30 5 8 RX5 TX5 11 (tyX5 8) true := ⟨rfl, by decide, GT_at 112 (by decide +kernel) rfl, lc_X5, by decide +kernel, rfl, rfl⟩
theorem f_X6_109 : LF RX6 109 5 8 RX5 TX5 11 (tyX5 8) true := ⟨rfl, by decide, GT_at 113 (by decide +kernel) rfl, lc_X5, by decide +kernel, rfl, rfl⟩
theorem f_X5_18 : LF RX5 18 5 9 RX5 TX5 11 (tyX5 9) true := ⟨rfl, by decide, GT_at 114 (by decide +kernel) rfl, lc_X5, by decide +kernel, rfl, rfl⟩
theorem f_X6_112 : LF RX6 112 5 9 RX5 TX5 11 (tyX5 9) true := ⟨rfl, by decide, GT_at 115 (by decide +kernel) rfl, lc_X5, by decide +kernel, rfl, rfl⟩
theorem f_X5_21 : LF RX5 21 5 10 RX5 TX5 11 (tyX5 10) true := ⟨rfl, by decide, GT_at 116 (by decide +kernel) rfl, lc_X5, by decide +kernel, rfl, rfl⟩
theorem f_X6_128 : LF RX6 128 5 10 RX5 TX5 11 (tyX5 10) true := ⟨rfl, by decide, GT_at 117 (by decide +kernel) rfl, lc_X5, by decide +kernel, rfl, rfl⟩
theorem cl_X6_26 : Cond.classLink RX6 26 RX2 ∈ GT := GT_at 142 (by decide +kernel) rfl
theorem n_X6_26 : LN RX6 26 2 RX2 TX2 10 [.int (nI 0), .int (nI 0), .int (nI 0), .int (nI 0), .int (nI 0), .int (nI 0), .int (nI 0), .int (nI 0), .int (nI 0), .null] := ⟨rfl, cl_X6_26, GT_at 143 (by decide +kernel) rfl, GT_at 37 (by decide +kernel) rfl, lc_X2.1, tyX2, tyX2_ok, fun j hj => by
  match j, hj with
  | 0, _ => rfl
  | 1, _ => rfl
  | 2, _ => rfl
  | 3, _ => rfl
  | 4, _ => rfl
  | 5, _ => rfl
  | 6, _ => rfl
  | 7, _ => rfl
  | 8, _ => rfl
  | 9, _ => rfl⟩
theorem l_X6_28 : LIN RX6 28 mX2_init 0 := ⟨ok_mX2_init, by decide +kernel, GT_at 145 (by decide +kernel) rfl, rfl, rfl⟩
theorem l_X2_3 : Cond.methodLink RX2 3 objectInit ∈ GT ∧ Cond.instanceMethod objectInit ∈ GT ∧ Cond.code objectInit ⟨#[0xb1]⟩ 1 none ∈ GT := ⟨GT_at 147 (by decide +kernel) rfl, GT_at 55 (by decide +kernel) rfl, GT_at 56 (by decide +kernel) rfl⟩
theorem f_X2_15 : LF RX2 15 2 0 RX2 TX2 10 (tyX2 0) false := ⟨rfl, by decide, GT_at 148 (by decide +kernel) rfl, lc_X2, by decide +kernel, rfl, rfl⟩
theorem f_X6_154 : LF RX6 154 2 0 RX2 TX2 10 (tyX2 0) false := ⟨rfl, by decide, GT_at 149 (by decide +kernel) rfl, lc_X2, by decide +kernel, rfl, rfl⟩
theorem f_X2_24 : LF RX2 24 2 1 RX2 TX2 10 (tyX2 1) false := ⟨rfl, by decide, GT_at 150 (by decide +kernel) rfl, lc_X2, by decide +kernel, rfl, rfl⟩
theorem f_X6_144 : LF RX6 144 2 1 RX2 TX2 10 (tyX2 1) false := ⟨rfl, by decide, GT_at 151 (by decide +kernel) rfl, lc_X2, by decide +kernel, rfl, rfl⟩
theorem f_X2_27 : LF RX2 27 2 2 RX2 TX2 10 (tyX2 2) false := ⟨rfl, by decide, GT_at 152 (by decide +kernel) rfl, lc_X2, by decide +kernel, rfl, rfl⟩
theorem f_X6_151 : LF RX6 151 2 2 RX2 TX2 10 (tyX2 2) false := ⟨rfl, by decide, GT_at 153 (by decide +kernel) rfl, lc_X2, by decide +kernel, rfl, rfl⟩
theorem f_X2_30 : LF RX2 30 2 3 RX2 TX2 10 (tyX2 3) false := ⟨rfl, by decide, GT_at 154 (by decide +kernel) rfl, lc_X2, by decide +kernel, rfl, rfl⟩
theorem f_X6_163 : LF RX6 163 2 3 RX2 TX2 10 (tyX2 3) false := ⟨rfl, by decide, GT_at 155 (by decide +kernel) rfl, lc_X2, by decide +kernel, rfl, rfl⟩
theorem f_X2_33 : LF RX2 33 2 4 RX2 TX2 10 (tyX2 4) false := ⟨rfl, by decide, GT_at 156 (by decide +kernel) rfl, lc_X2, by decide +kernel, rfl, rfl⟩
theorem f_X6_140 : LF RX6 140 2 4 RX2 TX2 10 (tyX2 4) false := ⟨rfl, by decide, GT_at 157 (by decide +kernel) rfl, lc_X2, by decide +kernel, rfl, rfl⟩
theorem f_X2_44 : LF RX2 44 2 5 RX2 TX2 10 (tyX2 5) false := ⟨rfl, by decide, GT_at 158 (by decide +kernel) rfl, lc_X2, by decide +kernel, rfl, rfl⟩
theorem f_X1_32 : LF RX1 32 2 5 RX2 TX2 10 (tyX2 5) false := ⟨rfl, by decide, GT_at 159 (by decide +kernel) rfl, lc_X2, by decide +kernel, rfl, rfl⟩
theorem f_X6_208 : LF RX6 208 2 5 RX2 TX2 10 (tyX2 5) false := ⟨rfl, by decide, GT_at 160 (by decide +kernel) rfl, lc_X2, by decide +kernel, rfl, rfl⟩
theorem f_X2_47 : LF RX2 47 2 6 RX2 TX2 10 (tyX2 6) false := ⟨rfl, by decide, GT_at 161 (by decide +kernel) rfl, lc_X2, by decide +kernel, rfl, rfl⟩
theorem f_X6_259 : LF RX6 259 2 6 RX2 TX2 10 (tyX2 6) false := ⟨rfl, by decide, GT_at 162 (by decide +kernel) rfl, lc_X2, by decide +kernel, rfl, rfl⟩
theorem f_X2_50 : LF RX2 50 2 7 RX2 TX2 10 (tyX2 7) false := ⟨rfl, by decide, GT_at 163 (by decide +kernel) rfl, lc_X2, by decide +kernel, rfl, rfl⟩
theorem f_X6_262 : LF RX6 262 2 7 RX2 TX2 10 (tyX2 7) false := ⟨rfl, by decide, GT_at 164 (by decide +kernel) rfl, lc_X2, by decide +kernel, rfl, rfl⟩
theorem f_X2_53 : LF RX2 53 2 8 RX2 TX2 10 (tyX2 8) false := ⟨rfl, by decide, GT_at 165 (by decide +kernel) rfl, lc_X2, by decide +kernel, rfl, rfl⟩
theorem f_X1_41 : LF RX1 41 2 8 RX2 TX2 10 (tyX2 8) false := ⟨rfl, by decide, GT_at 166 (by decide +kernel) rfl, lc_X2, by decide +kernel, rfl, rfl⟩
theorem f_X6_115 : LF RX6 115 2 8 RX2 TX2 10 (tyX2 8) false := ⟨rfl, by decide, GT_at 167 (by decide +kernel) rfl, lc_X2, by decide +kernel, rfl, rfl⟩
theorem f_X2_9 : LF RX2 9 2 9 RX2 TX2 10 (tyX2 9) true := ⟨rfl, by decide, GT_at 168 (by decide +kernel) rfl, lc_X2, by decide +kernel, rfl, rfl⟩
theorem f_X6_103 : LF RX6 103 2 9 RX2 TX2 10 (tyX2 9) true := ⟨rfl, by decide, GT_at 169 (by decide +kernel) rfl, lc_X2, by decide +kernel, rfl, rfl⟩
theorem cl_X6_33 : Cond.classLink RX6 33 RX0 ∈ GT := GT_at 191 (by decide +kernel) rfl
theorem n_X6_33 : LN RX6 33 0 RX0 TX0 3 [.int (nI 0), .int (nI 0), .null] := ⟨rfl, cl_X6_33, GT_at 192 (by decide +kernel) rfl, GT_at 38 (by decide +kernel) rfl, lc_X0.1, tyX0, tyX0_ok, fun j hj => by
  match j, hj with
  | 0, _ => rfl
  | 1, _ => rfl
  | 2, _ => rfl⟩
theorem l_X6_35 : LI RX6 35 mX0_init 0 := ⟨ok_mX0_init, GT_at 193 (by decide +kernel) rfl, GT_at 194 (by decide +kernel) rfl, rfl, rfl⟩
theorem l_X0_3 : Cond.methodLink RX0 3 objectInit ∈ GT ∧ Cond.instanceMethod objectInit ∈ GT ∧ Cond.code objectInit ⟨#[0xb1]⟩ 1 none ∈ GT := ⟨GT_at 196 (by decide +kernel) rfl, GT_at 55 (by decide +kernel) rfl, GT_at 56 (by decide +kernel) rfl⟩
theorem cl_X0_9 : Cond.classLink RX0 9 RX2 ∈ GT := GT_at 197 (by decide +kernel) rfl
theorem n_X0_9 : LN RX0 9 2 RX2 TX2 10 [.int (nI 0), .int (nI 0), .int (nI 0), .int (nI 0), .int (nI 0), .int (nI 0), .int (nI 0), .int (nI 0), .int (nI 0), .null] := ⟨rfl, cl_X0_9, GT_at 143 (by decide +kernel) rfl, GT_at 37 (by decide +kernel) rfl, lc_X2.1, tyX2, tyX2_ok, fun j hj => by
  match j, hj with
  | 0, _ => rfl
  | 1, _ => rfl
  | 2, _ => rfl
  | 3, _ => rfl
  | 4, _ => rfl
  | 5, _ => rfl
  | 6, _ => rfl
  | 7, _ => rfl
  | 8, _ => rfl
  | 9, _ => rfl⟩
theorem l_X0_17 : LIN RX0 17 mX2_init 0 := ⟨ok_mX2_init, by decide +kernel, GT_at 145 (by decide +kernel) rfl, rfl, rfl⟩
theorem f_X0_18 : LF RX0 18 0 0 RX0 TX0 3 (tyX0 0) false := ⟨rfl, by decide, GT_at 200 (by decide +kernel) rfl, lc_X0, by decide +kernel, rfl, rfl⟩
theorem f_X6_196 : LF RX6 196 0 0 RX0 TX0 3 (tyX0 0) false := ⟨rfl, by decide, GT_at 201 (by decide +kernel) rfl, lc_X0, by decide +kernel, rfl, rfl⟩
theorem f_X0_22 : LF RX0 22 0 1 RX0 TX0 3 (tyX0 1) false := ⟨rfl, by decide, GT_at 202 (by decide +kernel) rfl, lc_X0, by decide +kernel, rfl, rfl⟩
theorem f_X0_11 : LF RX0 11 0 2 RX0 TX0 3 (tyX0 2) true := ⟨rfl, by decide, GT_at 203 (by decide +kernel) rfl, lc_X0, by decide +kernel, rfl, rfl⟩
theorem cl_X6_48 : Cond.classLink RX6 48 RX1 ∈ GT := GT_at 211 (by decide +kernel) rfl
theorem n_X6_48 : LN RX6 48 1 RX1 TX1 2 [.null, .null] := ⟨rfl, cl_X6_48, GT_at 212 (by decide +kernel) rfl, GT_at 39 (by decide +kernel) rfl, lc_X1.1, tyX1, tyX1_ok, fun j hj => by
  match j, hj with
  | 0, _ => rfl
  | 1, _ => rfl⟩
theorem l_X6_50 : LIN RX6 50 mX1_init 0 := ⟨ok_mX1_init, by decide +kernel, GT_at 214 (by decide +kernel) rfl, rfl, rfl⟩
theorem l_X1_3 : Cond.methodLink RX1 3 objectInit ∈ GT ∧ Cond.instanceMethod objectInit ∈ GT ∧ Cond.code objectInit ⟨#[0xb1]⟩ 1 none ∈ GT := ⟨GT_at 216 (by decide +kernel) rfl, GT_at 55 (by decide +kernel) rfl, GT_at 56 (by decide +kernel) rfl⟩
theorem f_X1_9 : LF RX1 9 1 0 RX1 TX1 2 (tyX1 0) true := ⟨rfl, by decide, GT_at 217 (by decide +kernel) rfl, lc_X1, by decide +kernel, rfl, rfl⟩
theorem f_X1_15 : LF RX1 15 1 1 RX1 TX1 2 (tyX1 1) true := ⟨rfl, by decide, GT_at 218 (by decide +kernel) rfl, lc_X1, by decide +kernel, rfl, rfl⟩
theorem cl_X6_55 : Cond.classLink RX6 55 RX3 ∈ GT := GT_at 225 (by decide +kernel) rfl
theorem n_X6_55 : LN RX6 55 3 RX3 TX3 4 [.int (nI 0), .null, .null, .null] := ⟨rfl, cl_X6_55, GT_at 226 (by decide +kernel) rfl, GT_at 40 (by decide +kernel) rfl, lc_X3.1, tyX3, tyX3_ok, fun j hj => by
  match j, hj with
  | 0, _ => rfl
  | 1, _ => rfl
  | 2, _ => rfl
  | 3, _ => rfl⟩
theorem l_X6_57 : LIN RX6 57 mX3_init 0 := ⟨ok_mX3_init, by decide +kernel, GT_at 228 (by decide +kernel) rfl, rfl, rfl⟩
theorem l_X3_3 : Cond.methodLink RX3 3 objectInit ∈ GT ∧ Cond.instanceMethod objectInit ∈ GT ∧ Cond.code objectInit ⟨#[0xb1]⟩ 1 none ∈ GT := ⟨GT_at 230 (by decide +kernel) rfl, GT_at 55 (by decide +kernel) rfl, GT_at 56 (by decide +kernel) rfl⟩
theorem f_X3_22 : LF RX3 22 3 0 RX3 TX3 4 (tyX3 0) false := ⟨rfl, by decide, GT_at 231 (by decide +kernel) rfl, lc_X3, by decide +kernel, rfl, rfl⟩
theorem f_X6_242 : LF RX6 242 3 0 RX3 TX3 4 (tyX3 0) false := ⟨rfl, by decide, GT_at 232 (by decide +kernel) rfl, lc_X3, by decide +kernel, rfl, rfl⟩
theorem f_X3_9 : LF RX3 9 3 1 RX3 TX3 4 (tyX3 1) true := ⟨rfl, by decide, GT_at 233 (by decide +kernel) rfl, lc_X3, by decide +kernel, rfl, rfl⟩
theorem f_X3_15 : LF RX3 15 3 2 RX3 TX3 4 (tyX3 2) true := ⟨rfl, by decide, GT_at 234 (by decide +kernel) rfl, lc_X3, by decide +kernel, rfl, rfl⟩
theorem f_X3_18 : LF RX3 18 3 3 RX3 TX3 4 (tyX3 3) true := ⟨rfl, by decide, GT_at 235 (by decide +kernel) rfl, lc_X3, by decide +kernel, rfl, rfl⟩
theorem l_X6_62 : LV RX6 62 mX2_begin 1 := ⟨ok_mX2_begin, GT_at 245 (by decide +kernel) rfl, GT_at 246 (by decide +kernel) rfl, GT_at 247 (by decide +kernel) rfl⟩
theorem l_X2_40 : LSN RX2 40 mX6_allBits 1 := ⟨ok_mX6_allBits, by decide +kernel, GT_at 250 (by decide +kernel) rfl⟩
theorem f_X6_10 : LF RX6 10 6 0 RX6 TX6 9 (tyX6 0) true := ⟨rfl, by decide, GT_at 252 (by decide +kernel) rfl, lc_X6, by decide +kernel, rfl, rfl⟩
theorem f_X6_19 : LF RX6 19 6 1 RX6 TX6 9 (tyX6 1) true := ⟨rfl, by decide, GT_at 253 (by decide +kernel) rfl, lc_X6, by decide +kernel, rfl, rfl⟩
theorem f_X6_23 : LF RX6 23 6 2 RX6 TX6 9 (tyX6 2) true := ⟨rfl, by decide, GT_at 254 (by decide +kernel) rfl, lc_X6, by decide +kernel, rfl, rfl⟩
theorem f_X6_29 : LF RX6 29 6 3 RX6 TX6 9 (tyX6 3) true := ⟨rfl, by decide, GT_at 255 (by decide +kernel) rfl, lc_X6, by decide +kernel, rfl, rfl⟩
theorem f_X6_36 : LF RX6 36 6 4 RX6 TX6 9 (tyX6 4) true := ⟨rfl, by decide, GT_at 256 (by decide +kernel) rfl, lc_X6, by decide +kernel, rfl, rfl⟩
theorem f_X6_40 : LF RX6 40 6 5 RX6 TX6 9 (tyX6 5) true := ⟨rfl, by decide, GT_at 257 (by decide +kernel) rfl, lc_X6, by decide +kernel, rfl, rfl⟩
theorem f_X6_44 : LF RX6 44 6 6 RX6 TX6 9 (tyX6 6) true := ⟨rfl, by decide, GT_at 258 (by decide +kernel) rfl, lc_X6, by decide +kernel, rfl, rfl⟩
theorem f_X6_51 : LF RX6 51 6 7 RX6 TX6 9 (tyX6 7) true := ⟨rfl, by decide, GT_at 259 (by decide +kernel) rfl, lc_X6, by decide +kernel, rfl, rfl⟩
theorem f_X6_58 : LF RX6 58 6 8 RX6 TX6 9 (tyX6 8) true := ⟨rfl, by decide, GT_at 260 (by decide +kernel) rfl, lc_X6, by decide +kernel, rfl, rfl⟩
theorem l_L_13 : LV RL 13 mX6_write 1 := ⟨ok_mX6_write, GT_at 280 (by decide +kernel) rfl, GT_at 281 (by decide +kernel) rfl, GT_at 282 (by decide +kernel) rfl⟩
theorem l_X6_66 : LkS RX6 66 mX6_isOutside 3 := ⟨ok_mX6_isOutside, GT_at 284 (by decide +kernel) rfl, GT_at 285 (by decide +kernel) rfl⟩
theorem l_X6_70 : LV RX6 70 mX4_add 1 := ⟨ok_mX4_add, GT_at 287 (by decide +kernel) rfl, GT_at 288 (by decide +kernel) rfl, GT_at 289 (by decide +kernel) rfl⟩
theorem l_L_18 : LV RL 18 mX6_erase 0 := ⟨ok_mX6_erase, GT_at 291 (by decide +kernel) rfl, GT_at 292 (by decide +kernel) rfl, GT_at 293 (by decide +kernel) rfl⟩
theorem l_L_23 : LV RL 23 mX6_fault 0 := ⟨ok_mX6_fault, GT_at 295 (by decide +kernel) rfl, GT_at 296 (by decide +kernel) rfl, GT_at 297 (by decide +kernel) rfl⟩
theorem l_X6_78 : LV RX6 78 mX5_copy 1 := ⟨ok_mX5_copy, GT_at 299 (by decide +kernel) rfl, GT_at 300 (by decide +kernel) rfl, GT_at 301 (by decide +kernel) rfl⟩
theorem l_X5_49 : Cond.methodLink RX5 49 arraycopyName ∈ GT ∧ Cond.native arraycopyName ∈ GT ∧ Cond.static arraycopyName ∈ GT ∧ Cond.initialized "java/lang/System" ∈ GT := ⟨GT_at 303 (by decide +kernel) rfl, GT_at 305 (by decide +kernel) rfl, GT_at 304 (by decide +kernel) rfl, GT_at 42 (by decide +kernel) rfl⟩
theorem l_X6_81 : LV RX6 81 mX4_read 1 := ⟨ok_mX4_read, GT_at 306 (by decide +kernel) rfl, GT_at 307 (by decide +kernel) rfl, GT_at 308 (by decide +kernel) rfl⟩
theorem l_X4_22 : LV RX4 22 mX4_readClause 1 := ⟨ok_mX4_readClause, GT_at 310 (by decide +kernel) rfl, GT_at 312 (by decide +kernel) rfl, GT_at 0 (by decide +kernel) rfl⟩
theorem l_X4_29 : LV RX4 29 mX4_nextToken 0 := ⟨ok_mX4_nextToken, GT_at 314 (by decide +kernel) rfl, GT_at 316 (by decide +kernel) rfl, GT_at 1 (by decide +kernel) rfl⟩
theorem l_X4_63 : LkS RX4 63 mX4_isSmall 1 := ⟨ok_mX4_isSmall, GT_at 318 (by decide +kernel) rfl, GT_at 319 (by decide +kernel) rfl⟩
theorem l_X4_67 : LkS RX4 67 mX4_isDigit 1 := ⟨ok_mX4_isDigit, GT_at 321 (by decide +kernel) rfl, GT_at 322 (by decide +kernel) rfl⟩
theorem l_X4_35 : LV RX4 35 mX4_wordHere 0 := ⟨ok_mX4_wordHere, GT_at 324 (by decide +kernel) rfl, GT_at 326 (by decide +kernel) rfl, GT_at 2 (by decide +kernel) rfl⟩
theorem l_X4_70 : LkS RX4 70 mX4_spelling 1 := ⟨ok_mX4_spelling, GT_at 328 (by decide +kernel) rfl, GT_at 329 (by decide +kernel) rfl⟩
theorem l_X4_74 : LV RX4 74 mX4_tokenIs 1 := ⟨ok_mX4_tokenIs, GT_at 342 (by decide +kernel) rfl, GT_at 344 (by decide +kernel) rfl, GT_at 3 (by decide +kernel) rfl⟩
theorem l_X4_78 : LV RX4 78 mJ0_length_8abf5 0 := ⟨ok_mJ0_length_8abf5, GT_at 346 (by decide +kernel) rfl, GT_at 347 (by decide +kernel) rfl, GT_at 348 (by decide +kernel) rfl⟩
theorem l_J0_335 : LV RJ0 335 mJ0_coder_7d493 0 := ⟨ok_mJ0_coder_7d493, GT_at 350 (by decide +kernel) rfl, GT_at 351 (by decide +kernel) rfl, GT_at 352 (by decide +kernel) rfl⟩
theorem s_J0_38 : Cond.fieldLink RJ0 38 "java/lang/String" "COMPACT_STRINGS" "Z" ∈ GT := GT_at 354 (by decide +kernel) rfl
theorem l_X4_82 : LV RX4 82 mJ0_charAt_5068e 1 := ⟨ok_mJ0_charAt_5068e, GT_at 356 (by decide +kernel) rfl, GT_at 357 (by decide +kernel) rfl, GT_at 358 (by decide +kernel) rfl⟩
theorem l_J0_492 : LV RJ0 492 mJ0_isLatin1_aae02 0 := ⟨ok_mJ0_isLatin1_aae02, GT_at 360 (by decide +kernel) rfl, GT_at 361 (by decide +kernel) rfl, GT_at 362 (by decide +kernel) rfl⟩
theorem l_J0_495 : LkS RJ0 495 mJ1_charAt_3b067 2 := ⟨ok_mJ1_charAt_3b067, GT_at 364 (by decide +kernel) rfl, GT_at 365 (by decide +kernel) rfl⟩
theorem l_J1_9 : LkS RJ1 9 mJ0_checkIndex_df160 2 := ⟨ok_mJ0_checkIndex_df160, GT_at 367 (by decide +kernel) rfl, GT_at 368 (by decide +kernel) rfl⟩
theorem s_J0_1053 : Cond.fieldLink RJ0 1053 "jdk/internal/util/Preconditions" "SIOOBE_FORMATTER" "Ljava/util/function/BiFunction;" ∈ GT := GT_at 370 (by decide +kernel) rfl
theorem l_J0_1059 : LkS RJ0 1059 mJ3_checkIndex_8e157 3 := ⟨ok_mJ3_checkIndex_8e157, GT_at 372 (by decide +kernel) rfl, GT_at 373 (by decide +kernel) rfl⟩
theorem l_J0_498 : LkS RJ0 498 mJ2_charAt_3b067 2 := ⟨ok_mJ2_charAt_3b067, GT_at 375 (by decide +kernel) rfl, GT_at 376 (by decide +kernel) rfl⟩
theorem l_J2_67 : LkS RJ2 67 mJ2_checkIndex_2214a 2 := ⟨ok_mJ2_checkIndex_2214a, GT_at 378 (by decide +kernel) rfl, GT_at 379 (by decide +kernel) rfl⟩
theorem l_J2_48 : LkS RJ2 48 mJ2_length_9d52b 1 := ⟨ok_mJ2_length_9d52b, GT_at 381 (by decide +kernel) rfl, GT_at 382 (by decide +kernel) rfl⟩
theorem l_J2_414 : LkS RJ2 414 mJ0_checkIndex_df160 2 := ⟨ok_mJ0_checkIndex_df160, GT_at 384 (by decide +kernel) rfl, GT_at 368 (by decide +kernel) rfl⟩
theorem l_J2_71 : LkS RJ2 71 mJ2_getChar_3b067 2 := ⟨ok_mJ2_getChar_3b067, GT_at 385 (by decide +kernel) rfl, GT_at 386 (by decide +kernel) rfl⟩
theorem s_J2_44 : Cond.fieldLink RJ2 44 "java/lang/StringUTF16" "$assertionsDisabled" "Z" ∈ GT := GT_at 388 (by decide +kernel) rfl
theorem s_J2_59 : Cond.fieldLink RJ2 59 "java/lang/StringUTF16" "HI_BYTE_SHIFT" "I" ∈ GT := GT_at 390 (by decide +kernel) rfl
theorem s_J2_63 : Cond.fieldLink RJ2 63 "java/lang/StringUTF16" "LO_BYTE_SHIFT" "I" ∈ GT := GT_at 392 (by decide +kernel) rfl
theorem l_X4_39 : LV RX4 39 mX5_hasRoomFor 1 := ⟨ok_mX5_hasRoomFor, GT_at 394 (by decide +kernel) rfl, GT_at 395 (by decide +kernel) rfl, GT_at 396 (by decide +kernel) rfl⟩
theorem l_X4_45 : LV RX4 45 mX4_numberHere 0 := ⟨ok_mX4_numberHere, GT_at 398 (by decide +kernel) rfl, GT_at 400 (by decide +kernel) rfl, GT_at 4 (by decide +kernel) rfl⟩
theorem s_X4_48 : Cond.fieldLinkNest RX4 48 "NobodyCave" "LEAST" "[I" "NobodyCave" ∈ NW := by decide +kernel
theorem s_X4_52 : Cond.fieldLinkNest RX4 52 "NobodyCave" "MOST" "[I" "NobodyCave" ∈ NW := by decide +kernel
theorem l_X4_55 : LSN RX4 55 mX6_isOutside 3 := ⟨ok_mX6_isOutside, by decide +kernel, GT_at 285 (by decide +kernel) rfl⟩
theorem l_X4_59 : LV RX4 59 mX5_tell 2 := ⟨ok_mX5_tell, GT_at 407 (by decide +kernel) rfl, GT_at 408 (by decide +kernel) rfl, GT_at 409 (by decide +kernel) rfl⟩
theorem l_X5_55 : LV RX5 55 mX5_hasRoomFor 1 := ⟨ok_mX5_hasRoomFor, GT_at 411 (by decide +kernel) rfl, GT_at 395 (by decide +kernel) rfl, GT_at 396 (by decide +kernel) rfl⟩
theorem l_X5_59 : LV RX5 59 mX5_addSheep 2 := ⟨ok_mX5_addSheep, GT_at 412 (by decide +kernel) rfl, GT_at 414 (by decide +kernel) rfl, GT_at 5 (by decide +kernel) rfl⟩
theorem l_L_27 : LV RL 27 mX6_cave 0 := ⟨ok_mX6_cave, GT_at 417 (by decide +kernel) rfl, GT_at 418 (by decide +kernel) rfl, GT_at 419 (by decide +kernel) rfl⟩
theorem l_X6_85 : LV RX6 85 mX6_beginAnew 0 := ⟨ok_mX6_beginAnew, GT_at 421 (by decide +kernel) rfl, GT_at 423 (by decide +kernel) rfl, GT_at 6 (by decide +kernel) rfl⟩
theorem l_X6_201 : LV RX6 201 mX0_clear 0 := ⟨ok_mX0_clear, GT_at 425 (by decide +kernel) rfl, GT_at 426 (by decide +kernel) rfl, GT_at 427 (by decide +kernel) rfl⟩
theorem l_L_31 : LV RL 31 mX6_man 2 := ⟨ok_mX6_man, GT_at 429 (by decide +kernel) rfl, GT_at 430 (by decide +kernel) rfl, GT_at 431 (by decide +kernel) rfl⟩
theorem l_X6_91 : LV RX6 91 mX5_hasMan 1 := ⟨ok_mX5_hasMan, GT_at 433 (by decide +kernel) rfl, GT_at 434 (by decide +kernel) rfl, GT_at 435 (by decide +kernel) rfl⟩
theorem l_X6_99 : LV RX6 99 mX2_stateOf 1 := ⟨ok_mX2_stateOf, GT_at 437 (by decide +kernel) rfl, GT_at 438 (by decide +kernel) rfl, GT_at 439 (by decide +kernel) rfl⟩
theorem l_X2_62 : LSN RX2 62 mX6_hasBit 2 := ⟨ok_mX6_hasBit, by decide +kernel, GT_at 442 (by decide +kernel) rfl⟩
theorem l_L_36 : LV RL 36 mX6_sheep 2 := ⟨ok_mX6_sheep, GT_at 444 (by decide +kernel) rfl, GT_at 445 (by decide +kernel) rfl, GT_at 446 (by decide +kernel) rfl⟩
theorem l_X6_106 : LV RX6 106 mX5_hasSheep 1 := ⟨ok_mX5_hasSheep, GT_at 448 (by decide +kernel) rfl, GT_at 449 (by decide +kernel) rfl, GT_at 450 (by decide +kernel) rfl⟩
theorem l_X6_118 : LkS RX6 118 mX6_hasBit 2 := ⟨ok_mX6_hasBit, GT_at 452 (by decide +kernel) rfl, GT_at 442 (by decide +kernel) rfl⟩
theorem l_X6_122 : LV RX6 122 mX2_whoIsUnder 1 := ⟨ok_mX2_whoIsUnder, GT_at 453 (by decide +kernel) rfl, GT_at 454 (by decide +kernel) rfl, GT_at 455 (by decide +kernel) rfl⟩
theorem l_L_40 : LV RL 40 mX6_near 1 := ⟨ok_mX6_near, GT_at 457 (by decide +kernel) rfl, GT_at 458 (by decide +kernel) rfl, GT_at 459 (by decide +kernel) rfl⟩
theorem l_X6_125 : LV RX6 125 mX5_hasNeighbour 1 := ⟨ok_mX5_hasNeighbour, GT_at 461 (by decide +kernel) rfl, GT_at 462 (by decide +kernel) rfl, GT_at 463 (by decide +kernel) rfl⟩
theorem l_L_44 : LV RL 44 mX6_as 2 := ⟨ok_mX6_as, GT_at 465 (by decide +kernel) rfl, GT_at 466 (by decide +kernel) rfl, GT_at 467 (by decide +kernel) rfl⟩
theorem s_X6_131 : Cond.fieldLink RX6 131 "NobodyCave" "OVER" "[I" ∈ GT := GT_at 469 (by decide +kernel) rfl
theorem l_X6_134 : LkS RX6 134 mX6_isUnderKind 2 := ⟨ok_mX6_isUnderKind, GT_at 471 (by decide +kernel) rfl, GT_at 472 (by decide +kernel) rfl⟩
theorem l_X6_137 : LV RX6 137 mX5_bears 1 := ⟨ok_mX5_bears, GT_at 474 (by decide +kernel) rfl, GT_at 475 (by decide +kernel) rfl, GT_at 476 (by decide +kernel) rfl⟩
theorem l_X5_67 : LV RX5 67 mX5_hasSheep 1 := ⟨ok_mX5_hasSheep, GT_at 478 (by decide +kernel) rfl, GT_at 449 (by decide +kernel) rfl, GT_at 450 (by decide +kernel) rfl⟩
theorem l_X5_70 : LSN RX5 70 mX6_bearing 2 := ⟨ok_mX6_bearing, by decide +kernel, GT_at 480 (by decide +kernel) rfl⟩
theorem l_X6_265 : Cond.methodLink RX6 265 Lib.Math.max.name ∈ GT ∧ Cond.static Lib.Math.max.name ∈ GT ∧ Cond.initialized "java/lang/Math" ∈ GT ∧ Cond.code Lib.Math.max.name Lib.Math.max.code 2 (some .int) ∈ GT := ⟨GT_at 482 (by decide +kernel) rfl, GT_at 483 (by decide +kernel) rfl, GT_at 47 (by decide +kernel) rfl, GT_at 484 (by decide +kernel) rfl⟩
theorem l_L_48 : LV RL 48 mX6_give 1 := ⟨ok_mX6_give, GT_at 485 (by decide +kernel) rfl, GT_at 486 (by decide +kernel) rfl, GT_at 487 (by decide +kernel) rfl⟩
theorem l_X6_147 : LV RX6 147 mX0_push 1 := ⟨ok_mX0_push, GT_at 489 (by decide +kernel) rfl, GT_at 490 (by decide +kernel) rfl, GT_at 491 (by decide +kernel) rfl⟩
theorem l_X0_25 : LV RX0 25 mX2_copy 1 := ⟨ok_mX2_copy, GT_at 493 (by decide +kernel) rfl, GT_at 494 (by decide +kernel) rfl, GT_at 495 (by decide +kernel) rfl⟩
theorem l_X2_56 : Cond.methodLink RX2 56 arraycopyName ∈ GT ∧ Cond.native arraycopyName ∈ GT ∧ Cond.static arraycopyName ∈ GT ∧ Cond.initialized "java/lang/System" ∈ GT := ⟨GT_at 497 (by decide +kernel) rfl, GT_at 305 (by decide +kernel) rfl, GT_at 304 (by decide +kernel) rfl, GT_at 42 (by decide +kernel) rfl⟩
theorem l_X0_29 : Cond.methodLink RX0 29 Lib.Math.min.name ∈ GT ∧ Cond.static Lib.Math.min.name ∈ GT ∧ Cond.initialized "java/lang/Math" ∈ GT ∧ Cond.code Lib.Math.min.name Lib.Math.min.code 2 (some .int) ∈ GT := ⟨GT_at 498 (by decide +kernel) rfl, GT_at 499 (by decide +kernel) rfl, GT_at 47 (by decide +kernel) rfl, GT_at 500 (by decide +kernel) rfl⟩
theorem l_L_52 : LV RL 52 mX6_day 0 := ⟨ok_mX6_day, GT_at 501 (by decide +kernel) rfl, GT_at 502 (by decide +kernel) rfl, GT_at 503 (by decide +kernel) rfl⟩
theorem l_X6_160 : LV RX6 160 mX2_eatFirst 1 := ⟨ok_mX2_eatFirst, GT_at 505 (by decide +kernel) rfl, GT_at 506 (by decide +kernel) rfl, GT_at 507 (by decide +kernel) rfl⟩
theorem l_X6_166 : Cond.methodLink RX6 166 Lib.Math.min.name ∈ GT ∧ Cond.static Lib.Math.min.name ∈ GT ∧ Cond.initialized "java/lang/Math" ∈ GT ∧ Cond.code Lib.Math.min.name Lib.Math.min.code 2 (some .int) ∈ GT := ⟨GT_at 509 (by decide +kernel) rfl, GT_at 499 (by decide +kernel) rfl, GT_at 47 (by decide +kernel) rfl, GT_at 500 (by decide +kernel) rfl⟩
theorem l_L_56 : LV RL 56 mX6_blind 1 := ⟨ok_mX6_blind, GT_at 510 (by decide +kernel) rfl, GT_at 511 (by decide +kernel) rfl, GT_at 512 (by decide +kernel) rfl⟩
theorem l_X6_178 : LV RX6 178 mX5_comers 1 := ⟨ok_mX5_comers, GT_at 514 (by decide +kernel) rfl, GT_at 515 (by decide +kernel) rfl, GT_at 516 (by decide +kernel) rfl⟩
theorem l_X5_80 : LSN RX5 80 mX6_hasBit 2 := ⟨ok_mX6_hasBit, by decide +kernel, GT_at 442 (by decide +kernel) rfl⟩
theorem l_X6_181 : LkS RX6 181 mJ6_bitCount_0f7a4 1 := ⟨ok_mJ6_bitCount_0f7a4, GT_at 519 (by decide +kernel) rfl, GT_at 520 (by decide +kernel) rfl⟩
theorem k_J6_265 : Cond.constant RJ6 265 (1431655765) ∈ GT := GT_at 522 (by decide +kernel) rfl
theorem k_J6_266 : Cond.constant RJ6 266 (858993459) ∈ GT := GT_at 523 (by decide +kernel) rfl
theorem k_J6_267 : Cond.constant RJ6 267 (252645135) ∈ GT := GT_at 524 (by decide +kernel) rfl
theorem l_L_60 : LV RL 60 mX6_hide 2 := ⟨ok_mX6_hide, GT_at 525 (by decide +kernel) rfl, GT_at 526 (by decide +kernel) rfl, GT_at 527 (by decide +kernel) rfl⟩
theorem l_X6_186 : LV RX6 186 mX2_canHide 2 := ⟨ok_mX2_canHide, GT_at 529 (by decide +kernel) rfl, GT_at 530 (by decide +kernel) rfl, GT_at 531 (by decide +kernel) rfl⟩
theorem l_X2_66 : LV RX2 66 mX2_whoIsUnder 1 := ⟨ok_mX2_whoIsUnder, GT_at 533 (by decide +kernel) rfl, GT_at 454 (by decide +kernel) rfl, GT_at 455 (by decide +kernel) rfl⟩
theorem l_L_64 : LV RL 64 mX6_morning 0 := ⟨ok_mX6_morning, GT_at 534 (by decide +kernel) rfl, GT_at 535 (by decide +kernel) rfl, GT_at 536 (by decide +kernel) rfl⟩
theorem l_X6_189 : LV RX6 189 mX2_leave 1 := ⟨ok_mX2_leave, GT_at 538 (by decide +kernel) rfl, GT_at 539 (by decide +kernel) rfl, GT_at 540 (by decide +kernel) rfl⟩
theorem l_X2_69 : LV RX2 69 mX5_bearsMan 2 := ⟨ok_mX5_bearsMan, GT_at 542 (by decide +kernel) rfl, GT_at 543 (by decide +kernel) rfl, GT_at 544 (by decide +kernel) rfl⟩
theorem l_X5_74 : LV RX5 74 mX5_hasMan 1 := ⟨ok_mX5_hasMan, GT_at 546 (by decide +kernel) rfl, GT_at 434 (by decide +kernel) rfl, GT_at 435 (by decide +kernel) rfl⟩
theorem l_X5_77 : LV RX5 77 mX5_bears 1 := ⟨ok_mX5_bears, GT_at 547 (by decide +kernel) rfl, GT_at 475 (by decide +kernel) rfl, GT_at 476 (by decide +kernel) rfl⟩
theorem l_L_68 : LV RL 68 mX6_undo 0 := ⟨ok_mX6_undo, GT_at 548 (by decide +kernel) rfl, GT_at 549 (by decide +kernel) rfl, GT_at 550 (by decide +kernel) rfl⟩
theorem l_X6_192 : LV RX6 192 mX0_pop 1 := ⟨ok_mX0_pop, GT_at 552 (by decide +kernel) rfl, GT_at 553 (by decide +kernel) rfl, GT_at 554 (by decide +kernel) rfl⟩
theorem l_L_72 : LV RL 72 mX6_keep 1 := ⟨ok_mX6_keep, GT_at 556 (by decide +kernel) rfl, GT_at 557 (by decide +kernel) rfl, GT_at 558 (by decide +kernel) rfl⟩
theorem l_X6_199 : LV RX6 199 mX2_copy 1 := ⟨ok_mX2_copy, GT_at 560 (by decide +kernel) rfl, GT_at 494 (by decide +kernel) rfl, GT_at 495 (by decide +kernel) rfl⟩
theorem l_L_76 : LV RL 76 mX6_back 1 := ⟨ok_mX6_back, GT_at 561 (by decide +kernel) rfl, GT_at 562 (by decide +kernel) rfl, GT_at 563 (by decide +kernel) rfl⟩
theorem l_L_80 : LV RL 80 mX6_soon 1 := ⟨ok_mX6_soon, GT_at 565 (by decide +kernel) rfl, GT_at 566 (by decide +kernel) rfl, GT_at 567 (by decide +kernel) rfl⟩
theorem l_X6_204 : LV RX6 204 mX6_daysTillBlinded 0 := ⟨ok_mX6_daysTillBlinded, GT_at 569 (by decide +kernel) rfl, GT_at 571 (by decide +kernel) rfl, GT_at 7 (by decide +kernel) rfl⟩
theorem l_L_84 : LV RL 84 mX6_plan 1 := ⟨ok_mX6_plan, GT_at 573 (by decide +kernel) rfl, GT_at 574 (by decide +kernel) rfl, GT_at 575 (by decide +kernel) rfl⟩
theorem l_X6_211 : LV RX6 211 mX1_reckon 2 := ⟨ok_mX1_reckon, GT_at 577 (by decide +kernel) rfl, GT_at 578 (by decide +kernel) rfl, GT_at 579 (by decide +kernel) rfl⟩
theorem l_X1_24 : LkS RX1 24 mX1_fitting 3 := ⟨ok_mX1_fitting, GT_at 581 (by decide +kernel) rfl, GT_at 582 (by decide +kernel) rfl⟩
theorem l_X1_37 : LSN RX1 37 mX6_hasBit 2 := ⟨ok_mX6_hasBit, by decide +kernel, GT_at 442 (by decide +kernel) rfl⟩
theorem l_X1_44 : LV RX1 44 mX5_bearsMan 2 := ⟨ok_mX5_bearsMan, GT_at 585 (by decide +kernel) rfl, GT_at 543 (by decide +kernel) rfl, GT_at 544 (by decide +kernel) rfl⟩
theorem l_X1_28 : LV RX1 28 mX1_bestFrom 2 := ⟨ok_mX1_bestFrom, GT_at 586 (by decide +kernel) rfl, GT_at 588 (by decide +kernel) rfl, GT_at 8 (by decide +kernel) rfl⟩
theorem l_X1_47 : Cond.methodLink RX1 47 Lib.Math.max.name ∈ GT ∧ Cond.static Lib.Math.max.name ∈ GT ∧ Cond.initialized "java/lang/Math" ∈ GT ∧ Cond.code Lib.Math.max.name Lib.Math.max.code 2 (some .int) ∈ GT := ⟨GT_at 590 (by decide +kernel) rfl, GT_at 483 (by decide +kernel) rfl, GT_at 47 (by decide +kernel) rfl, GT_at 484 (by decide +kernel) rfl⟩
theorem l_X6_215 : LV RX6 215 mX1_mostOut 1 := ⟨ok_mX1_mostOut, GT_at 591 (by decide +kernel) rfl, GT_at 592 (by decide +kernel) rfl, GT_at 593 (by decide +kernel) rfl⟩
theorem l_X6_218 : LV RX6 218 mX1_sheepOf 1 := ⟨ok_mX1_sheepOf, GT_at 595 (by decide +kernel) rfl, GT_at 596 (by decide +kernel) rfl, GT_at 597 (by decide +kernel) rfl⟩
theorem l_X1_52 : LV RX1 52 mX1_firstBest 2 := ⟨ok_mX1_firstBest, GT_at 599 (by decide +kernel) rfl, GT_at 601 (by decide +kernel) rfl, GT_at 9 (by decide +kernel) rfl⟩
theorem l_L_88 : LV RL 88 mX6_feel 2 := ⟨ok_mX6_feel, GT_at 603 (by decide +kernel) rfl, GT_at 604 (by decide +kernel) rfl, GT_at 605 (by decide +kernel) rfl⟩
theorem l_X6_221 : LV RX6 221 mX5_allSheep 0 := ⟨ok_mX5_allSheep, GT_at 607 (by decide +kernel) rfl, GT_at 608 (by decide +kernel) rfl, GT_at 609 (by decide +kernel) rfl⟩
theorem l_X5_63 : LSN RX5 63 mX6_allBits 1 := ⟨ok_mX6_allBits, by decide +kernel, GT_at 250 (by decide +kernel) rfl⟩
theorem l_X6_224 : LV RX6 224 mX1_bestFelt 2 := ⟨ok_mX1_bestFelt, GT_at 612 (by decide +kernel) rfl, GT_at 613 (by decide +kernel) rfl, GT_at 614 (by decide +kernel) rfl⟩
theorem l_X1_55 : LkS RX1 55 mJ6_bitCount_0f7a4 1 := ⟨ok_mJ6_bitCount_0f7a4, GT_at 616 (by decide +kernel) rfl, GT_at 520 (by decide +kernel) rfl⟩
theorem l_X1_61 : Cond.methodLink RX1 61 Lib.Math.min.name ∈ GT ∧ Cond.static Lib.Math.min.name ∈ GT ∧ Cond.initialized "java/lang/Math" ∈ GT ∧ Cond.code Lib.Math.min.name Lib.Math.min.code 2 (some .int) ∈ GT := ⟨GT_at 617 (by decide +kernel) rfl, GT_at 499 (by decide +kernel) rfl, GT_at 47 (by decide +kernel) rfl, GT_at 500 (by decide +kernel) rfl⟩
theorem l_L_92 : LV RL 92 mX6_names 1 := ⟨ok_mX6_names, GT_at 618 (by decide +kernel) rfl, GT_at 619 (by decide +kernel) rfl, GT_at 620 (by decide +kernel) rfl⟩
theorem l_X6_227 : LV RX6 227 mX5_namesFor 1 := ⟨ok_mX5_namesFor, GT_at 622 (by decide +kernel) rfl, GT_at 623 (by decide +kernel) rfl, GT_at 624 (by decide +kernel) rfl⟩
theorem l_X5_84 : LV RX5 84 mX5_comers 1 := ⟨ok_mX5_comers, GT_at 626 (by decide +kernel) rfl, GT_at 515 (by decide +kernel) rfl, GT_at 516 (by decide +kernel) rfl⟩
theorem l_X6_230 : LV RX6 230 mX5_quietestName 0 := ⟨ok_mX5_quietestName, GT_at 627 (by decide +kernel) rfl, GT_at 628 (by decide +kernel) rfl, GT_at 629 (by decide +kernel) rfl⟩
theorem l_X5_87 : LkS RX5 87 mJ6_bitCount_0f7a4 1 := ⟨ok_mJ6_bitCount_0f7a4, GT_at 631 (by decide +kernel) rfl, GT_at 520 (by decide +kernel) rfl⟩
theorem l_L_96 : LV RL 96 mX6_came 1 := ⟨ok_mX6_came, GT_at 632 (by decide +kernel) rfl, GT_at 633 (by decide +kernel) rfl, GT_at 634 (by decide +kernel) rfl⟩
theorem l_X6_236 : LkS RX6 236 mX6_allBits 1 := ⟨ok_mX6_allBits, GT_at 636 (by decide +kernel) rfl, GT_at 250 (by decide +kernel) rfl⟩
theorem l_L_100 : LV RL 100 mX6_seen 3 := ⟨ok_mX6_seen, GT_at 637 (by decide +kernel) rfl, GT_at 638 (by decide +kernel) rfl, GT_at 639 (by decide +kernel) rfl⟩
theorem l_X6_239 : LV RX6 239 mX3_add 3 := ⟨ok_mX3_add, GT_at 641 (by decide +kernel) rfl, GT_at 642 (by decide +kernel) rfl, GT_at 643 (by decide +kernel) rfl⟩
theorem l_L_105 : LV RL 105 mX6_forget 0 := ⟨ok_mX6_forget, GT_at 645 (by decide +kernel) rfl, GT_at 646 (by decide +kernel) rfl, GT_at 647 (by decide +kernel) rfl⟩
theorem l_L_109 : LV RL 109 mX6_strong 2 := ⟨ok_mX6_strong, GT_at 649 (by decide +kernel) rfl, GT_at 650 (by decide +kernel) rfl, GT_at 651 (by decide +kernel) rfl⟩
theorem l_X6_243 : LV RX6 243 mX3_leastStrong 2 := ⟨ok_mX3_leastStrong, GT_at 653 (by decide +kernel) rfl, GT_at 654 (by decide +kernel) rfl, GT_at 655 (by decide +kernel) rfl⟩
theorem l_X3_26 : LV RX3 26 mX3_wouldBeSo 3 := ⟨ok_mX3_wouldBeSo, GT_at 657 (by decide +kernel) rfl, GT_at 659 (by decide +kernel) rfl, GT_at 10 (by decide +kernel) rfl⟩
theorem l_X3_35 : LSN RX3 35 mX6_bearing 2 := ⟨ok_mX6_bearing, by decide +kernel, GT_at 480 (by decide +kernel) rfl⟩
theorem l_X6_247 : LV RX6 247 mX3_greatestStrong 2 := ⟨ok_mX3_greatestStrong, GT_at 662 (by decide +kernel) rfl, GT_at 663 (by decide +kernel) rfl, GT_at 664 (by decide +kernel) rfl⟩
theorem l_L_113 : LV RL 113 mX6_boasts 5 := ⟨ok_mX6_boasts, GT_at 666 (by decide +kernel) rfl, GT_at 667 (by decide +kernel) rfl, GT_at 668 (by decide +kernel) rfl⟩
theorem l_X6_250 : LkS RX6 250 mX6_fallsThatMiss 2 := ⟨ok_mX6_fallsThatMiss, GT_at 670 (by decide +kernel) rfl, GT_at 671 (by decide +kernel) rfl⟩
theorem l_L_118 : LV RL 118 mX6_count 1 := ⟨ok_mX6_count, GT_at 673 (by decide +kernel) rfl, GT_at 674 (by decide +kernel) rfl, GT_at 675 (by decide +kernel) rfl⟩
theorem cl_L_10 : Cond.classLink RL 10 RX7 ∈ GT := GT_at 677 (by decide +kernel) rfl
theorem n_L_10 : LN RL 10 7 RX7 TX7 17 [.null, .null, .null, .int (nI 0), .int (nI 0), .int (nI 0), .int (nI 0), .int (nI 0), .null, .int (nI 0), .null, .int (nI 0), .null, .null, .null, .null, .int (nI 0)] := ⟨rfl, cl_L_10, GT_at 678 (by decide +kernel) rfl, GT_at 41 (by decide +kernel) rfl, lc_X7.1, tyX7, tyX7_ok, fun j hj => by
  match j, hj with
  | 0, _ => rfl
  | 1, _ => rfl
  | 2, _ => rfl
  | 3, _ => rfl
  | 4, _ => rfl
  | 5, _ => rfl
  | 6, _ => rfl
  | 7, _ => rfl
  | 8, _ => rfl
  | 9, _ => rfl
  | 10, _ => rfl
  | 11, _ => rfl
  | 12, _ => rfl
  | 13, _ => rfl
  | 14, _ => rfl
  | 15, _ => rfl
  | 16, _ => rfl
  | q + 17, hq => exact absurd hq (by omega)⟩
theorem l_L_12 : LI RL 12 mX7_init 0 := ⟨ok_mX7_init, GT_at 679 (by decide +kernel) rfl, GT_at 680 (by decide +kernel) rfl, rfl, rfl⟩
theorem l_X7_1 : Cond.methodLink RX7 1 objectInit ∈ GT ∧ Cond.instanceMethod objectInit ∈ GT ∧ Cond.code objectInit ⟨#[0xb1]⟩ 1 none ∈ GT := ⟨GT_at 682 (by decide +kernel) rfl, GT_at 55 (by decide +kernel) rfl, GT_at 56 (by decide +kernel) rfl⟩
theorem l_X7_38 : LkS RX7 38 mX7_takeFirst 1 := ⟨ok_mX7_takeFirst, GT_at 683 (by decide +kernel) rfl, GT_at 684 (by decide +kernel) rfl⟩
theorem l_X7_42 : LV RX7 42 mX7_anew 0 := ⟨ok_mX7_anew, GT_at 686 (by decide +kernel) rfl, GT_at 688 (by decide +kernel) rfl, GT_at 11 (by decide +kernel) rfl⟩
theorem f_X7_7 : LF RX7 7 7 0 RX7 TX7 17 (tyX7 0) true := ⟨rfl, by decide, GT_at 690 (by decide +kernel) rfl, lc_X7, by decide +kernel, rfl, rfl⟩
theorem f_X7_13 : LF RX7 13 7 1 RX7 TX7 17 (tyX7 1) true := ⟨rfl, by decide, GT_at 691 (by decide +kernel) rfl, lc_X7, by decide +kernel, rfl, rfl⟩
theorem f_X7_16 : LF RX7 16 7 2 RX7 TX7 17 (tyX7 2) true := ⟨rfl, by decide, GT_at 692 (by decide +kernel) rfl, lc_X7, by decide +kernel, rfl, rfl⟩
theorem f_X7_51 : LF RX7 51 7 3 RX7 TX7 17 (tyX7 3) false := ⟨rfl, by decide, GT_at 693 (by decide +kernel) rfl, lc_X7, by decide +kernel, rfl, rfl⟩
theorem f_X7_55 : LF RX7 55 7 4 RX7 TX7 17 (tyX7 4) false := ⟨rfl, by decide, GT_at 694 (by decide +kernel) rfl, lc_X7, by decide +kernel, rfl, rfl⟩
theorem f_X7_68 : LF RX7 68 7 5 RX7 TX7 17 (tyX7 5) false := ⟨rfl, by decide, GT_at 695 (by decide +kernel) rfl, lc_X7, by decide +kernel, rfl, rfl⟩
theorem f_X7_65 : LF RX7 65 7 6 RX7 TX7 17 (tyX7 6) false := ⟨rfl, by decide, GT_at 696 (by decide +kernel) rfl, lc_X7, by decide +kernel, rfl, rfl⟩
theorem f_X7_62 : LF RX7 62 7 7 RX7 TX7 17 (tyX7 7) false := ⟨rfl, by decide, GT_at 697 (by decide +kernel) rfl, lc_X7, by decide +kernel, rfl, rfl⟩
theorem f_X7_19 : LF RX7 19 7 8 RX7 TX7 17 (tyX7 8) true := ⟨rfl, by decide, GT_at 698 (by decide +kernel) rfl, lc_X7, by decide +kernel, rfl, rfl⟩
theorem f_X7_104 : LF RX7 104 7 9 RX7 TX7 17 (tyX7 9) false := ⟨rfl, by decide, GT_at 699 (by decide +kernel) rfl, lc_X7, by decide +kernel, rfl, rfl⟩
theorem f_X7_22 : LF RX7 22 7 10 RX7 TX7 17 (tyX7 10) true := ⟨rfl, by decide, GT_at 700 (by decide +kernel) rfl, lc_X7, by decide +kernel, rfl, rfl⟩
theorem f_X7_117 : LF RX7 117 7 11 RX7 TX7 17 (tyX7 11) false := ⟨rfl, by decide, GT_at 701 (by decide +kernel) rfl, lc_X7, by decide +kernel, rfl, rfl⟩
theorem f_X7_25 : LF RX7 25 7 12 RX7 TX7 17 (tyX7 12) true := ⟨rfl, by decide, GT_at 702 (by decide +kernel) rfl, lc_X7, by decide +kernel, rfl, rfl⟩
theorem f_X7_29 : LF RX7 29 7 13 RX7 TX7 17 (tyX7 13) true := ⟨rfl, by decide, GT_at 703 (by decide +kernel) rfl, lc_X7, by decide +kernel, rfl, rfl⟩
theorem f_X7_32 : LF RX7 32 7 14 RX7 TX7 17 (tyX7 14) true := ⟨rfl, by decide, GT_at 704 (by decide +kernel) rfl, lc_X7, by decide +kernel, rfl, rfl⟩
theorem f_X7_35 : LF RX7 35 7 15 RX7 TX7 17 (tyX7 15) true := ⟨rfl, by decide, GT_at 705 (by decide +kernel) rfl, lc_X7, by decide +kernel, rfl, rfl⟩
theorem f_X7_114 : LF RX7 114 7 16 RX7 TX7 17 (tyX7 16) false := ⟨rfl, by decide, GT_at 706 (by decide +kernel) rfl, lc_X7, by decide +kernel, rfl, rfl⟩
theorem l_L_17 : LV RL 17 mX7_write 1 := ⟨ok_mX7_write, GT_at 742 (by decide +kernel) rfl, GT_at 743 (by decide +kernel) rfl, GT_at 744 (by decide +kernel) rfl⟩
theorem k_X7_49 : Cond.constantLong RX7 49 (255) ∈ GT := GT_at 746 (by decide +kernel) rfl
theorem l_X7_45 : LkS RX7 45 mX7_in 3 := ⟨ok_mX7_in, GT_at 747 (by decide +kernel) rfl, GT_at 748 (by decide +kernel) rfl⟩
theorem l_L_22 : LV RL 22 mX7_erase 0 := ⟨ok_mX7_erase, GT_at 750 (by decide +kernel) rfl, GT_at 751 (by decide +kernel) rfl, GT_at 752 (by decide +kernel) rfl⟩
theorem l_L_26 : LV RL 26 mX7_fault 0 := ⟨ok_mX7_fault, GT_at 754 (by decide +kernel) rfl, GT_at 755 (by decide +kernel) rfl, GT_at 756 (by decide +kernel) rfl⟩
theorem l_X7_111 : LV RX7 111 mX7_readText 0 := ⟨ok_mX7_readText, GT_at 758 (by decide +kernel) rfl, GT_at 760 (by decide +kernel) rfl, GT_at 12 (by decide +kernel) rfl⟩
theorem l_X7_89 : LV RX7 89 mX7_nextToken 0 := ⟨ok_mX7_nextToken, GT_at 762 (by decide +kernel) rfl, GT_at 764 (by decide +kernel) rfl, GT_at 13 (by decide +kernel) rfl⟩
theorem l_X7_58 : LV RX7 58 mX7_letterAt 1 := ⟨ok_mX7_letterAt, GT_at 766 (by decide +kernel) rfl, GT_at 768 (by decide +kernel) rfl, GT_at 14 (by decide +kernel) rfl⟩
theorem k_X7_71 : Cond.constantLong RX7 71 (97) ∈ GT := GT_at 770 (by decide +kernel) rfl
theorem k_X7_73 : Cond.constantLong RX7 73 (122) ∈ GT := GT_at 771 (by decide +kernel) rfl
theorem k_X7_75 : Cond.constantLong RX7 75 (48) ∈ GT := GT_at 772 (by decide +kernel) rfl
theorem k_X7_77 : Cond.constantLong RX7 77 (57) ∈ GT := GT_at 773 (by decide +kernel) rfl
theorem l_X7_107 : LV RX7 107 mX7_readClause 0 := ⟨ok_mX7_readClause, GT_at 774 (by decide +kernel) rfl, GT_at 776 (by decide +kernel) rfl, GT_at 15 (by decide +kernel) rfl⟩
theorem l_X7_96 : LV RX7 96 mX7_verb 0 := ⟨ok_mX7_verb, GT_at 778 (by decide +kernel) rfl, GT_at 780 (by decide +kernel) rfl, GT_at 16 (by decide +kernel) rfl⟩
theorem l_X7_81 : LV RX7 81 mX7_wordOf 0 := ⟨ok_mX7_wordOf, GT_at 782 (by decide +kernel) rfl, GT_at 784 (by decide +kernel) rfl, GT_at 17 (by decide +kernel) rfl⟩
theorem k_X7_79 : Cond.constantLong RX7 79 (27) ∈ GT := GT_at 786 (by decide +kernel) rfl
theorem l_X7_85 : LkS RX7 85 mX7_spelt 7 := ⟨ok_mX7_spelt, GT_at 787 (by decide +kernel) rfl, GT_at 788 (by decide +kernel) rfl⟩
theorem l_X7_100 : LV RX7 100 mX7_readOne 5 := ⟨ok_mX7_readOne, GT_at 790 (by decide +kernel) rfl, GT_at 792 (by decide +kernel) rfl, GT_at 18 (by decide +kernel) rfl⟩
theorem l_X7_92 : LV RX7 92 mX7_number 2 := ⟨ok_mX7_number, GT_at 794 (by decide +kernel) rfl, GT_at 796 (by decide +kernel) rfl, GT_at 19 (by decide +kernel) rfl⟩
theorem l_L_30 : LV RL 30 mX7_cave 0 := ⟨ok_mX7_cave, GT_at 798 (by decide +kernel) rfl, GT_at 799 (by decide +kernel) rfl, GT_at 800 (by decide +kernel) rfl⟩
theorem l_L_35 : LV RL 35 mX7_man 2 := ⟨ok_mX7_man, GT_at 802 (by decide +kernel) rfl, GT_at 803 (by decide +kernel) rfl, GT_at 804 (by decide +kernel) rfl⟩
theorem l_X7_123 : LV RX7 123 mX7_isMan 1 := ⟨ok_mX7_isMan, GT_at 806 (by decide +kernel) rfl, GT_at 808 (by decide +kernel) rfl, GT_at 20 (by decide +kernel) rfl⟩
theorem k_X7_127 : Cond.constantLong RX7 127 (2) ∈ GT := GT_at 810 (by decide +kernel) rfl
theorem l_L_39 : LV RL 39 mX7_sheep 2 := ⟨ok_mX7_sheep, GT_at 811 (by decide +kernel) rfl, GT_at 812 (by decide +kernel) rfl, GT_at 813 (by decide +kernel) rfl⟩
theorem l_X7_129 : LV RX7 129 mX7_isSheep 1 := ⟨ok_mX7_isSheep, GT_at 815 (by decide +kernel) rfl, GT_at 817 (by decide +kernel) rfl, GT_at 21 (by decide +kernel) rfl⟩
theorem k_X7_132 : Cond.constantLong RX7 132 (3) ∈ GT := GT_at 819 (by decide +kernel) rfl
theorem l_X7_134 : LV RX7 134 mX7_under 1 := ⟨ok_mX7_under, GT_at 820 (by decide +kernel) rfl, GT_at 822 (by decide +kernel) rfl, GT_at 22 (by decide +kernel) rfl⟩
theorem l_L_43 : LV RL 43 mX7_near 1 := ⟨ok_mX7_near, GT_at 824 (by decide +kernel) rfl, GT_at 825 (by decide +kernel) rfl, GT_at 826 (by decide +kernel) rfl⟩
theorem l_L_47 : LV RL 47 mX7_as 2 := ⟨ok_mX7_as, GT_at 828 (by decide +kernel) rfl, GT_at 829 (by decide +kernel) rfl, GT_at 830 (by decide +kernel) rfl⟩
theorem k_X7_137 : Cond.constantLong RX7 137 (4) ∈ GT := GT_at 832 (by decide +kernel) rfl
theorem l_X7_139 : LV RX7 139 mX7_bears 1 := ⟨ok_mX7_bears, GT_at 833 (by decide +kernel) rfl, GT_at 835 (by decide +kernel) rfl, GT_at 23 (by decide +kernel) rfl⟩
theorem l_X7_120 : LV RX7 120 mX7_bearsBy 2 := ⟨ok_mX7_bearsBy, GT_at 837 (by decide +kernel) rfl, GT_at 839 (by decide +kernel) rfl, GT_at 24 (by decide +kernel) rfl⟩
theorem l_L_51 : LV RL 51 mX7_give 1 := ⟨ok_mX7_give, GT_at 841 (by decide +kernel) rfl, GT_at 842 (by decide +kernel) rfl, GT_at 843 (by decide +kernel) rfl⟩
theorem k_X7_142 : Cond.constantLong RX7 142 (50) ∈ GT := GT_at 845 (by decide +kernel) rfl
theorem l_X7_144 : LV RX7 144 mX7_note 0 := ⟨ok_mX7_note, GT_at 846 (by decide +kernel) rfl, GT_at 848 (by decide +kernel) rfl, GT_at 25 (by decide +kernel) rfl⟩
theorem l_L_55 : LV RL 55 mX7_day 0 := ⟨ok_mX7_day, GT_at 850 (by decide +kernel) rfl, GT_at 851 (by decide +kernel) rfl, GT_at 852 (by decide +kernel) rfl⟩
theorem l_X7_157 : LV RX7 157 mX7_eatFirst 1 := ⟨ok_mX7_eatFirst, GT_at 854 (by decide +kernel) rfl, GT_at 856 (by decide +kernel) rfl, GT_at 26 (by decide +kernel) rfl⟩
theorem l_X7_147 : LV RX7 147 mX7_isIn 1 := ⟨ok_mX7_isIn, GT_at 858 (by decide +kernel) rfl, GT_at 860 (by decide +kernel) rfl, GT_at 27 (by decide +kernel) rfl⟩
theorem l_X7_150 : LkS RX7 150 mX7_ones 1 := ⟨ok_mX7_ones, GT_at 862 (by decide +kernel) rfl, GT_at 863 (by decide +kernel) rfl⟩
theorem l_X7_153 : LV RX7 153 mX7_eat 1 := ⟨ok_mX7_eat, GT_at 865 (by decide +kernel) rfl, GT_at 867 (by decide +kernel) rfl, GT_at 28 (by decide +kernel) rfl⟩
theorem l_L_59 : LV RL 59 mX7_blind 1 := ⟨ok_mX7_blind, GT_at 869 (by decide +kernel) rfl, GT_at 870 (by decide +kernel) rfl, GT_at 871 (by decide +kernel) rfl⟩
theorem k_X7_164 : Cond.constantLong RX7 164 (7) ∈ GT := GT_at 873 (by decide +kernel) rfl
theorem l_X7_166 : LV RX7 166 mX7_comeBy 1 := ⟨ok_mX7_comeBy, GT_at 874 (by decide +kernel) rfl, GT_at 876 (by decide +kernel) rfl, GT_at 29 (by decide +kernel) rfl⟩
theorem l_X7_160 : LkS RX7 160 mX7_has 2 := ⟨ok_mX7_has, GT_at 878 (by decide +kernel) rfl, GT_at 879 (by decide +kernel) rfl⟩
theorem l_L_63 : LV RL 63 mX7_hide 2 := ⟨ok_mX7_hide, GT_at 881 (by decide +kernel) rfl, GT_at 882 (by decide +kernel) rfl, GT_at 883 (by decide +kernel) rfl⟩
theorem l_L_67 : LV RL 67 mX7_morning 0 := ⟨ok_mX7_morning, GT_at 885 (by decide +kernel) rfl, GT_at 886 (by decide +kernel) rfl, GT_at 887 (by decide +kernel) rfl⟩
theorem l_L_71 : LV RL 71 mX7_undo 0 := ⟨ok_mX7_undo, GT_at 889 (by decide +kernel) rfl, GT_at 890 (by decide +kernel) rfl, GT_at 891 (by decide +kernel) rfl⟩
theorem l_L_75 : LV RL 75 mX7_keep 1 := ⟨ok_mX7_keep, GT_at 893 (by decide +kernel) rfl, GT_at 894 (by decide +kernel) rfl, GT_at 895 (by decide +kernel) rfl⟩
theorem l_X7_169 : LkS RX7 169 mX7_isWhat 1 := ⟨ok_mX7_isWhat, GT_at 897 (by decide +kernel) rfl, GT_at 898 (by decide +kernel) rfl⟩
theorem l_L_79 : LV RL 79 mX7_back 1 := ⟨ok_mX7_back, GT_at 900 (by decide +kernel) rfl, GT_at 901 (by decide +kernel) rfl, GT_at 902 (by decide +kernel) rfl⟩
theorem l_L_83 : LV RL 83 mX7_soon 1 := ⟨ok_mX7_soon, GT_at 904 (by decide +kernel) rfl, GT_at 905 (by decide +kernel) rfl, GT_at 906 (by decide +kernel) rfl⟩
theorem l_X7_172 : LV RX7 172 mX7_soonest 0 := ⟨ok_mX7_soonest, GT_at 908 (by decide +kernel) rfl, GT_at 910 (by decide +kernel) rfl, GT_at 30 (by decide +kernel) rfl⟩
theorem l_X7_175 : LV RX7 175 mX7_menOf 1 := ⟨ok_mX7_menOf, GT_at 912 (by decide +kernel) rfl, GT_at 914 (by decide +kernel) rfl, GT_at 31 (by decide +kernel) rfl⟩
theorem l_L_87 : LV RL 87 mX7_plan 1 := ⟨ok_mX7_plan, GT_at 916 (by decide +kernel) rfl, GT_at 917 (by decide +kernel) rfl, GT_at 918 (by decide +kernel) rfl⟩
theorem l_X7_178 : LV RX7 178 mX7_findPlan 1 := ⟨ok_mX7_findPlan, GT_at 920 (by decide +kernel) rfl, GT_at 922 (by decide +kernel) rfl, GT_at 32 (by decide +kernel) rfl⟩
theorem l_L_91 : LV RL 91 mX7_feel 2 := ⟨ok_mX7_feel, GT_at 924 (by decide +kernel) rfl, GT_at 925 (by decide +kernel) rfl, GT_at 926 (by decide +kernel) rfl⟩
theorem k_X7_181 : Cond.constantLong RX7 181 (6) ∈ GT := GT_at 928 (by decide +kernel) rfl
theorem l_L_95 : LV RL 95 mX7_names 1 := ⟨ok_mX7_names, GT_at 929 (by decide +kernel) rfl, GT_at 930 (by decide +kernel) rfl, GT_at 931 (by decide +kernel) rfl⟩
theorem l_L_99 : LV RL 99 mX7_came 1 := ⟨ok_mX7_came, GT_at 933 (by decide +kernel) rfl, GT_at 934 (by decide +kernel) rfl, GT_at 935 (by decide +kernel) rfl⟩
theorem l_L_104 : LV RL 104 mX7_seen 3 := ⟨ok_mX7_seen, GT_at 937 (by decide +kernel) rfl, GT_at 938 (by decide +kernel) rfl, GT_at 939 (by decide +kernel) rfl⟩
theorem l_L_108 : LV RL 108 mX7_forget 0 := ⟨ok_mX7_forget, GT_at 941 (by decide +kernel) rfl, GT_at 942 (by decide +kernel) rfl, GT_at 943 (by decide +kernel) rfl⟩
theorem l_L_112 : LV RL 112 mX7_strong 2 := ⟨ok_mX7_strong, GT_at 945 (by decide +kernel) rfl, GT_at 946 (by decide +kernel) rfl, GT_at 947 (by decide +kernel) rfl⟩
theorem l_L_117 : LV RL 117 mX7_boasts 5 := ⟨ok_mX7_boasts, GT_at 949 (by decide +kernel) rfl, GT_at 950 (by decide +kernel) rfl, GT_at 951 (by decide +kernel) rfl⟩
theorem k_X7_183 : Cond.constantLong RX7 183 (20) ∈ GT := GT_at 953 (by decide +kernel) rfl
theorem k_X7_185 : Cond.constantLong RX7 185 (5) ∈ GT := GT_at 954 (by decide +kernel) rfl
theorem k_X7_187 : Cond.constantLong RX7 187 (9) ∈ GT := GT_at 955 (by decide +kernel) rfl
theorem l_L_121 : LV RL 121 mX7_count 1 := ⟨ok_mX7_count, GT_at 956 (by decide +kernel) rfl, GT_at 957 (by decide +kernel) rfl, GT_at 958 (by decide +kernel) rfl⟩
theorem s_J0_9 : Cond.fieldLink RJ0 9 "java/lang/String" "value" "[B" ∈ GT := GT_at 960 (by decide +kernel) rfl
theorem s_J0_15 : Cond.fieldLink RJ0 15 "java/lang/String" "coder" "B" ∈ GT := GT_at 961 (by decide +kernel) rfl
theorem ac_I : Cond.arrayClass .int ∈ GT := GT_at 141 (by decide +kernel) rfl
theorem ac_C : Cond.arrayClass .char ∈ GT := GT_at 81 (by decide +kernel) rfl
theorem ac_Z : Cond.arrayClass .boolean ∈ GT := GT_at 224 (by decide +kernel) rfl
end
section
theorem nI_bv (a : Nat) : (nI a).toBitVec = BitVec.ofNat 32 a := rfl
theorem nJ_add (a b : Nat) : nI a + nI b = nI (a + b) := (Int32.ofNat_add a b).symm
theorem nI_mul (a b : Nat) : nI a * nI b = nI (a * b) := (Int32.ofNat_mul a b).symm
theorem nI_sub {a b : Nat} (h : b ≤ a) : nI a - nI b = nI (a - b) := by
  have h1 : nI (a - b) + nI b = nI a := by rw [nJ_add, Nat.sub_add_cancel h]
  rw [← h1]
  simp [Int32.add_sub_cancel]
theorem nI_and (a b : Nat) : nI a &&& nI b = nI (a &&& b) := by
  apply Int32.toBitVec_inj.mp
  rw [Int32.toBitVec_and, nI_bv, nI_bv, nI_bv]
  apply BitVec.eq_of_toNat_eq
  simp [Nat.and_mod_two_pow]
theorem nI_or (a b : Nat) : nI a ||| nI b = nI (a ||| b) := by
  apply Int32.toBitVec_inj.mp
  rw [Int32.toBitVec_or, nI_bv, nI_bv, nI_bv]
  apply BitVec.eq_of_toNat_eq
  simp [Nat.or_mod_two_pow]
theorem nI_eq_iff {a b : Nat} (ha : a < 2 ^ 31) (hb : b < 2 ^ 31) : nI a = nI b ↔ a = b := by
  constructor
  · intro h
    have h1 := nI_clamp ha
    rw [h, nI_clamp hb] at h1
    exact h1.symm
  · rintro rfl; rfl
theorem nI_lt_iff {a b : Nat} (ha : a < 2 ^ 31) (hb : b < 2 ^ 31) : nI a < nI b ↔ a < b := by
  rw [Int32.lt_iff_toInt_lt, nI_toInt ha, nI_toInt hb]; omega
theorem nI_le_iff {a b : Nat} (ha : a < 2 ^ 31) (hb : b < 2 ^ 31) : nI a ≤ nI b ↔ a ≤ b := by
  rw [Int32.le_iff_toInt_le, nI_toInt ha, nI_toInt hb]; omega
theorem nI_shl5 : ∀ k, k < 32 → (nI k &&& 31) = nI k := by decide +kernel
theorem nI_shl {a k : Nat} (hk : k < 32) : nI a <<< (nI k &&& 31) = nI (a <<< k) := by
  rw [nI_shl5 k hk]
  apply Int32.toBitVec_inj.mp
  rw [Int32.toBitVec_shiftLeft, nI_bv, nI_bv, nI_bv]
  apply BitVec.eq_of_toNat_eq
  have e : (BitVec.smod (BitVec.ofNat 32 k) (32 : BitVec 32)).toNat = k := by
    have : ∀ k, k < 32 → (BitVec.smod (BitVec.ofNat 32 k) (32 : BitVec 32)).toNat = k := by decide +kernel
    exact this k hk
  simp only [BitVec.shiftLeft_eq', BitVec.toNat_shiftLeft, BitVec.toNat_ofNat]
  rw [e]
  simp [Nat.shiftLeft_eq, Nat.mod_mul_mod]
theorem nI_shr {a k : Nat} (ha : a < 2 ^ 31) (hk : k < 32) : nI a >>> (nI k &&& 31) = nI (a >>> k) := by
  rw [nI_shl5 k hk]
  apply Int32.toInt_inj.mp
  have hle : a >>> k ≤ a := by rw [Nat.shiftRight_eq_div_pow]; exact Nat.div_le_self _ _
  rw [nI_toInt (Nat.lt_of_le_of_lt hle ha)]
  have e : (BitVec.smod (BitVec.ofNat 32 k) (32 : BitVec 32)).toNat = k := by
    have : ∀ k, k < 32 → (BitVec.smod (BitVec.ofNat 32 k) (32 : BitVec 32)).toNat = k := by decide +kernel
    exact this k hk
  show (nI a >>> nI k).toBitVec.toInt = _
  rw [Int32.toBitVec_shiftRight, nI_bv k]
  rw [BitVec.sshiftRight_eq', e, BitVec.toInt_sshiftRight]
  have h2 : (nI a).toBitVec.toInt = (a : Int) := nI_toInt ha
  rw [h2]
  simp [Int.shiftRight_eq_div_pow, Nat.shiftRight_eq_div_pow]
theorem nI_div {a b : Nat} (ha : a < 2 ^ 31) (hb : b < 2 ^ 31) : nI a / nI b = nI (a / b) := by
  apply Int32.toInt_inj.mp
  have h1 : a / b ≤ a := Nat.div_le_self _ _
  rw [nI_toInt (Nat.lt_of_le_of_lt h1 ha), Int32.toInt_div, nI_toInt ha, nI_toInt hb]
  rw [Int.tdiv_eq_ediv_of_nonneg (by omega)]
  rw [Int.bmod_eq_of_le]
  · simp
  · have : (0 : Int) ≤ (a : Int) / (b : Int) := Int.ediv_nonneg (by omega) (by omega)
    simp; omega
  · have h3 : ((a / b : Nat) : Int) = (a : Int) / (b : Int) := by simp
    rw [← h3]; simp; omega
theorem nI_rem {a b : Nat} (ha : a < 2 ^ 31) (hb : b < 2 ^ 31) : nI a - nI a / nI b * nI b = nI (a % b) := by
  rw [nI_div ha hb, nI_mul, nI_sub (Nat.div_mul_le_self a b)]
  congr 1
  have := Nat.mod_add_div a b
  rw [Nat.mul_comm] at this
  omega
def zb (b : Bool) : Int32 := if b then nI 1 else nI 0
theorem zb_t : zb true = nI 1 := rfl
theorem zb_f : zb false = nI 0 := rfl
theorem zb_nar (b : Bool) : narrow .boolean (.int (zb b)) = .int (zb b) := by cases b <;> rfl
/-- a code of 'none or a number': 0 is none -/
def uI (w : Nat) : Int32 := nI w - nI 1
theorem uI_0 : uI 0 = -1 := by decide +kernel
theorem uI_S (a : Nat) : uI (a + 1) = nI a := nI_sub (by omega)
theorem uI_toInt {w : Nat} (h : w < 2 ^ 31) : (uI w).toInt = (w : Int) - 1 := by
  cases w with
  | zero => rw [uI_0]; decide
  | succ a => rw [uI_S, nI_toInt (by omega)]; omega
theorem uI_eq {a b : Nat} (ha : a < 2 ^ 31) (hb : b < 2 ^ 31) : uI a = uI b ↔ a = b := by
  constructor
  · intro h
    have h1 := uI_toInt ha
    rw [h, uI_toInt hb] at h1
    omega
  · rintro rfl; rfl
theorem uI_lt0 {a : Nat} (ha : a < 2 ^ 31) : uI a < nI 0 ↔ a = 0 := by
  rw [Int32.lt_iff_toInt_lt, uI_toInt ha, nI_toInt (by omega)]; omega
/-- every int is a number from 0 on, or below 0 -/
theorem i_cases (x : Int32) : (∃ n, n < 2 ^ 31 ∧ x = nI n) ∨ (x < nI 0 ∧ x.toInt < 0) := by
  by_cases h : x.toInt < 0
  · right
    refine ⟨?_, h⟩
    rw [Int32.lt_iff_toInt_lt, nI_toInt (by omega)]
    exact h
  · left
    have h2 := Int32.toInt_lt x
    refine ⟨x.toInt.toNat, by omega, ?_⟩
    apply Int32.toInt_inj.mp
    rw [nI_toInt (by omega)]
    omega
section LN
variable {Γ : KK} {p : Program} {l : Launch} {e : Env} {R : Room} {s : State} {m : MethodId} {args : Array Value} {below : List Frame} {meth : Method} {c : Code} {Q : State → Prop} {cc : ByteArray} {ret : Option FieldType} {nm own : String} {k mc ms nL cells slots pc : Nat} {lv : List (Option Value)} {st : List Value} {μ : MM}
theorem r_iaddN (X : cX Γ p R s m args meth c cc ret nm own k mc ms nL) {a b : Nat} (hd : decode cc pc = .ok (.iadd, 1)) (kk : vV Γ p l e R s m args below meth c Q nL (cells) (slots) (pc + 1) (lv) (.int (nI (a + b)) :: st) (μ)) : vV Γ p l e R s m args below meth c Q nL (cells) (slots) (pc) (lv) (.int (nI b) :: .int (nI a) :: st) (μ) := r_iadd X hd (by rw [nJ_add]; exact kk)
theorem r_imulN (X : cX Γ p R s m args meth c cc ret nm own k mc ms nL) {a b : Nat} (hd : decode cc pc = .ok (.imul, 1)) (kk : vV Γ p l e R s m args below meth c Q nL (cells) (slots) (pc + 1) (lv) (.int (nI (a * b)) :: st) (μ)) : vV Γ p l e R s m args below meth c Q nL (cells) (slots) (pc) (lv) (.int (nI b) :: .int (nI a) :: st) (μ) := r_imul X hd (by rw [nI_mul]; exact kk)
theorem r_isubN (X : cX Γ p R s m args meth c cc ret nm own k mc ms nL) {a b : Nat} (hd : decode cc pc = .ok (.isub, 1)) (h : b ≤ a) (kk : vV Γ p l e R s m args below meth c Q nL (cells) (slots) (pc + 1) (lv) (.int (nI (a - b)) :: st) (μ)) : vV Γ p l e R s m args below meth c Q nL (cells) (slots) (pc) (lv) (.int (nI b) :: .int (nI a) :: st) (μ) := r_isub X hd (by rw [nI_sub h]; exact kk)
theorem r_iandN (X : cX Γ p R s m args meth c cc ret nm own k mc ms nL) {a b : Nat} (hd : decode cc pc = .ok (.iand, 1)) (kk : vV Γ p l e R s m args below meth c Q nL (cells) (slots) (pc + 1) (lv) (.int (nI (a &&& b)) :: st) (μ)) : vV Γ p l e R s m args below meth c Q nL (cells) (slots) (pc) (lv) (.int (nI b) :: .int (nI a) :: st) (μ) := r_iand X hd (by rw [nI_and]; exact kk)
theorem r_iorN (X : cX Γ p R s m args meth c cc ret nm own k mc ms nL) {a b : Nat} (hd : decode cc pc = .ok (.ior, 1)) (kk : vV Γ p l e R s m args below meth c Q nL (cells) (slots) (pc + 1) (lv) (.int (nI (a ||| b)) :: st) (μ)) : vV Γ p l e R s m args below meth c Q nL (cells) (slots) (pc) (lv) (.int (nI b) :: .int (nI a) :: st) (μ) := r_ior X hd (by rw [nI_or]; exact kk)
theorem r_ishlN (X : cX Γ p R s m args meth c cc ret nm own k mc ms nL) {a b : Nat} (hd : decode cc pc = .ok (.ishl, 1)) (h : b < 32) (kk : vV Γ p l e R s m args below meth c Q nL (cells) (slots) (pc + 1) (lv) (.int (nI (a <<< b)) :: st) (μ)) : vV Γ p l e R s m args below meth c Q nL (cells) (slots) (pc) (lv) (.int (nI b) :: .int (nI a) :: st) (μ) := r_ishl X hd (by rw [nI_shl h]; exact kk)
theorem r_ishrN (X : cX Γ p R s m args meth c cc ret nm own k mc ms nL) {a b : Nat} (hd : decode cc pc = .ok (.ishr, 1)) (h2 : a < 2 ^ 31) (h : b < 32) (kk : vV Γ p l e R s m args below meth c Q nL (cells) (slots) (pc + 1) (lv) (.int (nI (a >>> b)) :: st) (μ)) : vV Γ p l e R s m args below meth c Q nL (cells) (slots) (pc) (lv) (.int (nI b) :: .int (nI a) :: st) (μ) := r_ishr X hd (by rw [nI_shr h2 h]; exact kk)
theorem r_idivN (X : cX Γ p R s m args meth c cc ret nm own k mc ms nL) {a b : Nat} (hd : decode cc pc = .ok (.idiv, 1)) (h2 : a < 2 ^ 31) (h : b < 2 ^ 31) (h0 : 0 < b) (kk : vV Γ p l e R s m args below meth c Q nL (cells) (slots) (pc + 1) (lv) (.int (nI (a / b)) :: st) (μ)) : vV Γ p l e R s m args below meth c Q nL (cells) (slots) (pc) (lv) (.int (nI b) :: .int (nI a) :: st) (μ) := r_idiv X hd (nI_ne0 h0 h) (by rw [nI_div h2 h]; exact kk)
theorem r_iremN (X : cX Γ p R s m args meth c cc ret nm own k mc ms nL) {a b : Nat} (hd : decode cc pc = .ok (.irem, 1)) (h2 : a < 2 ^ 31) (h : b < 2 ^ 31) (h0 : 0 < b) (kk : vV Γ p l e R s m args below meth c Q nL (cells) (slots) (pc + 1) (lv) (.int (nI (a % b)) :: st) (μ)) : vV Γ p l e R s m args below meth c Q nL (cells) (slots) (pc) (lv) (.int (nI b) :: .int (nI a) :: st) (μ) := r_irem X hd (nI_ne0 h0 h) (by rw [nI_rem h2 h]; exact kk)
theorem r_iincN (X : cX Γ p R s m args meth c cc ret nm own k mc ms nL) {j a b : Nat} (hd : decode cc pc = .ok (.iinc j (b : Int), 3)) (hl : lv[j]? = some (some (.int (nI a)))) (hn : j < nL) (ho : lok lv j = true) (kk : vV Γ p l e R s m args below meth c Q nL (cells) (slots) (pc + 3) (lv.set j (some (.int (nI (a + b))))) (st) (μ)) : vV Γ p l e R s m args below meth c Q nL (cells) (slots) (pc) (lv) (st) (μ) := r_iinc X hd hl (v := nI (a + b)) (by rw [← nJ_add]; rfl) hn ho kk
theorem r_iincD (X : cX Γ p R s m args meth c cc ret nm own k mc ms nL) {j a : Nat} (hd : decode cc pc = .ok (.iinc j (-1), 3)) (hl : lv[j]? = some (some (.int (nI (a + 1))))) (hn : j < nL) (ho : lok lv j = true) (kk : vV Γ p l e R s m args below meth c Q nL (cells) (slots) (pc + 3) (lv.set j (some (.int (nI a)))) (st) (μ)) : vV Γ p l e R s m args below meth c Q nL (cells) (slots) (pc) (lv) (st) (μ) := r_iinc X hd hl (v := nI a) (by rw [show Int32.ofInt (-1) = -1 from by decide, ← Int32.sub_eq_add_neg]; exact nI_pred a) hn ho kk
theorem r_icmp_eqN (X : cX Γ p R s m args meth c cc ret nm own k mc ms nL) {a b : Nat} {off : Int} (tgt : Nat) (hd : decode cc pc = .ok (.if_icmp .eq off, 3)) (ht : (pc : Int) + off = (tgt : Int)) (ha : a < 2 ^ 31) (hb : b < 2 ^ 31) (kt : a = b → vV Γ p l e R s m args below meth c Q nL (cells) (slots) (tgt) (lv) (st) (μ)) (kf : ¬ (a = b) → vV Γ p l e R s m args below meth c Q nL (cells) (slots) (pc + 3) (lv) (st) (μ)) : vV Γ p l e R s m args below meth c Q nL (cells) (slots) (pc) (lv) (.int (nI b) :: .int (nI a) :: st) (μ) := r_icmp_eq X tgt hd ht (fun q => kt ((nI_eq_iff ha hb).mp q)) (fun q => kf (fun z => q ((nI_eq_iff ha hb).mpr z)))
theorem r_if_eqN (X : cX Γ p R s m args meth c cc ret nm own k mc ms nL) {a : Nat} {off : Int} (tgt : Nat) (hd : decode cc pc = .ok (.ifCond .eq off, 3)) (ht : (pc : Int) + off = (tgt : Int)) (ha : a < 2 ^ 31) (kt : a = 0 → vV Γ p l e R s m args below meth c Q nL (cells) (slots) (tgt) (lv) (st) (μ)) (kf : ¬ (a = 0) → vV Γ p l e R s m args below meth c Q nL (cells) (slots) (pc + 3) (lv) (st) (μ)) : vV Γ p l e R s m args below meth c Q nL (cells) (slots) (pc) (lv) (.int (nI a) :: st) (μ) := r_if_eq X tgt hd ht (fun q => kt ((nI_eq_iff ha (by omega)).mp q)) (fun q => kf (fun z => q ((nI_eq_iff ha (by omega)).mpr z)))
theorem r_icmp_neN (X : cX Γ p R s m args meth c cc ret nm own k mc ms nL) {a b : Nat} {off : Int} (tgt : Nat) (hd : decode cc pc = .ok (.if_icmp .ne off, 3)) (ht : (pc : Int) + off = (tgt : Int)) (ha : a < 2 ^ 31) (hb : b < 2 ^ 31) (kt : ¬ a = b → vV Γ p l e R s m args below meth c Q nL (cells) (slots) (tgt) (lv) (st) (μ)) (kf : a = b → vV Γ p l e R s m args below meth c Q nL (cells) (slots) (pc + 3) (lv) (st) (μ)) : vV Γ p l e R s m args below meth c Q nL (cells) (slots) (pc) (lv) (.int (nI b) :: .int (nI a) :: st) (μ) := r_icmp_ne X tgt hd ht (fun q => kt (fun z => q (by rw [z]))) (fun q => kf ((nI_eq_iff ha hb).mp q))
theorem r_if_neN (X : cX Γ p R s m args meth c cc ret nm own k mc ms nL) {a : Nat} {off : Int} (tgt : Nat) (hd : decode cc pc = .ok (.ifCond .ne off, 3)) (ht : (pc : Int) + off = (tgt : Int)) (ha : a < 2 ^ 31) (kt : ¬ a = 0 → vV Γ p l e R s m args below meth c Q nL (cells) (slots) (tgt) (lv) (st) (μ)) (kf : a = 0 → vV Γ p l e R s m args below meth c Q nL (cells) (slots) (pc + 3) (lv) (st) (μ)) : vV Γ p l e R s m args below meth c Q nL (cells) (slots) (pc) (lv) (.int (nI a) :: st) (μ) := r_if_ne X tgt hd ht (fun q => kt (fun z => q (by rw [z]))) (fun q => kf ((nI_eq_iff ha (by omega)).mp q))
theorem r_icmp_ltN (X : cX Γ p R s m args meth c cc ret nm own k mc ms nL) {a b : Nat} {off : Int} (tgt : Nat) (hd : decode cc pc = .ok (.if_icmp .lt off, 3)) (ht : (pc : Int) + off = (tgt : Int)) (ha : a < 2 ^ 31) (hb : b < 2 ^ 31) (kt : a < b → vV Γ p l e R s m args below meth c Q nL (cells) (slots) (tgt) (lv) (st) (μ)) (kf : ¬ (a < b) → vV Γ p l e R s m args below meth c Q nL (cells) (slots) (pc + 3) (lv) (st) (μ)) : vV Γ p l e R s m args below meth c Q nL (cells) (slots) (pc) (lv) (.int (nI b) :: .int (nI a) :: st) (μ) := r_icmp_lt X tgt hd ht (fun q => kt ((nI_lt_iff ha hb).mp q)) (fun q => kf (fun z => q ((nI_lt_iff ha hb).mpr z)))
theorem r_if_ltN (X : cX Γ p R s m args meth c cc ret nm own k mc ms nL) {a : Nat} {off : Int} (tgt : Nat) (hd : decode cc pc = .ok (.ifCond .lt off, 3)) (ht : (pc : Int) + off = (tgt : Int)) (ha : a < 2 ^ 31) (kt : a < 0 → vV Γ p l e R s m args below meth c Q nL (cells) (slots) (tgt) (lv) (st) (μ)) (kf : ¬ (a < 0) → vV Γ p l e R s m args below meth c Q nL (cells) (slots) (pc + 3) (lv) (st) (μ)) : vV Γ p l e R s m args below meth c Q nL (cells) (slots) (pc) (lv) (.int (nI a) :: st) (μ) := r_if_lt X tgt hd ht (fun q => kt ((nI_lt_iff ha (by omega)).mp q)) (fun q => kf (fun z => q ((nI_lt_iff ha (by omega)).mpr z)))
theorem r_icmp_geN (X : cX Γ p R s m args meth c cc ret nm own k mc ms nL) {a b : Nat} {off : Int} (tgt : Nat) (hd : decode cc pc = .ok (.if_icmp .ge off, 3)) (ht : (pc : Int) + off = (tgt : Int)) (ha : a < 2 ^ 31) (hb : b < 2 ^ 31) (kt : b ≤ a → vV Γ p l e R s m args below meth c Q nL (cells) (slots) (tgt) (lv) (st) (μ)) (kf : ¬ (b ≤ a) → vV Γ p l e R s m args below meth c Q nL (cells) (slots) (pc + 3) (lv) (st) (μ)) : vV Γ p l e R s m args below meth c Q nL (cells) (slots) (pc) (lv) (.int (nI b) :: .int (nI a) :: st) (μ) := r_icmp_ge X tgt hd ht (fun q => kt ((nI_le_iff hb ha).mp q)) (fun q => kf (fun z => q ((nI_le_iff hb ha).mpr z)))
theorem r_if_geN (X : cX Γ p R s m args meth c cc ret nm own k mc ms nL) {a : Nat} {off : Int} (tgt : Nat) (hd : decode cc pc = .ok (.ifCond .ge off, 3)) (ht : (pc : Int) + off = (tgt : Int)) (ha : a < 2 ^ 31) (kt : 0 ≤ a → vV Γ p l e R s m args below meth c Q nL (cells) (slots) (tgt) (lv) (st) (μ)) (kf : ¬ (0 ≤ a) → vV Γ p l e R s m args below meth c Q nL (cells) (slots) (pc + 3) (lv) (st) (μ)) : vV Γ p l e R s m args below meth c Q nL (cells) (slots) (pc) (lv) (.int (nI a) :: st) (μ) := r_if_ge X tgt hd ht (fun q => kt ((nI_le_iff (by omega) ha).mp q)) (fun q => kf (fun z => q ((nI_le_iff (by omega) ha).mpr z)))
theorem r_icmp_gtN (X : cX Γ p R s m args meth c cc ret nm own k mc ms nL) {a b : Nat} {off : Int} (tgt : Nat) (hd : decode cc pc = .ok (.if_icmp .gt off, 3)) (ht : (pc : Int) + off = (tgt : Int)) (ha : a < 2 ^ 31) (hb : b < 2 ^ 31) (kt : b < a → vV Γ p l e R s m args below meth c Q nL (cells) (slots) (tgt) (lv) (st) (μ)) (kf : ¬ (b < a) → vV Γ p l e R s m args below meth c Q nL (cells) (slots) (pc + 3) (lv) (st) (μ)) : vV Γ p l e R s m args below meth c Q nL (cells) (slots) (pc) (lv) (.int (nI b) :: .int (nI a) :: st) (μ) := r_icmp_gt X tgt hd ht (fun q => kt ((nI_lt_iff hb ha).mp q)) (fun q => kf (fun z => q ((nI_lt_iff hb ha).mpr z)))
theorem r_if_gtN (X : cX Γ p R s m args meth c cc ret nm own k mc ms nL) {a : Nat} {off : Int} (tgt : Nat) (hd : decode cc pc = .ok (.ifCond .gt off, 3)) (ht : (pc : Int) + off = (tgt : Int)) (ha : a < 2 ^ 31) (kt : 0 < a → vV Γ p l e R s m args below meth c Q nL (cells) (slots) (tgt) (lv) (st) (μ)) (kf : ¬ (0 < a) → vV Γ p l e R s m args below meth c Q nL (cells) (slots) (pc + 3) (lv) (st) (μ)) : vV Γ p l e R s m args below meth c Q nL (cells) (slots) (pc) (lv) (.int (nI a) :: st) (μ) := r_if_gt X tgt hd ht (fun q => kt ((nI_lt_iff (by omega) ha).mp q)) (fun q => kf (fun z => q ((nI_lt_iff (by omega) ha).mpr z)))
theorem r_icmp_leN (X : cX Γ p R s m args meth c cc ret nm own k mc ms nL) {a b : Nat} {off : Int} (tgt : Nat) (hd : decode cc pc = .ok (.if_icmp .le off, 3)) (ht : (pc : Int) + off = (tgt : Int)) (ha : a < 2 ^ 31) (hb : b < 2 ^ 31) (kt : a ≤ b → vV Γ p l e R s m args below meth c Q nL (cells) (slots) (tgt) (lv) (st) (μ)) (kf : ¬ (a ≤ b) → vV Γ p l e R s m args below meth c Q nL (cells) (slots) (pc + 3) (lv) (st) (μ)) : vV Γ p l e R s m args below meth c Q nL (cells) (slots) (pc) (lv) (.int (nI b) :: .int (nI a) :: st) (μ) := r_icmp_le X tgt hd ht (fun q => kt ((nI_le_iff ha hb).mp q)) (fun q => kf (fun z => q ((nI_le_iff ha hb).mpr z)))
theorem r_if_leN (X : cX Γ p R s m args meth c cc ret nm own k mc ms nL) {a : Nat} {off : Int} (tgt : Nat) (hd : decode cc pc = .ok (.ifCond .le off, 3)) (ht : (pc : Int) + off = (tgt : Int)) (ha : a < 2 ^ 31) (kt : a ≤ 0 → vV Γ p l e R s m args below meth c Q nL (cells) (slots) (tgt) (lv) (st) (μ)) (kf : ¬ (a ≤ 0) → vV Γ p l e R s m args below meth c Q nL (cells) (slots) (pc + 3) (lv) (st) (μ)) : vV Γ p l e R s m args below meth c Q nL (cells) (slots) (pc) (lv) (.int (nI a) :: st) (μ) := r_if_le X tgt hd ht (fun q => kt ((nI_le_iff ha (by omega)).mp q)) (fun q => kf (fun z => q ((nI_le_iff ha (by omega)).mpr z)))
theorem zb_0 {b : Bool} : zb b = nI 0 ↔ b = false := by cases b <;> decide
theorem r_if_eqZ (X : cX Γ p R s m args meth c cc ret nm own k mc ms nL) {b : Bool} {off : Int} (tgt : Nat) (hd : decode cc pc = .ok (.ifCond .eq off, 3)) (ht : (pc : Int) + off = (tgt : Int)) (kt : b = false → vV Γ p l e R s m args below meth c Q nL (cells) (slots) (tgt) (lv) (st) (μ)) (kf : b = true → vV Γ p l e R s m args below meth c Q nL (cells) (slots) (pc + 3) (lv) (st) (μ)) : vV Γ p l e R s m args below meth c Q nL (cells) (slots) (pc) (lv) (.int (zb b) :: st) (μ) := r_if_eq X tgt hd ht (fun q => kt (zb_0.mp q)) (fun q => kf (by cases b; exact absurd rfl q; rfl))
theorem r_if_neZ (X : cX Γ p R s m args meth c cc ret nm own k mc ms nL) {b : Bool} {off : Int} (tgt : Nat) (hd : decode cc pc = .ok (.ifCond .ne off, 3)) (ht : (pc : Int) + off = (tgt : Int)) (kt : b = true → vV Γ p l e R s m args below meth c Q nL (cells) (slots) (tgt) (lv) (st) (μ)) (kf : b = false → vV Γ p l e R s m args below meth c Q nL (cells) (slots) (pc + 3) (lv) (st) (μ)) : vV Γ p l e R s m args below meth c Q nL (cells) (slots) (pc) (lv) (.int (zb b) :: st) (μ) := r_if_ne X tgt hd ht (fun q => kt (by cases b; exact absurd rfl q; rfl)) (fun q => kf (zb_0.mp q))
/-- a method's start, with its locals written out -/
theorem CT.go {k sz mc ms : Nat} {y : MethodName} {cc : ByteArray} {nL : Nat} {ret : Option FieldType} {av : List Value} {post : Option Value → MM → Prop} (own : String) (ho : y.cls = own) (nm : String) (hnm : y.name = nm) (lv0 : List (Option Value)) (hlv : lve av ++ List.replicate (nL - (lve av).length) none = lv0) (hy : plainName y.cls = true) (ha : (lg_sl av).length ≤ nL)
    (body : ∀ (p : Program) (e : Env) (R : Room) (s : State) (m : MethodId) (args : Array Value) (below : List Frame) (meth : Method) (c : Code), cX Γ p R s m args meth c cc ret nm own k mc ms nL → s.heap.size = sz →
      vV Γ p l e R s m args below meth c (vQ Γ s args below mc ms post) nL 0 0 0 lv0 [] μ) : CT Γ l k sz mc ms (y, cc, nL, ret) av μ post := by
  subst ho; subst hnm; subst hlv
  exact CT.start hy ha (fun p e R s m below meth c X hz => body p e R s m _ below meth c X hz)
end LN
end
section
def popc (x : Nat) : Nat := x % 2 + x / 2 % 2 + x / 4 % 2 + x / 8 % 2 + x / 16 % 2 + x / 32 % 2
def brs (kd st : Nat) : Nat := if kd = 1 then st + st / 2 else if kd = 2 then 2 * st else if kd = 3 then st - 3 else st
def fms (d b : Nat) : Nat := 5 - (b + 1 - (if d < 10 then 0 else (d - 10) / 5 + 1))
def ovw (w : Nat) : Nat := [0, 0, 1, 2, 2, 1].getD w 0
def inCh : Nat → Nat → Nat → Bool
  | 0, _, _ => false
  | f + 1, w, a => if w = 0 then false else if w = a + 1 then true else inCh f (ovw w) a
theorem tb_iff {b k : Nat} : b >>> k &&& 1 = 1 ↔ b.testBit k = true := by
  rw [Nat.testBit, Nat.and_comm]
  have h : 1 &&& b >>> k = b >>> k % 2 := by rw [Nat.and_comm]; exact Nat.and_one_is_mod _
  rw [h]
  have : b >>> k % 2 < 2 := Nat.mod_lt _ (by decide)
  rcases (show b >>> k % 2 = 0 ∨ b >>> k % 2 = 1 by omega) with h1 | h1 <;> simp [h1]
section S10
variable {Γ : KK} {l : Launch} {sz : Nat} {μ : MM}
theorem t6_isOutside (x lo hi : Int32) : CT Γ l 0 sz 0 0 mX6_isOutside [.int x, .int lo, .int hi] μ (ri (fun r μ' => r = zb (decide (x.toInt < lo.toInt ∨ hi.toInt < x.toInt)) ∧ μ' = μ)) := by
  refine CT.go RX6 rfl "isOutside" rfl [some (.int x), some (.int lo), some (.int hi)] rfl (by decide) (Nat.le_of_ble_eq_true rfl) ?_
  intro p e R s m args below meth c X hsz
  refine r_iload_n (pc := 0) X dX6_isOutside_0 rfl ?_
  refine r_iload_n (pc := 1) X dX6_isOutside_1 rfl ?_
  refine r_icmp_lt (pc := 2) X 10 dX6_isOutside_2 (by decide) (fun h => ?_) (fun h => ?_)
  · refine r_iconst (pc := 10) (v := nI 1) X dX6_isOutside_10 (by decide) ?_
    refine r_goto (pc := 11) X 15 dX6_isOutside_11 (by decide) ?_
    exact r_zret (pc := 15) X dX6_isOutside_15 (by first | rfl | decide | exact zb_nar _) (⟨by rw [decide_eq_true (Or.inl (Int32.lt_iff_toInt_lt.mp h))]; rfl, rfl⟩)
  · refine r_iload_n (pc := 5) X dX6_isOutside_5 rfl ?_
    refine r_iload_n (pc := 6) X dX6_isOutside_6 rfl ?_
    refine r_icmp_le (pc := 7) X 14 dX6_isOutside_7 (by decide) (fun h2 => ?_) (fun h2 => ?_)
    · refine r_iconst (pc := 14) (v := nI 0) X dX6_isOutside_14 (by decide) ?_
      have h3 : ¬ (x.toInt < lo.toInt ∨ hi.toInt < x.toInt) := by
        rw [Int32.lt_iff_toInt_lt] at h
        rw [Int32.le_iff_toInt_le] at h2
        omega
      exact r_zret (pc := 15) X dX6_isOutside_15 (by first | rfl | decide | exact zb_nar _) (⟨by rw [decide_eq_false h3]; rfl, rfl⟩)
    · refine r_iconst (pc := 10) (v := nI 1) X dX6_isOutside_10 (by decide) ?_
      refine r_goto (pc := 11) X 15 dX6_isOutside_11 (by decide) ?_
      have h3 : (x.toInt < lo.toInt ∨ hi.toInt < x.toInt) := by
        rw [Int32.le_iff_toInt_le] at h2
        omega
      exact r_zret (pc := 15) X dX6_isOutside_15 (by first | rfl | decide | exact zb_nar _) (⟨by rw [decide_eq_true h3]; rfl, rfl⟩)
theorem t6_hasBit {b k : Nat} (hb : b < 2 ^ 31) (hk : k < 32) : CT Γ l 0 sz 0 0 mX6_hasBit [.int (nI b), .int (nI k)] μ (ri (fun r μ' => r = zb (b.testBit k) ∧ μ' = μ)) := by
  refine CT.go RX6 rfl "hasBit" rfl [some (.int (nI b)), some (.int (nI k))] rfl (by decide) (Nat.le_of_ble_eq_true rfl) ?_
  intro p e R s m args below meth c X hsz
  have hle : b >>> k &&& 1 ≤ 1 := Nat.and_le_right
  refine r_iload_n (pc := 0) X dX6_hasBit_0 rfl ?_
  refine r_iload_n (pc := 1) X dX6_hasBit_1 rfl ?_
  first | refine r_ishrN (pc := 2) X dX6_hasBit_2 (by omega) (by omega) ?_ | refine r_ishr (pc := 2) X dX6_hasBit_2 ?_
  refine r_iconst (pc := 3) (v := nI 1) X dX6_hasBit_3 (by decide) ?_
  first | refine r_iandN (pc := 4) X dX6_hasBit_4 ?_ | refine r_iand (pc := 4) X dX6_hasBit_4 ?_
  refine r_iconst (pc := 5) (v := nI 1) X dX6_hasBit_5 (by decide) ?_
  first | refine r_icmp_neN (pc := 6) X 13 dX6_hasBit_6 (by decide) (by omega) (by omega) (fun h => ?_) (fun h => ?_) | refine r_icmp_ne (pc := 6) X 13 dX6_hasBit_6 (by decide) (fun h => ?_) (fun h => ?_)
  · refine r_iconst (pc := 13) (v := nI 0) X dX6_hasBit_13 (by decide) ?_
    have h3 : b.testBit k = false := by
      cases hq : b.testBit k with
      | false => rfl
      | true => exact absurd (tb_iff.mpr hq) h
    exact r_zret (pc := 14) X dX6_hasBit_14 (by first | rfl | decide | exact zb_nar _) (⟨by rw [h3]; rfl, rfl⟩)
  · refine r_iconst (pc := 9) (v := nI 1) X dX6_hasBit_9 (by decide) ?_
    refine r_goto (pc := 10) X 14 dX6_hasBit_10 (by decide) ?_
    exact r_zret (pc := 14) X dX6_hasBit_14 (by first | rfl | decide | exact zb_nar _) (⟨by rw [tb_iff.mp h]; rfl, rfl⟩)
theorem t7_has {b k : Nat} (hb : b < 2 ^ 31) (hk : k < 32) : CT Γ l 0 sz 0 0 mX7_has [.int (nI b), .int (nI k)] μ (ri (fun r μ' => r = zb (b.testBit k) ∧ μ' = μ)) := by
  refine CT.go RX7 rfl "has" rfl [some (.int (nI b)), some (.int (nI k))] rfl (by decide) (Nat.le_of_ble_eq_true rfl) ?_
  intro p e R s m args below meth c X hsz
  have hle : b >>> k &&& 1 ≤ 1 := Nat.and_le_right
  refine r_iload_n (pc := 0) X dX7_has_0 rfl ?_
  refine r_iload_n (pc := 1) X dX7_has_1 rfl ?_
  first | refine r_ishrN (pc := 2) X dX7_has_2 (by omega) (by omega) ?_ | refine r_ishr (pc := 2) X dX7_has_2 ?_
  refine r_iconst (pc := 3) (v := nI 1) X dX7_has_3 (by decide) ?_
  first | refine r_iandN (pc := 4) X dX7_has_4 ?_ | refine r_iand (pc := 4) X dX7_has_4 ?_
  refine r_iconst (pc := 5) (v := nI 1) X dX7_has_5 (by decide) ?_
  first | refine r_icmp_neN (pc := 6) X 13 dX7_has_6 (by decide) (by omega) (by omega) (fun h => ?_) (fun h => ?_) | refine r_icmp_ne (pc := 6) X 13 dX7_has_6 (by decide) (fun h => ?_) (fun h => ?_)
  · refine r_iconst (pc := 13) (v := nI 0) X dX7_has_13 (by decide) ?_
    have h3 : b.testBit k = false := by
      cases hq : b.testBit k with
      | false => rfl
      | true => exact absurd (tb_iff.mpr hq) h
    exact r_zret (pc := 14) X dX7_has_14 (by first | rfl | decide | exact zb_nar _) (⟨by rw [h3]; rfl, rfl⟩)
  · refine r_iconst (pc := 9) (v := nI 1) X dX7_has_9 (by decide) ?_
    refine r_goto (pc := 10) X 14 dX7_has_10 (by decide) ?_
    exact r_zret (pc := 14) X dX7_has_14 (by first | rfl | decide | exact zb_nar _) (⟨by rw [tb_iff.mp h]; rfl, rfl⟩)
theorem t6_allBits {n : Nat} (hn : n < 31) : CT Γ l 0 sz 0 0 mX6_allBits [.int (nI n)] μ (ri (fun r μ' => r = nI (2 ^ n - 1) ∧ μ' = μ)) := by
  refine CT.go RX6 rfl "allBits" rfl [some (.int (nI n))] rfl (by decide) (Nat.le_of_ble_eq_true rfl) ?_
  intro p e R s m args below meth c X hsz
  have h1 : 1 <<< n = 2 ^ n := by rw [Nat.shiftLeft_eq, Nat.one_mul]
  have h2 : 1 ≤ 1 <<< n := by rw [h1]; exact Nat.one_le_two_pow
  refine r_iconst (pc := 0) (v := nI 1) X dX6_allBits_0 (by decide) ?_
  refine r_iload_n (pc := 1) X dX6_allBits_1 rfl ?_
  first | refine r_ishlN (pc := 2) X dX6_allBits_2 (by omega) ?_ | refine r_ishl (pc := 2) X dX6_allBits_2 ?_
  refine r_iconst (pc := 3) (v := nI 1) X dX6_allBits_3 (by decide) ?_
  first | refine r_isubN (pc := 4) X dX6_allBits_4 (by omega) ?_ | refine r_isub (pc := 4) X dX6_allBits_4 ?_
  exact r_iret (pc := 5) X dX6_allBits_5 (⟨by rw [h1], rfl⟩)
theorem brs_bell (st : Nat) (h : st < 2 ^ 20) : (if nI 0 < nI st - nI 3 then nI st - nI 3 else nI 0) = nI (st - 3) := by
  by_cases h3 : 3 ≤ st
  · rw [nI_sub h3]
    by_cases h4 : nI 0 < nI (st - 3)
    · rw [if_pos h4]
    · rw [if_neg h4]
      have : ¬ 0 < st - 3 := fun q => h4 ((nI_lt_iff (by omega) (by omega)).mpr q)
      rw [show st - 3 = 0 by omega]
  · have : ∀ s, s < 3 → (if nI 0 < nI s - nI 3 then nI s - nI 3 else nI 0) = nI (s - 3) := by decide +kernel
    exact this st (by omega)
theorem t6_bearing {kd st : Nat} (hk : kd ≤ 3) (hs : st < 2 ^ 20) : CT Γ l 1 sz 0 0 mX6_bearing [.int (nI kd), .int (nI st)] μ (ri (fun r μ' => r = nI (brs kd st) ∧ μ' = μ)) := by
  refine CT.go RX6 rfl "bearing" rfl [some (.int (nI kd)), some (.int (nI st))] rfl (by decide) (Nat.le_of_ble_eq_true rfl) ?_
  intro p e R s m args below meth c X hsz
  refine r_iload_n (pc := 0) X dX6_bearing_0 rfl ?_
  rcases (show kd = 0 ∨ kd = 1 ∨ kd = 2 ∨ kd = 3 by omega) with rfl | rfl | rfl | rfl
  · refine r_tableOut (pc := 1) X 46 dX6_bearing_1 (by decide) (by decide) ?_
    refine r_iload_n (pc := 46) X dX6_bearing_46 rfl ?_
    exact r_iret (pc := 47) X dX6_bearing_47 (⟨rfl, rfl⟩)
  · refine r_tableIn (pc := 1) X 28 dX6_bearing_1 (by decide) (by decide) rfl (by decide) ?_
    refine r_iload_n (pc := 28) X dX6_bearing_28 rfl ?_
    refine r_iload_n (pc := 29) X dX6_bearing_29 rfl ?_
    refine r_iconst (pc := 30) (v := nI 2) X dX6_bearing_30 (by decide) ?_
    first | refine r_idivN (pc := 31) X dX6_bearing_31 (by omega) (by omega) (by omega) ?_ | refine r_idiv (pc := 31) X dX6_bearing_31 (by decide) ?_
    first | refine r_iaddN (pc := 32) X dX6_bearing_32 ?_ | refine r_iadd (pc := 32) X dX6_bearing_32 ?_
    exact r_iret (pc := 33) X dX6_bearing_33 (⟨rfl, rfl⟩)
  · refine r_tableIn (pc := 1) X 34 dX6_bearing_1 (by decide) (by decide) rfl (by decide) ?_
    refine r_iconst (pc := 34) (v := nI 2) X dX6_bearing_34 (by decide) ?_
    refine r_iload_n (pc := 35) X dX6_bearing_35 rfl ?_
    first | refine r_imulN (pc := 36) X dX6_bearing_36 ?_ | refine r_imul (pc := 36) X dX6_bearing_36 ?_
    exact r_iret (pc := 37) X dX6_bearing_37 (⟨rfl, rfl⟩)
  · refine r_tableIn (pc := 1) X 38 dX6_bearing_1 (by decide) (by decide) rfl (by decide) ?_
    refine r_iconst (pc := 38) (v := nI 0) X dX6_bearing_38 (by decide) ?_
    refine r_iload_n (pc := 39) X dX6_bearing_39 rfl ?_
    refine r_iconst (pc := 40) (v := nI 3) X dX6_bearing_40 (by decide) ?_
    refine r_isub (pc := 41) X dX6_bearing_41 ?_
    refine r_max (pc := 42) X l_X6_265 dX6_bearing_42 (by decide) (Nat.le_of_ble_eq_true rfl) (by decide) (by decide) ?_
    exact r_iret (pc := 45) X dX6_bearing_45 (⟨brs_bell st hs, rfl⟩)
theorem cmp_lt (x y : Int64) : lg_cmp x y < nI 0 ↔ x.toInt < y.toInt := by
  rw [nI_0]
  unfold lg_cmp
  by_cases h1 : x > y
  · rw [if_pos h1]
    have : y.toInt < x.toInt := Int64.lt_iff_toInt_lt.mp h1
    exact ⟨fun q => absurd q (by decide), fun q => by omega⟩
  · rw [if_neg h1]
    have h1' : ¬ y.toInt < x.toInt := fun q => h1 (Int64.lt_iff_toInt_lt.mpr q)
    by_cases h2 : x = y
    · rw [if_pos h2]
      subst h2
      exact ⟨fun q => absurd q (by decide), fun q => by omega⟩
    · rw [if_neg h2]
      have h2' : ¬ x.toInt = y.toInt := fun q => h2 (Int64.toInt_inj.mp q)
      exact ⟨fun _ => by omega, fun _ => by decide⟩
theorem cmp_gt (x y : Int64) : nI 0 < lg_cmp x y ↔ y.toInt < x.toInt := by
  rw [nI_0]
  unfold lg_cmp
  by_cases h1 : x > y
  · rw [if_pos h1]
    have : y.toInt < x.toInt := Int64.lt_iff_toInt_lt.mp h1
    exact ⟨fun _ => this, fun _ => by decide⟩
  · rw [if_neg h1]
    have h1' : ¬ y.toInt < x.toInt := fun q => h1 (Int64.lt_iff_toInt_lt.mpr q)
    by_cases h2 : x = y
    · rw [if_pos h2]
      exact ⟨fun q => absurd q (by decide), fun q => by omega⟩
    · rw [if_neg h2]
      exact ⟨fun q => absurd q (by decide), fun q => by omega⟩
theorem t7_in (v lo hi : Int64) : CT Γ l 0 sz 0 0 mX7_in [.long v, .long lo, .long hi] μ (ri (fun r μ' => r = zb (decide (lo.toInt ≤ v.toInt ∧ v.toInt ≤ hi.toInt)) ∧ μ' = μ)) := by
  refine CT.go RX7 rfl "in" rfl [some (.long v), none, some (.long lo), none, some (.long hi), none] rfl (by decide) (Nat.le_of_ble_eq_true rfl) ?_
  intro p e R s m args below meth c X hsz
  refine r_lload_n (pc := 0) X dX7_in_0 rfl ?_
  refine r_lload_n (pc := 1) X dX7_in_1 rfl ?_
  refine r_lcmp (pc := 2) X dX7_in_2 ?_
  refine r_if_lt (pc := 3) X 17 dX7_in_3 (by decide) (fun h => ?_) (fun h => ?_)
  · refine r_iconst (pc := 17) (v := nI 0) X dX7_in_17 (by decide) ?_
    rw [cmp_lt] at h
    exact r_zret (pc := 18) X dX7_in_18 (by first | rfl | decide | exact zb_nar _) (⟨by rw [decide_eq_false (by omega)]; rfl, rfl⟩)
  · rw [cmp_lt] at h
    refine r_lload_n (pc := 6) X dX7_in_6 rfl ?_
    refine r_lload (pc := 7) X dX7_in_7 rfl ?_
    refine r_lcmp (pc := 9) X dX7_in_9 ?_
    refine r_if_gt (pc := 10) X 17 dX7_in_10 (by decide) (fun h2 => ?_) (fun h2 => ?_)
    · rw [cmp_gt] at h2
      refine r_iconst (pc := 17) (v := nI 0) X dX7_in_17 (by decide) ?_
      exact r_zret (pc := 18) X dX7_in_18 (by first | rfl | decide | exact zb_nar _) (⟨by rw [decide_eq_false (by omega)]; rfl, rfl⟩)
    · rw [cmp_gt] at h2
      refine r_iconst (pc := 13) (v := nI 1) X dX7_in_13 (by decide) ?_
      refine r_goto (pc := 14) X 18 dX7_in_14 (by decide) ?_
      exact r_zret (pc := 18) X dX7_in_18 (by first | rfl | decide | exact zb_nar _) (⟨by rw [decide_eq_true (by omega)]; rfl, rfl⟩)
theorem ones_step : ∀ x, x < 64 → x ≠ 0 → (x &&& (x - 1)) < x ∧ popc (x &&& (x - 1)) + 1 = popc x := by decide +kernel
theorem popc_le : ∀ x, x < 64 → popc x ≤ 6 := by decide +kernel
theorem t7_ones {x : Nat} (hx : x < 64) : CT Γ l 0 sz 0 0 mX7_ones [.int (nI x)] μ (ri (fun r μ' => r = nI (popc x) ∧ μ' = μ)) := by
  refine CT.go RX7 rfl "ones" rfl [some (.int (nI x)), none, none] rfl (by decide) (Nat.le_of_ble_eq_true rfl) ?_
  intro p e R s m args below meth c X hsz
  refine r_iconst (pc := 0) (v := nI 0) X dX7_ones_0 (by decide) ?_
  refine r_istore_n (pc := 1) X dX7_ones_1 (by decide) rfl ?_
  refine r_iload_n (pc := 2) X dX7_ones_2 rfl ?_
  refine r_istore_n (pc := 3) X dX7_ones_3 (by decide) rfl ?_
  have key : ∀ (N y n : Nat), y < N → y < 64 → n + popc y = popc x → vV Γ p l e R s m args below meth c (vQ Γ s args below 0 0 (ri (fun r μ' => r = nI (popc x) ∧ μ' = μ))) 3 0 0 4 [some (.int (nI x)), some (.int (nI n)), some (.int (nI y))] [] μ := by
    intro N
    induction N with
    | zero => intro y n h; exact absurd h (by omega)
    | succ N ih =>
      intro y n h1 h2 h3
      have hp := popc_le x hx
      refine r_iload_n (pc := 4) X dX7_ones_4 rfl ?_
      first | refine r_if_eqZ (pc := 5) X 20 dX7_ones_5 (by decide) (fun h => ?_) (fun h => ?_) | refine r_if_eqN (pc := 5) X 20 dX7_ones_5 (by decide) (by omega) (fun h => ?_) (fun h => ?_) | refine r_if_eq (pc := 5) X 20 dX7_ones_5 (by decide) (fun h => ?_) (fun h => ?_)
      · refine r_iload_n (pc := 20) X dX7_ones_20 rfl ?_
        subst h
        exact r_iret (pc := 21) X dX7_ones_21 (⟨by rw [← h3]; rfl, rfl⟩)
      · have h4 := ones_step y h2 h
        refine r_iincN (pc := 8) (b := 1) X dX7_ones_8 rfl (by decide) rfl ?_
        refine r_iload_n (pc := 11) X dX7_ones_11 rfl ?_
        refine r_iload_n (pc := 12) X dX7_ones_12 rfl ?_
        refine r_iconst (pc := 13) (v := nI 1) X dX7_ones_13 (by decide) ?_
        first | refine r_isubN (pc := 14) X dX7_ones_14 (by omega) ?_ | refine r_isub (pc := 14) X dX7_ones_14 ?_
        first | refine r_iandN (pc := 15) X dX7_ones_15 ?_ | refine r_iand (pc := 15) X dX7_ones_15 ?_
        refine r_istore_n (pc := 16) X dX7_ones_16 (by decide) rfl ?_
        refine r_goto (pc := 17) X 4 dX7_ones_17 (by decide) ?_
        exact ih _ _ (by omega) (by omega) (by omega)
  exact key (x + 1) x 0 (by omega) hx (by omega)
theorem bitc : ∀ x, x < 64 → popc x = popc x := fun _ _ => rfl
theorem tJ_bitCount {x : Nat} (hx : x < 64) : CT Γ l 0 sz 0 0 mJ6_bitCount_0f7a4 [.int (nI x)] μ (ri (fun r μ' => r = nI (popc x) ∧ μ' = μ)) := by
  refine CT.go RJ6 rfl "bitCount" rfl [some (.int (nI x))] rfl (by decide) (Nat.le_of_ble_eq_true rfl) ?_
  intro p e R s m args below meth c X hsz
  refine r_iload_n (pc := 0) X dJ6_bitCount_0f7a4_0 rfl ?_
  refine r_iload_n (pc := 1) X dJ6_bitCount_0f7a4_1 rfl ?_
  refine r_iconst (pc := 2) (v := nI 1) X dJ6_bitCount_0f7a4_2 (by decide) ?_
  refine r_iushr (pc := 3) X dJ6_bitCount_0f7a4_3 rfl ?_
  refine r_ldcw (pc := 4) X k_J6_265 dJ6_bitCount_0f7a4_4 ?_
  refine r_iand (pc := 7) X dJ6_bitCount_0f7a4_7 ?_
  refine r_isub (pc := 8) X dJ6_bitCount_0f7a4_8 ?_
  refine r_istore_n (pc := 9) X dJ6_bitCount_0f7a4_9 (by decide) rfl ?_
  refine r_iload_n (pc := 10) X dJ6_bitCount_0f7a4_10 rfl ?_
  refine r_ldcw (pc := 11) X k_J6_266 dJ6_bitCount_0f7a4_11 ?_
  refine r_iand (pc := 14) X dJ6_bitCount_0f7a4_14 ?_
  refine r_iload_n (pc := 15) X dJ6_bitCount_0f7a4_15 rfl ?_
  refine r_iconst (pc := 16) (v := nI 2) X dJ6_bitCount_0f7a4_16 (by decide) ?_
  refine r_iushr (pc := 17) X dJ6_bitCount_0f7a4_17 rfl ?_
  refine r_ldcw (pc := 18) X k_J6_266 dJ6_bitCount_0f7a4_18 ?_
  refine r_iand (pc := 21) X dJ6_bitCount_0f7a4_21 ?_
  refine r_iadd (pc := 22) X dJ6_bitCount_0f7a4_22 ?_
  refine r_istore_n (pc := 23) X dJ6_bitCount_0f7a4_23 (by decide) rfl ?_
  refine r_iload_n (pc := 24) X dJ6_bitCount_0f7a4_24 rfl ?_
  refine r_iload_n (pc := 25) X dJ6_bitCount_0f7a4_25 rfl ?_
  refine r_iconst (pc := 26) (v := nI 4) X dJ6_bitCount_0f7a4_26 (by decide) ?_
  refine r_iushr (pc := 27) X dJ6_bitCount_0f7a4_27 rfl ?_
  refine r_iadd (pc := 28) X dJ6_bitCount_0f7a4_28 ?_
  refine r_ldcw (pc := 29) X k_J6_267 dJ6_bitCount_0f7a4_29 ?_
  refine r_iand (pc := 32) X dJ6_bitCount_0f7a4_32 ?_
  refine r_istore_n (pc := 33) X dJ6_bitCount_0f7a4_33 (by decide) rfl ?_
  refine r_iload_n (pc := 34) X dJ6_bitCount_0f7a4_34 rfl ?_
  refine r_iload_n (pc := 35) X dJ6_bitCount_0f7a4_35 rfl ?_
  refine r_bipush (pc := 36) (v := nI 8) X dJ6_bitCount_0f7a4_36 (by decide) ?_
  refine r_iushr (pc := 38) X dJ6_bitCount_0f7a4_38 rfl ?_
  refine r_iadd (pc := 39) X dJ6_bitCount_0f7a4_39 ?_
  refine r_istore_n (pc := 40) X dJ6_bitCount_0f7a4_40 (by decide) rfl ?_
  refine r_iload_n (pc := 41) X dJ6_bitCount_0f7a4_41 rfl ?_
  refine r_iload_n (pc := 42) X dJ6_bitCount_0f7a4_42 rfl ?_
  refine r_bipush (pc := 43) (v := nI 16) X dJ6_bitCount_0f7a4_43 (by decide) ?_
  refine r_iushr (pc := 45) X dJ6_bitCount_0f7a4_45 rfl ?_
  refine r_iadd (pc := 46) X dJ6_bitCount_0f7a4_46 ?_
  refine r_istore_n (pc := 47) X dJ6_bitCount_0f7a4_47 (by decide) rfl ?_
  refine r_iload_n (pc := 48) X dJ6_bitCount_0f7a4_48 rfl ?_
  refine r_bipush (pc := 49) (v := nI 63) X dJ6_bitCount_0f7a4_49 (by decide) ?_
  refine r_iand (pc := 51) X dJ6_bitCount_0f7a4_51 ?_
  refine r_iret (pc := 52) X dJ6_bitCount_0f7a4_52 ⟨?_, rfl⟩
  revert hx
  revert x
  decide +kernel
theorem t6_falls {d b : Nat} (hd : d < 46) (hb : b < 10) : CT Γ l 1 sz 0 0 mX6_fallsThatMiss [.int (nI d), .int (nI b)] μ (ri (fun r μ' => r = nI (fms d b) ∧ μ' = μ)) := by
  refine CT.go RX6 rfl "fallsThatMiss" rfl [some (.int (nI d)), some (.int (nI b)), none, none] rfl (by decide) (Nat.le_of_ble_eq_true rfl) ?_
  intro p e R s m args below meth c X hsz
  refine r_iload_n (pc := 0) X dX6_fallsThatMiss_0 rfl ?_
  refine r_bipush (pc := 1) (v := nI 10) X dX6_fallsThatMiss_1 (by decide) ?_
  first | refine r_icmp_geN (pc := 3) X 10 dX6_fallsThatMiss_3 (by decide) (by omega) (by omega) (fun h => ?_) (fun h => ?_) | refine r_icmp_ge (pc := 3) X 10 dX6_fallsThatMiss_3 (by decide) (fun h => ?_) (fun h => ?_)
  · refine r_iload_n (pc := 10) X dX6_fallsThatMiss_10 rfl ?_
    refine r_bipush (pc := 11) (v := nI 10) X dX6_fallsThatMiss_11 (by decide) ?_
    refine r_isub (pc := 13) X dX6_fallsThatMiss_13 ?_
    refine r_iconst (pc := 14) (v := nI 5) X dX6_fallsThatMiss_14 (by decide) ?_
    refine r_idiv (pc := 15) X dX6_fallsThatMiss_15 (by decide) ?_
    refine r_iconst (pc := 16) (v := nI 1) X dX6_fallsThatMiss_16 (by decide) ?_
    refine r_iadd (pc := 17) X dX6_fallsThatMiss_17 ?_
    refine r_istore_n (pc := 18) X dX6_fallsThatMiss_18 (by decide) rfl ?_
    refine r_iconst (pc := 19) (v := nI 0) X dX6_fallsThatMiss_19 (by decide) ?_
    refine r_iload_n (pc := 20) X dX6_fallsThatMiss_20 rfl ?_
    refine r_iload_n (pc := 21) X dX6_fallsThatMiss_21 rfl ?_
    refine r_isub (pc := 22) X dX6_fallsThatMiss_22 ?_
    refine r_iconst (pc := 23) (v := nI 1) X dX6_fallsThatMiss_23 (by decide) ?_
    refine r_iadd (pc := 24) X dX6_fallsThatMiss_24 ?_
    refine r_max (pc := 25) X l_X6_265 dX6_fallsThatMiss_25 (by decide) (Nat.le_of_ble_eq_true rfl) (by decide) (by decide) ?_
    refine r_istore_n (pc := 28) X dX6_fallsThatMiss_28 (by decide) rfl ?_
    refine r_iconst (pc := 29) (v := nI 0) X dX6_fallsThatMiss_29 (by decide) ?_
    refine r_iconst (pc := 30) (v := nI 5) X dX6_fallsThatMiss_30 (by decide) ?_
    refine r_iload_n (pc := 31) X dX6_fallsThatMiss_31 rfl ?_
    refine r_isub (pc := 32) X dX6_fallsThatMiss_32 ?_
    refine r_max (pc := 33) X l_X6_265 dX6_fallsThatMiss_33 (by decide) (Nat.le_of_ble_eq_true rfl) (by decide) (by decide) ?_
    refine r_iret (pc := 36) X dX6_fallsThatMiss_36 ⟨?_, rfl⟩
    revert h
    revert hb
    revert b
    revert hd
    revert d
    decide +kernel
  · refine r_iconst (pc := 6) (v := nI 0) X dX6_fallsThatMiss_6 (by decide) ?_
    refine r_goto (pc := 7) X 18 dX6_fallsThatMiss_7 (by decide) ?_
    refine r_istore_n (pc := 18) X dX6_fallsThatMiss_18 (by decide) rfl ?_
    refine r_iconst (pc := 19) (v := nI 0) X dX6_fallsThatMiss_19 (by decide) ?_
    refine r_iload_n (pc := 20) X dX6_fallsThatMiss_20 rfl ?_
    refine r_iload_n (pc := 21) X dX6_fallsThatMiss_21 rfl ?_
    refine r_isub (pc := 22) X dX6_fallsThatMiss_22 ?_
    refine r_iconst (pc := 23) (v := nI 1) X dX6_fallsThatMiss_23 (by decide) ?_
    refine r_iadd (pc := 24) X dX6_fallsThatMiss_24 ?_
    refine r_max (pc := 25) X l_X6_265 dX6_fallsThatMiss_25 (by decide) (Nat.le_of_ble_eq_true rfl) (by decide) (by decide) ?_
    refine r_istore_n (pc := 28) X dX6_fallsThatMiss_28 (by decide) rfl ?_
    refine r_iconst (pc := 29) (v := nI 0) X dX6_fallsThatMiss_29 (by decide) ?_
    refine r_iconst (pc := 30) (v := nI 5) X dX6_fallsThatMiss_30 (by decide) ?_
    refine r_iload_n (pc := 31) X dX6_fallsThatMiss_31 rfl ?_
    refine r_isub (pc := 32) X dX6_fallsThatMiss_32 ?_
    refine r_max (pc := 33) X l_X6_265 dX6_fallsThatMiss_33 (by decide) (Nat.le_of_ble_eq_true rfl) (by decide) (by decide) ?_
    refine r_iret (pc := 36) X dX6_fallsThatMiss_36 ⟨?_, rfl⟩
    revert h
    revert hb
    revert b
    revert hd
    revert d
    decide +kernel
theorem ovw_lt : ∀ w, w < 6 → w ≠ 0 → ovw w < w ∧ (stV 0).getD (w - 1) 0 = uI (ovw w) := by decide +kernel
theorem t6_isUnderKind {t a : Nat} (ht : t ≤ 3) (ha : a < 5) : CT Γ l 0 sz 0 0 mX6_isUnderKind [.int (nI t), .int (nI a)] μ (ri (fun r μ' => r = zb (inCh 5 (t + 2) a) ∧ μ' = μ)) := by
  refine CT.go RX6 rfl "isUnderKind" rfl [some (.int (nI t)), some (.int (nI a)), none, none] rfl (by decide) (Nat.le_of_ble_eq_true rfl) ?_
  intro p e R s m args below meth c X hsz
  refine r_iload_n (pc := 0) X dX6_isUnderKind_0 rfl ?_
  refine r_iconst (pc := 1) (v := nI 1) X dX6_isUnderKind_1 (by decide) ?_
  first | refine r_iaddN (pc := 2) X dX6_isUnderKind_2 ?_ | refine r_iadd (pc := 2) X dX6_isUnderKind_2 ?_
  refine r_istore_n (pc := 3) X dX6_isUnderKind_3 (by decide) rfl ?_
  refine r_iconst (pc := 4) (v := nI 0) X dX6_isUnderKind_4 (by decide) ?_
  refine r_istore_n (pc := 5) X dX6_isUnderKind_5 (by decide) rfl ?_
  have key : ∀ (N w n : Nat), w < 6 → n + N = 5 → w ≤ N → vV Γ p l e R s m args below meth c (vQ Γ s args below 0 0 (ri (fun r μ' => r = zb (inCh N w a) ∧ μ' = μ))) 4 0 0 6 [some (.int (nI t)), some (.int (nI a)), some (.int (uI w)), some (.int (nI n))] [] μ := by
    intro N
    induction N with
    | zero =>
      intro w n h1 h2 h3
      refine r_iload_n (pc := 6) X dX6_isUnderKind_6 rfl ?_
      refine r_gets (pc := 7) X (i := 0) (by decide) s_X6_131 dX6_isUnderKind_7 ?_
      refine r_talen (pc := 10) X (i := 0) (by decide) dX6_isUnderKind_10 ?_
      refine r_icmp_geN (pc := 11) X 45 dX6_isUnderKind_11 (by decide) (by omega) (by decide) (fun h => ?_) (fun h => absurd (show 5 ≤ n by omega) h)
      refine r_iconst (pc := 45) (v := nI 0) X dX6_isUnderKind_45 (by decide) ?_
      exact r_zret (pc := 46) X dX6_isUnderKind_46 (by first | rfl | decide | exact zb_nar _) (⟨rfl, rfl⟩)
    | succ N ih =>
      intro w n h1 h2 h3
      refine r_iload_n (pc := 6) X dX6_isUnderKind_6 rfl ?_
      refine r_gets (pc := 7) X (i := 0) (by decide) s_X6_131 dX6_isUnderKind_7 ?_
      refine r_talen (pc := 10) X (i := 0) (by decide) dX6_isUnderKind_10 ?_
      refine r_icmp_geN (pc := 11) X 45 dX6_isUnderKind_11 (by decide) (by omega) (by decide) (fun h => absurd (show 5 ≤ n from h) (by omega)) (fun h => ?_)
      refine r_iload_n (pc := 14) X dX6_isUnderKind_14 rfl ?_
      refine r_if_lt (pc := 15) X 45 dX6_isUnderKind_15 (by decide) (fun h5 => ?_) (fun h5 => ?_)
      · have hw : w = 0 := (uI_lt0 (by omega)).mp h5
        subst hw
        refine r_iconst (pc := 45) (v := nI 0) X dX6_isUnderKind_45 (by decide) ?_
        exact r_zret (pc := 46) X dX6_isUnderKind_46 (by first | rfl | decide | exact zb_nar _) (⟨rfl, rfl⟩)
      · have hw : w ≠ 0 := fun q => h5 ((uI_lt0 (by omega)).mpr q)
        obtain ⟨w, rfl⟩ : ∃ v, w = v + 1 := ⟨w - 1, by omega⟩
        obtain ⟨o1, o2⟩ := ovw_lt (w + 1) h1 hw
        rw [uI_S]
        refine r_iload_n (pc := 18) X dX6_isUnderKind_18 rfl ?_
        refine r_gets (pc := 19) X (i := 0) (by decide) s_X6_131 dX6_isUnderKind_19 ?_
        refine r_talen (pc := 22) X (i := 0) (by decide) dX6_isUnderKind_22 ?_
        refine r_icmp_geN (pc := 23) X 45 dX6_isUnderKind_23 (by decide) (by omega) (by decide) (fun h => absurd (show 5 ≤ w from h) (by omega)) (fun h => ?_)
        refine r_iload_n (pc := 26) X dX6_isUnderKind_26 rfl ?_
        refine r_iload_n (pc := 27) X dX6_isUnderKind_27 rfl ?_
        first | refine r_icmp_neN (pc := 28) X 33 dX6_isUnderKind_28 (by decide) (by omega) (by omega) (fun h6 => ?_) (fun h6 => ?_) | refine r_icmp_ne (pc := 28) X 33 dX6_isUnderKind_28 (by decide) (fun h6 => ?_) (fun h6 => ?_)
        · refine r_gets (pc := 33) X (i := 0) (by decide) s_X6_131 dX6_isUnderKind_33 ?_
          refine r_iload_n (pc := 36) X dX6_isUnderKind_36 rfl ?_
          refine r_tald (pc := 37) X (i := 0) (by decide) dX6_isUnderKind_37 (show w < 5 by omega) ?_
          have o3 : (stV 0).getD w 0 = uI (ovw (w + 1)) := o2
          rw [o3]
          refine r_istore_n (pc := 38) X dX6_isUnderKind_38 (by decide) rfl ?_
          refine r_iincN (pc := 39) (b := 1) X dX6_isUnderKind_39 rfl (by decide) rfl ?_
          refine r_goto (pc := 42) X 6 dX6_isUnderKind_42 (by decide) ?_
          have h7 : inCh (N + 1) (w + 1) a = inCh N (ovw (w + 1)) a := by
            show (if w + 1 = 0 then false else if w + 1 = a + 1 then true else inCh N (ovw (w + 1)) a) = _
            rw [if_neg (by omega), if_neg (by omega)]
          rw [h7]
          exact ih _ _ (by omega) (by omega) (by omega)
        · refine r_iconst (pc := 31) (v := nI 1) X dX6_isUnderKind_31 (by decide) ?_
          have h7 : inCh (N + 1) (w + 1) a = true := by
            show (if w + 1 = 0 then false else if w + 1 = a + 1 then true else inCh N (ovw (w + 1)) a) = _
            rw [if_neg (by omega), if_pos (by omega)]
          rw [h7]
          exact r_zret (pc := 32) X dX6_isUnderKind_32 (by first | rfl | decide | exact zb_nar _) (⟨rfl, rfl⟩)
  have h9 : nI (t + 1) = uI (t + 2) := (uI_S (t + 1)).symm
  rw [h9]
  exact key 5 (t + 2) 0 (by omega) (by omega) (by omega)
end S10
end
section
/-! ===== what the cells are ===== -/
def upN (f : Nat → Nat) (k v : Nat) : Nat → Nat := fun i => if i = k then v else f i
theorem upN_self (f : Nat → Nat) (k v : Nat) : upN f k v k = v := if_pos rfl
theorem upN_ne {f : Nat → Nat} {k v i : Nat} (h : i ≠ k) : upN f k v i = f i := if_neg h
def mkb : Nat → (Nat → Bool) → Nat
  | 0, _ => 0
  | n + 1, p => mkb n p ||| (if p n then 1 <<< n else 0)
theorem mkb_test (n : Nat) (p : Nat → Bool) (k : Nat) : (mkb n p).testBit k = (decide (k < n) && p k) := by
  induction n with
  | zero => simp [mkb]
  | succ n ih =>
    simp only [mkb, Nat.testBit_or, ih]
    by_cases hp : p n = true
    · rw [if_pos hp, Nat.testBit_shiftLeft]
      by_cases h1 : k = n
      · subst h1; simp [hp]
      · by_cases h2 : k < n
        · have : ¬ k ≥ n := by omega
          simp [h2, this, show k < n + 1 by omega]
        · have h3 : k ≥ n := by omega
          have h4 : ¬ k < n + 1 := by omega
          have h5 : k - n ≠ 0 := by omega
          have h6 : Nat.testBit 1 (k - n) = false := by
            exact Bool.eq_false_iff.mpr (fun q => h5 (Nat.testBit_one_eq_true_iff_self_eq_zero.mp q))
          simp [h2, h4, h6]
    · rw [if_neg hp]
      by_cases h1 : k = n
      · subst h1
        have : p k = false := by simpa using hp
        simp [this]
      · have : (k < n + 1) = (k < n) := by simp; omega
        simp [this]
theorem mkb_lt (n : Nat) (p : Nat → Bool) : mkb n p < 2 ^ n := by
  apply Nat.lt_pow_two_of_testBit
  intro i hi
  rw [mkb_test]
  have : ¬ i < n := by omega
  simp [this]
theorem mkb_congr {n : Nat} {p q : Nat → Bool} (h : ∀ k, k < n → p k = q k) : mkb n p = mkb n q := by
  apply Nat.eq_of_testBit_eq
  intro i
  rw [mkb_test, mkb_test]
  by_cases hi : i < n
  · simp [hi, h i hi]
  · simp [hi]
theorem mkb_lt64 {n : Nat} (hn : n ≤ 6) (p : Nat → Bool) : mkb n p < 64 := Nat.lt_of_lt_of_le (mkb_lt n p) (by have := Nat.pow_le_pow_right (n := 2) (by decide) hn; simpa using this)
theorem pow6 {n : Nat} (hn : n ≤ 6) : 2 ^ n ≤ 64 := by have := Nat.pow_le_pow_right (n := 2) (by decide) hn; simpa using this
/-- what texts told, as 29 numbers -/
def IT (T : Nat → Nat) : Prop := T 0 ≤ 6 ∧ T 7 ≤ 6 ∧ T 20 ≤ 4 ∧ (∀ i, i < 6 → T (1 + i) ≤ 20) ∧ (∀ i, i < 6 → T (8 + i) ≤ 3) ∧ (∀ i, i < 6 → T (14 + i) ≤ 20) ∧ (∀ i, i < 4 → T (21 + i) ≤ 255) ∧ T 25 ≤ 50 ∧ T 26 ≤ 9 ∧ T 27 ≤ 9 ∧ T 28 ≤ 3
abbrev toldO (a : Nat) (T : Nat → Nat) : va_E := xO 5 [.int (nI (T 0)), .int (nI (T 7)), .int (nI (T 20)), .int (nI (T 25)), .int (nI (T 26)), .int (nI (T 27)), .int (nI (T 28)), .ref (a + 1), .ref (a + 2), .ref (a + 3), .ref (a + 4)]
def ToldAt (Γ : KK) (μ : MM) (a : Nat) (T : Nat → Nat) : Prop := μ a = some (toldO a T) ∧ μ (a + 1) = some (xI Γ 6 (fun i => nI (T (1 + i)))) ∧ μ (a + 2) = some (xI Γ 6 (fun i => nI (T (8 + i)))) ∧ μ (a + 3) = some (xI Γ 6 (fun i => nI (T (14 + i)))) ∧ μ (a + 4) = some (xI Γ 4 (fun i => nI (T (21 + i))))
/-- outside of n cells from a on nothing changed -/
def Fr (a n : Nat) (μ μ' : MM) : Prop := ∀ q : Nat, (q < a ∨ a + n ≤ q) → μ' q = μ q
theorem Fr.tr {a n : Nat} {μ μ1 μ2 : MM} (h1 : Fr a n μ μ1) (h2 : Fr a n μ1 μ2) : Fr a n μ μ2 := fun q hq => (h2 q hq).trans (h1 q hq)
theorem Fr.rf {a n : Nat} {μ : MM} : Fr a n μ μ := fun _ _ => rfl
theorem Fr.up {a n b k : Nat} {μ μ' : MM} (h : Fr b k μ μ') (h1 : a ≤ b) (h2 : b + k ≤ a + n) : Fr a n μ μ' := fun q hq => h q (by omega)
theorem ToldAt.kept {Γ : KK} {μ μ' : MM} {a : Nat} {T : Nat → Nat} (h : ToldAt Γ μ a T) (hq : ∀ q : Nat, a ≤ q → q < a + 5 → μ' q = μ q) : ToldAt Γ μ' a T :=
  ⟨(hq _ (by omega) (by omega)).trans h.1, (hq _ (by omega) (by omega)).trans h.2.1, (hq _ (by omega) (by omega)).trans h.2.2.1, (hq _ (by omega) (by omega)).trans h.2.2.2.1, (hq _ (by omega) (by omega)).trans h.2.2.2.2⟩
/-- a scene: nine numbers and the row of who is under what -/
def ScAt (Γ : KK) (μ : MM) (a : Nat) (v u : Nat → Int32) : Prop := μ a = some (xO 2 [.int (v 0), .int (v 1), .int (v 2), .int (v 3), .int (v 4), .int (v 5), .int (v 6), .int (v 7), .int (v 8), .ref (a + 1)]) ∧ μ (a + 1) = some (xI Γ 6 u) ∧ (v 4 = nI 0 ∨ v 4 = nI 1)
theorem ScAt.kept {Γ : KK} {μ μ' : MM} {a : Nat} {v u : Nat → Int32} (h : ScAt Γ μ a v u) (hq : ∀ q : Nat, a ≤ q → q < a + 2 → μ' q = μ q) : ScAt Γ μ' a v u := ⟨(hq _ (by omega) (by omega)).trans h.1, (hq _ (by omega) (by omega)).trans h.2.1, h.2.2⟩
/-- of the men: who is so (0 in, 1 out, 2 eaten), as bits -/
def msk (men : Nat) (S : Nat → Nat) (h : Nat) : Nat := mkb men (fun m => S (6 + m) == h)
def scV (men : Nat) (S : Nat → Nat) : Nat → Int32 := fun k => match k with
  | 0 => nI (S 4)
  | 1 => nI (S 0)
  | 2 => nI (S 1)
  | 3 => nI (S 2)
  | 4 => nI (S 3)
  | 5 => nI (msk men S 0)
  | 6 => nI (msk men S 1)
  | 7 => nI (msk men S 2)
  | _ => nI (S 5)
theorem scV_4 {men : Nat} {S : Nat → Nat} (h : S 3 ≤ 1) : scV men S 4 = nI 0 ∨ scV men S 4 = nI 1 := by
  show nI (S 3) = nI 0 ∨ nI (S 3) = nI 1
  rcases (show S 3 = 0 ∨ S 3 = 1 by omega) with h | h <;> rw [h] <;> simp
theorem bool_ok {v : Int32} (h : v = nI 0 ∨ v = nI 1) : narrow .boolean (.int v) = .int v ∧ fits .boolean (.int v) = true := by
  rcases h with h | h <;> rw [h] <;> exact ⟨rfl, rfl⟩
def scU (S : Nat → Nat) : Nat → Int32 := fun m => uI (S (12 + m))
/-- what deeds change, as 18 numbers: cups, drunk, stake, blind, day, gone; how each man is; under what (0 none, else the sheep and 1) -/
def IS (T S : Nat → Nat) : Prop := S 0 + S 1 ≤ 50 ∧ S 2 ≤ 9 ∧ S 3 ≤ 1 ∧ S 4 ≤ 99 ∧ S 5 < 2 ^ T 7 ∧ (∀ m, m < 6 → S (6 + m) ≤ 2) ∧ (∀ m, m < 6 → S (12 + m) ≤ T 7) ∧ (∀ m, m < 6 → S (12 + m) ≠ 0 → m < T 0 ∧ S (6 + m) = 0) ∧ (∀ m n, m < 6 → n < 6 → S (12 + m) ≠ 0 → S (12 + m) = S (12 + n) → m = n)
def PastAt (Γ : KK) (μ : MM) (a held next : Nat) (V U : Nat → Nat → Int32) : Prop := μ a = some (xO 0 [.int (nI held), .int (nI next), .ref (a + 1)]) ∧ μ (a + 1) = some (xS Γ 8 (fun i => some (a + 2 + 2 * i))) ∧ ∀ i, i < 8 → ScAt Γ μ (a + 2 + 2 * i) (V i) (U i)
def TextAt (Γ : KK) (μ : MM) (a n : Nat) (X : Nat → Nat) (cl b e : Int32) : Prop := μ a = some (xO 4 [.ref (a + 1), .int (nI n), .int cl, .int b, .int e]) ∧ μ (a + 1) = some (xC Γ 160 (fun i => nI (X i)))
def KeptAt (Γ : KK) (μ : MM) (a : Nat) (V U : Nat → Nat → Int32) : Prop := μ a = some (xS Γ 2 (fun i => some (a + 1 + 2 * i))) ∧ ∀ i, i < 2 → ScAt Γ μ (a + 1 + 2 * i) (V i) (U i)
def PlanAt (Γ : KK) (μ : MM) (a : Nat) (f g : Nat → Int32) : Prop := μ a = some (xO 1 [.ref (a + 1), .ref (a + 2)]) ∧ μ (a + 1) = some (xI Γ 6 f) ∧ μ (a + 2) = some (xI Γ 448 g)
def SigAt (Γ : KK) (μ : MM) (a n : Nat) (V : Nat → Nat) : Prop := μ a = some (xO 3 [.int (nI n), .ref (a + 1), .ref (a + 2), .ref (a + 3)]) ∧ μ (a + 1) = some (xI Γ 6 (fun i => nI (V (3 * i)))) ∧ μ (a + 2) = some (xI Γ 6 (fun i => nI (V (3 * i + 1)))) ∧ μ (a + 3) = some (xZ Γ 6 (fun i => nI (V (3 * i + 2))))
theorem PastAt.kept {Γ : KK} {μ μ' : MM} {a h n : Nat} {V U : Nat → Nat → Int32} (H : PastAt Γ μ a h n V U) (hq : ∀ q : Nat, a ≤ q → q < a + 18 → μ' q = μ q) : PastAt Γ μ' a h n V U :=
  ⟨(hq _ (by omega) (by omega)).trans H.1, (hq _ (by omega) (by omega)).trans H.2.1, fun i hi => (H.2.2 i hi).kept (fun q h1 h2 => hq q (by omega) (by omega))⟩
theorem TextAt.kept {Γ : KK} {μ μ' : MM} {a n : Nat} {X : Nat → Nat} {cl b e : Int32} (h : TextAt Γ μ a n X cl b e) (hq : ∀ q : Nat, a ≤ q → q < a + 2 → μ' q = μ q) : TextAt Γ μ' a n X cl b e := ⟨(hq _ (by omega) (by omega)).trans h.1, (hq _ (by omega) (by omega)).trans h.2⟩
theorem KeptAt.kept {Γ : KK} {μ μ' : MM} {a : Nat} {V U : Nat → Nat → Int32} (H : KeptAt Γ μ a V U) (hq : ∀ q : Nat, a ≤ q → q < a + 5 → μ' q = μ q) : KeptAt Γ μ' a V U := ⟨(hq _ (by omega) (by omega)).trans H.1, fun i hi => (H.2 i hi).kept (fun q h1 h2 => hq q (by omega) (by omega))⟩
theorem PlanAt.kept {Γ : KK} {μ μ' : MM} {a : Nat} {f g : Nat → Int32} (h : PlanAt Γ μ a f g) (hq : ∀ q : Nat, a ≤ q → q < a + 3 → μ' q = μ q) : PlanAt Γ μ' a f g := ⟨(hq _ (by omega) (by omega)).trans h.1, (hq _ (by omega) (by omega)).trans h.2.1, (hq _ (by omega) (by omega)).trans h.2.2⟩
theorem SigAt.kept {Γ : KK} {μ μ' : MM} {a n : Nat} {V : Nat → Nat} (h : SigAt Γ μ a n V) (hq : ∀ q : Nat, a ≤ q → q < a + 4 → μ' q = μ q) : SigAt Γ μ' a n V := ⟨(hq _ (by omega) (by omega)).trans h.1, (hq _ (by omega) (by omega)).trans h.2.1, (hq _ (by omega) (by omega)).trans h.2.2.1, (hq _ (by omega) (by omega)).trans h.2.2.2⟩
/-- the class's cells -/
def WC (Γ : KK) (μ : MM) (x : Nat) (T S : Nat → Nat) (un : Nat) (A : Nat → Nat → Nat) (kf : Nat → Bool) (K : Nat → Nat → Nat) (n : Nat) (X : Nat → Nat) (sn : Nat) (V : Nat → Nat) : Prop :=
  μ x = some (xO 6 [.ref (x + 1), .ref (x + 3), .ref (x + 8), .ref (x + 13), .ref (x + 15), .ref (x + 33), .ref (x + 38), .ref (x + 39), .ref (x + 42)]) ∧
  (∃ cl b e, TextAt Γ μ (x + 1) n X cl b e) ∧ ToldAt Γ μ (x + 3) T ∧ (∃ T', ToldAt Γ μ (x + 8) T') ∧ ScAt Γ μ (x + 13) (scV (T 0) S) (scU S) ∧
  (∃ nx V' U', nx < 8 ∧ PastAt Γ μ (x + 15) un nx V' U' ∧ ∀ i, i < un → V' ((nx + 8 - un + i) % 8) = scV (T 0) (A i) ∧ U' ((nx + 8 - un + i) % 8) = scU (A i)) ∧
  (∃ V' U', KeptAt Γ μ (x + 33) V' U' ∧ ∀ i, i < 2 → kf i = true → V' i = scV (T 0) (K i) ∧ U' i = scU (K i)) ∧ μ (x + 38) = some (xZ Γ 2 (fun i => zb (kf i))) ∧
  (∃ f g, PlanAt Γ μ (x + 39) f g ∧ ∀ j, j < 64 → g (384 + j) = nI 0) ∧ SigAt Γ μ (x + 42) sn V
def stI (S : Nat → Nat) : Nat → Int32 := fun k => if k < 12 then nI (S k) else uI (S k)
/-- the reference's cells -/
def WM (Γ : KK) (μ : MM) (y : Nat) (T S : Nat → Nat) (un : Nat) (A : Nat → Nat → Nat) (kf : Nat → Bool) (K : Nat → Nat → Nat) (n : Nat) (X : Nat → Nat) (sn : Nat) (V : Nat → Nat) : Prop :=
  ∃ (pl tk vl bg cl : Int32) (rd ah kp mo : Nat → Int32),
  μ y = some (xO 7 [.ref (y + 1), .ref (y + 2), .ref (y + 3), .int (nI n), .int pl, .int tk, .int vl, .int bg, .ref (y + 4), .int cl, .ref (y + 5), .int (nI un), .ref (y + 6), .ref (y + 7), .ref (y + 8), .ref (y + 9), .int (nI sn)]) ∧
  μ (y + 1) = some (xI Γ 29 (fun i => nI (T i))) ∧ μ (y + 2) = some (xI Γ 18 (stI S)) ∧ μ (y + 3) = some (xI Γ 160 (fun i => nI (X i))) ∧ μ (y + 4) = some (xI Γ 29 rd) ∧
  μ (y + 5) = some (xI Γ 144 ah) ∧ (∀ i k, i < un → k < 18 → ah (18 * i + k) = stI (A i) k) ∧ μ (y + 6) = some (xZ Γ 2 (fun i => zb (kf i))) ∧ μ (y + 7) = some (xI Γ 36 kp) ∧ (∀ i k, i < 2 → kf i = true → k < 18 → kp (18 * i + k) = stI (K i) k) ∧
  μ (y + 8) = some (xI Γ 448 mo) ∧ μ (y + 9) = some (xI Γ 18 (fun i => nI (V i)))
def INV (T S : Nat → Nat) (un : Nat) (A : Nat → Nat → Nat) (kf : Nat → Bool) (K : Nat → Nat → Nat) (n : Nat) (X : Nat → Nat) (sn : Nat) (V : Nat → Nat) : Prop :=
  IT T ∧ IS T S ∧ un ≤ 8 ∧ (∀ i, i < un → IS T (A i)) ∧ (∀ i, i < 2 → kf i = true → IS T (K i)) ∧ n ≤ 160 ∧ (∀ i, X i < 256) ∧ sn ≤ 6 ∧ ∀ k, k < sn → V (3 * k) < T 0 ∧ V (3 * k + 1) < T 7 ∧ V (3 * k + 2) ≤ 1
end
section
def rsT (T : Nat → Nat) : Nat → Nat := upN (upN (upN (upN (upN (upN (upN T 0 0) 7 0) 20 0) 25 12) 26 3) 27 4) 28 2
def roomT (T : Nat → Nat) (w : Nat) : Bool := if w = 1 then decide (T 0 < 6) else if w = 0 then true else if w < 6 then decide (T 7 < 6) else if w = 6 then decide (T 20 < 4) else true
def addShT (T : Nat → Nat) (kd num : Nat) : Nat → Nat := upN (upN (upN T (8 + T 7) kd) (14 + T 7) num) 7 (T 7 + 1)
def tellT (T : Nat → Nat) (w num : Nat) : Nat → Nat := if w = 0 then rsT T else if w = 1 then upN (upN T (1 + T 0) num) 0 (T 0 + 1) else if w < 6 then addShT T (w - 2) num else if w = 6 then upN (upN T (21 + T 20) num) 20 (T 20 + 1) else upN T (18 + w) num
def comT (T : Nat → Nat) (nm : Nat) : Nat := mkb (T 20) (fun k => !(T (21 + k)).testBit nm)
def namT (T : Nat → Nat) (st : Nat) : Nat := mkb 8 (fun nm => comT T nm == st)
def qn (T : Nat → Nat) : Nat → Nat
  | 0 => 0
  | n + 1 => if popc (comT T n) < popc (comT T (qn T n)) then n else qn T n
def brT (T : Nat → Nat) (w : Nat) : Nat := if w < T 7 then brs (T (8 + w)) (T (14 + w)) else 0
def brM (T : Nat → Nat) (w m : Nat) : Bool := decide (w < T 7 ∧ m < T 0 ∧ T (1 + m) ≤ brT T w)
theorem comT_lt {T : Nat → Nat} (h : T 20 ≤ 4) (nm : Nat) : comT T nm < 16 := Nat.lt_of_lt_of_le (mkb_lt _ _) (by have := Nat.pow_le_pow_right (n := 2) (by decide) h; simpa using this)
theorem brT_le {T : Nat → Nat} (h : IT T) {w : Nat} (hw : w < 6) : brT T w ≤ 40 := by
  unfold brT
  have h1 := h.2.2.2.2.2.1 w hw
  split
  · unfold brs
    split
    · omega
    · split
      · omega
      · split <;> omega
  · omega
theorem qn_lt (T : Nat → Nat) : ∀ n, qn T n < 8 ∨ n > 8 := by
  intro n
  induction n with
  | zero => left; show 0 < 8; decide
  | succ n ih =>
    by_cases h : n + 1 > 8
    · exact Or.inr h
    · left
      show (if _ then n else qn T n) < 8
      split
      · omega
      · rcases ih with h1 | h1
        · exact h1
        · omega
theorem popc16 : ∀ x, x < 16 → popc x ≤ 4 := by decide +kernel
section S12
variable {Γ : KK} {l : Launch} {sz : Nat} {μ : MM} {a : Nat} {T : Nat → Nat}
theorem t5_hasMan (hT : ToldAt Γ μ a T) (h6 : T 0 ≤ 6) (x : Int32) : CT Γ l 0 sz 0 0 mX5_hasMan [.ref a, .int x] μ (ri (fun r μ' => r = zb (decide (0 ≤ x.toInt ∧ x.toInt < T 0)) ∧ μ' = μ)) := by
  obtain ⟨g0, g1, g2, g3, g4⟩ := hT
  refine CT.go RX5 rfl "hasMan" rfl [some (.ref a), some (.int x)] rfl (by decide) (Nat.le_of_ble_eq_true rfl) ?_
  intro p e R s m args below meth c X hsz
  refine r_iload_n (pc := 0) X dX5_hasMan_0 rfl ?_
  refine r_if_lt (pc := 1) X 16 dX5_hasMan_1 (by decide) (fun h => ?_) (fun h => ?_)
  · rw [Int32.lt_iff_toInt_lt, nI_toInt (by omega)] at h
    refine r_iconst (pc := 16) (v := nI 0) X dX5_hasMan_16 (by decide) ?_
    exact r_zret (pc := 17) X dX5_hasMan_17 (by first | rfl | decide | exact zb_nar _) (⟨by rw [decide_eq_false (by omega)]; rfl, rfl⟩)
  · rw [Int32.lt_iff_toInt_lt, nI_toInt (by omega)] at h
    refine r_iload_n (pc := 4) X dX5_hasMan_4 rfl ?_
    refine r_aload_n (pc := 5) X dX5_hasMan_5 rfl ?_
    apply r_get (pc := 6) X f_X5_27 dX5_hasMan_6
    · repeat (first | exact mu_self | assumption | refine (mu_ne (by omega)).trans ?_)
    · rfl
    refine r_icmp_ge (pc := 9) X 16 dX5_hasMan_9 (by decide) (fun h2 => ?_) (fun h2 => ?_)
    · rw [Int32.le_iff_toInt_le, nI_toInt (by omega)] at h2
      refine r_iconst (pc := 16) (v := nI 0) X dX5_hasMan_16 (by decide) ?_
      exact r_zret (pc := 17) X dX5_hasMan_17 (by first | rfl | decide | exact zb_nar _) (⟨by rw [decide_eq_false (by omega)]; rfl, rfl⟩)
    · rw [Int32.le_iff_toInt_le, nI_toInt (by omega)] at h2
      refine r_iconst (pc := 12) (v := nI 1) X dX5_hasMan_12 (by decide) ?_
      refine r_goto (pc := 13) X 17 dX5_hasMan_13 (by decide) ?_
      exact r_zret (pc := 17) X dX5_hasMan_17 (by first | rfl | decide | exact zb_nar _) (⟨by rw [decide_eq_true (by omega)]; rfl, rfl⟩)
theorem t5_hasSheep (hT : ToldAt Γ μ a T) (h6 : T 7 ≤ 6) (x : Int32) : CT Γ l 0 sz 0 0 mX5_hasSheep [.ref a, .int x] μ (ri (fun r μ' => r = zb (decide (0 ≤ x.toInt ∧ x.toInt < T 7)) ∧ μ' = μ)) := by
  obtain ⟨g0, g1, g2, g3, g4⟩ := hT
  refine CT.go RX5 rfl "hasSheep" rfl [some (.ref a), some (.int x)] rfl (by decide) (Nat.le_of_ble_eq_true rfl) ?_
  intro p e R s m args below meth c X hsz
  refine r_iload_n (pc := 0) X dX5_hasSheep_0 rfl ?_
  refine r_if_lt (pc := 1) X 16 dX5_hasSheep_1 (by decide) (fun h => ?_) (fun h => ?_)
  · rw [Int32.lt_iff_toInt_lt, nI_toInt (by omega)] at h
    refine r_iconst (pc := 16) (v := nI 0) X dX5_hasSheep_16 (by decide) ?_
    exact r_zret (pc := 17) X dX5_hasSheep_17 (by first | rfl | decide | exact zb_nar _) (⟨by rw [decide_eq_false (by omega)]; rfl, rfl⟩)
  · rw [Int32.lt_iff_toInt_lt, nI_toInt (by omega)] at h
    refine r_iload_n (pc := 4) X dX5_hasSheep_4 rfl ?_
    refine r_aload_n (pc := 5) X dX5_hasSheep_5 rfl ?_
    apply r_get (pc := 6) X f_X5_31 dX5_hasSheep_6
    · repeat (first | exact mu_self | assumption | refine (mu_ne (by omega)).trans ?_)
    · rfl
    refine r_icmp_ge (pc := 9) X 16 dX5_hasSheep_9 (by decide) (fun h2 => ?_) (fun h2 => ?_)
    · rw [Int32.le_iff_toInt_le, nI_toInt (by omega)] at h2
      refine r_iconst (pc := 16) (v := nI 0) X dX5_hasSheep_16 (by decide) ?_
      exact r_zret (pc := 17) X dX5_hasSheep_17 (by first | rfl | decide | exact zb_nar _) (⟨by rw [decide_eq_false (by omega)]; rfl, rfl⟩)
    · rw [Int32.le_iff_toInt_le, nI_toInt (by omega)] at h2
      refine r_iconst (pc := 12) (v := nI 1) X dX5_hasSheep_12 (by decide) ?_
      refine r_goto (pc := 13) X 17 dX5_hasSheep_13 (by decide) ?_
      exact r_zret (pc := 17) X dX5_hasSheep_17 (by first | rfl | decide | exact zb_nar _) (⟨by rw [decide_eq_true (by omega)]; rfl, rfl⟩)
theorem t5_hasNeighbour (hT : ToldAt Γ μ a T) (h6 : T 20 ≤ 4) (x : Int32) : CT Γ l 0 sz 0 0 mX5_hasNeighbour [.ref a, .int x] μ (ri (fun r μ' => r = zb (decide (0 ≤ x.toInt ∧ x.toInt < T 20)) ∧ μ' = μ)) := by
  obtain ⟨g0, g1, g2, g3, g4⟩ := hT
  refine CT.go RX5 rfl "hasNeighbour" rfl [some (.ref a), some (.int x)] rfl (by decide) (Nat.le_of_ble_eq_true rfl) ?_
  intro p e R s m args below meth c X hsz
  refine r_iload_n (pc := 0) X dX5_hasNeighbour_0 rfl ?_
  refine r_if_lt (pc := 1) X 16 dX5_hasNeighbour_1 (by decide) (fun h => ?_) (fun h => ?_)
  · rw [Int32.lt_iff_toInt_lt, nI_toInt (by omega)] at h
    refine r_iconst (pc := 16) (v := nI 0) X dX5_hasNeighbour_16 (by decide) ?_
    exact r_zret (pc := 17) X dX5_hasNeighbour_17 (by first | rfl | decide | exact zb_nar _) (⟨by rw [decide_eq_false (by omega)]; rfl, rfl⟩)
  · rw [Int32.lt_iff_toInt_lt, nI_toInt (by omega)] at h
    refine r_iload_n (pc := 4) X dX5_hasNeighbour_4 rfl ?_
    refine r_aload_n (pc := 5) X dX5_hasNeighbour_5 rfl ?_
    apply r_get (pc := 6) X f_X5_34 dX5_hasNeighbour_6
    · repeat (first | exact mu_self | assumption | refine (mu_ne (by omega)).trans ?_)
    · rfl
    refine r_icmp_ge (pc := 9) X 16 dX5_hasNeighbour_9 (by decide) (fun h2 => ?_) (fun h2 => ?_)
    · rw [Int32.le_iff_toInt_le, nI_toInt (by omega)] at h2
      refine r_iconst (pc := 16) (v := nI 0) X dX5_hasNeighbour_16 (by decide) ?_
      exact r_zret (pc := 17) X dX5_hasNeighbour_17 (by first | rfl | decide | exact zb_nar _) (⟨by rw [decide_eq_false (by omega)]; rfl, rfl⟩)
    · rw [Int32.le_iff_toInt_le, nI_toInt (by omega)] at h2
      refine r_iconst (pc := 12) (v := nI 1) X dX5_hasNeighbour_12 (by decide) ?_
      refine r_goto (pc := 13) X 17 dX5_hasNeighbour_13 (by decide) ?_
      exact r_zret (pc := 17) X dX5_hasNeighbour_17 (by first | rfl | decide | exact zb_nar _) (⟨by rw [decide_eq_true (by omega)]; rfl, rfl⟩)
theorem t5_allSheep (hT : ToldAt Γ μ a T) (h6 : T 7 ≤ 6) : CT Γ l 1 sz 0 0 mX5_allSheep [.ref a] μ (ri (fun r μ' => r = nI (2 ^ T 7 - 1) ∧ μ' = μ)) := by
  obtain ⟨g0, g1, g2, g3, g4⟩ := hT
  refine CT.go RX5 rfl "allSheep" rfl [some (.ref a)] rfl (by decide) (Nat.le_of_ble_eq_true rfl) ?_
  intro p e R s m args below meth c X hsz
  refine r_aload_n (pc := 0) X dX5_allSheep_0 rfl ?_
  apply r_get (pc := 1) X f_X5_31 dX5_allSheep_1
  · repeat (first | exact mu_self | assumption | refine (mu_ne (by omega)).trans ?_)
  · rfl
  refine c_i X (rSN (pc := 4) X l_X5_63 (t6_allBits (by omega)) dX5_allSheep_4 rfl rfl (Nat.le_of_ble_eq_true rfl) (by decide) (Nat.le_of_ble_eq_true rfl) (Nat.le_of_ble_eq_true rfl)) ?_
  rintro _ μq ⟨rfl, hμq⟩
  rw [hμq]
  clear hμq μq
  exact r_iret (pc := 7) X dX5_allSheep_7 (⟨rfl, rfl⟩)
theorem toldO_rs (a : Nat) (T : Nat → Nat) : toldO a (rsT T) = xO 5 [.int (nI 0), .int (nI 0), .int (nI 0), .int (nI 12), .int (nI 3), .int (nI 4), .int (nI 2), .ref (a + 1), .ref (a + 2), .ref (a + 3), .ref (a + 4)] := rfl
theorem rsT_ne (T : Nat → Nat) {i : Nat} (h : i ≠ 0 ∧ i ≠ 7 ∧ i ≠ 20 ∧ i < 25) : rsT T i = T i := by
  unfold rsT
  rw [upN_ne (by omega), upN_ne (by omega), upN_ne (by omega), upN_ne (by omega), upN_ne (by omega), upN_ne (by omega), upN_ne (by omega)]
theorem xI_eq {Γ : KK} {n : Nat} {f g : Nat → Int32} (h : f = g) : xI Γ n f = xI Γ n g := by rw [h]
/-- an array's row beyond its length counts for nothing -/
theorem ToldAt.of {a : Nat} {T' : Nat → Nat} {f1 f2 f3 f4 : Nat → Int32} {H : Heap} (hP : mP Γ μ H) (g0 : μ a = some (toldO a T')) (g1 : μ (a + 1) = some (xI Γ 6 f1)) (g2 : μ (a + 2) = some (xI Γ 6 f2)) (g3 : μ (a + 3) = some (xI Γ 6 f3)) (g4 : μ (a + 4) = some (xI Γ 4 f4))
    (e1 : ∀ i, i < 6 → f1 i = nI (T' (1 + i))) (e2 : ∀ i, i < 6 → f2 i = nI (T' (8 + i))) (e3 : ∀ i, i < 6 → f3 i = nI (T' (14 + i))) (e4 : ∀ i, i < 4 → f4 i = nI (T' (21 + i))) :
    ∃ μ', mP Γ μ' H ∧ ToldAt Γ μ' a T' ∧ Fr a 5 μ μ' := by
  refine ⟨mu (mu (mu (mu μ (a + 1) (xI Γ 6 (fun i => nI (T' (1 + i))))) (a + 2) (xI Γ 6 (fun i => nI (T' (8 + i))))) (a + 3) (xI Γ 6 (fun i => nI (T' (14 + i))))) (a + 4) (xI Γ 4 (fun i => nI (T' (21 + i)))), ?_, ⟨(by repeat (first | exact mu_self | assumption | refine (mu_ne (by omega)).trans ?_)), (by repeat (first | exact mu_self | assumption | refine (mu_ne (by omega)).trans ?_)), (by repeat (first | exact mu_self | assumption | refine (mu_ne (by omega)).trans ?_)), (by repeat (first | exact mu_self | assumption | refine (mu_ne (by omega)).trans ?_)), (by repeat (first | exact mu_self | assumption | refine (mu_ne (by omega)).trans ?_))⟩, (fun q hq => by repeat (first | rfl | refine (mu_ne (by omega)).trans ?_))⟩
  have key : ∀ {b n : Nat} {μ : MM} {f g : Nat → Int32}, mP Γ μ H → μ b = some (xI Γ n f) → (∀ i, i < n → f i = g i) → mP Γ (mu μ b (xI Γ n g)) H := by
    intro b n μ f g h hb he
    refine mP.congrI he ?_
    have : mu μ b (xI Γ n f) = μ := by
      funext q
      by_cases hq : q = b
      · subst hq; rw [mu_self, hb]
      · rw [mu_ne hq]
    rw [this]
    exact h
  exact key (key (key (key hP g1 e1) (by repeat (first | exact mu_self | assumption | refine (mu_ne (by omega)).trans ?_)) e2) (by repeat (first | exact mu_self | assumption | refine (mu_ne (by omega)).trans ?_)) e3) (by repeat (first | exact mu_self | assumption | refine (mu_ne (by omega)).trans ?_)) e4
theorem t5_reset (hT : ToldAt Γ μ a T) : CT Γ l 0 sz 0 0 mX5_reset [.ref a] μ (rv (fun μ' => ToldAt Γ μ' a (rsT T) ∧ Fr a 5 μ μ')) := by
  obtain ⟨g0, g1, g2, g3, g4⟩ := hT
  refine CT.go RX5 rfl "reset" rfl [some (.ref a)] rfl (by decide) (Nat.le_of_ble_eq_true rfl) ?_
  intro p e R s m args below meth c X hsz
  refine r_aload_n (pc := 0) X dX5_reset_0 rfl ?_
  refine r_iconst (pc := 1) (v := nI 0) X dX5_reset_1 (by decide) ?_
  first | refine r_putS (pc := 2) X f_X5_27 dX5_reset_2 (by first | rfl | assumption | decide | simp [narrow]) (by first | rfl | assumption) (Nat.le_of_ble_eq_true rfl) ?_ | refine r_put (pc := 2) X f_X5_27 dX5_reset_2 (by repeat (first | exact mu_self | assumption | refine (mu_ne (by omega)).trans ?_)) (by first | rfl | assumption | decide | simp [narrow]) (by first | rfl | assumption) (Nat.le_of_ble_eq_true rfl) ?_
  refine r_aload_n (pc := 5) X dX5_reset_5 rfl ?_
  refine r_iconst (pc := 6) (v := nI 0) X dX5_reset_6 (by decide) ?_
  first | refine r_putS (pc := 7) X f_X5_31 dX5_reset_7 (by first | rfl | assumption | decide | simp [narrow]) (by first | rfl | assumption) (Nat.le_of_ble_eq_true rfl) ?_ | refine r_put (pc := 7) X f_X5_31 dX5_reset_7 (by repeat (first | exact mu_self | assumption | refine (mu_ne (by omega)).trans ?_)) (by first | rfl | assumption | decide | simp [narrow]) (by first | rfl | assumption) (Nat.le_of_ble_eq_true rfl) ?_
  refine r_aload_n (pc := 10) X dX5_reset_10 rfl ?_
  refine r_iconst (pc := 11) (v := nI 0) X dX5_reset_11 (by decide) ?_
  first | refine r_putS (pc := 12) X f_X5_34 dX5_reset_12 (by first | rfl | assumption | decide | simp [narrow]) (by first | rfl | assumption) (Nat.le_of_ble_eq_true rfl) ?_ | refine r_put (pc := 12) X f_X5_34 dX5_reset_12 (by repeat (first | exact mu_self | assumption | refine (mu_ne (by omega)).trans ?_)) (by first | rfl | assumption | decide | simp [narrow]) (by first | rfl | assumption) (Nat.le_of_ble_eq_true rfl) ?_
  refine r_aload_n (pc := 15) X dX5_reset_15 rfl ?_
  refine r_bipush (pc := 16) (v := nI 12) X dX5_reset_16 (by decide) ?_
  first | refine r_putS (pc := 18) X f_X5_37 dX5_reset_18 (by first | rfl | assumption | decide | simp [narrow]) (by first | rfl | assumption) (Nat.le_of_ble_eq_true rfl) ?_ | refine r_put (pc := 18) X f_X5_37 dX5_reset_18 (by repeat (first | exact mu_self | assumption | refine (mu_ne (by omega)).trans ?_)) (by first | rfl | assumption | decide | simp [narrow]) (by first | rfl | assumption) (Nat.le_of_ble_eq_true rfl) ?_
  refine r_aload_n (pc := 21) X dX5_reset_21 rfl ?_
  refine r_iconst (pc := 22) (v := nI 3) X dX5_reset_22 (by decide) ?_
  first | refine r_putS (pc := 23) X f_X5_40 dX5_reset_23 (by first | rfl | assumption | decide | simp [narrow]) (by first | rfl | assumption) (Nat.le_of_ble_eq_true rfl) ?_ | refine r_put (pc := 23) X f_X5_40 dX5_reset_23 (by repeat (first | exact mu_self | assumption | refine (mu_ne (by omega)).trans ?_)) (by first | rfl | assumption | decide | simp [narrow]) (by first | rfl | assumption) (Nat.le_of_ble_eq_true rfl) ?_
  refine r_aload_n (pc := 26) X dX5_reset_26 rfl ?_
  refine r_iconst (pc := 27) (v := nI 4) X dX5_reset_27 (by decide) ?_
  first | refine r_putS (pc := 28) X f_X5_43 dX5_reset_28 (by first | rfl | assumption | decide | simp [narrow]) (by first | rfl | assumption) (Nat.le_of_ble_eq_true rfl) ?_ | refine r_put (pc := 28) X f_X5_43 dX5_reset_28 (by repeat (first | exact mu_self | assumption | refine (mu_ne (by omega)).trans ?_)) (by first | rfl | assumption | decide | simp [narrow]) (by first | rfl | assumption) (Nat.le_of_ble_eq_true rfl) ?_
  refine r_aload_n (pc := 31) X dX5_reset_31 rfl ?_
  refine r_iconst (pc := 32) (v := nI 2) X dX5_reset_32 (by decide) ?_
  first | refine r_putS (pc := 33) X f_X5_46 dX5_reset_33 (by first | rfl | assumption | decide | simp [narrow]) (by first | rfl | assumption) (Nat.le_of_ble_eq_true rfl) ?_ | refine r_put (pc := 33) X f_X5_46 dX5_reset_33 (by repeat (first | exact mu_self | assumption | refine (mu_ne (by omega)).trans ?_)) (by first | rfl | assumption | decide | simp [narrow]) (by first | rfl | assumption) (Nat.le_of_ble_eq_true rfl) ?_
  refine vV.sub' (fun H hP => ToldAt.of (a := a) (T' := rsT T) hP mu_self (by repeat (first | exact mu_self | assumption | refine (mu_ne (by omega)).trans ?_)) (by repeat (first | exact mu_self | assumption | refine (mu_ne (by omega)).trans ?_)) (by repeat (first | exact mu_self | assumption | refine (mu_ne (by omega)).trans ?_)) (by repeat (first | exact mu_self | assumption | refine (mu_ne (by omega)).trans ?_)) (fun i hi => by rw [rsT_ne T (by omega)]) (fun i hi => by rw [rsT_ne T (by omega)]) (fun i hi => by rw [rsT_ne T (by omega)]) (fun i hi => by rw [rsT_ne T (by omega)])) (fun μ' h => ?_)
  exact r_vret (pc := 36) X dX5_reset_36 (⟨h.1, fun q hq => (h.2 q hq).trans (mu_ne (by omega))⟩)
theorem t5_copy {b : Nat} {T' : Nat → Nat} (hT : ToldAt Γ μ a T) (hb : ToldAt Γ μ b T') (hd : a + 5 ≤ b ∨ b + 5 ≤ a) : CT Γ l 1 sz 0 0 mX5_copy [.ref a, .ref b] μ (rv (fun μ' => ToldAt Γ μ' a T' ∧ Fr a 5 μ μ')) := by
  obtain ⟨g0, g1, g2, g3, g4⟩ := hT
  obtain ⟨k0, k1, k2, k3, k4⟩ := hb
  refine CT.go RX5 rfl "copy" rfl [some (.ref a), some (.ref b)] rfl (by decide) (Nat.le_of_ble_eq_true rfl) ?_
  intro p e R s m args below meth c X hsz
  refine r_aload_n (pc := 0) X dX5_copy_0 rfl ?_
  refine r_aload_n (pc := 1) X dX5_copy_1 rfl ?_
  apply r_get (pc := 2) X f_X5_27 dX5_copy_2
  · repeat (first | exact mu_self | assumption | refine (mu_ne (by omega)).trans ?_)
  · rfl
  first | refine r_putS (pc := 5) X f_X5_27 dX5_copy_5 (by first | rfl | assumption | decide | simp [narrow]) (by first | rfl | assumption) (Nat.le_of_ble_eq_true rfl) ?_ | refine r_put (pc := 5) X f_X5_27 dX5_copy_5 (by repeat (first | exact mu_self | assumption | refine (mu_ne (by omega)).trans ?_)) (by first | rfl | assumption | decide | simp [narrow]) (by first | rfl | assumption) (Nat.le_of_ble_eq_true rfl) ?_
  refine r_aload_n (pc := 8) X dX5_copy_8 rfl ?_
  refine r_aload_n (pc := 9) X dX5_copy_9 rfl ?_
  apply r_get (pc := 10) X f_X5_31 dX5_copy_10
  · repeat (first | exact mu_self | assumption | refine (mu_ne (by omega)).trans ?_)
  · rfl
  first | refine r_putS (pc := 13) X f_X5_31 dX5_copy_13 (by first | rfl | assumption | decide | simp [narrow]) (by first | rfl | assumption) (Nat.le_of_ble_eq_true rfl) ?_ | refine r_put (pc := 13) X f_X5_31 dX5_copy_13 (by repeat (first | exact mu_self | assumption | refine (mu_ne (by omega)).trans ?_)) (by first | rfl | assumption | decide | simp [narrow]) (by first | rfl | assumption) (Nat.le_of_ble_eq_true rfl) ?_
  refine r_aload_n (pc := 16) X dX5_copy_16 rfl ?_
  refine r_aload_n (pc := 17) X dX5_copy_17 rfl ?_
  apply r_get (pc := 18) X f_X5_34 dX5_copy_18
  · repeat (first | exact mu_self | assumption | refine (mu_ne (by omega)).trans ?_)
  · rfl
  first | refine r_putS (pc := 21) X f_X5_34 dX5_copy_21 (by first | rfl | assumption | decide | simp [narrow]) (by first | rfl | assumption) (Nat.le_of_ble_eq_true rfl) ?_ | refine r_put (pc := 21) X f_X5_34 dX5_copy_21 (by repeat (first | exact mu_self | assumption | refine (mu_ne (by omega)).trans ?_)) (by first | rfl | assumption | decide | simp [narrow]) (by first | rfl | assumption) (Nat.le_of_ble_eq_true rfl) ?_
  refine r_aload_n (pc := 24) X dX5_copy_24 rfl ?_
  refine r_aload_n (pc := 25) X dX5_copy_25 rfl ?_
  apply r_get (pc := 26) X f_X5_37 dX5_copy_26
  · repeat (first | exact mu_self | assumption | refine (mu_ne (by omega)).trans ?_)
  · rfl
  first | refine r_putS (pc := 29) X f_X5_37 dX5_copy_29 (by first | rfl | assumption | decide | simp [narrow]) (by first | rfl | assumption) (Nat.le_of_ble_eq_true rfl) ?_ | refine r_put (pc := 29) X f_X5_37 dX5_copy_29 (by repeat (first | exact mu_self | assumption | refine (mu_ne (by omega)).trans ?_)) (by first | rfl | assumption | decide | simp [narrow]) (by first | rfl | assumption) (Nat.le_of_ble_eq_true rfl) ?_
  refine r_aload_n (pc := 32) X dX5_copy_32 rfl ?_
  refine r_aload_n (pc := 33) X dX5_copy_33 rfl ?_
  apply r_get (pc := 34) X f_X5_40 dX5_copy_34
  · repeat (first | exact mu_self | assumption | refine (mu_ne (by omega)).trans ?_)
  · rfl
  first | refine r_putS (pc := 37) X f_X5_40 dX5_copy_37 (by first | rfl | assumption | decide | simp [narrow]) (by first | rfl | assumption) (Nat.le_of_ble_eq_true rfl) ?_ | refine r_put (pc := 37) X f_X5_40 dX5_copy_37 (by repeat (first | exact mu_self | assumption | refine (mu_ne (by omega)).trans ?_)) (by first | rfl | assumption | decide | simp [narrow]) (by first | rfl | assumption) (Nat.le_of_ble_eq_true rfl) ?_
  refine r_aload_n (pc := 40) X dX5_copy_40 rfl ?_
  refine r_aload_n (pc := 41) X dX5_copy_41 rfl ?_
  apply r_get (pc := 42) X f_X5_43 dX5_copy_42
  · repeat (first | exact mu_self | assumption | refine (mu_ne (by omega)).trans ?_)
  · rfl
  first | refine r_putS (pc := 45) X f_X5_43 dX5_copy_45 (by first | rfl | assumption | decide | simp [narrow]) (by first | rfl | assumption) (Nat.le_of_ble_eq_true rfl) ?_ | refine r_put (pc := 45) X f_X5_43 dX5_copy_45 (by repeat (first | exact mu_self | assumption | refine (mu_ne (by omega)).trans ?_)) (by first | rfl | assumption | decide | simp [narrow]) (by first | rfl | assumption) (Nat.le_of_ble_eq_true rfl) ?_
  refine r_aload_n (pc := 48) X dX5_copy_48 rfl ?_
  refine r_aload_n (pc := 49) X dX5_copy_49 rfl ?_
  apply r_get (pc := 50) X f_X5_46 dX5_copy_50
  · repeat (first | exact mu_self | assumption | refine (mu_ne (by omega)).trans ?_)
  · rfl
  first | refine r_putS (pc := 53) X f_X5_46 dX5_copy_53 (by first | rfl | assumption | decide | simp [narrow]) (by first | rfl | assumption) (Nat.le_of_ble_eq_true rfl) ?_ | refine r_put (pc := 53) X f_X5_46 dX5_copy_53 (by repeat (first | exact mu_self | assumption | refine (mu_ne (by omega)).trans ?_)) (by first | rfl | assumption | decide | simp [narrow]) (by first | rfl | assumption) (Nat.le_of_ble_eq_true rfl) ?_
  refine r_aload_n (pc := 56) X dX5_copy_56 rfl ?_
  apply r_get (pc := 57) X f_X5_9 dX5_copy_57
  · repeat (first | exact mu_self | assumption | refine (mu_ne (by omega)).trans ?_)
  · rfl
  refine r_iconst (pc := 60) (v := nI 0) X dX5_copy_60 (by decide) ?_
  refine r_aload_n (pc := 61) X dX5_copy_61 rfl ?_
  apply r_get (pc := 62) X f_X5_9 dX5_copy_62
  · repeat (first | exact mu_self | assumption | refine (mu_ne (by omega)).trans ?_)
  · rfl
  refine r_iconst (pc := 65) (v := nI 0) X dX5_copy_65 (by decide) ?_
  refine r_bipush (pc := 66) (v := nI 6) X dX5_copy_66 (by decide) ?_
  apply r_copyI (pc := 68) X l_X5_49 dX5_copy_68 (by decide) (Nat.le_of_ble_eq_true rfl) (by decide)
  · repeat (first | exact mu_self | assumption | refine (mu_ne (by omega)).trans ?_)
  · repeat (first | exact mu_self | assumption | refine (mu_ne (by omega)).trans ?_)
  refine r_aload_n (pc := 71) X dX5_copy_71 rfl ?_
  apply r_get (pc := 72) X f_X5_15 dX5_copy_72
  · repeat (first | exact mu_self | assumption | refine (mu_ne (by omega)).trans ?_)
  · rfl
  refine r_iconst (pc := 75) (v := nI 0) X dX5_copy_75 (by decide) ?_
  refine r_aload_n (pc := 76) X dX5_copy_76 rfl ?_
  apply r_get (pc := 77) X f_X5_15 dX5_copy_77
  · repeat (first | exact mu_self | assumption | refine (mu_ne (by omega)).trans ?_)
  · rfl
  refine r_iconst (pc := 80) (v := nI 0) X dX5_copy_80 (by decide) ?_
  refine r_bipush (pc := 81) (v := nI 6) X dX5_copy_81 (by decide) ?_
  apply r_copyI (pc := 83) X l_X5_49 dX5_copy_83 (by decide) (Nat.le_of_ble_eq_true rfl) (by decide)
  · repeat (first | exact mu_self | assumption | refine (mu_ne (by omega)).trans ?_)
  · repeat (first | exact mu_self | assumption | refine (mu_ne (by omega)).trans ?_)
  refine r_aload_n (pc := 86) X dX5_copy_86 rfl ?_
  apply r_get (pc := 87) X f_X5_18 dX5_copy_87
  · repeat (first | exact mu_self | assumption | refine (mu_ne (by omega)).trans ?_)
  · rfl
  refine r_iconst (pc := 90) (v := nI 0) X dX5_copy_90 (by decide) ?_
  refine r_aload_n (pc := 91) X dX5_copy_91 rfl ?_
  apply r_get (pc := 92) X f_X5_18 dX5_copy_92
  · repeat (first | exact mu_self | assumption | refine (mu_ne (by omega)).trans ?_)
  · rfl
  refine r_iconst (pc := 95) (v := nI 0) X dX5_copy_95 (by decide) ?_
  refine r_bipush (pc := 96) (v := nI 6) X dX5_copy_96 (by decide) ?_
  apply r_copyI (pc := 98) X l_X5_49 dX5_copy_98 (by decide) (Nat.le_of_ble_eq_true rfl) (by decide)
  · repeat (first | exact mu_self | assumption | refine (mu_ne (by omega)).trans ?_)
  · repeat (first | exact mu_self | assumption | refine (mu_ne (by omega)).trans ?_)
  refine r_aload_n (pc := 101) X dX5_copy_101 rfl ?_
  apply r_get (pc := 102) X f_X5_21 dX5_copy_102
  · repeat (first | exact mu_self | assumption | refine (mu_ne (by omega)).trans ?_)
  · rfl
  refine r_iconst (pc := 105) (v := nI 0) X dX5_copy_105 (by decide) ?_
  refine r_aload_n (pc := 106) X dX5_copy_106 rfl ?_
  apply r_get (pc := 107) X f_X5_21 dX5_copy_107
  · repeat (first | exact mu_self | assumption | refine (mu_ne (by omega)).trans ?_)
  · rfl
  refine r_iconst (pc := 110) (v := nI 0) X dX5_copy_110 (by decide) ?_
  refine r_iconst (pc := 111) (v := nI 4) X dX5_copy_111 (by decide) ?_
  apply r_copyI (pc := 112) X l_X5_49 dX5_copy_112 (by decide) (Nat.le_of_ble_eq_true rfl) (by decide)
  · repeat (first | exact mu_self | assumption | refine (mu_ne (by omega)).trans ?_)
  · repeat (first | exact mu_self | assumption | refine (mu_ne (by omega)).trans ?_)
  exact r_vret (pc := 115) X dX5_copy_115 (⟨⟨(by repeat (first | exact mu_self | assumption | refine (mu_ne (by omega)).trans ?_)), (by repeat (first | exact mu_self | assumption | refine (mu_ne (by omega)).trans ?_)), (by repeat (first | exact mu_self | assumption | refine (mu_ne (by omega)).trans ?_)), (by repeat (first | exact mu_self | assumption | refine (mu_ne (by omega)).trans ?_)), (by repeat (first | exact mu_self | assumption | refine (mu_ne (by omega)).trans ?_))⟩, (fun q hq => by repeat (first | rfl | refine (mu_ne (by omega)).trans ?_))⟩)
theorem t5_hasRoomFor (hT : ToldAt Γ μ a T) (hI : IT T) {w : Nat} (hw : w < 11) : CT Γ l 0 sz 0 0 mX5_hasRoomFor [.ref a, .int (nI w)] μ (ri (fun r μ' => r = zb (roomT T w) ∧ μ' = μ)) := by
  obtain ⟨g0, g1, g2, g3, g4⟩ := hT
  obtain ⟨i1, i2, i3, -⟩ := hI
  refine CT.go RX5 rfl "hasRoomFor" rfl [some (.ref a), some (.int (nI w))] rfl (by decide) (Nat.le_of_ble_eq_true rfl) ?_
  intro p e R s m args below meth c X hsz
  refine r_iload_n (pc := 0) X dX5_hasRoomFor_0 rfl ?_
  by_cases h0 : w = 0
  · subst h0
    refine r_tableOut (pc := 1) X 84 dX5_hasRoomFor_1 (by decide) (by decide) ?_
    refine r_iconst (pc := 84) (v := nI 1) X dX5_hasRoomFor_84 (by decide) ?_
    exact r_zret (pc := 85) X dX5_hasRoomFor_85 (by first | rfl | decide | exact zb_nar _) (⟨rfl, rfl⟩)
  by_cases h1 : w = 1
  · subst h1
    refine r_tableIn (pc := 1) X 40 dX5_hasRoomFor_1 (by decide) (by decide) rfl (by decide) ?_
    refine r_aload_n (pc := 40) X dX5_hasRoomFor_40 rfl ?_
    apply r_get (pc := 41) X f_X5_27 dX5_hasRoomFor_41
    · repeat (first | exact mu_self | assumption | refine (mu_ne (by omega)).trans ?_)
    · rfl
    refine r_bipush (pc := 44) (v := nI 6) X dX5_hasRoomFor_44 (by decide) ?_
    first | refine r_icmp_geN (pc := 46) X 53 dX5_hasRoomFor_46 (by decide) (by omega) (by omega) (fun h => ?_) (fun h => ?_) | refine r_icmp_ge (pc := 46) X 53 dX5_hasRoomFor_46 (by decide) (fun h => ?_) (fun h => ?_)
    · refine r_iconst (pc := 53) (v := nI 0) X dX5_hasRoomFor_53 (by decide) ?_
      exact r_zret (pc := 54) X dX5_hasRoomFor_54 (by first | rfl | decide | exact zb_nar _) (⟨by show nI 0 = zb (decide (T 0 < 6)); rw [decide_eq_false (by omega)]; rfl, rfl⟩)
    · refine r_iconst (pc := 49) (v := nI 1) X dX5_hasRoomFor_49 (by decide) ?_
      refine r_goto (pc := 50) X 54 dX5_hasRoomFor_50 (by decide) ?_
      exact r_zret (pc := 54) X dX5_hasRoomFor_54 (by first | rfl | decide | exact zb_nar _) (⟨by show nI 1 = zb (decide (T 0 < 6)); rw [decide_eq_true (by omega)]; rfl, rfl⟩)
  by_cases h5 : w < 6
  · have e : roomT T w = decide (T 7 < 6) := by unfold roomT; rw [if_neg h1, if_neg h0, if_pos h5]
    rw [e]
    have ho : (#[39, 54, 54, 54, 54, 69] : Array Int)[((nI w).toInt - 1).toNat]? = some 54 := by
      have : ∀ w, w < 6 → w ≠ 0 → w ≠ 1 → (#[39, 54, 54, 54, 54, 69] : Array Int)[((nI w).toInt - 1).toNat]? = some 54 := by decide +kernel
      exact this w h5 h0 h1
    refine r_tableIn (pc := 1) X 55 dX5_hasRoomFor_1 (by rw [nI_toInt (by omega)]; omega) (by rw [nI_toInt (by omega)]; omega) ho (by decide) ?_
    refine r_aload_n (pc := 55) X dX5_hasRoomFor_55 rfl ?_
    apply r_get (pc := 56) X f_X5_31 dX5_hasRoomFor_56
    · repeat (first | exact mu_self | assumption | refine (mu_ne (by omega)).trans ?_)
    · rfl
    refine r_bipush (pc := 59) (v := nI 6) X dX5_hasRoomFor_59 (by decide) ?_
    first | refine r_icmp_geN (pc := 61) X 68 dX5_hasRoomFor_61 (by decide) (by omega) (by omega) (fun h => ?_) (fun h => ?_) | refine r_icmp_ge (pc := 61) X 68 dX5_hasRoomFor_61 (by decide) (fun h => ?_) (fun h => ?_)
    · refine r_iconst (pc := 68) (v := nI 0) X dX5_hasRoomFor_68 (by decide) ?_
      exact r_zret (pc := 69) X dX5_hasRoomFor_69 (by first | rfl | decide | exact zb_nar _) (⟨by rw [decide_eq_false (by omega)]; rfl, rfl⟩)
    · refine r_iconst (pc := 64) (v := nI 1) X dX5_hasRoomFor_64 (by decide) ?_
      refine r_goto (pc := 65) X 69 dX5_hasRoomFor_65 (by decide) ?_
      exact r_zret (pc := 69) X dX5_hasRoomFor_69 (by first | rfl | decide | exact zb_nar _) (⟨by rw [decide_eq_true (by omega)]; rfl, rfl⟩)
  by_cases h6 : w = 6
  · subst h6
    refine r_tableIn (pc := 1) X 70 dX5_hasRoomFor_1 (by decide) (by decide) rfl (by decide) ?_
    refine r_aload_n (pc := 70) X dX5_hasRoomFor_70 rfl ?_
    apply r_get (pc := 71) X f_X5_34 dX5_hasRoomFor_71
    · repeat (first | exact mu_self | assumption | refine (mu_ne (by omega)).trans ?_)
    · rfl
    refine r_iconst (pc := 74) (v := nI 4) X dX5_hasRoomFor_74 (by decide) ?_
    first | refine r_icmp_geN (pc := 75) X 82 dX5_hasRoomFor_75 (by decide) (by omega) (by omega) (fun h => ?_) (fun h => ?_) | refine r_icmp_ge (pc := 75) X 82 dX5_hasRoomFor_75 (by decide) (fun h => ?_) (fun h => ?_)
    · refine r_iconst (pc := 82) (v := nI 0) X dX5_hasRoomFor_82 (by decide) ?_
      exact r_zret (pc := 83) X dX5_hasRoomFor_83 (by first | rfl | decide | exact zb_nar _) (⟨by show nI 0 = zb (decide (T 20 < 4)); rw [decide_eq_false (by omega)]; rfl, rfl⟩)
    · refine r_iconst (pc := 78) (v := nI 1) X dX5_hasRoomFor_78 (by decide) ?_
      refine r_goto (pc := 79) X 83 dX5_hasRoomFor_79 (by decide) ?_
      exact r_zret (pc := 83) X dX5_hasRoomFor_83 (by first | rfl | decide | exact zb_nar _) (⟨by show nI 1 = zb (decide (T 20 < 4)); rw [decide_eq_true (by omega)]; rfl, rfl⟩)
  · have e : roomT T w = true := by unfold roomT; rw [if_neg h1, if_neg h0, if_neg h5, if_neg h6]
    rw [e]
    refine r_tableOut (pc := 1) X 84 dX5_hasRoomFor_1 (by rw [nI_toInt (by omega)]; omega) (by decide) ?_
    refine r_iconst (pc := 84) (v := nI 1) X dX5_hasRoomFor_84 (by decide) ?_
    exact r_zret (pc := 85) X dX5_hasRoomFor_85 (by first | rfl | decide | exact zb_nar _) (⟨rfl, rfl⟩)
theorem t5_addSheep (hT : ToldAt Γ μ a T) (h6 : T 7 < 6) {kd num : Nat} : CT Γ l 0 sz 0 0 mX5_addSheep [.ref a, .int (nI kd), .int (nI num)] μ (rv (fun μ' => ToldAt Γ μ' a (addShT T kd num) ∧ Fr a 5 μ μ')) := by
  obtain ⟨g0, g1, g2, g3, g4⟩ := hT
  refine CT.go RX5 rfl "addSheep" rfl [some (.ref a), some (.int (nI kd)), some (.int (nI num))] rfl (by decide) (Nat.le_of_ble_eq_true rfl) ?_
  intro p e R s m args below meth c X hsz
  refine r_aload_n (pc := 0) X dX5_addSheep_0 rfl ?_
  apply r_get (pc := 1) X f_X5_15 dX5_addSheep_1
  · repeat (first | exact mu_self | assumption | refine (mu_ne (by omega)).trans ?_)
  · rfl
  refine r_aload_n (pc := 4) X dX5_addSheep_4 rfl ?_
  apply r_get (pc := 5) X f_X5_31 dX5_addSheep_5
  · repeat (first | exact mu_self | assumption | refine (mu_ne (by omega)).trans ?_)
  · rfl
  refine r_iload_n (pc := 8) X dX5_addSheep_8 rfl ?_
  apply r_iast (pc := 9) X dX5_addSheep_9
  · repeat (first | exact mu_self | assumption | refine (mu_ne (by omega)).trans ?_)
  · omega
  · decide
  refine r_aload_n (pc := 10) X dX5_addSheep_10 rfl ?_
  apply r_get (pc := 11) X f_X5_18 dX5_addSheep_11
  · repeat (first | exact mu_self | assumption | refine (mu_ne (by omega)).trans ?_)
  · rfl
  refine r_aload_n (pc := 14) X dX5_addSheep_14 rfl ?_
  apply r_get (pc := 15) X f_X5_31 dX5_addSheep_15
  · repeat (first | exact mu_self | assumption | refine (mu_ne (by omega)).trans ?_)
  · rfl
  refine r_iload_n (pc := 18) X dX5_addSheep_18 rfl ?_
  apply r_iast (pc := 19) X dX5_addSheep_19
  · repeat (first | exact mu_self | assumption | refine (mu_ne (by omega)).trans ?_)
  · omega
  · decide
  refine r_aload_n (pc := 20) X dX5_addSheep_20 rfl ?_
  refine r_dup (pc := 21) X dX5_addSheep_21 rfl ?_
  apply r_get (pc := 22) X f_X5_31 dX5_addSheep_22
  · repeat (first | exact mu_self | assumption | refine (mu_ne (by omega)).trans ?_)
  · rfl
  refine r_iconst (pc := 25) (v := nI 1) X dX5_addSheep_25 (by decide) ?_
  first | refine r_iaddN (pc := 26) X dX5_addSheep_26 ?_ | refine r_iadd (pc := 26) X dX5_addSheep_26 ?_
  first | refine r_putS (pc := 27) X f_X5_31 dX5_addSheep_27 (by first | rfl | assumption | decide | simp [narrow]) (by first | rfl | assumption) (Nat.le_of_ble_eq_true rfl) ?_ | refine r_put (pc := 27) X f_X5_31 dX5_addSheep_27 (by repeat (first | exact mu_self | assumption | refine (mu_ne (by omega)).trans ?_)) (by first | rfl | assumption | decide | simp [narrow]) (by first | rfl | assumption) (Nat.le_of_ble_eq_true rfl) ?_
  refine vV.sub' (fun H hP => ToldAt.of (a := a) (T' := addShT T kd num) hP ?_ (by repeat (first | exact mu_self | assumption | refine (mu_ne (by omega)).trans ?_)) (by repeat (first | exact mu_self | assumption | refine (mu_ne (by omega)).trans ?_)) (by repeat (first | exact mu_self | assumption | refine (mu_ne (by omega)).trans ?_)) (by repeat (first | exact mu_self | assumption | refine (mu_ne (by omega)).trans ?_)) ?_ ?_ ?_ ?_) (fun μ' h => ?_)
  · rw [mu_self]
    have e0 : addShT T kd num 0 = T 0 := by unfold addShT; rw [upN_ne (by omega), upN_ne (by omega), upN_ne (by omega)]
    have e7 : addShT T kd num 7 = T 7 + 1 := by unfold addShT; rw [upN_self]
    have e20 : addShT T kd num 20 = T 20 := by unfold addShT; rw [upN_ne (by omega), upN_ne (by omega), upN_ne (by omega)]
    have e25 : ∀ k, k < 4 → addShT T kd num (25 + k) = T (25 + k) := fun k hk => by unfold addShT; rw [upN_ne (by omega), upN_ne (by omega), upN_ne (by omega)]
    unfold toldO
    rw [e0, e7, e20, e25 0 (by omega), e25 1 (by omega), e25 2 (by omega), e25 3 (by omega)]
    rfl
  · intro i hi; unfold addShT; rw [upN_ne (by omega), upN_ne (by omega), upN_ne (by omega)]
  · intro i hi; unfold addShT upd upN; by_cases h : i = T 7
    · subst h; show _ = nI (if 8 + T 7 = 7 then _ else if 8 + T 7 = 14 + T 7 then _ else if 8 + T 7 = 8 + T 7 then kd else _); rw [if_pos rfl, if_neg (by omega), if_neg (by omega), if_pos rfl]
    · simp [h]; split <;> first | omega | (split <;> first | omega | rfl)
  · intro i hi; unfold addShT upd upN; by_cases h : i = T 7
    · subst h; show _ = nI (if 14 + T 7 = 7 then _ else if 14 + T 7 = 14 + T 7 then num else _); rw [if_pos rfl, if_neg (by omega), if_pos rfl]
    · simp [h]; split <;> first | omega | (split <;> first | omega | rfl)
  · intro i hi; unfold addShT; rw [upN_ne (by omega), upN_ne (by omega), upN_ne (by omega)]
  exact r_vret (pc := 30) X dX5_addSheep_30 (⟨h.1, fun q hq => (h.2 q hq).trans (by repeat (first | rfl | refine (mu_ne (by omega)).trans ?_))⟩)
end S12
end
section
section S13
variable {Γ : KK} {l : Launch} {sz : Nat} {μ : MM} {a : Nat} {T : Nat → Nat}
theorem tellT_1 (T : Nat → Nat) (num : Nat) : tellT T 1 num = upN (upN T (1 + T 0) num) 0 (T 0 + 1) := by unfold tellT; rw [if_neg (by decide), if_pos rfl]
theorem tellT_6 (T : Nat → Nat) (num : Nat) : tellT T 6 num = upN (upN T (21 + T 20) num) 20 (T 20 + 1) := by unfold tellT; rw [if_neg (by decide), if_neg (by decide), if_neg (by decide), if_pos rfl]
theorem tellT_s (T : Nat → Nat) (kd num : Nat) (h : kd < 4) : tellT T (2 + kd) num = addShT T kd num := by unfold tellT; rw [if_neg (by omega), if_neg (by omega), if_pos (by omega)]; congr 1; omega
theorem tellT_7 (T : Nat → Nat) (k num : Nat) : tellT T (7 + k) num = upN T (25 + k) num := by unfold tellT; rw [if_neg (by omega), if_neg (by omega), if_neg (by omega), if_neg (by omega)]; congr 1; omega
theorem t5_tell (hT : ToldAt Γ μ a T) (hI : IT T) {w num : Nat} (hw : w < 11) (hr : roomT T w = true) : CT Γ l 1 sz 0 0 mX5_tell [.ref a, .int (nI w), .int (nI num)] μ (rv (fun μ' => ToldAt Γ μ' a (tellT T w num) ∧ Fr a 5 μ μ')) := by
  have hT0 := hT
  obtain ⟨g0, g1, g2, g3, g4⟩ := hT
  refine CT.go RX5 rfl "tell" rfl [some (.ref a), some (.int (nI w)), some (.int (nI num))] rfl (by decide) (Nat.le_of_ble_eq_true rfl) ?_
  intro p e R s m args below meth c X hsz
  refine r_aload_n (pc := 0) X dX5_tell_0 rfl ?_
  refine r_iload_n (pc := 1) X dX5_tell_1 rfl ?_
  refine c_i X (rV (pc := 2) (ci := 5) X l_X5_55 (t5_hasRoomFor hT0 hI hw) dX5_tell_2 (by repeat (first | exact mu_self | assumption | refine (mu_ne (by omega)).trans ?_)) rfl rfl rfl (Nat.le_of_ble_eq_true rfl) (by decide) (Nat.le_of_ble_eq_true rfl) (Nat.le_of_ble_eq_true rfl)) ?_
  rintro _ μq ⟨rfl, hμq⟩
  rw [hμq]
  clear hμq μq
  rw [hr]
  refine r_if_neZ (pc := 5) X 9 dX5_tell_5 (by decide) (fun _ => ?_) (fun h => by cases h)
  refine r_iload_n (pc := 9) X dX5_tell_9 rfl ?_
  rcases (show w = 0 ∨ w = 1 ∨ w = 2 ∨ w = 3 ∨ w = 4 ∨ w = 5 ∨ w = 6 ∨ w = 7 ∨ w = 8 ∨ w = 9 ∨ w = 10 by omega) with rfl | rfl | rfl | rfl | rfl | rfl | rfl | rfl | rfl | rfl | rfl
  · refine r_tableIn (pc := 10) X 68 dX5_tell_10 (by decide) (by decide) rfl (by decide) ?_
    refine r_aload_n (pc := 68) X dX5_tell_68 rfl ?_
    refine c_v X (rV (pc := 69) (ci := 5) X l_X5_24 (t5_reset hT0) dX5_tell_69 (by repeat (first | exact mu_self | assumption | refine (mu_ne (by omega)).trans ?_)) rfl rfl rfl (Nat.le_of_ble_eq_true rfl) (by decide) (Nat.le_of_ble_eq_true rfl) (Nat.le_of_ble_eq_true rfl)) ?_
    rintro μ1 h
    refine r_goto (pc := 72) X 183 dX5_tell_72 (by decide) ?_
    exact r_vret (pc := 183) X dX5_tell_183 (h)
  · refine r_tableIn (pc := 10) X 75 dX5_tell_10 (by decide) (by decide) rfl (by decide) ?_
    have hm : T 0 < 6 := by unfold roomT at hr; simpa using hr
    refine r_aload_n (pc := 75) X dX5_tell_75 rfl ?_
    apply r_get (pc := 76) X f_X5_9 dX5_tell_76
    · repeat (first | exact mu_self | assumption | refine (mu_ne (by omega)).trans ?_)
    · rfl
    refine r_aload_n (pc := 79) X dX5_tell_79 rfl ?_
    refine r_dup (pc := 80) X dX5_tell_80 rfl ?_
    apply r_get (pc := 81) X f_X5_27 dX5_tell_81
    · repeat (first | exact mu_self | assumption | refine (mu_ne (by omega)).trans ?_)
    · rfl
    refine r_dup_x1 (pc := 84) X dX5_tell_84 rfl rfl ?_
    refine r_iconst (pc := 85) (v := nI 1) X dX5_tell_85 (by decide) ?_
    first | refine r_iaddN (pc := 86) X dX5_tell_86 ?_ | refine r_iadd (pc := 86) X dX5_tell_86 ?_
    first | refine r_putS (pc := 87) X f_X5_27 dX5_tell_87 (by first | rfl | assumption | decide | simp [narrow]) (by first | rfl | assumption) (Nat.le_of_ble_eq_true rfl) ?_ | refine r_put (pc := 87) X f_X5_27 dX5_tell_87 (by repeat (first | exact mu_self | assumption | refine (mu_ne (by omega)).trans ?_)) (by first | rfl | assumption | decide | simp [narrow]) (by first | rfl | assumption) (Nat.le_of_ble_eq_true rfl) ?_
    refine r_iload_n (pc := 90) X dX5_tell_90 rfl ?_
    apply r_iast (pc := 91) X dX5_tell_91
    · repeat (first | exact mu_self | assumption | refine (mu_ne (by omega)).trans ?_)
    · omega
    · decide
    refine r_goto (pc := 92) X 183 dX5_tell_92 (by decide) ?_
    refine vV.sub' (fun H hP => ToldAt.of (a := a) (T' := tellT T 1 num) hP ?_ (by repeat (first | exact mu_self | assumption | refine (mu_ne (by omega)).trans ?_)) (by repeat (first | exact mu_self | assumption | refine (mu_ne (by omega)).trans ?_)) (by repeat (first | exact mu_self | assumption | refine (mu_ne (by omega)).trans ?_)) (by repeat (first | exact mu_self | assumption | refine (mu_ne (by omega)).trans ?_)) ?_ ?_ ?_ ?_) (fun μ' h => ?_)
    · refine (mu_ne (by omega)).trans ?_
      rw [mu_self]
      have e0 : tellT T 1 num 0 = T 0 + 1 := by rw [tellT_1, upN_self]
      have e7 : tellT T 1 num 7 = T 7 := by rw [tellT_1, upN_ne (by omega), upN_ne (by omega)]
      have e20 : ∀ k, k < 9 → tellT T 1 num (20 + k) = T (20 + k) := fun k hk => by rw [tellT_1, upN_ne (by omega), upN_ne (by omega)]
      unfold toldO
      rw [e0, e7, e20 0 (by omega), e20 5 (by omega), e20 6 (by omega), e20 7 (by omega), e20 8 (by omega)]
      rfl
    · intro i hi
      rw [tellT_1, upN_ne (by omega)]
      unfold upd upN
      by_cases h : i = T 0
      · subst h; simp
      · rw [if_neg h, if_neg (by omega)]
    · intro i hi; rw [tellT_1, upN_ne (by omega), upN_ne (by omega)]
    · intro i hi; rw [tellT_1, upN_ne (by omega), upN_ne (by omega)]
    · intro i hi; rw [tellT_1, upN_ne (by omega), upN_ne (by omega)]
    exact r_vret (pc := 183) X dX5_tell_183 (⟨h.1, fun q hq => (h.2 q hq).trans (by repeat (first | rfl | refine (mu_ne (by omega)).trans ?_))⟩)
  · refine r_tableIn (pc := 10) X 95 dX5_tell_10 (by decide) (by decide) rfl (by decide) ?_
    have hm : T 7 < 6 := by unfold roomT at hr; simpa using hr
    refine r_aload_n (pc := 95) X dX5_tell_95 rfl ?_
    refine r_iconst (pc := 96) (v := nI 0) X dX5_tell_96 (by decide) ?_
    refine r_iload_n (pc := 97) X dX5_tell_97 rfl ?_
    refine c_v X (rV (pc := 98) (ci := 5) X l_X5_59 (t5_addSheep hT0 hm) dX5_tell_98 (by repeat (first | exact mu_self | assumption | refine (mu_ne (by omega)).trans ?_)) rfl rfl rfl (Nat.le_of_ble_eq_true rfl) (by decide) (Nat.le_of_ble_eq_true rfl) (Nat.le_of_ble_eq_true rfl)) ?_
    rintro μ1 h
    refine r_goto (pc := 101) X 183 dX5_tell_101 (by decide) ?_
    exact r_vret (pc := 183) X dX5_tell_183 (h)
  · refine r_tableIn (pc := 10) X 104 dX5_tell_10 (by decide) (by decide) rfl (by decide) ?_
    have hm : T 7 < 6 := by unfold roomT at hr; simpa using hr
    refine r_aload_n (pc := 104) X dX5_tell_104 rfl ?_
    refine r_iconst (pc := 105) (v := nI 1) X dX5_tell_105 (by decide) ?_
    refine r_iload_n (pc := 106) X dX5_tell_106 rfl ?_
    refine c_v X (rV (pc := 107) (ci := 5) X l_X5_59 (t5_addSheep hT0 hm) dX5_tell_107 (by repeat (first | exact mu_self | assumption | refine (mu_ne (by omega)).trans ?_)) rfl rfl rfl (Nat.le_of_ble_eq_true rfl) (by decide) (Nat.le_of_ble_eq_true rfl) (Nat.le_of_ble_eq_true rfl)) ?_
    rintro μ1 h
    refine r_goto (pc := 110) X 183 dX5_tell_110 (by decide) ?_
    exact r_vret (pc := 183) X dX5_tell_183 (h)
  · refine r_tableIn (pc := 10) X 113 dX5_tell_10 (by decide) (by decide) rfl (by decide) ?_
    have hm : T 7 < 6 := by unfold roomT at hr; simpa using hr
    refine r_aload_n (pc := 113) X dX5_tell_113 rfl ?_
    refine r_iconst (pc := 114) (v := nI 2) X dX5_tell_114 (by decide) ?_
    refine r_iload_n (pc := 115) X dX5_tell_115 rfl ?_
    refine c_v X (rV (pc := 116) (ci := 5) X l_X5_59 (t5_addSheep hT0 hm) dX5_tell_116 (by repeat (first | exact mu_self | assumption | refine (mu_ne (by omega)).trans ?_)) rfl rfl rfl (Nat.le_of_ble_eq_true rfl) (by decide) (Nat.le_of_ble_eq_true rfl) (Nat.le_of_ble_eq_true rfl)) ?_
    rintro μ1 h
    refine r_goto (pc := 119) X 183 dX5_tell_119 (by decide) ?_
    exact r_vret (pc := 183) X dX5_tell_183 (h)
  · refine r_tableIn (pc := 10) X 122 dX5_tell_10 (by decide) (by decide) rfl (by decide) ?_
    have hm : T 7 < 6 := by unfold roomT at hr; simpa using hr
    refine r_aload_n (pc := 122) X dX5_tell_122 rfl ?_
    refine r_iconst (pc := 123) (v := nI 3) X dX5_tell_123 (by decide) ?_
    refine r_iload_n (pc := 124) X dX5_tell_124 rfl ?_
    refine c_v X (rV (pc := 125) (ci := 5) X l_X5_59 (t5_addSheep hT0 hm) dX5_tell_125 (by repeat (first | exact mu_self | assumption | refine (mu_ne (by omega)).trans ?_)) rfl rfl rfl (Nat.le_of_ble_eq_true rfl) (by decide) (Nat.le_of_ble_eq_true rfl) (Nat.le_of_ble_eq_true rfl)) ?_
    rintro μ1 h
    refine r_goto (pc := 128) X 183 dX5_tell_128 (by decide) ?_
    exact r_vret (pc := 183) X dX5_tell_183 (h)
  · refine r_tableIn (pc := 10) X 131 dX5_tell_10 (by decide) (by decide) rfl (by decide) ?_
    have hm : T 20 < 4 := by unfold roomT at hr; simpa using hr
    refine r_aload_n (pc := 131) X dX5_tell_131 rfl ?_
    apply r_get (pc := 132) X f_X5_21 dX5_tell_132
    · repeat (first | exact mu_self | assumption | refine (mu_ne (by omega)).trans ?_)
    · rfl
    refine r_aload_n (pc := 135) X dX5_tell_135 rfl ?_
    refine r_dup (pc := 136) X dX5_tell_136 rfl ?_
    apply r_get (pc := 137) X f_X5_34 dX5_tell_137
    · repeat (first | exact mu_self | assumption | refine (mu_ne (by omega)).trans ?_)
    · rfl
    refine r_dup_x1 (pc := 140) X dX5_tell_140 rfl rfl ?_
    refine r_iconst (pc := 141) (v := nI 1) X dX5_tell_141 (by decide) ?_
    first | refine r_iaddN (pc := 142) X dX5_tell_142 ?_ | refine r_iadd (pc := 142) X dX5_tell_142 ?_
    first | refine r_putS (pc := 143) X f_X5_34 dX5_tell_143 (by first | rfl | assumption | decide | simp [narrow]) (by first | rfl | assumption) (Nat.le_of_ble_eq_true rfl) ?_ | refine r_put (pc := 143) X f_X5_34 dX5_tell_143 (by repeat (first | exact mu_self | assumption | refine (mu_ne (by omega)).trans ?_)) (by first | rfl | assumption | decide | simp [narrow]) (by first | rfl | assumption) (Nat.le_of_ble_eq_true rfl) ?_
    refine r_iload_n (pc := 146) X dX5_tell_146 rfl ?_
    apply r_iast (pc := 147) X dX5_tell_147
    · repeat (first | exact mu_self | assumption | refine (mu_ne (by omega)).trans ?_)
    · omega
    · decide
    refine r_goto (pc := 148) X 183 dX5_tell_148 (by decide) ?_
    refine vV.sub' (fun H hP => ToldAt.of (a := a) (T' := tellT T 6 num) hP ?_ (by repeat (first | exact mu_self | assumption | refine (mu_ne (by omega)).trans ?_)) (by repeat (first | exact mu_self | assumption | refine (mu_ne (by omega)).trans ?_)) (by repeat (first | exact mu_self | assumption | refine (mu_ne (by omega)).trans ?_)) (by repeat (first | exact mu_self | assumption | refine (mu_ne (by omega)).trans ?_)) ?_ ?_ ?_ ?_) (fun μ' h => ?_)
    · refine (mu_ne (by omega)).trans ?_
      rw [mu_self]
      have e0 : tellT T 6 num 0 = T 0 := by rw [tellT_6, upN_ne (by omega), upN_ne (by omega)]
      have e7 : tellT T 6 num 7 = T 7 := by rw [tellT_6, upN_ne (by omega), upN_ne (by omega)]
      have e20 : tellT T 6 num 20 = T 20 + 1 := by rw [tellT_6, upN_self]
      have e25 : ∀ k, k < 4 → tellT T 6 num (25 + k) = T (25 + k) := fun k hk => by rw [tellT_6, upN_ne (by omega), upN_ne (by omega)]
      unfold toldO
      rw [e0, e7, e20, e25 0 (by omega), e25 1 (by omega), e25 2 (by omega), e25 3 (by omega)]
      rfl
    · intro i hi; rw [tellT_6, upN_ne (by omega), upN_ne (by omega)]
    · intro i hi; rw [tellT_6, upN_ne (by omega), upN_ne (by omega)]
    · intro i hi; rw [tellT_6, upN_ne (by omega), upN_ne (by omega)]
    · intro i hi
      rw [tellT_6, upN_ne (by omega)]
      unfold upd upN
      by_cases h : i = T 20
      · subst h; simp
      · rw [if_neg h, if_neg (by omega)]
    exact r_vret (pc := 183) X dX5_tell_183 (⟨h.1, fun q hq => (h.2 q hq).trans (by repeat (first | rfl | refine (mu_ne (by omega)).trans ?_))⟩)
  · refine r_tableIn (pc := 10) X 151 dX5_tell_10 (by decide) (by decide) rfl (by decide) ?_
    refine r_aload_n (pc := 151) X dX5_tell_151 rfl ?_
    refine r_iload_n (pc := 152) X dX5_tell_152 rfl ?_
    first | refine r_putS (pc := 153) X f_X5_37 dX5_tell_153 (by first | rfl | assumption | decide | simp [narrow]) (by first | rfl | assumption) (Nat.le_of_ble_eq_true rfl) ?_ | refine r_put (pc := 153) X f_X5_37 dX5_tell_153 (by repeat (first | exact mu_self | assumption | refine (mu_ne (by omega)).trans ?_)) (by first | rfl | assumption | decide | simp [narrow]) (by first | rfl | assumption) (Nat.le_of_ble_eq_true rfl) ?_
    refine r_goto (pc := 156) X 183 dX5_tell_156 (by decide) ?_
    have e : tellT T 7 num = upN T 25 num := tellT_7 T 0 num
    refine vV.sub' (fun H hP => ToldAt.of (a := a) (T' := tellT T 7 num) hP mu_self (by repeat (first | exact mu_self | assumption | refine (mu_ne (by omega)).trans ?_)) (by repeat (first | exact mu_self | assumption | refine (mu_ne (by omega)).trans ?_)) (by repeat (first | exact mu_self | assumption | refine (mu_ne (by omega)).trans ?_)) (by repeat (first | exact mu_self | assumption | refine (mu_ne (by omega)).trans ?_)) (fun i hi => by rw [e, upN_ne (by omega)]) (fun i hi => by rw [e, upN_ne (by omega)]) (fun i hi => by rw [e, upN_ne (by omega)]) (fun i hi => by rw [e, upN_ne (by omega)])) (fun μ' h => ?_)
    exact r_vret (pc := 183) X dX5_tell_183 (⟨h.1, fun q hq => (h.2 q hq).trans (by repeat (first | rfl | refine (mu_ne (by omega)).trans ?_))⟩)
  · refine r_tableIn (pc := 10) X 159 dX5_tell_10 (by decide) (by decide) rfl (by decide) ?_
    refine r_aload_n (pc := 159) X dX5_tell_159 rfl ?_
    refine r_iload_n (pc := 160) X dX5_tell_160 rfl ?_
    first | refine r_putS (pc := 161) X f_X5_40 dX5_tell_161 (by first | rfl | assumption | decide | simp [narrow]) (by first | rfl | assumption) (Nat.le_of_ble_eq_true rfl) ?_ | refine r_put (pc := 161) X f_X5_40 dX5_tell_161 (by repeat (first | exact mu_self | assumption | refine (mu_ne (by omega)).trans ?_)) (by first | rfl | assumption | decide | simp [narrow]) (by first | rfl | assumption) (Nat.le_of_ble_eq_true rfl) ?_
    refine r_goto (pc := 164) X 183 dX5_tell_164 (by decide) ?_
    have e : tellT T 8 num = upN T 26 num := tellT_7 T 1 num
    refine vV.sub' (fun H hP => ToldAt.of (a := a) (T' := tellT T 8 num) hP mu_self (by repeat (first | exact mu_self | assumption | refine (mu_ne (by omega)).trans ?_)) (by repeat (first | exact mu_self | assumption | refine (mu_ne (by omega)).trans ?_)) (by repeat (first | exact mu_self | assumption | refine (mu_ne (by omega)).trans ?_)) (by repeat (first | exact mu_self | assumption | refine (mu_ne (by omega)).trans ?_)) (fun i hi => by rw [e, upN_ne (by omega)]) (fun i hi => by rw [e, upN_ne (by omega)]) (fun i hi => by rw [e, upN_ne (by omega)]) (fun i hi => by rw [e, upN_ne (by omega)])) (fun μ' h => ?_)
    exact r_vret (pc := 183) X dX5_tell_183 (⟨h.1, fun q hq => (h.2 q hq).trans (by repeat (first | rfl | refine (mu_ne (by omega)).trans ?_))⟩)
  · refine r_tableIn (pc := 10) X 167 dX5_tell_10 (by decide) (by decide) rfl (by decide) ?_
    refine r_aload_n (pc := 167) X dX5_tell_167 rfl ?_
    refine r_iload_n (pc := 168) X dX5_tell_168 rfl ?_
    first | refine r_putS (pc := 169) X f_X5_43 dX5_tell_169 (by first | rfl | assumption | decide | simp [narrow]) (by first | rfl | assumption) (Nat.le_of_ble_eq_true rfl) ?_ | refine r_put (pc := 169) X f_X5_43 dX5_tell_169 (by repeat (first | exact mu_self | assumption | refine (mu_ne (by omega)).trans ?_)) (by first | rfl | assumption | decide | simp [narrow]) (by first | rfl | assumption) (Nat.le_of_ble_eq_true rfl) ?_
    refine r_goto (pc := 172) X 183 dX5_tell_172 (by decide) ?_
    have e : tellT T 9 num = upN T 27 num := tellT_7 T 2 num
    refine vV.sub' (fun H hP => ToldAt.of (a := a) (T' := tellT T 9 num) hP mu_self (by repeat (first | exact mu_self | assumption | refine (mu_ne (by omega)).trans ?_)) (by repeat (first | exact mu_self | assumption | refine (mu_ne (by omega)).trans ?_)) (by repeat (first | exact mu_self | assumption | refine (mu_ne (by omega)).trans ?_)) (by repeat (first | exact mu_self | assumption | refine (mu_ne (by omega)).trans ?_)) (fun i hi => by rw [e, upN_ne (by omega)]) (fun i hi => by rw [e, upN_ne (by omega)]) (fun i hi => by rw [e, upN_ne (by omega)]) (fun i hi => by rw [e, upN_ne (by omega)])) (fun μ' h => ?_)
    exact r_vret (pc := 183) X dX5_tell_183 (⟨h.1, fun q hq => (h.2 q hq).trans (by repeat (first | rfl | refine (mu_ne (by omega)).trans ?_))⟩)
  · refine r_tableIn (pc := 10) X 175 dX5_tell_10 (by decide) (by decide) rfl (by decide) ?_
    refine r_aload_n (pc := 175) X dX5_tell_175 rfl ?_
    refine r_iload_n (pc := 176) X dX5_tell_176 rfl ?_
    first | refine r_putS (pc := 177) X f_X5_46 dX5_tell_177 (by first | rfl | assumption | decide | simp [narrow]) (by first | rfl | assumption) (Nat.le_of_ble_eq_true rfl) ?_ | refine r_put (pc := 177) X f_X5_46 dX5_tell_177 (by repeat (first | exact mu_self | assumption | refine (mu_ne (by omega)).trans ?_)) (by first | rfl | assumption | decide | simp [narrow]) (by first | rfl | assumption) (Nat.le_of_ble_eq_true rfl) ?_
    refine r_goto (pc := 180) X 183 dX5_tell_180 (by decide) ?_
    have e : tellT T 10 num = upN T 28 num := tellT_7 T 3 num
    refine vV.sub' (fun H hP => ToldAt.of (a := a) (T' := tellT T 10 num) hP mu_self (by repeat (first | exact mu_self | assumption | refine (mu_ne (by omega)).trans ?_)) (by repeat (first | exact mu_self | assumption | refine (mu_ne (by omega)).trans ?_)) (by repeat (first | exact mu_self | assumption | refine (mu_ne (by omega)).trans ?_)) (by repeat (first | exact mu_self | assumption | refine (mu_ne (by omega)).trans ?_)) (fun i hi => by rw [e, upN_ne (by omega)]) (fun i hi => by rw [e, upN_ne (by omega)]) (fun i hi => by rw [e, upN_ne (by omega)]) (fun i hi => by rw [e, upN_ne (by omega)])) (fun μ' h => ?_)
    exact r_vret (pc := 183) X dX5_tell_183 (⟨h.1, fun q hq => (h.2 q hq).trans (by repeat (first | rfl | refine (mu_ne (by omega)).trans ?_))⟩)
theorem t5_bears (hT : ToldAt Γ μ a T) (hI : IT T) {w : Nat} (hw : w < 6) : CT Γ l 2 sz 0 0 mX5_bears [.ref a, .int (nI w)] μ (ri (fun r μ' => r = nI (brT T w) ∧ μ' = μ)) := by
  have hT0 := hT
  obtain ⟨g0, g1, g2, g3, g4⟩ := hT
  refine CT.go RX5 rfl "bears" rfl [some (.ref a), some (.int (nI w))] rfl (by decide) (Nat.le_of_ble_eq_true rfl) ?_
  intro p e R s m args below meth c X hsz
  refine r_aload_n (pc := 0) X dX5_bears_0 rfl ?_
  refine r_iload_n (pc := 1) X dX5_bears_1 rfl ?_
  refine c_i X (rV (pc := 2) (ci := 5) X l_X5_67 (t5_hasSheep hT0 hI.2.1 (nI w)) dX5_bears_2 (by repeat (first | exact mu_self | assumption | refine (mu_ne (by omega)).trans ?_)) rfl rfl rfl (Nat.le_of_ble_eq_true rfl) (by decide) (Nat.le_of_ble_eq_true rfl) (Nat.le_of_ble_eq_true rfl)) ?_
  rintro _ μq ⟨rfl, hμq⟩
  rw [hμq]
  clear hμq μq
  rw [nI_toInt (by omega)]
  first | refine r_if_eqZ (pc := 5) X 26 dX5_bears_5 (by decide) (fun h => ?_) (fun h => ?_) | refine r_if_eqN (pc := 5) X 26 dX5_bears_5 (by decide) (by omega) (fun h => ?_) (fun h => ?_) | refine r_if_eq (pc := 5) X 26 dX5_bears_5 (by decide) (fun h => ?_) (fun h => ?_)
  · have h1 : ¬ w < T 7 := by simp at h; omega
    refine r_iconst (pc := 26) (v := nI 0) X dX5_bears_26 (by decide) ?_
    exact r_iret (pc := 27) X dX5_bears_27 (⟨by unfold brT; rw [if_neg h1], rfl⟩)
  · have h1 : w < T 7 := by simp at h; omega
    refine r_aload_n (pc := 8) X dX5_bears_8 rfl ?_
    apply r_get (pc := 9) X f_X5_15 dX5_bears_9
    · repeat (first | exact mu_self | assumption | refine (mu_ne (by omega)).trans ?_)
    · rfl
    refine r_iload_n (pc := 12) X dX5_bears_12 rfl ?_
    apply r_iald (pc := 13) X dX5_bears_13
    · repeat (first | exact mu_self | assumption | refine (mu_ne (by omega)).trans ?_)
    · omega
    · decide
    refine r_aload_n (pc := 14) X dX5_bears_14 rfl ?_
    apply r_get (pc := 15) X f_X5_18 dX5_bears_15
    · repeat (first | exact mu_self | assumption | refine (mu_ne (by omega)).trans ?_)
    · rfl
    refine r_iload_n (pc := 18) X dX5_bears_18 rfl ?_
    apply r_iald (pc := 19) X dX5_bears_19
    · repeat (first | exact mu_self | assumption | refine (mu_ne (by omega)).trans ?_)
    · omega
    · decide
    refine c_i X (rSN (pc := 20) X l_X5_70 (t6_bearing (hI.2.2.2.2.1 w hw) (Nat.lt_of_le_of_lt (hI.2.2.2.2.2.1 w hw) (by decide))) dX5_bears_20 rfl rfl (Nat.le_of_ble_eq_true rfl) (by decide) (Nat.le_of_ble_eq_true rfl) (Nat.le_of_ble_eq_true rfl)) ?_
    rintro _ μq ⟨rfl, hμq⟩
    rw [hμq]
    clear hμq μq
    refine r_goto (pc := 23) X 27 dX5_bears_23 (by decide) ?_
    exact r_iret (pc := 27) X dX5_bears_27 (⟨by unfold brT; rw [if_pos h1], rfl⟩)
theorem t5_bearsMan (hT : ToldAt Γ μ a T) (hI : IT T) {w m' : Nat} (hw : w < 6) (hm : m' < 6) : CT Γ l 3 sz 0 0 mX5_bearsMan [.ref a, .int (nI w), .int (nI m')] μ (ri (fun r μ' => r = zb (brM T w m') ∧ μ' = μ)) := by
  have hT0 := hT
  obtain ⟨g0, g1, g2, g3, g4⟩ := hT
  have hb := brT_le hI hw
  have hw1 := hI.2.2.2.1 m' hm
  refine CT.go RX5 rfl "bearsMan" rfl [some (.ref a), some (.int (nI w)), some (.int (nI m'))] rfl (by decide) (Nat.le_of_ble_eq_true rfl) ?_
  intro p e R s m args below meth c X hsz
  refine r_aload_n (pc := 0) X dX5_bearsMan_0 rfl ?_
  refine r_iload_n (pc := 1) X dX5_bearsMan_1 rfl ?_
  refine c_i X (rV (pc := 2) (ci := 5) X l_X5_67 (t5_hasSheep hT0 hI.2.1 (nI w)) dX5_bearsMan_2 (by repeat (first | exact mu_self | assumption | refine (mu_ne (by omega)).trans ?_)) rfl rfl rfl (Nat.le_of_ble_eq_true rfl) (by decide) (Nat.le_of_ble_eq_true rfl) (Nat.le_of_ble_eq_true rfl)) ?_
  rintro _ μq ⟨rfl, hμq⟩
  rw [hμq]
  clear hμq μq
  rw [nI_toInt (by omega)]
  first | refine r_if_eqZ (pc := 5) X 34 dX5_bearsMan_5 (by decide) (fun h => ?_) (fun h => ?_) | refine r_if_eqN (pc := 5) X 34 dX5_bearsMan_5 (by decide) (by omega) (fun h => ?_) (fun h => ?_) | refine r_if_eq (pc := 5) X 34 dX5_bearsMan_5 (by decide) (fun h => ?_) (fun h => ?_)
  · have h1 : ¬ w < T 7 := by simp at h; omega
    refine r_iconst (pc := 34) (v := nI 0) X dX5_bearsMan_34 (by decide) ?_
    exact r_zret (pc := 35) X dX5_bearsMan_35 (by first | rfl | decide | exact zb_nar _) (⟨by unfold brM; rw [decide_eq_false (by omega)]; rfl, rfl⟩)
  · have h1 : w < T 7 := by simp at h; omega
    refine r_aload_n (pc := 8) X dX5_bearsMan_8 rfl ?_
    refine r_iload_n (pc := 9) X dX5_bearsMan_9 rfl ?_
    refine c_i X (rV (pc := 10) (ci := 5) X l_X5_74 (t5_hasMan hT0 hI.1 (nI m')) dX5_bearsMan_10 (by repeat (first | exact mu_self | assumption | refine (mu_ne (by omega)).trans ?_)) rfl rfl rfl (Nat.le_of_ble_eq_true rfl) (by decide) (Nat.le_of_ble_eq_true rfl) (Nat.le_of_ble_eq_true rfl)) ?_
    rintro _ μq ⟨rfl, hμq⟩
    rw [hμq]
    clear hμq μq
    rw [nI_toInt (by omega)]
    first | refine r_if_eqZ (pc := 13) X 34 dX5_bearsMan_13 (by decide) (fun h2 => ?_) (fun h2 => ?_) | refine r_if_eqN (pc := 13) X 34 dX5_bearsMan_13 (by decide) (by omega) (fun h2 => ?_) (fun h2 => ?_) | refine r_if_eq (pc := 13) X 34 dX5_bearsMan_13 (by decide) (fun h2 => ?_) (fun h2 => ?_)
    · have h3 : ¬ m' < T 0 := by simp at h2; omega
      refine r_iconst (pc := 34) (v := nI 0) X dX5_bearsMan_34 (by decide) ?_
      exact r_zret (pc := 35) X dX5_bearsMan_35 (by first | rfl | decide | exact zb_nar _) (⟨by unfold brM; rw [decide_eq_false (by omega)]; rfl, rfl⟩)
    · have h3 : m' < T 0 := by simp at h2; omega
      refine r_aload_n (pc := 16) X dX5_bearsMan_16 rfl ?_
      refine r_iload_n (pc := 17) X dX5_bearsMan_17 rfl ?_
      refine c_i X (rV (pc := 18) (ci := 5) X l_X5_77 (t5_bears hT0 hI hw) dX5_bearsMan_18 (by repeat (first | exact mu_self | assumption | refine (mu_ne (by omega)).trans ?_)) rfl rfl rfl (Nat.le_of_ble_eq_true rfl) (by decide) (Nat.le_of_ble_eq_true rfl) (Nat.le_of_ble_eq_true rfl)) ?_
      rintro _ μq ⟨rfl, hμq⟩
      rw [hμq]
      clear hμq μq
      refine r_aload_n (pc := 21) X dX5_bearsMan_21 rfl ?_
      apply r_get (pc := 22) X f_X5_9 dX5_bearsMan_22
      · repeat (first | exact mu_self | assumption | refine (mu_ne (by omega)).trans ?_)
      · rfl
      refine r_iload_n (pc := 25) X dX5_bearsMan_25 rfl ?_
      apply r_iald (pc := 26) X dX5_bearsMan_26
      · repeat (first | exact mu_self | assumption | refine (mu_ne (by omega)).trans ?_)
      · omega
      · decide
      first | refine r_icmp_ltN (pc := 27) X 34 dX5_bearsMan_27 (by decide) (by omega) (by omega) (fun h4 => ?_) (fun h4 => ?_) | refine r_icmp_lt (pc := 27) X 34 dX5_bearsMan_27 (by decide) (fun h4 => ?_) (fun h4 => ?_)
      · refine r_iconst (pc := 34) (v := nI 0) X dX5_bearsMan_34 (by decide) ?_
        exact r_zret (pc := 35) X dX5_bearsMan_35 (by first | rfl | decide | exact zb_nar _) (⟨by unfold brM; rw [decide_eq_false (by omega)]; rfl, rfl⟩)
      · refine r_iconst (pc := 30) (v := nI 1) X dX5_bearsMan_30 (by decide) ?_
        refine r_goto (pc := 31) X 35 dX5_bearsMan_31 (by decide) ?_
        exact r_zret (pc := 35) X dX5_bearsMan_35 (by first | rfl | decide | exact zb_nar _) (⟨by unfold brM; rw [decide_eq_true (by omega)]; rfl, rfl⟩)
theorem mkb_succ (n : Nat) (p : Nat → Bool) : mkb (n + 1) p = mkb n p ||| (if p n then 1 <<< n else 0) := rfl
theorem t5_comers (hT : ToldAt Γ μ a T) (hI : IT T) {nm : Nat} (hn : nm < 8) : CT Γ l 1 sz 0 0 mX5_comers [.ref a, .int (nI nm)] μ (ri (fun r μ' => r = nI (comT T nm) ∧ μ' = μ)) := by
  obtain ⟨g0, g1, g2, g3, g4⟩ := hT
  have h20 := hI.2.2.1
  refine CT.go RX5 rfl "comers" rfl [some (.ref a), some (.int (nI nm)), none, none] rfl (by decide) (Nat.le_of_ble_eq_true rfl) ?_
  intro p e R s m args below meth c X hsz
  refine r_iconst (pc := 0) (v := nI 0) X dX5_comers_0 (by decide) ?_
  refine r_istore_n (pc := 1) X dX5_comers_1 (by decide) rfl ?_
  refine r_iconst (pc := 2) (v := nI 0) X dX5_comers_2 (by decide) ?_
  refine r_istore_n (pc := 3) X dX5_comers_3 (by decide) rfl ?_
  have key : ∀ (N i : Nat), i + N = T 20 → vV Γ p l e R s m args below meth c (vQ Γ s args below 0 0 (ri (fun r μ' => r = nI (comT T nm) ∧ μ' = μ))) 4 0 0 4 [some (.ref (a)), some (.int (nI (nm))), some (.int (nI (mkb i (fun k => !(T (21 + k)).testBit nm)))), some (.int (nI (i)))] [] (μ) := by
    intro N
    induction N with
    | zero =>
      intro i hi
      have hi2 : i = T 20 := by omega
      subst hi2
      refine r_iload_n (pc := 4) X dX5_comers_4 rfl ?_
      refine r_aload_n (pc := 5) X dX5_comers_5 rfl ?_
      apply r_get (pc := 6) X f_X5_34 dX5_comers_6
      · repeat (first | exact mu_self | assumption | refine (mu_ne (by omega)).trans ?_)
      · rfl
      refine r_icmp_geN (pc := 9) X 37 dX5_comers_9 (by decide) (by omega) (by omega) (fun _ => ?_) (fun h => absurd (Nat.le_refl _) h)
      refine r_iload_n (pc := 37) X dX5_comers_37 rfl ?_
      exact r_iret (pc := 38) X dX5_comers_38 (⟨rfl, rfl⟩)
    | succ N ih =>
      intro i hi
      have ht := hI.2.2.2.2.2.2.1 i (by omega)
      refine r_iload_n (pc := 4) X dX5_comers_4 rfl ?_
      refine r_aload_n (pc := 5) X dX5_comers_5 rfl ?_
      apply r_get (pc := 6) X f_X5_34 dX5_comers_6
      · repeat (first | exact mu_self | assumption | refine (mu_ne (by omega)).trans ?_)
      · rfl
      refine r_icmp_geN (pc := 9) X 37 dX5_comers_9 (by decide) (by omega) (by omega) (fun h => absurd h (by omega)) (fun h => ?_)
      refine r_aload_n (pc := 12) X dX5_comers_12 rfl ?_
      apply r_get (pc := 13) X f_X5_21 dX5_comers_13
      · repeat (first | exact mu_self | assumption | refine (mu_ne (by omega)).trans ?_)
      · rfl
      refine r_iload_n (pc := 16) X dX5_comers_16 rfl ?_
      apply r_iald (pc := 17) X dX5_comers_17
      · repeat (first | exact mu_self | assumption | refine (mu_ne (by omega)).trans ?_)
      · omega
      · decide
      refine r_iload_n (pc := 18) X dX5_comers_18 rfl ?_
      refine c_i X (rSN (pc := 19) X l_X5_80 (t6_hasBit (b := T (21 + i)) (k := nm) (by omega) (by omega)) dX5_comers_19 rfl rfl (Nat.le_of_ble_eq_true rfl) (by decide) (Nat.le_of_ble_eq_true rfl) (Nat.le_of_ble_eq_true rfl)) ?_
      rintro _ μq ⟨rfl, hμq⟩
      rw [hμq]
      clear hμq μq
      first | refine r_if_neZ (pc := 22) X 31 dX5_comers_22 (by decide) (fun h2 => ?_) (fun h2 => ?_) | refine r_if_neN (pc := 22) X 31 dX5_comers_22 (by decide) (by omega) (fun h2 => ?_) (fun h2 => ?_) | refine r_if_ne (pc := 22) X 31 dX5_comers_22 (by decide) (fun h2 => ?_) (fun h2 => ?_)
      · refine r_iincN (pc := 31) (b := 1) X dX5_comers_31 rfl (by decide) rfl ?_
        refine r_goto (pc := 34) X 4 dX5_comers_34 (by decide) ?_
        have e : mkb (i + 1) (fun k => !(T (21 + k)).testBit nm) = mkb i (fun k => !(T (21 + k)).testBit nm) := by rw [mkb_succ]; simp [h2]
        have := ih (i + 1) (by omega)
        rw [e] at this
        exact this
      · refine r_iload_n (pc := 25) X dX5_comers_25 rfl ?_
        refine r_iconst (pc := 26) (v := nI 1) X dX5_comers_26 (by decide) ?_
        refine r_iload_n (pc := 27) X dX5_comers_27 rfl ?_
        first | refine r_ishlN (pc := 28) X dX5_comers_28 (by omega) ?_ | refine r_ishl (pc := 28) X dX5_comers_28 ?_
        first | refine r_iorN (pc := 29) X dX5_comers_29 ?_ | refine r_ior (pc := 29) X dX5_comers_29 ?_
        refine r_istore_n (pc := 30) X dX5_comers_30 (by decide) rfl ?_
        refine r_iincN (pc := 31) (b := 1) X dX5_comers_31 rfl (by decide) rfl ?_
        refine r_goto (pc := 34) X 4 dX5_comers_34 (by decide) ?_
        have e : mkb (i + 1) (fun k => !(T (21 + k)).testBit nm) = mkb i (fun k => !(T (21 + k)).testBit nm) ||| 1 <<< i := by rw [mkb_succ]; simp [h2]
        have := ih (i + 1) (by omega)
        rw [e] at this
        exact this
  exact key (T 20) 0 (by omega)
theorem t5_namesFor (hT : ToldAt Γ μ a T) (hI : IT T) {st : Nat} (hs : st < 2 ^ 31) : CT Γ l 2 sz 0 0 mX5_namesFor [.ref a, .int (nI st)] μ (ri (fun r μ' => r = nI (namT T st) ∧ μ' = μ)) := by
  have hT0 := hT
  obtain ⟨g0, g1, g2, g3, g4⟩ := hT
  refine CT.go RX5 rfl "namesFor" rfl [some (.ref a), some (.int (nI st)), none, none] rfl (by decide) (Nat.le_of_ble_eq_true rfl) ?_
  intro p e R s m args below meth c X hsz
  refine r_iconst (pc := 0) (v := nI 0) X dX5_namesFor_0 (by decide) ?_
  refine r_istore_n (pc := 1) X dX5_namesFor_1 (by decide) rfl ?_
  refine r_iconst (pc := 2) (v := nI 0) X dX5_namesFor_2 (by decide) ?_
  refine r_istore_n (pc := 3) X dX5_namesFor_3 (by decide) rfl ?_
  have key : ∀ (N i : Nat), i + N = 8 → vV Γ p l e R s m args below meth c (vQ Γ s args below 0 0 (ri (fun r μ' => r = nI (namT T st) ∧ μ' = μ))) 4 0 0 4 [some (.ref (a)), some (.int (nI (st))), some (.int (nI (mkb i (fun nm => comT T nm == st)))), some (.int (nI (i)))] [] (μ) := by
    intro N
    induction N with
    | zero =>
      intro i hi
      have hi2 : i = 8 := by omega
      subst hi2
      refine r_iload_n (pc := 4) X dX5_namesFor_4 rfl ?_
      refine r_bipush (pc := 5) (v := nI 8) X dX5_namesFor_5 (by decide) ?_
      refine r_icmp_geN (pc := 7) X 31 dX5_namesFor_7 (by decide) (by omega) (by omega) (fun _ => ?_) (fun h => absurd (Nat.le_refl _) h)
      refine r_iload_n (pc := 31) X dX5_namesFor_31 rfl ?_
      exact r_iret (pc := 32) X dX5_namesFor_32 (⟨rfl, rfl⟩)
    | succ N ih =>
      intro i hi
      have hc := comT_lt (nm := i) hI.2.2.1
      refine r_iload_n (pc := 4) X dX5_namesFor_4 rfl ?_
      refine r_bipush (pc := 5) (v := nI 8) X dX5_namesFor_5 (by decide) ?_
      refine r_icmp_geN (pc := 7) X 31 dX5_namesFor_7 (by decide) (by omega) (by omega) (fun h => absurd h (by omega)) (fun h => ?_)
      refine r_aload_n (pc := 10) X dX5_namesFor_10 rfl ?_
      refine r_iload_n (pc := 11) X dX5_namesFor_11 rfl ?_
      refine c_i X (rV (pc := 12) (ci := 5) X l_X5_84 (t5_comers hT0 hI (nm := i) (by omega)) dX5_namesFor_12 (by repeat (first | exact mu_self | assumption | refine (mu_ne (by omega)).trans ?_)) rfl rfl rfl (Nat.le_of_ble_eq_true rfl) (by decide) (Nat.le_of_ble_eq_true rfl) (Nat.le_of_ble_eq_true rfl)) ?_
      rintro _ μq ⟨rfl, hμq⟩
      rw [hμq]
      clear hμq μq
      refine r_iload_n (pc := 15) X dX5_namesFor_15 rfl ?_
      first | refine r_icmp_neN (pc := 16) X 25 dX5_namesFor_16 (by decide) (by omega) (by omega) (fun h2 => ?_) (fun h2 => ?_) | refine r_icmp_ne (pc := 16) X 25 dX5_namesFor_16 (by decide) (fun h2 => ?_) (fun h2 => ?_)
      · refine r_iincN (pc := 25) (b := 1) X dX5_namesFor_25 rfl (by decide) rfl ?_
        refine r_goto (pc := 28) X 4 dX5_namesFor_28 (by decide) ?_
        have e : mkb (i + 1) (fun nm => comT T nm == st) = mkb i (fun nm => comT T nm == st) := by rw [mkb_succ]; simp [h2]
        have := ih (i + 1) (by omega)
        rw [e] at this
        exact this
      · refine r_iload_n (pc := 19) X dX5_namesFor_19 rfl ?_
        refine r_iconst (pc := 20) (v := nI 1) X dX5_namesFor_20 (by decide) ?_
        refine r_iload_n (pc := 21) X dX5_namesFor_21 rfl ?_
        first | refine r_ishlN (pc := 22) X dX5_namesFor_22 (by omega) ?_ | refine r_ishl (pc := 22) X dX5_namesFor_22 ?_
        first | refine r_iorN (pc := 23) X dX5_namesFor_23 ?_ | refine r_ior (pc := 23) X dX5_namesFor_23 ?_
        refine r_istore_n (pc := 24) X dX5_namesFor_24 (by decide) rfl ?_
        refine r_iincN (pc := 25) (b := 1) X dX5_namesFor_25 rfl (by decide) rfl ?_
        refine r_goto (pc := 28) X 4 dX5_namesFor_28 (by decide) ?_
        have e : mkb (i + 1) (fun nm => comT T nm == st) = mkb i (fun nm => comT T nm == st) ||| 1 <<< i := by rw [mkb_succ]; simp [h2]
        have := ih (i + 1) (by omega)
        rw [e] at this
        exact this
  exact key 8 0 (by omega)
theorem t5_quietestName (hT : ToldAt Γ μ a T) (hI : IT T) : CT Γ l 2 sz 0 0 mX5_quietestName [.ref a] μ (ri (fun r μ' => r = nI (qn T 8) ∧ μ' = μ)) := by
  have hT0 := hT
  obtain ⟨g0, g1, g2, g3, g4⟩ := hT
  refine CT.go RX5 rfl "quietestName" rfl [some (.ref a), none, none, none, none] rfl (by decide) (Nat.le_of_ble_eq_true rfl) ?_
  intro p e R s m args below meth c X hsz
  refine r_iconst (pc := 0) (v := nI 0) X dX5_quietestName_0 (by decide) ?_
  refine r_istore_n (pc := 1) X dX5_quietestName_1 (by decide) rfl ?_
  refine r_iconst (pc := 2) (v := nI 5) X dX5_quietestName_2 (by decide) ?_
  refine r_istore_n (pc := 3) X dX5_quietestName_3 (by decide) rfl ?_
  refine r_iconst (pc := 4) (v := nI 0) X dX5_quietestName_4 (by decide) ?_
  refine r_istore_n (pc := 5) X dX5_quietestName_5 (by decide) rfl ?_
  have key : ∀ (N i fw : Nat) (q4 : Option Value), i + N = 8 → (fw = (if i = 0 then 5 else popc (comT T (qn T i)))) → vV Γ p l e R s m args below meth c (vQ Γ s args below 0 0 (ri (fun r μ' => r = nI (qn T 8) ∧ μ' = μ))) 5 0 0 6 [some (.ref a), some (.int (nI (qn T i))), some (.int (nI fw)), some (.int (nI i)), q4] [] μ := by
    intro N
    induction N with
    | zero =>
      intro i fw q4 hi hf
      have hi2 : i = 8 := by omega
      subst hi2
      refine r_iload_n (pc := 6) X dX5_quietestName_6 rfl ?_
      refine r_bipush (pc := 7) (v := nI 8) X dX5_quietestName_7 (by decide) ?_
      refine r_icmp_geN (pc := 9) X 39 dX5_quietestName_9 (by decide) (by omega) (by omega) (fun _ => ?_) (fun h => absurd (Nat.le_refl _) h)
      refine r_iload_n (pc := 39) X dX5_quietestName_39 rfl ?_
      exact r_iret (pc := 40) X dX5_quietestName_40 (⟨rfl, rfl⟩)
    | succ N ih =>
      intro i fw q4 hi hf
      have hc := comT_lt (nm := i) hI.2.2.1
      have hp := popc16 _ hc
      have hq := popc16 _ (comT_lt (nm := qn T i) hI.2.2.1)
      have hfw : fw ≤ 5 := by rw [hf]; split <;> omega
      refine r_iload_n (pc := 6) X dX5_quietestName_6 rfl ?_
      refine r_bipush (pc := 7) (v := nI 8) X dX5_quietestName_7 (by decide) ?_
      refine r_icmp_geN (pc := 9) X 39 dX5_quietestName_9 (by decide) (by omega) (by omega) (fun h => absurd h (by omega)) (fun h => ?_)
      refine r_aload_n (pc := 12) X dX5_quietestName_12 rfl ?_
      refine r_iload_n (pc := 13) X dX5_quietestName_13 rfl ?_
      refine c_i X (rV (pc := 14) (ci := 5) X l_X5_84 (t5_comers hT0 hI (nm := i) (by omega)) dX5_quietestName_14 (by repeat (first | exact mu_self | assumption | refine (mu_ne (by omega)).trans ?_)) rfl rfl rfl (Nat.le_of_ble_eq_true rfl) (by decide) (Nat.le_of_ble_eq_true rfl) (Nat.le_of_ble_eq_true rfl)) ?_
      rintro _ μq ⟨rfl, hμq⟩
      rw [hμq]
      clear hμq μq
      refine c_i X (rS (pc := 17) X l_X5_87 (tJ_bitCount (Nat.lt_trans hc (by decide))) dX5_quietestName_17 rfl rfl (Nat.le_of_ble_eq_true rfl) (by decide) (Nat.le_of_ble_eq_true rfl) (Nat.le_of_ble_eq_true rfl)) ?_
      rintro _ μq ⟨rfl, hμq⟩
      rw [hμq]
      clear hμq μq
      refine r_istore (pc := 20) X dX5_quietestName_20 (by decide) rfl ?_
      refine r_iload (pc := 22) X dX5_quietestName_22 rfl ?_
      refine r_iload_n (pc := 24) X dX5_quietestName_24 rfl ?_
      first | refine r_icmp_geN (pc := 25) X 33 dX5_quietestName_25 (by decide) (by omega) (by omega) (fun h2 => ?_) (fun h2 => ?_) | refine r_icmp_ge (pc := 25) X 33 dX5_quietestName_25 (by decide) (fun h2 => ?_) (fun h2 => ?_)
      · refine r_iincN (pc := 33) (b := 1) X dX5_quietestName_33 rfl (by decide) rfl ?_
        refine r_goto (pc := 36) X 6 dX5_quietestName_36 (by decide) ?_
        have e : qn T (i + 1) = qn T i := by
          show (if popc (comT T i) < popc (comT T (qn T i)) then i else qn T i) = qn T i
          by_cases h0 : i = 0
          · subst h0; rw [if_pos rfl] at hf; omega
          · rw [if_neg h0] at hf; rw [if_neg (by omega)]
        have := ih (i + 1) fw (some (.int (nI (popc (comT T i))))) (by omega) (by
          rw [if_neg (by omega), e]
          by_cases h0 : i = 0
          · subst h0; rw [if_pos rfl] at hf; omega
          · rw [if_neg h0] at hf; exact hf)
        rw [e] at this
        exact this
      · refine r_iload (pc := 28) X dX5_quietestName_28 rfl ?_
        refine r_istore_n (pc := 30) X dX5_quietestName_30 (by decide) rfl ?_
        refine r_iload_n (pc := 31) X dX5_quietestName_31 rfl ?_
        refine r_istore_n (pc := 32) X dX5_quietestName_32 (by decide) rfl ?_
        refine r_iincN (pc := 33) (b := 1) X dX5_quietestName_33 rfl (by decide) rfl ?_
        refine r_goto (pc := 36) X 6 dX5_quietestName_36 (by decide) ?_
        have e : qn T (i + 1) = i := by
          show (if popc (comT T i) < popc (comT T (qn T i)) then i else qn T i) = i
          by_cases h0 : i = 0
          · subst h0
            split <;> rfl
          · rw [if_neg h0] at hf; rw [if_pos (by omega)]
        have := ih (i + 1) (popc (comT T i)) (some (.int (nI (popc (comT T i))))) (by omega) (by rw [if_neg (by omega), e])
        rw [e] at this
        exact this
  exact key 8 0 5 none (by omega) rfl
end S13
end
section
def cIn (S : Nat → Nat) : Nat → Nat
  | 0 => 0
  | i + 1 => cIn S i + (if S (6 + i) = 0 then 1 else 0)
/-- the first n of those who are in -/
def eatP (S : Nat → Nat) (n i : Nat) : Bool := decide (S (6 + i) = 0 ∧ cIn S i < n)
def eatS (men n : Nat) (S : Nat → Nat) : Nat → Nat := fun k => if 6 ≤ k ∧ k < 6 + men ∧ eatP S n (k - 6) = true then 2 else if 12 ≤ k ∧ k < 12 + men ∧ eatP S n (k - 12) = true then 0 else S k
def beginS (T : Nat → Nat) : Nat → Nat := fun k => if k = 0 then T 25 else 0
/-- who is under sheep s, among the first k men (0: nobody, else the man and 1) -/
def wu (S : Nat → Nat) (s : Nat) : Nat → Nat
  | 0 => 0
  | k + 1 => if S (12 + k) = s + 1 then k + 1 else wu S s k
def canT (S : Nat → Nat) (m w : Nat) : Bool := (S (6 + m) == 0) && (if w = 0 then decide (S (12 + m) ≠ 0) else !(S 5).testBit (w - 1) && decide (wu S (w - 1) 6 = 0))
def mornP (T S : Nat → Nat) (m : Nat) : Bool := decide (S (12 + m) ≠ 0 ∧ T (1 + m) ≤ brT T (S (12 + m) - 1))
def gnS (T S : Nat → Nat) : Nat → Nat
  | 0 => S 5
  | m + 1 => if mornP T S m = true then gnS T S m ||| 1 <<< (S (12 + m) - 1) else gnS T S m
def morS (T S : Nat → Nat) : Nat → Nat := fun k => if k = 5 then gnS T S 6 else if 6 ≤ k ∧ k < 12 ∧ S (6 + k) ≠ 0 then (if mornP T S (k - 6) = true then 1 else 2) else if 12 ≤ k ∧ k < 18 then 0 else S k
theorem wu_le (S : Nat → Nat) (s k : Nat) : wu S s k ≤ k := by
  induction k with
  | zero => exact Nat.le_refl _
  | succ k ih =>
    show (if S (12 + k) = s + 1 then k + 1 else wu S s k) ≤ k + 1
    by_cases h : S (12 + k) = s + 1
    · rw [if_pos h]; omega
    · rw [if_neg h]; omega
theorem wu_none {S : Nat → Nat} {s k : Nat} (h : ∀ m, m < k → S (12 + m) ≠ s + 1) : wu S s k = 0 := by
  induction k with
  | zero => rfl
  | succ k ih =>
    show (if S (12 + k) = s + 1 then k + 1 else wu S s k) = 0
    rw [if_neg (h k (by omega))]
    exact ih (fun m hm => h m (by omega))
theorem wu_one {S : Nat → Nat} {s k m : Nat} (hm : m < k) (h : S (12 + m) = s + 1) (hu : ∀ n, n < k → S (12 + n) = s + 1 → n = m) : wu S s k = m + 1 := by
  induction k with
  | zero => omega
  | succ k ih =>
    show (if S (12 + k) = s + 1 then k + 1 else wu S s k) = m + 1
    by_cases hk : S (12 + k) = s + 1
    · rw [if_pos hk, hu k (by omega) hk]
    · rw [if_neg hk]
      have : m ≠ k := fun q => hk (by rw [← q]; exact h)
      exact ih (by omega) (fun n hn => hu n (by omega))
theorem msk_test (men : Nat) (S : Nat → Nat) (h k : Nat) : (msk men S h).testBit k = (decide (k < men) && (S (6 + k) == h)) := mkb_test men _ k
theorem msk_lt {men : Nat} (hm : men ≤ 6) (S : Nat → Nat) (h : Nat) : msk men S h < 64 := mkb_lt64 hm _
theorem mkb_all (n : Nat) : mkb n (fun _ => true) = 2 ^ n - 1 := by
  apply Nat.eq_of_testBit_eq
  intro i
  rw [mkb_test, Nat.testBit_two_pow_sub_one]
  simp
theorem mkb_no (n : Nat) : mkb n (fun _ => false) = 0 := by
  apply Nat.eq_of_testBit_eq
  intro i
  rw [mkb_test]
  simp
theorem msk_begin0 (men : Nat) (T : Nat → Nat) : msk men (beginS T) 0 = 2 ^ men - 1 := by
  rw [← mkb_all]
  exact mkb_congr (fun k _ => by show (beginS T (6 + k) == 0) = true; unfold beginS; rw [if_neg (by omega)]; rfl)
theorem msk_beginS (men : Nat) (T : Nat → Nat) {h : Nat} (hh : h ≠ 0) : msk men (beginS T) h = 0 := by
  rw [← mkb_no men]
  refine mkb_congr (fun k _ => ?_)
  show (beginS T (6 + k) == h) = false
  unfold beginS
  rw [if_neg (by omega)]
  simp
  omega
theorem nI_andn : ∀ a, a < 64 → ∀ b, b < 64 → nI a &&& (nI b ^^^ (-1)) = nI (a &&& (b ^^^ 63)) := by decide +kernel
theorem andn_test {a b k : Nat} (hk : k < 6) : (a &&& (b ^^^ 63)).testBit k = (a.testBit k && !b.testBit k) := by
  have h63 : (63 : Nat).testBit k = true := by
    have : ∀ k, k < 6 → (63 : Nat).testBit k = true := by decide
    exact this k hk
  rw [Nat.testBit_and, Nat.testBit_xor, h63]
  cases b.testBit k <;> rfl
theorem eq_test6 {a b : Nat} (ha : a < 64) (hb : b < 64) (h : ∀ k, k < 6 → a.testBit k = b.testBit k) : a = b := by
  apply Nat.eq_of_testBit_eq
  intro i
  by_cases hi : i < 6
  · exact h i hi
  · rw [Nat.testBit_lt_two_pow (Nat.lt_of_lt_of_le ha (Nat.pow_le_pow_right (n := 2) (by decide) (show 6 ≤ i by omega))), Nat.testBit_lt_two_pow (Nat.lt_of_lt_of_le hb (Nat.pow_le_pow_right (n := 2) (by decide) (show 6 ≤ i by omega)))]
theorem andn_lt {a b : Nat} (ha : a < 64) : a &&& (b ^^^ 63) < 64 := Nat.lt_of_le_of_lt Nat.and_le_left ha
theorem or_lt64 {a b : Nat} (ha : a < 64) (hb : b < 64) : a ||| b < 64 := Nat.or_lt_two_pow (n := 6) ha hb
theorem one_shl_lt {k : Nat} (hk : k < 6) : 1 <<< k < 64 := by
  have : ∀ k, k < 6 → 1 <<< k < 64 := by decide
  exact this k hk
theorem one_shl_test {k i : Nat} : (1 <<< k).testBit i = decide (i = k) := by
  rw [Nat.one_shiftLeft, Nat.testBit_two_pow]
  by_cases h : k = i
  · subst h; simp
  · simp [h, Ne.symm h]
section S14
variable {Γ : KK} {l : Launch} {sz : Nat} {μ : MM} {a : Nat} {T S : Nat → Nat}
theorem t2_copy {b : Nat} {v u v' u' : Nat → Int32} (ha : ScAt Γ μ a v u) (hb : ScAt Γ μ b v' u') (hd : a + 2 ≤ b ∨ b + 2 ≤ a) : CT Γ l 1 sz 0 0 mX2_copy [.ref a, .ref b] μ (rv (fun μ' => ScAt Γ μ' a v' u' ∧ Fr a 2 μ μ')) := by
  obtain ⟨g0, g1, gz⟩ := ha
  obtain ⟨k0, k1, kz⟩ := hb
  have kz1 : narrow (tyX2 4) (.int (v' 4)) = .int (v' 4) := (bool_ok kz).1
  have kz2 : fits (tyX2 4) (.int (v' 4)) = true := (bool_ok kz).2
  refine CT.go RX2 rfl "copy" rfl [some (.ref a), some (.ref b)] rfl (by decide) (Nat.le_of_ble_eq_true rfl) ?_
  intro p e R s m args below meth c X hsz
  refine r_aload_n (pc := 0) X dX2_copy_0 rfl ?_
  refine r_aload_n (pc := 1) X dX2_copy_1 rfl ?_
  apply r_get (pc := 2) X f_X2_15 dX2_copy_2
  · repeat (first | exact mu_self | assumption | refine (mu_ne (by omega)).trans ?_)
  · rfl
  first | refine r_putS (pc := 5) X f_X2_15 dX2_copy_5 (by first | rfl | assumption | decide | simp [narrow]) (by first | rfl | assumption) (Nat.le_of_ble_eq_true rfl) ?_ | refine r_put (pc := 5) X f_X2_15 dX2_copy_5 (by repeat (first | exact mu_self | assumption | refine (mu_ne (by omega)).trans ?_)) (by first | rfl | assumption | decide | simp [narrow]) (by first | rfl | assumption) (Nat.le_of_ble_eq_true rfl) ?_
  refine r_aload_n (pc := 8) X dX2_copy_8 rfl ?_
  refine r_aload_n (pc := 9) X dX2_copy_9 rfl ?_
  apply r_get (pc := 10) X f_X2_24 dX2_copy_10
  · repeat (first | exact mu_self | assumption | refine (mu_ne (by omega)).trans ?_)
  · rfl
  first | refine r_putS (pc := 13) X f_X2_24 dX2_copy_13 (by first | rfl | assumption | decide | simp [narrow]) (by first | rfl | assumption) (Nat.le_of_ble_eq_true rfl) ?_ | refine r_put (pc := 13) X f_X2_24 dX2_copy_13 (by repeat (first | exact mu_self | assumption | refine (mu_ne (by omega)).trans ?_)) (by first | rfl | assumption | decide | simp [narrow]) (by first | rfl | assumption) (Nat.le_of_ble_eq_true rfl) ?_
  refine r_aload_n (pc := 16) X dX2_copy_16 rfl ?_
  refine r_aload_n (pc := 17) X dX2_copy_17 rfl ?_
  apply r_get (pc := 18) X f_X2_27 dX2_copy_18
  · repeat (first | exact mu_self | assumption | refine (mu_ne (by omega)).trans ?_)
  · rfl
  first | refine r_putS (pc := 21) X f_X2_27 dX2_copy_21 (by first | rfl | assumption | decide | simp [narrow]) (by first | rfl | assumption) (Nat.le_of_ble_eq_true rfl) ?_ | refine r_put (pc := 21) X f_X2_27 dX2_copy_21 (by repeat (first | exact mu_self | assumption | refine (mu_ne (by omega)).trans ?_)) (by first | rfl | assumption | decide | simp [narrow]) (by first | rfl | assumption) (Nat.le_of_ble_eq_true rfl) ?_
  refine r_aload_n (pc := 24) X dX2_copy_24 rfl ?_
  refine r_aload_n (pc := 25) X dX2_copy_25 rfl ?_
  apply r_get (pc := 26) X f_X2_30 dX2_copy_26
  · repeat (first | exact mu_self | assumption | refine (mu_ne (by omega)).trans ?_)
  · rfl
  first | refine r_putS (pc := 29) X f_X2_30 dX2_copy_29 (by first | rfl | assumption | decide | simp [narrow]) (by first | rfl | assumption) (Nat.le_of_ble_eq_true rfl) ?_ | refine r_put (pc := 29) X f_X2_30 dX2_copy_29 (by repeat (first | exact mu_self | assumption | refine (mu_ne (by omega)).trans ?_)) (by first | rfl | assumption | decide | simp [narrow]) (by first | rfl | assumption) (Nat.le_of_ble_eq_true rfl) ?_
  refine r_aload_n (pc := 32) X dX2_copy_32 rfl ?_
  refine r_aload_n (pc := 33) X dX2_copy_33 rfl ?_
  apply r_get (pc := 34) X f_X2_33 dX2_copy_34
  · repeat (first | exact mu_self | assumption | refine (mu_ne (by omega)).trans ?_)
  · rfl
  first | refine r_putS (pc := 37) X f_X2_33 dX2_copy_37 (by first | rfl | assumption | decide | simp [narrow]) (by first | rfl | assumption) (Nat.le_of_ble_eq_true rfl) ?_ | refine r_put (pc := 37) X f_X2_33 dX2_copy_37 (by repeat (first | exact mu_self | assumption | refine (mu_ne (by omega)).trans ?_)) (by first | rfl | assumption | decide | simp [narrow]) (by first | rfl | assumption) (Nat.le_of_ble_eq_true rfl) ?_
  refine r_aload_n (pc := 40) X dX2_copy_40 rfl ?_
  refine r_aload_n (pc := 41) X dX2_copy_41 rfl ?_
  apply r_get (pc := 42) X f_X2_44 dX2_copy_42
  · repeat (first | exact mu_self | assumption | refine (mu_ne (by omega)).trans ?_)
  · rfl
  first | refine r_putS (pc := 45) X f_X2_44 dX2_copy_45 (by first | rfl | assumption | decide | simp [narrow]) (by first | rfl | assumption) (Nat.le_of_ble_eq_true rfl) ?_ | refine r_put (pc := 45) X f_X2_44 dX2_copy_45 (by repeat (first | exact mu_self | assumption | refine (mu_ne (by omega)).trans ?_)) (by first | rfl | assumption | decide | simp [narrow]) (by first | rfl | assumption) (Nat.le_of_ble_eq_true rfl) ?_
  refine r_aload_n (pc := 48) X dX2_copy_48 rfl ?_
  refine r_aload_n (pc := 49) X dX2_copy_49 rfl ?_
  apply r_get (pc := 50) X f_X2_47 dX2_copy_50
  · repeat (first | exact mu_self | assumption | refine (mu_ne (by omega)).trans ?_)
  · rfl
  first | refine r_putS (pc := 53) X f_X2_47 dX2_copy_53 (by first | rfl | assumption | decide | simp [narrow]) (by first | rfl | assumption) (Nat.le_of_ble_eq_true rfl) ?_ | refine r_put (pc := 53) X f_X2_47 dX2_copy_53 (by repeat (first | exact mu_self | assumption | refine (mu_ne (by omega)).trans ?_)) (by first | rfl | assumption | decide | simp [narrow]) (by first | rfl | assumption) (Nat.le_of_ble_eq_true rfl) ?_
  refine r_aload_n (pc := 56) X dX2_copy_56 rfl ?_
  refine r_aload_n (pc := 57) X dX2_copy_57 rfl ?_
  apply r_get (pc := 58) X f_X2_50 dX2_copy_58
  · repeat (first | exact mu_self | assumption | refine (mu_ne (by omega)).trans ?_)
  · rfl
  first | refine r_putS (pc := 61) X f_X2_50 dX2_copy_61 (by first | rfl | assumption | decide | simp [narrow]) (by first | rfl | assumption) (Nat.le_of_ble_eq_true rfl) ?_ | refine r_put (pc := 61) X f_X2_50 dX2_copy_61 (by repeat (first | exact mu_self | assumption | refine (mu_ne (by omega)).trans ?_)) (by first | rfl | assumption | decide | simp [narrow]) (by first | rfl | assumption) (Nat.le_of_ble_eq_true rfl) ?_
  refine r_aload_n (pc := 64) X dX2_copy_64 rfl ?_
  refine r_aload_n (pc := 65) X dX2_copy_65 rfl ?_
  apply r_get (pc := 66) X f_X2_53 dX2_copy_66
  · repeat (first | exact mu_self | assumption | refine (mu_ne (by omega)).trans ?_)
  · rfl
  first | refine r_putS (pc := 69) X f_X2_53 dX2_copy_69 (by first | rfl | assumption | decide | simp [narrow]) (by first | rfl | assumption) (Nat.le_of_ble_eq_true rfl) ?_ | refine r_put (pc := 69) X f_X2_53 dX2_copy_69 (by repeat (first | exact mu_self | assumption | refine (mu_ne (by omega)).trans ?_)) (by first | rfl | assumption | decide | simp [narrow]) (by first | rfl | assumption) (Nat.le_of_ble_eq_true rfl) ?_
  refine r_aload_n (pc := 72) X dX2_copy_72 rfl ?_
  apply r_get (pc := 73) X f_X2_9 dX2_copy_73
  · repeat (first | exact mu_self | assumption | refine (mu_ne (by omega)).trans ?_)
  · rfl
  refine r_iconst (pc := 76) (v := nI 0) X dX2_copy_76 (by decide) ?_
  refine r_aload_n (pc := 77) X dX2_copy_77 rfl ?_
  apply r_get (pc := 78) X f_X2_9 dX2_copy_78
  · repeat (first | exact mu_self | assumption | refine (mu_ne (by omega)).trans ?_)
  · rfl
  refine r_iconst (pc := 81) (v := nI 0) X dX2_copy_81 (by decide) ?_
  refine r_bipush (pc := 82) (v := nI 6) X dX2_copy_82 (by decide) ?_
  apply r_copyI (pc := 84) X l_X2_56 dX2_copy_84 (by decide) (Nat.le_of_ble_eq_true rfl) (by decide)
  · repeat (first | exact mu_self | assumption | refine (mu_ne (by omega)).trans ?_)
  · repeat (first | exact mu_self | assumption | refine (mu_ne (by omega)).trans ?_)
  exact r_vret (pc := 87) X dX2_copy_87 (⟨⟨(by repeat (first | exact mu_self | assumption | refine (mu_ne (by omega)).trans ?_)), (by repeat (first | exact mu_self | assumption | refine (mu_ne (by omega)).trans ?_)), kz⟩, (fun q hq => by repeat (first | rfl | refine (mu_ne (by omega)).trans ?_))⟩)
theorem scU_begin (T : Nat → Nat) : scU (beginS T) = fun _ => -1 := by
  funext i
  show uI (beginS T (12 + i)) = -1
  unfold beginS
  rw [if_neg (by omega)]
  exact uI_0
theorem t2_begin {b : Nat} {v u : Nat → Int32} (ha : ScAt Γ μ a v u) (hT : ToldAt Γ μ b T) (hI : T 0 ≤ 6) (hd : a + 2 ≤ b ∨ b + 5 ≤ a) : CT Γ l 1 sz 0 0 mX2_begin [.ref a, .ref b] μ (rv (fun μ' => ScAt Γ μ' a (scV (T 0) (beginS T)) (scU (beginS T)) ∧ Fr a 2 μ μ')) := by
  obtain ⟨g0, g1, gz⟩ := ha
  obtain ⟨k0, k1, k2, k3, k4⟩ := hT
  refine CT.go RX2 rfl "begin" rfl [some (.ref a), some (.ref b), none] rfl (by decide) (Nat.le_of_ble_eq_true rfl) ?_
  intro p e R s m args below meth c X hsz
  refine r_aload_n (pc := 0) X dX2_begin_0 rfl ?_
  refine r_iconst (pc := 1) (v := nI 0) X dX2_begin_1 (by decide) ?_
  first | refine r_putS (pc := 2) X f_X2_15 dX2_begin_2 (by first | rfl | assumption | decide | simp [narrow]) (by first | rfl | assumption) (Nat.le_of_ble_eq_true rfl) ?_ | refine r_put (pc := 2) X f_X2_15 dX2_begin_2 (by repeat (first | exact mu_self | assumption | refine (mu_ne (by omega)).trans ?_)) (by first | rfl | assumption | decide | simp [narrow]) (by first | rfl | assumption) (Nat.le_of_ble_eq_true rfl) ?_
  refine r_aload_n (pc := 5) X dX2_begin_5 rfl ?_
  refine r_aload_n (pc := 6) X dX2_begin_6 rfl ?_
  apply r_get (pc := 7) X f_X2_19 dX2_begin_7
  · repeat (first | exact mu_self | assumption | refine (mu_ne (by omega)).trans ?_)
  · rfl
  first | refine r_putS (pc := 10) X f_X2_24 dX2_begin_10 (by first | rfl | assumption | decide | simp [narrow]) (by first | rfl | assumption) (Nat.le_of_ble_eq_true rfl) ?_ | refine r_put (pc := 10) X f_X2_24 dX2_begin_10 (by repeat (first | exact mu_self | assumption | refine (mu_ne (by omega)).trans ?_)) (by first | rfl | assumption | decide | simp [narrow]) (by first | rfl | assumption) (Nat.le_of_ble_eq_true rfl) ?_
  refine r_aload_n (pc := 13) X dX2_begin_13 rfl ?_
  refine r_iconst (pc := 14) (v := nI 0) X dX2_begin_14 (by decide) ?_
  first | refine r_putS (pc := 15) X f_X2_27 dX2_begin_15 (by first | rfl | assumption | decide | simp [narrow]) (by first | rfl | assumption) (Nat.le_of_ble_eq_true rfl) ?_ | refine r_put (pc := 15) X f_X2_27 dX2_begin_15 (by repeat (first | exact mu_self | assumption | refine (mu_ne (by omega)).trans ?_)) (by first | rfl | assumption | decide | simp [narrow]) (by first | rfl | assumption) (Nat.le_of_ble_eq_true rfl) ?_
  refine r_aload_n (pc := 18) X dX2_begin_18 rfl ?_
  refine r_iconst (pc := 19) (v := nI 0) X dX2_begin_19 (by decide) ?_
  first | refine r_putS (pc := 20) X f_X2_30 dX2_begin_20 (by first | rfl | assumption | decide | simp [narrow]) (by first | rfl | assumption) (Nat.le_of_ble_eq_true rfl) ?_ | refine r_put (pc := 20) X f_X2_30 dX2_begin_20 (by repeat (first | exact mu_self | assumption | refine (mu_ne (by omega)).trans ?_)) (by first | rfl | assumption | decide | simp [narrow]) (by first | rfl | assumption) (Nat.le_of_ble_eq_true rfl) ?_
  refine r_aload_n (pc := 23) X dX2_begin_23 rfl ?_
  refine r_iconst (pc := 24) (v := nI 0) X dX2_begin_24 (by decide) ?_
  first | refine r_putS (pc := 25) X f_X2_33 dX2_begin_25 (by first | rfl | assumption | decide | simp [narrow]) (by first | rfl | assumption) (Nat.le_of_ble_eq_true rfl) ?_ | refine r_put (pc := 25) X f_X2_33 dX2_begin_25 (by repeat (first | exact mu_self | assumption | refine (mu_ne (by omega)).trans ?_)) (by first | rfl | assumption | decide | simp [narrow]) (by first | rfl | assumption) (Nat.le_of_ble_eq_true rfl) ?_
  refine r_aload_n (pc := 28) X dX2_begin_28 rfl ?_
  refine r_aload_n (pc := 29) X dX2_begin_29 rfl ?_
  apply r_get (pc := 30) X f_X2_37 dX2_begin_30
  · repeat (first | exact mu_self | assumption | refine (mu_ne (by omega)).trans ?_)
  · rfl
  refine c_i X (rSN (pc := 33) X l_X2_40 (t6_allBits (n := T 0) (by omega)) dX2_begin_33 rfl rfl (Nat.le_of_ble_eq_true rfl) (by decide) (Nat.le_of_ble_eq_true rfl) (Nat.le_of_ble_eq_true rfl)) ?_
  rintro _ μq ⟨rfl, hμq⟩
  rw [hμq]
  clear hμq μq
  first | refine r_putS (pc := 36) X f_X2_44 dX2_begin_36 (by first | rfl | assumption | decide | simp [narrow]) (by first | rfl | assumption) (Nat.le_of_ble_eq_true rfl) ?_ | refine r_put (pc := 36) X f_X2_44 dX2_begin_36 (by repeat (first | exact mu_self | assumption | refine (mu_ne (by omega)).trans ?_)) (by first | rfl | assumption | decide | simp [narrow]) (by first | rfl | assumption) (Nat.le_of_ble_eq_true rfl) ?_
  refine r_aload_n (pc := 39) X dX2_begin_39 rfl ?_
  refine r_iconst (pc := 40) (v := nI 0) X dX2_begin_40 (by decide) ?_
  first | refine r_putS (pc := 41) X f_X2_47 dX2_begin_41 (by first | rfl | assumption | decide | simp [narrow]) (by first | rfl | assumption) (Nat.le_of_ble_eq_true rfl) ?_ | refine r_put (pc := 41) X f_X2_47 dX2_begin_41 (by repeat (first | exact mu_self | assumption | refine (mu_ne (by omega)).trans ?_)) (by first | rfl | assumption | decide | simp [narrow]) (by first | rfl | assumption) (Nat.le_of_ble_eq_true rfl) ?_
  refine r_aload_n (pc := 44) X dX2_begin_44 rfl ?_
  refine r_iconst (pc := 45) (v := nI 0) X dX2_begin_45 (by decide) ?_
  first | refine r_putS (pc := 46) X f_X2_50 dX2_begin_46 (by first | rfl | assumption | decide | simp [narrow]) (by first | rfl | assumption) (Nat.le_of_ble_eq_true rfl) ?_ | refine r_put (pc := 46) X f_X2_50 dX2_begin_46 (by repeat (first | exact mu_self | assumption | refine (mu_ne (by omega)).trans ?_)) (by first | rfl | assumption | decide | simp [narrow]) (by first | rfl | assumption) (Nat.le_of_ble_eq_true rfl) ?_
  refine r_aload_n (pc := 49) X dX2_begin_49 rfl ?_
  refine r_iconst (pc := 50) (v := nI 0) X dX2_begin_50 (by decide) ?_
  first | refine r_putS (pc := 51) X f_X2_53 dX2_begin_51 (by first | rfl | assumption | decide | simp [narrow]) (by first | rfl | assumption) (Nat.le_of_ble_eq_true rfl) ?_ | refine r_put (pc := 51) X f_X2_53 dX2_begin_51 (by repeat (first | exact mu_self | assumption | refine (mu_ne (by omega)).trans ?_)) (by first | rfl | assumption | decide | simp [narrow]) (by first | rfl | assumption) (Nat.le_of_ble_eq_true rfl) ?_
  refine r_iconst (pc := 54) (v := nI 0) X dX2_begin_54 (by decide) ?_
  refine r_istore_n (pc := 55) X dX2_begin_55 (by decide) rfl ?_
  have e0 : (xO 2 [.int (scV (T 0) (beginS T) 0), .int (scV (T 0) (beginS T) 1), .int (scV (T 0) (beginS T) 2), .int (scV (T 0) (beginS T) 3), .int (scV (T 0) (beginS T) 4), .int (scV (T 0) (beginS T) 5), .int (scV (T 0) (beginS T) 6), .int (scV (T 0) (beginS T) 7), .int (scV (T 0) (beginS T) 8), .ref (a + 1)]) = xO 2 [.int (nI 0), .int (nI (T 25)), .int (nI 0), .int (nI 0), .int (nI 0), .int (nI (2 ^ T 0 - 1)), .int (nI 0), .int (nI 0), .int (nI 0), .ref (a + 1)] := by
    have h5 : scV (T 0) (beginS T) 5 = nI (2 ^ T 0 - 1) := by show nI (msk (T 0) (beginS T) 0) = _; rw [msk_begin0]
    have h6 : scV (T 0) (beginS T) 6 = nI 0 := by show nI (msk (T 0) (beginS T) 1) = _; rw [msk_beginS _ _ (by decide)]
    have h7 : scV (T 0) (beginS T) 7 = nI 0 := by show nI (msk (T 0) (beginS T) 2) = _; rw [msk_beginS _ _ (by decide)]
    rw [h5, h6, h7]
    rfl
  have key : ∀ (N i : Nat) (f : Nat → Int32) (μ1 : MM), i + N = 6 → (∀ j, j < i → f j = -1) → μ1 a = some (xO 2 [.int (nI 0), .int (nI (T 25)), .int (nI 0), .int (nI 0), .int (nI 0), .int (nI (2 ^ T 0 - 1)), .int (nI 0), .int (nI 0), .int (nI 0), .ref (a + 1)]) → μ1 (a + 1) = some (xI Γ 6 f) → Fr a 2 μ μ1 → vV Γ p l e R s m args below meth c (vQ Γ s args below 0 0 (rv (fun μ' => ScAt Γ μ' a (scV (T 0) (beginS T)) (scU (beginS T)) ∧ Fr a 2 μ μ'))) 3 0 0 56 [some (.ref (a)), some (.ref (b)), some (.int (nI (i)))] [] (μ1) := by
    intro N
    induction N with
    | zero =>
      intro i f μ1 hi hf q0 q1 q2
      have hi2 : i = 6 := by omega
      subst hi2
      refine r_iload_n (pc := 56) X dX2_begin_56 rfl ?_
      refine r_bipush (pc := 57) (v := nI 6) X dX2_begin_57 (by decide) ?_
      refine r_icmp_geN (pc := 59) X 75 dX2_begin_59 (by decide) (by omega) (by omega) (fun _ => ?_) (fun h => absurd (Nat.le_refl _) h)
      refine vV.sub (μ' := mu μ1 (a + 1) (xI Γ 6 (fun _ => -1))) (fun H hP => mP.congrI hf (by
        have : mu μ1 (a + 1) (xI Γ 6 f) = μ1 := by
          funext q
          by_cases hq : q = a + 1
          · subst hq; rw [mu_self, q1]
          · rw [mu_ne hq]
        rw [this]; exact hP)) ?_
      exact r_vret (pc := 75) X dX2_begin_75 (⟨⟨by rw [e0]; exact (mu_ne (by omega)).trans q0, by rw [scU_begin]; exact mu_self, Or.inl rfl⟩, fun q hq => (mu_ne (by omega)).trans (q2 q hq)⟩)
    | succ N ih =>
      intro i f μ1 hi hf q0 q1 q2
      refine r_iload_n (pc := 56) X dX2_begin_56 rfl ?_
      refine r_bipush (pc := 57) (v := nI 6) X dX2_begin_57 (by decide) ?_
      refine r_icmp_geN (pc := 59) X 75 dX2_begin_59 (by decide) (by omega) (by omega) (fun h => absurd h (by omega)) (fun h => ?_)
      refine r_aload_n (pc := 62) X dX2_begin_62 rfl ?_
      apply r_get (pc := 63) X f_X2_9 dX2_begin_63
      · repeat (first | exact mu_self | assumption | refine (mu_ne (by omega)).trans ?_)
      · rfl
      refine r_iload_n (pc := 66) X dX2_begin_66 rfl ?_
      refine r_iconst (pc := 67) (v := -1) X dX2_begin_67 (by decide) ?_
      apply r_iast (pc := 68) X dX2_begin_68
      · repeat (first | exact mu_self | assumption | refine (mu_ne (by omega)).trans ?_)
      · omega
      · decide
      refine r_iincN (pc := 69) (b := 1) X dX2_begin_69 rfl (by decide) rfl ?_
      refine r_goto (pc := 72) X 56 dX2_begin_72 (by decide) ?_
      refine ih (i + 1) (upd f i (-1)) _ (by omega) (fun j hj => ?_) (by repeat (first | exact mu_self | assumption | refine (mu_ne (by omega)).trans ?_)) (by repeat (first | exact mu_self | assumption | refine (mu_ne (by omega)).trans ?_)) (fun q hq => (mu_ne (by omega)).trans (q2 q hq))
      unfold upd
      by_cases h : j = i
      · rw [if_pos h]
      · rw [if_neg h]; exact hf j (by omega)
  exact key 6 0 u _ (by omega) (fun j hj => by omega) (by repeat (first | exact mu_self | assumption | refine (mu_ne (by omega)).trans ?_)) (by repeat (first | exact mu_self | assumption | refine (mu_ne (by omega)).trans ?_)) (fun q hq => by repeat (first | rfl | refine (mu_ne (by omega)).trans ?_))
theorem t2_stateOf {m' : Nat} (ha : ScAt Γ μ a (scV (T 0) S) (scU S)) (hI : T 0 ≤ 6) (hS : IS T S) (hm : m' < T 0) : CT Γ l 1 sz 0 0 mX2_stateOf [.ref a, .int (nI m')] μ (ri (fun r μ' => r = nI (S (6 + m')) ∧ μ' = μ)) := by
  obtain ⟨g0, g1, gz⟩ := ha
  have hb := hS.2.2.2.2.2.1 m' (by omega)
  refine CT.go RX2 rfl "stateOf" rfl [some (.ref a), some (.int (nI m'))] rfl (by decide) (Nat.le_of_ble_eq_true rfl) ?_
  intro p e R s m args below meth c X hsz
  refine r_aload_n (pc := 0) X dX2_stateOf_0 rfl ?_
  apply r_get (pc := 1) X f_X2_44 dX2_stateOf_1
  · repeat (first | exact mu_self | assumption | refine (mu_ne (by omega)).trans ?_)
  · rfl
  refine r_iload_n (pc := 4) X dX2_stateOf_4 rfl ?_
  refine c_i X (rSN (pc := 5) X l_X2_62 (t6_hasBit (b := msk (T 0) S 0) (k := m') (Nat.lt_trans (msk_lt hI S 0) (by decide)) (by omega)) dX2_stateOf_5 rfl rfl (Nat.le_of_ble_eq_true rfl) (by decide) (Nat.le_of_ble_eq_true rfl) (Nat.le_of_ble_eq_true rfl)) ?_
  rintro _ μq ⟨rfl, hμq⟩
  rw [hμq]
  clear hμq μq
  rw [msk_test, decide_eq_true hm]
  first | refine r_if_eqZ (pc := 8) X 13 dX2_stateOf_8 (by decide) (fun h => ?_) (fun h => ?_) | refine r_if_eqN (pc := 8) X 13 dX2_stateOf_8 (by decide) (by omega) (fun h => ?_) (fun h => ?_) | refine r_if_eq (pc := 8) X 13 dX2_stateOf_8 (by decide) (fun h => ?_) (fun h => ?_)
  · simp at h
    refine r_aload_n (pc := 13) X dX2_stateOf_13 rfl ?_
    apply r_get (pc := 14) X f_X2_47 dX2_stateOf_14
    · repeat (first | exact mu_self | assumption | refine (mu_ne (by omega)).trans ?_)
    · rfl
    refine r_iload_n (pc := 17) X dX2_stateOf_17 rfl ?_
    refine c_i X (rSN (pc := 18) X l_X2_62 (t6_hasBit (b := msk (T 0) S 1) (k := m') (Nat.lt_trans (msk_lt hI S 1) (by decide)) (by omega)) dX2_stateOf_18 rfl rfl (Nat.le_of_ble_eq_true rfl) (by decide) (Nat.le_of_ble_eq_true rfl) (Nat.le_of_ble_eq_true rfl)) ?_
    rintro _ μq ⟨rfl, hμq⟩
    rw [hμq]
    clear hμq μq
    rw [msk_test, decide_eq_true hm]
    first | refine r_if_eqZ (pc := 21) X 28 dX2_stateOf_21 (by decide) (fun h2 => ?_) (fun h2 => ?_) | refine r_if_eqN (pc := 21) X 28 dX2_stateOf_21 (by decide) (by omega) (fun h2 => ?_) (fun h2 => ?_) | refine r_if_eq (pc := 21) X 28 dX2_stateOf_21 (by decide) (fun h2 => ?_) (fun h2 => ?_)
    · simp at h2
      refine r_iconst (pc := 28) (v := nI 2) X dX2_stateOf_28 (by decide) ?_
      exact r_iret (pc := 29) X dX2_stateOf_29 (⟨by congr 1; omega, rfl⟩)
    · simp at h2
      refine r_iconst (pc := 24) (v := nI 1) X dX2_stateOf_24 (by decide) ?_
      refine r_goto (pc := 25) X 29 dX2_stateOf_25 (by decide) ?_
      exact r_iret (pc := 29) X dX2_stateOf_29 (⟨by congr 1; omega, rfl⟩)
  · simp at h
    refine r_iconst (pc := 11) (v := nI 0) X dX2_stateOf_11 (by decide) ?_
    exact r_iret (pc := 12) X dX2_stateOf_12 (⟨by rw [h], rfl⟩)
theorem t2_whoIsUnder {s' : Nat} (ha : ScAt Γ μ a (scV (T 0) S) (scU S)) (hT : IT T) (hS : IS T S) (hs : s' < 6) : CT Γ l 0 sz 0 0 mX2_whoIsUnder [.ref a, .int (nI s')] μ (ri (fun r μ' => r = uI (wu S s' 6) ∧ μ' = μ)) := by
  obtain ⟨g0, g1, gz⟩ := ha
  have h7 := hT.2.1
  refine CT.go RX2 rfl "whoIsUnder" rfl [some (.ref a), some (.int (nI s')), none] rfl (by decide) (Nat.le_of_ble_eq_true rfl) ?_
  intro p e R s m args below meth c X hsz
  refine r_iconst (pc := 0) (v := nI 0) X dX2_whoIsUnder_0 (by decide) ?_
  refine r_istore_n (pc := 1) X dX2_whoIsUnder_1 (by decide) rfl ?_
  have key : ∀ (N i : Nat), i + N = 6 → (∀ m, m < i → S (12 + m) ≠ s' + 1) → vV Γ p l e R s m args below meth c (vQ Γ s args below 0 0 (ri (fun r μ' => r = uI (wu S s' 6) ∧ μ' = μ))) 3 0 0 2 [some (.ref (a)), some (.int (nI (s'))), some (.int (nI (i)))] [] (μ) := by
    intro N
    induction N with
    | zero =>
      intro i hi hn
      have hi2 : i = 6 := by omega
      subst hi2
      refine r_iload_n (pc := 2) X dX2_whoIsUnder_2 rfl ?_
      refine r_bipush (pc := 3) (v := nI 6) X dX2_whoIsUnder_3 (by decide) ?_
      refine r_icmp_geN (pc := 5) X 26 dX2_whoIsUnder_5 (by decide) (by omega) (by omega) (fun _ => ?_) (fun h => absurd (Nat.le_refl _) h)
      refine r_iconst (pc := 26) (v := -1) X dX2_whoIsUnder_26 (by decide) ?_
      exact r_iret (pc := 27) X dX2_whoIsUnder_27 (⟨by rw [wu_none hn, uI_0], rfl⟩)
    | succ N ih =>
      intro i hi hn
      have hb := hS.2.2.2.2.2.2.1 i (by omega)
      refine r_iload_n (pc := 2) X dX2_whoIsUnder_2 rfl ?_
      refine r_bipush (pc := 3) (v := nI 6) X dX2_whoIsUnder_3 (by decide) ?_
      refine r_icmp_geN (pc := 5) X 26 dX2_whoIsUnder_5 (by decide) (by omega) (by omega) (fun h => absurd h (by omega)) (fun h => ?_)
      refine r_aload_n (pc := 8) X dX2_whoIsUnder_8 rfl ?_
      apply r_get (pc := 9) X f_X2_9 dX2_whoIsUnder_9
      · repeat (first | exact mu_self | assumption | refine (mu_ne (by omega)).trans ?_)
      · rfl
      refine r_iload_n (pc := 12) X dX2_whoIsUnder_12 rfl ?_
      apply r_iald (pc := 13) X dX2_whoIsUnder_13
      · repeat (first | exact mu_self | assumption | refine (mu_ne (by omega)).trans ?_)
      · omega
      · decide
      refine r_iload_n (pc := 14) X dX2_whoIsUnder_14 rfl ?_
      refine r_icmp_ne (pc := 15) X 20 dX2_whoIsUnder_15 (by decide) (fun h2 => ?_) (fun h2 => ?_)
      · refine r_iincN (pc := 20) (b := 1) X dX2_whoIsUnder_20 rfl (by decide) rfl ?_
        refine r_goto (pc := 23) X 2 dX2_whoIsUnder_23 (by decide) ?_
        refine ih (i + 1) (by omega) (fun m hm => ?_)
        by_cases hmi : m = i
        · subst hmi
          intro q
          exact h2 (by show uI (S (12 + m)) = nI s'; rw [q, uI_S])
        · exact hn m (by omega)
      · have h3 : S (12 + i) = s' + 1 := (uI_eq (by omega) (by omega)).mp (by rw [uI_S]; exact h2)
        refine r_iload_n (pc := 18) X dX2_whoIsUnder_18 rfl ?_
        exact r_iret (pc := 19) X dX2_whoIsUnder_19 (⟨by rw [wu_one (show i < 6 by omega) h3 (fun n hn' hq => hS.2.2.2.2.2.2.2.2 n i hn' (by omega) (by omega) (by rw [hq, h3])), uI_S], rfl⟩)
  exact key 6 0 (by omega) (fun m hm => by omega)
theorem t2_canHide {m' w : Nat} (ha : ScAt Γ μ a (scV (T 0) S) (scU S)) (hT : IT T) (hS : IS T S) (hm : m' < T 0) (hw : w ≤ T 7) : CT Γ l 1 sz 0 0 mX2_canHide [.ref a, .int (nI m'), .int (uI w)] μ (ri (fun r μ' => r = zb (canT S m' w) ∧ μ' = μ)) := by
  have ha0 := ha
  obtain ⟨g0, g1, gz⟩ := ha
  have h6 := hT.1
  have h7 := hT.2.1
  have hu := hS.2.2.2.2.2.2.1 m' (by omega)
  have hg : S 5 < 2 ^ 6 := Nat.lt_of_lt_of_le hS.2.2.2.2.1 (Nat.pow_le_pow_right (by decide) h7)
  refine CT.go RX2 rfl "canHide" rfl [some (.ref a), some (.int (nI m')), some (.int (uI w))] rfl (by decide) (Nat.le_of_ble_eq_true rfl) ?_
  intro p e R s m args below meth c X hsz
  refine r_aload_n (pc := 0) X dX2_canHide_0 rfl ?_
  apply r_get (pc := 1) X f_X2_44 dX2_canHide_1
  · repeat (first | exact mu_self | assumption | refine (mu_ne (by omega)).trans ?_)
  · rfl
  refine r_iload_n (pc := 4) X dX2_canHide_4 rfl ?_
  refine c_i X (rSN (pc := 5) X l_X2_62 (t6_hasBit (b := msk (T 0) S 0) (k := m') (Nat.lt_trans (msk_lt h6 S 0) (by decide)) (by omega)) dX2_canHide_5 rfl rfl (Nat.le_of_ble_eq_true rfl) (by decide) (Nat.le_of_ble_eq_true rfl) (Nat.le_of_ble_eq_true rfl)) ?_
  rintro _ μq ⟨rfl, hμq⟩
  rw [hμq]
  clear hμq μq
  rw [msk_test, decide_eq_true hm]
  first | refine r_if_neZ (pc := 8) X 13 dX2_canHide_8 (by decide) (fun h => ?_) (fun h => ?_) | refine r_if_neN (pc := 8) X 13 dX2_canHide_8 (by decide) (by omega) (fun h => ?_) (fun h => ?_) | refine r_if_ne (pc := 8) X 13 dX2_canHide_8 (by decide) (fun h => ?_) (fun h => ?_)
  · simp at h
    refine r_iload_n (pc := 13) X dX2_canHide_13 rfl ?_
    refine r_iconst (pc := 14) (v := -1) X dX2_canHide_14 (by decide) ?_
    refine r_icmp_ne (pc := 15) X 44 dX2_canHide_15 (by decide) (fun h2 => ?_) (fun h2 => ?_)
    · have hw0 : w ≠ 0 := fun q => h2 (by rw [q, uI_0])
      obtain ⟨w, rfl⟩ : ∃ k, w = k + 1 := ⟨w - 1, by omega⟩
      rw [uI_S]
      refine r_aload_n (pc := 44) X dX2_canHide_44 rfl ?_
      apply r_get (pc := 45) X f_X2_53 dX2_canHide_45
      · repeat (first | exact mu_self | assumption | refine (mu_ne (by omega)).trans ?_)
      · rfl
      refine r_iload_n (pc := 48) X dX2_canHide_48 rfl ?_
      refine c_i X (rSN (pc := 49) X l_X2_62 (t6_hasBit (b := S 5) (k := w) (by omega) (by omega)) dX2_canHide_49 rfl rfl (Nat.le_of_ble_eq_true rfl) (by decide) (Nat.le_of_ble_eq_true rfl) (Nat.le_of_ble_eq_true rfl)) ?_
      rintro _ μq ⟨rfl, hμq⟩
      rw [hμq]
      clear hμq μq
      first | refine r_if_neZ (pc := 52) X 68 dX2_canHide_52 (by decide) (fun h3 => ?_) (fun h3 => ?_) | refine r_if_neN (pc := 52) X 68 dX2_canHide_52 (by decide) (by omega) (fun h3 => ?_) (fun h3 => ?_) | refine r_if_ne (pc := 52) X 68 dX2_canHide_52 (by decide) (fun h3 => ?_) (fun h3 => ?_)
      · refine r_iconst (pc := 68) (v := nI 0) X dX2_canHide_68 (by decide) ?_
        have e : canT S m' (w + 1) = false := by unfold canT; rw [if_neg (by omega)]; simp [h3]
        exact r_zret (pc := 69) X dX2_canHide_69 (by first | rfl | decide | exact zb_nar _) (⟨by rw [e]; rfl, rfl⟩)
      · refine r_aload_n (pc := 55) X dX2_canHide_55 rfl ?_
        refine r_iload_n (pc := 56) X dX2_canHide_56 rfl ?_
        refine c_i X (rV (pc := 57) (ci := 2) X l_X2_66 (t2_whoIsUnder ha0 hT hS (s' := w) (by omega)) dX2_canHide_57 (by repeat (first | exact mu_self | assumption | refine (mu_ne (by omega)).trans ?_)) rfl rfl rfl (Nat.le_of_ble_eq_true rfl) (by decide) (Nat.le_of_ble_eq_true rfl) (Nat.le_of_ble_eq_true rfl)) ?_
        rintro _ μq ⟨rfl, hμq⟩
        rw [hμq]
        clear hμq μq
        refine r_iconst (pc := 60) (v := -1) X dX2_canHide_60 (by decide) ?_
        have hwl := wu_le S w 6
        refine r_icmp_ne (pc := 61) X 68 dX2_canHide_61 (by decide) (fun h4 => ?_) (fun h4 => ?_)
        · have h5 : wu S w 6 ≠ 0 := fun q => h4 (by rw [q, uI_0])
          refine r_iconst (pc := 68) (v := nI 0) X dX2_canHide_68 (by decide) ?_
          have e : canT S m' (w + 1) = false := by unfold canT; rw [if_neg (by omega)]; simp [h5]
          exact r_zret (pc := 69) X dX2_canHide_69 (by first | rfl | decide | exact zb_nar _) (⟨by rw [e]; rfl, rfl⟩)
        · have h5 : wu S w 6 = 0 := (uI_eq (by omega) (by omega)).mp (by rw [h4, uI_0])
          refine r_iconst (pc := 64) (v := nI 1) X dX2_canHide_64 (by decide) ?_
          refine r_goto (pc := 65) X 69 dX2_canHide_65 (by decide) ?_
          have e : canT S m' (w + 1) = true := by unfold canT; rw [if_neg (by omega)]; simp [h3, h5, h]
          exact r_zret (pc := 69) X dX2_canHide_69 (by first | rfl | decide | exact zb_nar _) (⟨by rw [e]; rfl, rfl⟩)
    · have hw0 : w = 0 := (uI_eq (by omega) (by omega)).mp (by rw [h2, uI_0])
      subst hw0
      refine r_iload_n (pc := 18) X dX2_canHide_18 rfl ?_
      refine r_if_ltN (pc := 19) X 42 dX2_canHide_19 (by decide) (by omega) (fun h => absurd h (by omega)) (fun _ => ?_)
      refine r_iload_n (pc := 22) X dX2_canHide_22 rfl ?_
      refine r_bipush (pc := 23) (v := nI 6) X dX2_canHide_23 (by decide) ?_
      refine r_icmp_geN (pc := 25) X 42 dX2_canHide_25 (by decide) (by omega) (by omega) (fun h => absurd h (by omega)) (fun _ => ?_)
      refine r_aload_n (pc := 28) X dX2_canHide_28 rfl ?_
      apply r_get (pc := 29) X f_X2_9 dX2_canHide_29
      · repeat (first | exact mu_self | assumption | refine (mu_ne (by omega)).trans ?_)
      · rfl
      refine r_iload_n (pc := 32) X dX2_canHide_32 rfl ?_
      apply r_iald (pc := 33) X dX2_canHide_33
      · repeat (first | exact mu_self | assumption | refine (mu_ne (by omega)).trans ?_)
      · omega
      · decide
      refine r_iconst (pc := 34) (v := -1) X dX2_canHide_34 (by decide) ?_
      refine r_icmp_eq (pc := 35) X 42 dX2_canHide_35 (by decide) (fun h4 => ?_) (fun h4 => ?_)
      · have h5 : S (12 + m') = 0 := (uI_eq (by omega) (by omega)).mp (by rw [uI_0]; exact h4)
        refine r_iconst (pc := 42) (v := nI 0) X dX2_canHide_42 (by decide) ?_
        have e : canT S m' 0 = false := by unfold canT; rw [if_pos rfl]; simp [h5]
        exact r_zret (pc := 43) X dX2_canHide_43 (by first | rfl | decide | exact zb_nar _) (⟨by rw [e]; rfl, rfl⟩)
      · have h5 : S (12 + m') ≠ 0 := fun q => h4 (by show uI (S (12 + m')) = -1; rw [q, uI_0])
        refine r_iconst (pc := 38) (v := nI 1) X dX2_canHide_38 (by decide) ?_
        refine r_goto (pc := 39) X 43 dX2_canHide_39 (by decide) ?_
        have e : canT S m' 0 = true := by unfold canT; rw [if_pos rfl]; simp [h5, h]
        exact r_zret (pc := 43) X dX2_canHide_43 (by first | rfl | decide | exact zb_nar _) (⟨by rw [e]; rfl, rfl⟩)
  · simp at h
    refine r_iconst (pc := 11) (v := nI 0) X dX2_canHide_11 (by decide) ?_
    have e : canT S m' w = false := by unfold canT; simp [h]
    exact r_zret (pc := 12) X dX2_canHide_12 (by first | rfl | decide | exact zb_nar _) (⟨by rw [e]; rfl, rfl⟩)
end S14
end
section
theorem cIn_mono (S : Nat → Nat) {i j : Nat} (h : i ≤ j) : cIn S i ≤ cIn S j := by
  induction j with
  | zero => have : i = 0 := by omega
            subst this; exact Nat.le_refl _
  | succ j ih =>
    by_cases h1 : i = j + 1
    · subst h1; exact Nat.le_refl _
    · have := ih (by omega)
      show cIn S i ≤ cIn S j + _
      omega
theorem cIn_le (S : Nat → Nat) (i : Nat) : cIn S i ≤ i := by
  induction i with
  | zero => exact Nat.le_refl _
  | succ i ih =>
    show cIn S i + (if S (6 + i) = 0 then 1 else 0) ≤ i + 1
    split <;> omega
def eatQ (men : Nat) (S : Nat → Nat) (n k : Nat) : Bool := decide (k < men) && eatP S n k
theorem mkb_cut {n k : Nat} {p : Nat → Bool} (h : n ≤ k) (hp : ∀ i, n ≤ i → i < k → p i = false) : mkb k p = mkb n p := by
  apply Nat.eq_of_testBit_eq
  intro i
  rw [mkb_test, mkb_test]
  by_cases h1 : i < n
  · simp [h1, show i < k by omega]
  · by_cases h2 : i < k
    · simp [h1, h2, hp i (by omega) h2]
    · simp [h1, h2]
theorem eatQ_all {men n : Nat} {S : Nat → Nat} (hm : men ≤ 6) {i : Nat} (hi : i ≤ 6) (hn : ∀ k, i ≤ k → k < men → eatP S n k = false) : mkb i (eatQ men S n) = mkb men (eatP S n) := by
  apply Nat.eq_of_testBit_eq
  intro k
  rw [mkb_test, mkb_test]
  unfold eatQ
  by_cases h1 : k < i
  · simp [h1]
  · by_cases h2 : k < men
    · simp [h1, h2, hn k (by omega) h2]
    · simp [h1, h2]
theorem eatS_how {men n : Nat} {S : Nat → Nat} {k : Nat} (hk : k < 6) : eatS men n S (6 + k) = if eatQ men S n k = true then 2 else S (6 + k) := by
  unfold eatS eatQ
  rw [show 6 + k - 6 = k by omega]
  by_cases h : k < men
  · by_cases h2 : eatP S n k = true
    · rw [if_pos ⟨by omega, by omega, h2⟩, if_pos (by simp [h, h2])]
    · rw [if_neg (fun q => h2 q.2.2), if_neg (by omega), if_neg (by simp [h2])]
  · rw [if_neg (by omega), if_neg (by omega), if_neg (by simp [h])]
theorem eatS_und {men n : Nat} {S : Nat → Nat} {k : Nat} (hm : men ≤ 6) : eatS men n S (12 + k) = if eatQ men S n k = true then 0 else S (12 + k) := by
  unfold eatS eatQ
  rw [show 12 + k - 12 = k by omega]
  by_cases h : k < men
  · by_cases h2 : eatP S n k = true
    · rw [if_neg (by omega), if_pos ⟨by omega, by omega, h2⟩, if_pos (by simp [h, h2])]
    · rw [if_neg (by omega), if_neg (fun q => h2 q.2.2), if_neg (by simp [h2])]
  · rw [if_neg (by omega), if_neg (by omega), if_neg (by simp [h])]
theorem eatS_lo {men n : Nat} {S : Nat → Nat} {k : Nat} (hk : k < 6) : eatS men n S k = S k := by
  unfold eatS
  rw [if_neg (by omega), if_neg (by omega)]
theorem eat_in {men n : Nat} {S : Nat → Nat} (hm : men ≤ 6) : msk men S 0 &&& (mkb men (eatP S n) ^^^ 63) = msk men (eatS men n S) 0 := by
  refine eq_test6 (andn_lt (msk_lt hm S 0)) (msk_lt hm _ 0) (fun k hk => ?_)
  rw [andn_test hk, msk_test, msk_test, mkb_test, eatS_how hk]
  unfold eatQ
  by_cases h : k < men
  · cases h2 : eatP S n k <;> simp [h]
  · simp [h]
theorem eat_ea {men n : Nat} {S : Nat → Nat} (hm : men ≤ 6) : msk men S 2 ||| mkb men (eatP S n) = msk men (eatS men n S) 2 := by
  refine eq_test6 (or_lt64 (msk_lt hm S 2) (mkb_lt64 hm _)) (msk_lt hm _ 2) (fun k hk => ?_)
  rw [Nat.testBit_or, msk_test, msk_test, mkb_test, eatS_how hk]
  unfold eatQ
  by_cases h : k < men
  · cases h2 : eatP S n k <;> simp [h]
  · simp [h]
theorem eat_out {men n : Nat} {S : Nat → Nat} (hm : men ≤ 6) : msk men S 1 = msk men (eatS men n S) 1 := by
  refine eq_test6 (msk_lt hm S 1) (msk_lt hm _ 1) (fun k hk => ?_)
  rw [msk_test, msk_test, eatS_how hk]
  unfold eatQ
  by_cases h : k < men
  · cases h2 : eatP S n k
    · simp [h]
    · have : S (6 + k) = 0 := by unfold eatP at h2; simp at h2; exact h2.1
      simp [h, this]
  · simp [h]
section S15
variable {Γ : KK} {l : Launch} {sz : Nat} {μ : MM} {a : Nat} {T S : Nat → Nat}
theorem mP.reI {b n : Nat} {f g : Nat → Int32} {H : Heap} (h : mP Γ μ H) (hb : μ b = some (xI Γ n f)) (he : ∀ i, i < n → f i = g i) : mP Γ (mu μ b (xI Γ n g)) H := by
  refine mP.congrI he ?_
  have : mu μ b (xI Γ n f) = μ := by
    funext q
    by_cases hq : q = b
    · subst hq; rw [mu_self, hb]
    · rw [mu_ne hq]
  rw [this]
  exact h
theorem t2_eatFirst {n : Nat} (ha : ScAt Γ μ a (scV (T 0) S) (scU S)) (hI : T 0 ≤ 6) (hn : n ≤ 6) : CT Γ l 1 sz 0 0 mX2_eatFirst [.ref a, .int (nI n)] μ (ri (fun r μ' => r = nI (mkb (T 0) (eatP S n)) ∧ ScAt Γ μ' a (scV (T 0) (eatS (T 0) n S)) (scU (eatS (T 0) n S)) ∧ Fr a 2 μ μ')) := by
  obtain ⟨g0, g1, gz⟩ := ha
  refine CT.go RX2 rfl "eatFirst" rfl [some (.ref a), some (.int (nI n)), none, none, none] rfl (by decide) (Nat.le_of_ble_eq_true rfl) ?_
  intro p e R s m args below meth c X hsz
  refine r_iconst (pc := 0) (v := nI 0) X dX2_eatFirst_0 (by decide) ?_
  refine r_istore_n (pc := 1) X dX2_eatFirst_1 (by decide) rfl ?_
  refine r_iload_n (pc := 2) X dX2_eatFirst_2 rfl ?_
  refine r_istore_n (pc := 3) X dX2_eatFirst_3 (by decide) rfl ?_
  refine r_iconst (pc := 4) (v := nI 0) X dX2_eatFirst_4 (by decide) ?_
  refine r_istore (pc := 5) X dX2_eatFirst_5 (by decide) rfl ?_
  have fin : ∀ (i left : Nat) (f : Nat → Int32) (μ1 : MM), (∀ j, j < 6 → f j = scU (eatS (T 0) n S) j) → μ1 a = μ a → μ1 (a + 1) = some (xI Γ 6 f) → Fr a 2 μ μ1 → vV Γ p l e R s m args below meth c (vQ Γ s args below 0 0 (ri (fun r μ' => r = nI (mkb (T 0) (eatP S n)) ∧ ScAt Γ μ' a (scV (T 0) (eatS (T 0) n S)) (scU (eatS (T 0) n S)) ∧ Fr a 2 μ μ'))) 5 0 0 54 [some (.ref (a)), some (.int (nI (n))), some (.int (nI (mkb (T 0) (eatP S n)))), some (.int (nI (left))), some (.int (nI (i)))] [] (μ1) := by
    intro i left f μ1 hf q0 q1 q2
    have q0' := q0.trans g0
    refine vV.sub (μ' := mu μ1 (a + 1) (xI Γ 6 (scU (eatS (T 0) n S)))) (fun H hP => hP.reI q1 hf) ?_
    have q3 : mu μ1 (a + 1) (xI Γ 6 (scU (eatS (T 0) n S))) a = _ := (mu_ne (by omega)).trans q0'
    refine r_aload_n (pc := 54) X dX2_eatFirst_54 rfl ?_
    refine r_dup (pc := 55) X dX2_eatFirst_55 rfl ?_
    apply r_get (pc := 56) X f_X2_44 dX2_eatFirst_56
    · repeat (first | exact mu_self | assumption | refine (mu_ne (by omega)).trans ?_)
    · rfl
    refine r_iload_n (pc := 59) X dX2_eatFirst_59 rfl ?_
    refine r_iconst (pc := 60) (v := -1) X dX2_eatFirst_60 (by decide) ?_
    refine r_ixor (pc := 61) X dX2_eatFirst_61 ?_
    refine r_iand (pc := 62) X dX2_eatFirst_62 ?_
    have e1 : scV (T 0) S 5 &&& (nI (mkb (T 0) (eatP S n)) ^^^ -1) = scV (T 0) (eatS (T 0) n S) 5 := by
      show nI (msk (T 0) S 0) &&& _ = nI (msk (T 0) (eatS (T 0) n S) 0)
      rw [nI_andn _ (msk_lt hI S 0) _ (mkb_lt64 hI _), eat_in hI]
    rw [e1]
    first | refine r_putS (pc := 63) X f_X2_44 dX2_eatFirst_63 (by first | rfl | assumption | decide | simp [narrow]) (by first | rfl | assumption) (Nat.le_of_ble_eq_true rfl) ?_ | refine r_put (pc := 63) X f_X2_44 dX2_eatFirst_63 (by repeat (first | exact mu_self | assumption | refine (mu_ne (by omega)).trans ?_)) (by first | rfl | assumption | decide | simp [narrow]) (by first | rfl | assumption) (Nat.le_of_ble_eq_true rfl) ?_
    refine r_aload_n (pc := 66) X dX2_eatFirst_66 rfl ?_
    refine r_dup (pc := 67) X dX2_eatFirst_67 rfl ?_
    apply r_get (pc := 68) X f_X2_50 dX2_eatFirst_68
    · repeat (first | exact mu_self | assumption | refine (mu_ne (by omega)).trans ?_)
    · rfl
    refine r_iload_n (pc := 71) X dX2_eatFirst_71 rfl ?_
    refine r_ior (pc := 72) X dX2_eatFirst_72 ?_
    have e2 : scV (T 0) S 7 ||| nI (mkb (T 0) (eatP S n)) = scV (T 0) (eatS (T 0) n S) 7 := by
      show nI (msk (T 0) S 2) ||| _ = nI (msk (T 0) (eatS (T 0) n S) 2)
      rw [nI_or, eat_ea hI]
    rw [e2]
    first | refine r_putS (pc := 73) X f_X2_50 dX2_eatFirst_73 (by first | rfl | assumption | decide | simp [narrow]) (by first | rfl | assumption) (Nat.le_of_ble_eq_true rfl) ?_ | refine r_put (pc := 73) X f_X2_50 dX2_eatFirst_73 (by repeat (first | exact mu_self | assumption | refine (mu_ne (by omega)).trans ?_)) (by first | rfl | assumption | decide | simp [narrow]) (by first | rfl | assumption) (Nat.le_of_ble_eq_true rfl) ?_
    refine r_iload_n (pc := 76) X dX2_eatFirst_76 rfl ?_
    have e3 : scV (T 0) S 6 = scV (T 0) (eatS (T 0) n S) 6 := by
      show nI (msk (T 0) S 1) = nI (msk (T 0) (eatS (T 0) n S) 1)
      rw [eat_out hI]
    have e0 : ∀ k, k < 6 → S k = eatS (T 0) n S k := fun k hk => (eatS_lo hk).symm
    refine r_iret (pc := 77) X dX2_eatFirst_77 ⟨rfl, ⟨?_, (by repeat (first | exact mu_self | assumption | refine (mu_ne (by omega)).trans ?_)), ?_⟩, fun q hq => (mu_ne (by omega)).trans ((mu_ne (by omega)).trans (q2 q hq))⟩
    · rw [mu_self]
      have z0 : scV (T 0) S 0 = scV (T 0) (eatS (T 0) n S) 0 := congrArg nI (e0 4 (by omega))
      have z1 : scV (T 0) S 1 = scV (T 0) (eatS (T 0) n S) 1 := congrArg nI (e0 0 (by omega))
      have z2 : scV (T 0) S 2 = scV (T 0) (eatS (T 0) n S) 2 := congrArg nI (e0 1 (by omega))
      have z3 : scV (T 0) S 3 = scV (T 0) (eatS (T 0) n S) 3 := congrArg nI (e0 2 (by omega))
      have z4 : scV (T 0) S 4 = scV (T 0) (eatS (T 0) n S) 4 := congrArg nI (e0 3 (by omega))
      have z8 : scV (T 0) S 8 = scV (T 0) (eatS (T 0) n S) 8 := congrArg nI (e0 5 (by omega))
      rw [← z0, ← z1, ← z2, ← z3, ← z4, ← z8, ← e3]
      rfl
    · have z4 : scV (T 0) S 4 = scV (T 0) (eatS (T 0) n S) 4 := congrArg nI (e0 3 (by omega))
      rw [← z4]
      exact gz
  have key : ∀ (N i : Nat) (f : Nat → Int32) (μ1 : MM), i + N = 6 → (∀ j, j < 6 → f j = if j < i ∧ eatQ (T 0) S n j = true then uI 0 else scU S j) → μ1 a = μ a → μ1 (a + 1) = some (xI Γ 6 f) → Fr a 2 μ μ1 → vV Γ p l e R s m args below meth c (vQ Γ s args below 0 0 (ri (fun r μ' => r = nI (mkb (T 0) (eatP S n)) ∧ ScAt Γ μ' a (scV (T 0) (eatS (T 0) n S)) (scU (eatS (T 0) n S)) ∧ Fr a 2 μ μ'))) 5 0 0 7 [some (.ref (a)), some (.int (nI (n))), some (.int (nI (mkb i (eatQ (T 0) S n)))), some (.int (nI (n - cIn S (min i (T 0))))), some (.int (nI (i)))] [] (μ1) := by
    intro N
    induction N with
    | zero =>
      intro i f μ1 hi hf q0 q1 q2
      have hi2 : i = 6 := by omega
      subst hi2
      refine r_iload (pc := 7) X dX2_eatFirst_7 rfl ?_
      refine r_bipush (pc := 9) (v := nI 6) X dX2_eatFirst_9 (by decide) ?_
      refine r_icmp_geN (pc := 11) X 54 dX2_eatFirst_11 (by decide) (by omega) (by omega) (fun _ => ?_) (fun h => absurd (Nat.le_refl _) h)
      rw [eatQ_all hI (Nat.le_refl 6) (fun k h1 h2 => by omega)]
      refine fin _ _ f μ1 (fun j hj => ?_) q0 q1 q2
      rw [hf j hj]
      show _ = uI (eatS (T 0) n S (12 + j))
      rw [eatS_und hI]
      by_cases hq : eatQ (T 0) S n j = true
      · rw [if_pos ⟨hj, hq⟩, if_pos hq]
      · rw [if_neg (fun z => hq z.2), if_neg hq]; rfl
    | succ N ih =>
      intro i f μ1 hi hf q0 q1 q2
      have q0' := q0.trans g0
      have hcl := cIn_le S (min i (T 0))
      refine r_iload (pc := 7) X dX2_eatFirst_7 rfl ?_
      refine r_bipush (pc := 9) (v := nI 6) X dX2_eatFirst_9 (by decide) ?_
      refine r_icmp_geN (pc := 11) X 54 dX2_eatFirst_11 (by decide) (by omega) (by omega) (fun h => absurd h (by omega)) (fun h => ?_)
      refine r_iload_n (pc := 14) X dX2_eatFirst_14 rfl ?_
      first | refine r_if_leN (pc := 15) X 54 dX2_eatFirst_15 (by decide) (by omega) (fun h2 => ?_) (fun h2 => ?_) | refine r_if_le (pc := 15) X 54 dX2_eatFirst_15 (by decide) (fun h2 => ?_) (fun h2 => ?_)
      · have hrest : ∀ k, i ≤ k → k < T 0 → eatP S n k = false := fun k h3 h4 => by
          have h5 := cIn_mono S (show min i (T 0) ≤ k by omega)
          unfold eatP
          exact decide_eq_false (fun q => by omega)
        rw [eatQ_all hI (by omega) hrest]
        refine fin _ _ f μ1 (fun j hj => ?_) q0 q1 q2
        rw [hf j hj]
        show _ = uI (eatS (T 0) n S (12 + j))
        rw [eatS_und hI]
        by_cases hq : eatQ (T 0) S n j = true
        · have hji : j < i := by
            refine Nat.lt_of_not_le (fun z => ?_)
            unfold eatQ at hq
            simp at hq
            rw [hrest j z hq.1] at hq
            exact absurd hq.2 (by decide)
          rw [if_pos ⟨hji, hq⟩, if_pos hq]
        · rw [if_neg (fun z => hq z.2), if_neg hq]; rfl
      · refine r_aload_n (pc := 18) X dX2_eatFirst_18 rfl ?_
        apply r_get (pc := 19) X f_X2_44 dX2_eatFirst_19
        · repeat (first | exact mu_self | assumption | refine (mu_ne (by omega)).trans ?_)
        · rfl
        refine r_iload (pc := 22) X dX2_eatFirst_22 rfl ?_
        refine c_i X (rSN (pc := 24) X l_X2_62 (t6_hasBit (b := msk (T 0) S 0) (k := i) (Nat.lt_trans (msk_lt hI S 0) (by decide)) (by omega)) dX2_eatFirst_24 rfl rfl (Nat.le_of_ble_eq_true rfl) (by decide) (Nat.le_of_ble_eq_true rfl) (Nat.le_of_ble_eq_true rfl)) ?_
        rintro _ μq ⟨rfl, hμq⟩
        rw [hμq]
        clear hμq μq
        rw [msk_test]
        first | refine r_if_eqZ (pc := 27) X 48 dX2_eatFirst_27 (by decide) (fun h3 => ?_) (fun h3 => ?_) | refine r_if_eqN (pc := 27) X 48 dX2_eatFirst_27 (by decide) (by omega) (fun h3 => ?_) (fun h3 => ?_) | refine r_if_eq (pc := 27) X 48 dX2_eatFirst_27 (by decide) (fun h3 => ?_) (fun h3 => ?_)
        · have hQ : eatQ (T 0) S n i = false := by
            unfold eatQ eatP
            simp at h3
            by_cases h4 : i < T 0
            · simp [h3 h4]
            · simp [h4]
          have e1 : mkb (i + 1) (eatQ (T 0) S n) = mkb i (eatQ (T 0) S n) := by rw [mkb_succ, hQ]; simp
          have e2 : cIn S (min (i + 1) (T 0)) = cIn S (min i (T 0)) := by
            by_cases h4 : i < T 0
            · have h5 : S (6 + i) ≠ 0 := by simp at h3; exact h3 h4
              rw [Nat.min_eq_left (by omega), Nat.min_eq_left (by omega)]
              show cIn S i + (if S (6 + i) = 0 then 1 else 0) = _
              rw [if_neg h5]
              rfl
            · rw [Nat.min_eq_right (by omega), Nat.min_eq_right (by omega)]
          refine r_iincN (pc := 48) (b := 1) X dX2_eatFirst_48 rfl (by decide) rfl ?_
          refine r_goto (pc := 51) X 7 dX2_eatFirst_51 (by decide) ?_
          have := ih (i + 1) f _ (by omega) (fun j hj => by
            rw [hf j hj]
            by_cases h5 : j = i
            · subst h5
              rw [if_neg (by omega), if_neg (by rw [hQ]; simp)]
            · by_cases h6 : j < i
              · simp [h6, show j < i + 1 by omega]
              · rw [if_neg (by omega), if_neg (by omega)]) q0 q1 q2
          rw [e1, e2] at this
          exact this
        · simp at h3
          have hP : eatP S n i = true := by
            unfold eatP
            rw [Nat.min_eq_left (by omega)] at h2
            exact decide_eq_true ⟨h3.2, by omega⟩
          have hQ : eatQ (T 0) S n i = true := by unfold eatQ; simp [h3.1, hP]
          have e1 : mkb (i + 1) (eatQ (T 0) S n) = mkb i (eatQ (T 0) S n) ||| 1 <<< i := by rw [mkb_succ, hQ]; simp
          have e2 : cIn S (min (i + 1) (T 0)) = cIn S (min i (T 0)) + 1 := by
            rw [Nat.min_eq_left (by omega), Nat.min_eq_left (by omega)]
            show cIn S i + (if S (6 + i) = 0 then 1 else 0) = _
            rw [if_pos h3.2]
          refine r_iload_n (pc := 30) X dX2_eatFirst_30 rfl ?_
          refine r_iconst (pc := 31) (v := nI 1) X dX2_eatFirst_31 (by decide) ?_
          refine r_iload (pc := 32) X dX2_eatFirst_32 rfl ?_
          first | refine r_ishlN (pc := 34) X dX2_eatFirst_34 (by omega) ?_ | refine r_ishl (pc := 34) X dX2_eatFirst_34 ?_
          first | refine r_iorN (pc := 35) X dX2_eatFirst_35 ?_ | refine r_ior (pc := 35) X dX2_eatFirst_35 ?_
          refine r_istore_n (pc := 36) X dX2_eatFirst_36 (by decide) rfl ?_
          refine r_aload_n (pc := 37) X dX2_eatFirst_37 rfl ?_
          apply r_get (pc := 38) X f_X2_9 dX2_eatFirst_38
          · repeat (first | exact mu_self | assumption | refine (mu_ne (by omega)).trans ?_)
          · rfl
          refine r_iload (pc := 41) X dX2_eatFirst_41 rfl ?_
          refine r_iconst (pc := 43) (v := -1) X dX2_eatFirst_43 (by decide) ?_
          apply r_iast (pc := 44) X dX2_eatFirst_44
          · repeat (first | exact mu_self | assumption | refine (mu_ne (by omega)).trans ?_)
          · omega
          · decide
          obtain ⟨lf, hlf⟩ : ∃ lf, n - cIn S (min i (T 0)) = lf + 1 := ⟨n - cIn S (min i (T 0)) - 1, by omega⟩
          rw [hlf]
          refine r_iincD (pc := 45) X dX2_eatFirst_45 rfl (by decide) rfl ?_
          refine r_iincN (pc := 48) (b := 1) X dX2_eatFirst_48 rfl (by decide) rfl ?_
          refine r_goto (pc := 51) X 7 dX2_eatFirst_51 (by decide) ?_
          have := ih (i + 1) (upd f i (-1)) (mu _ (a + 1) (xI Γ 6 (upd f i (-1)))) (by omega) (fun j hj => by
            unfold upd
            by_cases h5 : j = i
            · subst h5
              rw [if_pos rfl, if_pos ⟨by omega, hQ⟩, uI_0]
            · rw [if_neg h5, hf j hj]
              by_cases h6 : j < i
              · simp [h6, show j < i + 1 by omega]
              · rw [if_neg (by omega), if_neg (by omega)]) ((mu_ne (by omega)).trans q0) mu_self (fun q hq => (mu_ne (by omega)).trans (q2 q hq))
          rw [e1, e2, show n - (cIn S (min i (T 0)) + 1) = lf by omega] at this
          exact this
  exact key 6 0 (scU S) _ (by omega) (fun j hj => by rw [if_neg (by omega)]) rfl g1 Fr.rf
end S15
end
section
def inL (T S : Nat → Nat) (i : Nat) : Nat := mkb (T 0) (fun k => (S (6 + k) == 0) && !(decide (k < i) && decide (S (12 + k) ≠ 0)))
def eaL (T S : Nat → Nat) (i : Nat) : Nat := mkb (T 0) (fun k => (S (6 + k) == 2) || (decide (k < i) && decide (S (12 + k) ≠ 0) && !mornP T S k))
theorem shl_pow {s n : Nat} (h : s < n) : 1 <<< s < 2 ^ n := by rw [Nat.one_shiftLeft]; exact Nat.pow_lt_pow_right (by decide) h
theorem gnS_lt {T S : Nat → Nat} (hS : IS T S) : ∀ i, i ≤ 6 → gnS T S i < 2 ^ T 7 := by
  intro i
  induction i with
  | zero => intro _; exact hS.2.2.2.2.1
  | succ i ih =>
    intro hi
    show (if mornP T S i = true then gnS T S i ||| 1 <<< (S (12 + i) - 1) else gnS T S i) < 2 ^ T 7
    by_cases h : mornP T S i = true
    · rw [if_pos h]
      have h1 : S (12 + i) ≠ 0 := by unfold mornP at h; simp at h; exact h.1
      have h2 := hS.2.2.2.2.2.2.1 i (by omega)
      exact Nat.or_lt_two_pow (ih (by omega)) (shl_pow (by omega))
    · rw [if_neg h]; exact ih (by omega)
theorem morS_how {T S : Nat → Nat} {k : Nat} (hk : k < 6) : morS T S (6 + k) = if S (12 + k) ≠ 0 then (if mornP T S k = true then 1 else 2) else S (6 + k) := by
  unfold morS
  rw [if_neg (by omega), show 6 + (6 + k) = 12 + k by omega, show 6 + k - 6 = k by omega]
  by_cases h : S (12 + k) = 0
  · rw [if_neg (fun q => q.2.2 h), if_neg (by omega), if_neg (fun q => q h)]
  · rw [if_pos ⟨by omega, by omega, h⟩, if_pos h]
theorem morS_und {T S : Nat → Nat} {k : Nat} (hk : k < 6) : morS T S (12 + k) = 0 := by
  unfold morS
  rw [if_neg (by omega), if_neg (by omega), if_pos ⟨by omega, by omega⟩]
theorem morS_lo {T S : Nat → Nat} {k : Nat} (hk : k < 5) : morS T S k = S k := by
  unfold morS
  rw [if_neg (by omega), if_neg (by omega), if_neg (by omega)]
theorem morS_5 {T S : Nat → Nat} : morS T S 5 = gnS T S 6 := if_pos rfl
theorem mor_in {T S : Nat → Nat} (hI : T 0 ≤ 6) : inL T S 6 = msk (T 0) (morS T S) 0 := by
  refine eq_test6 (mkb_lt64 hI _) (msk_lt hI _ 0) (fun k hk => ?_)
  unfold inL
  rw [mkb_test, msk_test, morS_how hk]
  by_cases h : S (12 + k) = 0
  · simp [h]
  · cases h2 : mornP T S k <;> simp [h, hk]
theorem mor_ea {T S : Nat → Nat} (hI : T 0 ≤ 6) (hS : IS T S) : eaL T S 6 = msk (T 0) (morS T S) 2 := by
  refine eq_test6 (mkb_lt64 hI _) (msk_lt hI _ 2) (fun k hk => ?_)
  unfold eaL
  rw [mkb_test, msk_test, morS_how hk]
  by_cases h : S (12 + k) = 0
  · simp [h]
  · have h3 := (hS.2.2.2.2.2.2.2.1 k hk h).2
    cases h2 : mornP T S k <;> simp [h, hk, h3]
theorem mor_out {T S : Nat → Nat} (hI : T 0 ≤ 6) (hS : IS T S) : msk (T 0) S 1 ||| mkb 6 (mornP T S) = msk (T 0) (morS T S) 1 := by
  refine eq_test6 (or_lt64 (msk_lt hI S 1) (mkb_lt64 (Nat.le_refl 6) _)) (msk_lt hI _ 1) (fun k hk => ?_)
  rw [Nat.testBit_or, mkb_test, msk_test, msk_test, morS_how hk]
  by_cases h : S (12 + k) = 0
  · have h4 : mornP T S k = false := by unfold mornP; simp [h]
    simp [h, h4]
  · have h3 := hS.2.2.2.2.2.2.2.1 k hk h
    cases h2 : mornP T S k <;> simp [h, hk, h3.1, h3.2]
theorem inL_s {T S : Nat → Nat} (hI : T 0 ≤ 6) {i : Nat} (hi : i < 6) (h : S (12 + i) ≠ 0) : inL T S i &&& (1 <<< i ^^^ 63) = inL T S (i + 1) := by
  refine eq_test6 (andn_lt (mkb_lt64 hI _)) (mkb_lt64 hI _) (fun k hk => ?_)
  rw [andn_test hk, one_shl_test]
  unfold inL
  rw [mkb_test, mkb_test]
  by_cases h1 : k = i
  · subst h1; simp [h]
  · by_cases h2 : k < i
    · simp [h1, h2, show k < i + 1 by omega]
    · simp [h1, h2, show ¬ k < i + 1 by omega]
theorem inL_n {T S : Nat → Nat} {i : Nat} (h : S (12 + i) = 0) : inL T S (i + 1) = inL T S i := by
  refine mkb_congr (fun k hk => ?_)
  by_cases h1 : k = i
  · subst h1; simp [h]
  · by_cases h2 : k < i
    · simp [h2, show k < i + 1 by omega]
    · simp [h2, show ¬ k < i + 1 by omega]
theorem eaL_s {T S : Nat → Nat} (hI : T 0 ≤ 6) {i : Nat} (hi : i < T 0) (h : S (12 + i) ≠ 0) (hm : mornP T S i = false) : eaL T S i ||| 1 <<< i = eaL T S (i + 1) := by
  refine eq_test6 (or_lt64 (mkb_lt64 hI _) (one_shl_lt (by omega))) (mkb_lt64 hI _) (fun k hk => ?_)
  rw [Nat.testBit_or, one_shl_test]
  unfold eaL
  rw [mkb_test, mkb_test]
  by_cases h1 : k = i
  · subst h1; simp [h, hm, hi]
  · by_cases h2 : k < i
    · simp [h1, h2, show k < i + 1 by omega]
    · simp [h1, h2, show ¬ k < i + 1 by omega]
theorem eaL_n {T S : Nat → Nat} {i : Nat} (h : S (12 + i) = 0 ∨ mornP T S i = true) : eaL T S (i + 1) = eaL T S i := by
  refine mkb_congr (fun k hk => ?_)
  by_cases h1 : k = i
  · subst h1
    rcases h with h | h <;> simp [h]
  · by_cases h2 : k < i
    · simp [h2, show k < i + 1 by omega]
    · simp [h2, show ¬ k < i + 1 by omega]
theorem inL_0 {T S : Nat → Nat} : inL T S 0 = msk (T 0) S 0 := mkb_congr (fun k hk => by simp)
theorem eaL_0 {T S : Nat → Nat} : eaL T S 0 = msk (T 0) S 2 := mkb_congr (fun k hk => by simp)
section S16
variable {Γ : KK} {l : Launch} {sz : Nat} {μ : MM} {a b : Nat} {T S : Nat → Nat}
theorem t2_leave (ha : ScAt Γ μ a (scV (T 0) S) (scU S)) (hT : ToldAt Γ μ b T) (hI : IT T) (hS : IS T S) (hd : a + 2 ≤ b ∨ b + 5 ≤ a) : CT Γ l 4 sz 0 0 mX2_leave [.ref a, .ref b] μ (ri (fun r μ' => r = nI (mkb 6 (mornP T S)) ∧ ScAt Γ μ' a (scV (T 0) (morS T S)) (scU (morS T S)) ∧ Fr a 2 μ μ')) := by
  obtain ⟨g0, g1, gz⟩ := ha
  have h6 := hI.1
  have h7 := hI.2.1
  have hp7 := pow6 h7
  refine CT.go RX2 rfl "leave" rfl [some (.ref a), some (.ref b), none, none, none] rfl (by decide) (Nat.le_of_ble_eq_true rfl) ?_
  intro p e R s m args below meth c X hsz
  refine r_iconst (pc := 0) (v := nI 0) X dX2_leave_0 (by decide) ?_
  refine r_istore_n (pc := 1) X dX2_leave_1 (by decide) rfl ?_
  refine r_iconst (pc := 2) (v := nI 0) X dX2_leave_2 (by decide) ?_
  refine r_istore_n (pc := 3) X dX2_leave_3 (by decide) rfl ?_
  have key : ∀ (N i : Nat) (f : Nat → Int32) (q4 : Option Value) (μ1 : MM), i + N = 6 → (∀ j, j < 6 → f j = if j < i then uI 0 else scU S j) →
      μ1 a = some (xO 2 [.int (scV (T 0) S 0), .int (scV (T 0) S 1), .int (scV (T 0) S 2), .int (scV (T 0) S 3), .int (scV (T 0) S 4), .int (nI (inL T S i)), .int (scV (T 0) S 6), .int (nI (eaL T S i)), .int (nI (gnS T S i)), .ref (a + 1)]) → μ1 (a + 1) = some (xI Γ 6 f) → Fr a 2 μ μ1 →
      vV Γ p l e R s m args below meth c (vQ Γ s args below 0 0 (ri (fun r μ' => r = nI (mkb 6 (mornP T S)) ∧ ScAt Γ μ' a (scV (T 0) (morS T S)) (scU (morS T S)) ∧ Fr a 2 μ μ'))) 5 0 0 4 [some (.ref a), some (.ref b), some (.int (nI (mkb i (mornP T S)))), some (.int (nI i)), q4] [] μ1 := by
    intro N
    induction N with
    | zero =>
      intro i f q4 μ1 hi hf q0 q1 q2
      have hi2 : i = 6 := by omega
      subst hi2
      refine r_iload_n (pc := 4) X dX2_leave_4 rfl ?_
      refine r_bipush (pc := 5) (v := nI 6) X dX2_leave_5 (by decide) ?_
      refine r_icmp_geN (pc := 7) X 98 dX2_leave_7 (by decide) (by omega) (by omega) (fun _ => ?_) (fun h => absurd (Nat.le_refl _) h)
      refine vV.sub (μ' := mu μ1 (a + 1) (xI Γ 6 (scU (morS T S)))) (fun H hP => hP.reI q1 (fun j hj => by
        rw [hf j hj, if_pos hj]
        show uI 0 = uI (morS T S (12 + j))
        rw [morS_und hj])) ?_
      have q3 : mu μ1 (a + 1) (xI Γ 6 (scU (morS T S))) a = _ := (mu_ne (by omega)).trans q0
      refine r_aload_n (pc := 98) X dX2_leave_98 rfl ?_
      refine r_dup (pc := 99) X dX2_leave_99 rfl ?_
      apply r_get (pc := 100) X f_X2_47 dX2_leave_100
      · repeat (first | exact mu_self | assumption | refine (mu_ne (by omega)).trans ?_)
      · rfl
      refine r_iload_n (pc := 103) X dX2_leave_103 rfl ?_
      refine r_ior (pc := 104) X dX2_leave_104 ?_
      have e2 : scV (T 0) S 6 ||| nI (mkb 6 (mornP T S)) = scV (T 0) (morS T S) 6 := by
        show nI (msk (T 0) S 1) ||| _ = nI (msk (T 0) (morS T S) 1)
        rw [nI_or, mor_out h6 hS]
      rw [e2]
      first | refine r_putS (pc := 105) X f_X2_47 dX2_leave_105 (by first | rfl | assumption | decide | simp [narrow]) (by first | rfl | assumption) (Nat.le_of_ble_eq_true rfl) ?_ | refine r_put (pc := 105) X f_X2_47 dX2_leave_105 (by repeat (first | exact mu_self | assumption | refine (mu_ne (by omega)).trans ?_)) (by first | rfl | assumption | decide | simp [narrow]) (by first | rfl | assumption) (Nat.le_of_ble_eq_true rfl) ?_
      refine r_iload_n (pc := 108) X dX2_leave_108 rfl ?_
      have z0 : scV (T 0) S 0 = scV (T 0) (morS T S) 0 := congrArg nI (morS_lo (by omega)).symm
      have z1 : scV (T 0) S 1 = scV (T 0) (morS T S) 1 := congrArg nI (morS_lo (by omega)).symm
      have z2 : scV (T 0) S 2 = scV (T 0) (morS T S) 2 := congrArg nI (morS_lo (by omega)).symm
      have z3 : scV (T 0) S 3 = scV (T 0) (morS T S) 3 := congrArg nI (morS_lo (by omega)).symm
      have z4 : scV (T 0) S 4 = scV (T 0) (morS T S) 4 := congrArg nI (morS_lo (by omega)).symm
      have z5 : nI (inL T S 6) = scV (T 0) (morS T S) 5 := congrArg nI (mor_in h6)
      have z7 : nI (eaL T S 6) = scV (T 0) (morS T S) 7 := congrArg nI (mor_ea h6 hS)
      have z8 : nI (gnS T S 6) = scV (T 0) (morS T S) 8 := congrArg nI morS_5.symm
      refine r_iret (pc := 109) X dX2_leave_109 ⟨rfl, ⟨?_, (by repeat (first | exact mu_self | assumption | refine (mu_ne (by omega)).trans ?_)), ?_⟩, fun q hq => (mu_ne (by omega)).trans ((mu_ne (by omega)).trans (q2 q hq))⟩
      · rw [mu_self, ← z0, ← z1, ← z2, ← z3, ← z4, ← z5, ← z7, ← z8]
        rfl
      · rw [← z4]; exact gz
    | succ N ih =>
      intro i f q4 μ1 hi hf q0 q1 q2
      have k0 : ToldAt Γ μ1 b T := hT.kept (fun q h1 h2 => q2 q (by omega))
      have k00 := k0.1
      have hu := hS.2.2.2.2.2.2.1 i (by omega)
      have hgl := gnS_lt hS i (by omega)
      have hil : inL T S i < 64 := mkb_lt64 h6 _
      refine r_iload_n (pc := 4) X dX2_leave_4 rfl ?_
      refine r_bipush (pc := 5) (v := nI 6) X dX2_leave_5 (by decide) ?_
      refine r_icmp_geN (pc := 7) X 98 dX2_leave_7 (by decide) (by omega) (by omega) (fun h => absurd h (by omega)) (fun h => ?_)
      refine r_aload_n (pc := 10) X dX2_leave_10 rfl ?_
      apply r_get (pc := 11) X f_X2_9 dX2_leave_11
      · repeat (first | exact mu_self | assumption | refine (mu_ne (by omega)).trans ?_)
      · rfl
      refine r_iload_n (pc := 14) X dX2_leave_14 rfl ?_
      apply r_iald (pc := 15) X dX2_leave_15
      · repeat (first | exact mu_self | assumption | refine (mu_ne (by omega)).trans ?_)
      · omega
      · decide
      have ef : f i = uI (S (12 + i)) := by rw [hf i (by omega), if_neg (by omega)]; rfl
      rw [ef]
      refine r_istore (pc := 16) X dX2_leave_16 (by decide) rfl ?_
      refine r_iload (pc := 18) X dX2_leave_18 rfl ?_
      refine r_iconst (pc := 20) (v := -1) X dX2_leave_20 (by decide) ?_
      refine r_icmp_ne (pc := 21) X 27 dX2_leave_21 (by decide) (fun h2 => ?_) (fun h2 => ?_)
      · have hu0 : S (12 + i) ≠ 0 := fun q => h2 (by rw [q, uI_0])
        obtain ⟨hm1, hm2⟩ := hS.2.2.2.2.2.2.2.1 i (by omega) hu0
        obtain ⟨t, ht⟩ : ∃ t, S (12 + i) = t + 1 := ⟨S (12 + i) - 1, by omega⟩
        rw [ht, uI_S]
        have hbm : brM T t i = mornP T S i := by
          unfold brM mornP
          rw [ht]
          simp [hm1, show t < T 7 by omega]
        refine r_aload_n (pc := 27) X dX2_leave_27 rfl ?_
        apply r_get (pc := 28) X f_X2_9 dX2_leave_28
        · repeat (first | exact mu_self | assumption | refine (mu_ne (by omega)).trans ?_)
        · rfl
        refine r_iload_n (pc := 31) X dX2_leave_31 rfl ?_
        refine r_iconst (pc := 32) (v := -1) X dX2_leave_32 (by decide) ?_
        apply r_iast (pc := 33) X dX2_leave_33
        · repeat (first | exact mu_self | assumption | refine (mu_ne (by omega)).trans ?_)
        · omega
        · decide
        refine r_aload_n (pc := 34) X dX2_leave_34 rfl ?_
        refine r_dup (pc := 35) X dX2_leave_35 rfl ?_
        apply r_get (pc := 36) X f_X2_44 dX2_leave_36
        · repeat (first | exact mu_self | assumption | refine (mu_ne (by omega)).trans ?_)
        · rfl
        refine r_iconst (pc := 39) (v := nI 1) X dX2_leave_39 (by decide) ?_
        refine r_iload_n (pc := 40) X dX2_leave_40 rfl ?_
        refine r_ishl (pc := 41) X dX2_leave_41 ?_
        refine r_iconst (pc := 42) (v := -1) X dX2_leave_42 (by decide) ?_
        refine r_ixor (pc := 43) X dX2_leave_43 ?_
        refine r_iand (pc := 44) X dX2_leave_44 ?_
        have e1 : nI (inL T S i) &&& (nI 1 <<< (nI i &&& 31) ^^^ -1) = nI (inL T S (i + 1)) := by
          rw [nI_shl (by omega), nI_andn _ hil _ (one_shl_lt (by omega)), inL_s h6 (by omega) hu0]
        rw [e1]
        first | refine r_putS (pc := 45) X f_X2_44 dX2_leave_45 (by first | rfl | assumption | decide | simp [narrow]) (by first | rfl | assumption) (Nat.le_of_ble_eq_true rfl) ?_ | refine r_put (pc := 45) X f_X2_44 dX2_leave_45 (by repeat (first | exact mu_self | assumption | refine (mu_ne (by omega)).trans ?_)) (by first | rfl | assumption | decide | simp [narrow]) (by first | rfl | assumption) (Nat.le_of_ble_eq_true rfl) ?_
        refine r_aload_n (pc := 48) X dX2_leave_48 rfl ?_
        refine r_iload (pc := 49) X dX2_leave_49 rfl ?_
        refine r_iload_n (pc := 51) X dX2_leave_51 rfl ?_
        refine c_i X (rV (pc := 52) (ci := 5) X l_X2_69 (t5_bearsMan (T := T) (k0.kept (fun q h1 h2 => by repeat (first | rfl | refine (mu_ne (by omega)).trans ?_))) hI (w := t) (m' := i) (by omega) (by omega)) dX2_leave_52 (by repeat (first | exact mu_self | assumption | refine (mu_ne (by omega)).trans ?_)) rfl rfl rfl (Nat.le_of_ble_eq_true rfl) (by decide) (Nat.le_of_ble_eq_true rfl) (Nat.le_of_ble_eq_true rfl)) ?_
        rintro _ μq ⟨rfl, hμq⟩
        rw [hμq]
        clear hμq μq
        rw [hbm]
        have hf' : ∀ j, j < 6 → upd f i (-1) j = if j < i + 1 then uI 0 else scU S j := fun j hj => by
          unfold upd
          by_cases h5 : j = i
          · subst h5; rw [if_pos rfl, if_pos (by omega), uI_0]
          · rw [if_neg h5, hf j hj]
            by_cases h6 : j < i
            · rw [if_pos h6, if_pos (by omega)]
            · rw [if_neg h6, if_neg (by omega)]
        first | refine r_if_eqZ (pc := 55) X 80 dX2_leave_55 (by decide) (fun h3 => ?_) (fun h3 => ?_) | refine r_if_eqN (pc := 55) X 80 dX2_leave_55 (by decide) (by omega) (fun h3 => ?_) (fun h3 => ?_) | refine r_if_eq (pc := 55) X 80 dX2_leave_55 (by decide) (fun h3 => ?_) (fun h3 => ?_)
        · refine r_aload_n (pc := 80) X dX2_leave_80 rfl ?_
          refine r_dup (pc := 81) X dX2_leave_81 rfl ?_
          apply r_get (pc := 82) X f_X2_50 dX2_leave_82
          · repeat (first | exact mu_self | assumption | refine (mu_ne (by omega)).trans ?_)
          · rfl
          refine r_iconst (pc := 85) (v := nI 1) X dX2_leave_85 (by decide) ?_
          refine r_iload_n (pc := 86) X dX2_leave_86 rfl ?_
          first | refine r_ishlN (pc := 87) X dX2_leave_87 (by omega) ?_ | refine r_ishl (pc := 87) X dX2_leave_87 ?_
          first | refine r_iorN (pc := 88) X dX2_leave_88 ?_ | refine r_ior (pc := 88) X dX2_leave_88 ?_
          first | refine r_putS (pc := 89) X f_X2_50 dX2_leave_89 (by first | rfl | assumption | decide | simp [narrow]) (by first | rfl | assumption) (Nat.le_of_ble_eq_true rfl) ?_ | refine r_put (pc := 89) X f_X2_50 dX2_leave_89 (by repeat (first | exact mu_self | assumption | refine (mu_ne (by omega)).trans ?_)) (by first | rfl | assumption | decide | simp [narrow]) (by first | rfl | assumption) (Nat.le_of_ble_eq_true rfl) ?_
          refine r_iincN (pc := 92) (b := 1) X dX2_leave_92 rfl (by decide) rfl ?_
          refine r_goto (pc := 95) X 4 dX2_leave_95 (by decide) ?_
          have e4 : mkb (i + 1) (mornP T S) = mkb i (mornP T S) := by rw [mkb_succ, h3]; simp
          have e3 : gnS T S (i + 1) = gnS T S i := by show (if mornP T S i = true then _ else gnS T S i) = _; rw [h3]; rfl
          rw [← e4]
          refine ih (i + 1) (upd f i (-1)) _ _ (by omega) hf' ?_ (by repeat (first | exact mu_self | assumption | refine (mu_ne (by omega)).trans ?_)) (fun q hq => (mu_ne (by omega)).trans ((mu_ne (by omega)).trans (q2 q hq)))
          rw [mu_self, ← eaL_s h6 hm1 hu0 h3, e3]
          rfl
        · refine r_iload_n (pc := 58) X dX2_leave_58 rfl ?_
          refine r_iconst (pc := 59) (v := nI 1) X dX2_leave_59 (by decide) ?_
          refine r_iload_n (pc := 60) X dX2_leave_60 rfl ?_
          first | refine r_ishlN (pc := 61) X dX2_leave_61 (by omega) ?_ | refine r_ishl (pc := 61) X dX2_leave_61 ?_
          first | refine r_iorN (pc := 62) X dX2_leave_62 ?_ | refine r_ior (pc := 62) X dX2_leave_62 ?_
          refine r_istore_n (pc := 63) X dX2_leave_63 (by decide) rfl ?_
          refine r_aload_n (pc := 64) X dX2_leave_64 rfl ?_
          refine r_dup (pc := 65) X dX2_leave_65 rfl ?_
          apply r_get (pc := 66) X f_X2_53 dX2_leave_66
          · repeat (first | exact mu_self | assumption | refine (mu_ne (by omega)).trans ?_)
          · rfl
          refine r_iconst (pc := 69) (v := nI 1) X dX2_leave_69 (by decide) ?_
          refine r_iload (pc := 70) X dX2_leave_70 rfl ?_
          first | refine r_ishlN (pc := 72) X dX2_leave_72 (by omega) ?_ | refine r_ishl (pc := 72) X dX2_leave_72 ?_
          first | refine r_iorN (pc := 73) X dX2_leave_73 ?_ | refine r_ior (pc := 73) X dX2_leave_73 ?_
          first | refine r_putS (pc := 74) X f_X2_53 dX2_leave_74 (by first | rfl | assumption | decide | simp [narrow]) (by first | rfl | assumption) (Nat.le_of_ble_eq_true rfl) ?_ | refine r_put (pc := 74) X f_X2_53 dX2_leave_74 (by repeat (first | exact mu_self | assumption | refine (mu_ne (by omega)).trans ?_)) (by first | rfl | assumption | decide | simp [narrow]) (by first | rfl | assumption) (Nat.le_of_ble_eq_true rfl) ?_
          refine r_goto (pc := 77) X 92 dX2_leave_77 (by decide) ?_
          refine r_iincN (pc := 92) (b := 1) X dX2_leave_92 rfl (by decide) rfl ?_
          refine r_goto (pc := 95) X 4 dX2_leave_95 (by decide) ?_
          have e4 : mkb (i + 1) (mornP T S) = mkb i (mornP T S) ||| 1 <<< i := by rw [mkb_succ, h3]; simp
          have e3 : gnS T S (i + 1) = gnS T S i ||| 1 <<< t := by show (if mornP T S i = true then gnS T S i ||| 1 <<< (S (12 + i) - 1) else gnS T S i) = _; rw [h3, ht]; rfl
          rw [← e4]
          refine ih (i + 1) (upd f i (-1)) _ _ (by omega) hf' ?_ (by repeat (first | exact mu_self | assumption | refine (mu_ne (by omega)).trans ?_)) (fun q hq => (mu_ne (by omega)).trans ((mu_ne (by omega)).trans (q2 q hq)))
          rw [mu_self, eaL_n (Or.inr h3), e3]
          rfl
      · have hu0 : S (12 + i) = 0 := (uI_eq (by omega) (by omega)).mp (by rw [h2, uI_0])
        refine r_goto (pc := 24) X 92 dX2_leave_24 (by decide) ?_
        refine r_iincN (pc := 92) (b := 1) X dX2_leave_92 rfl (by decide) rfl ?_
        refine r_goto (pc := 95) X 4 dX2_leave_95 (by decide) ?_
        have hm : mornP T S i = false := by unfold mornP; simp [hu0]
        have e4 : mkb (i + 1) (mornP T S) = mkb i (mornP T S) := by rw [mkb_succ, hm]; simp
        have e3 : gnS T S (i + 1) = gnS T S i := by show (if mornP T S i = true then _ else gnS T S i) = _; rw [hm]; rfl
        have := ih (i + 1) f (some (.int (uI (S (12 + i))))) μ1 (by omega) (fun j hj => by
          rw [hf j hj]
          by_cases h5 : j = i
          · subst h5
            rw [if_neg (by omega), if_pos (by omega)]
            show uI (S (12 + j)) = uI 0
            rw [hu0]
          · by_cases h6 : j < i
            · rw [if_pos h6, if_pos (by omega)]
            · rw [if_neg h6, if_neg (by omega)]) (by rw [inL_n hu0, eaL_n (Or.inl hu0), e3]; exact q0) q1 q2
        rw [e4] at this
        exact this
  exact key 6 0 (scU S) none μ (by omega) (fun j hj => by rw [if_neg (by omega)]) (by rw [inL_0, eaL_0]; exact g0) g1 Fr.rf
theorem t0_clear {held next : Nat} {V U : Nat → Nat → Int32} (h : PastAt Γ μ a held next V U) : CT Γ l 0 sz 0 0 mX0_clear [.ref a] μ (rv (fun μ' => PastAt Γ μ' a 0 next V U ∧ Fr a 18 μ μ')) := by
  have h0 := h.1
  refine CT.go RX0 rfl "clear" rfl [some (.ref a)] rfl (by decide) (Nat.le_of_ble_eq_true rfl) ?_
  intro p e R s m args below meth c X hsz
  refine r_aload_n (pc := 0) X dX0_clear_0 rfl ?_
  refine r_iconst (pc := 1) (v := nI 0) X dX0_clear_1 (by decide) ?_
  first | refine r_putS (pc := 2) X f_X0_18 dX0_clear_2 (by first | rfl | assumption | decide | simp [narrow]) (by first | rfl | assumption) (Nat.le_of_ble_eq_true rfl) ?_ | refine r_put (pc := 2) X f_X0_18 dX0_clear_2 (by repeat (first | exact mu_self | assumption | refine (mu_ne (by omega)).trans ?_)) (by first | rfl | assumption | decide | simp [narrow]) (by first | rfl | assumption) (Nat.le_of_ble_eq_true rfl) ?_
  exact r_vret (pc := 5) X dX0_clear_5 (⟨⟨mu_self, (mu_ne (by omega)).trans h.2.1, fun i hi => (h.2.2 i hi).kept (fun q h1 h2 => mu_ne (by omega))⟩, fun q hq => mu_ne (by omega)⟩)
theorem min_nI {x y : Nat} (hx : x < 2 ^ 31) (hy : y < 2 ^ 31) : (if nI y < nI x then nI y else nI x) = nI (min x y) := by
  by_cases h : y < x
  · rw [if_pos ((nI_lt_iff hy hx).mpr h), Nat.min_eq_right (by omega)]
  · rw [if_neg (fun q => h ((nI_lt_iff hy hx).mp q)), Nat.min_eq_left (by omega)]
theorem max_nI {x y : Nat} (hx : x < 2 ^ 31) (hy : y < 2 ^ 31) : (if nI x < nI y then nI y else nI x) = nI (max x y) := by
  by_cases h : x < y
  · rw [if_pos ((nI_lt_iff hx hy).mpr h), Nat.max_eq_right (by omega)]
  · rw [if_neg (fun q => h ((nI_lt_iff hx hy).mp q)), Nat.max_eq_left (by omega)]
def updV2 (V : Nat → Nat → Int32) (k : Nat) (v : Nat → Int32) : Nat → Nat → Int32 := fun i => if i = k then v else V i
theorem t0_push {held next : Nat} {V U : Nat → Nat → Int32} {v u : Nat → Int32} (h : PastAt Γ μ a held next V U) (hb : ScAt Γ μ b v u) (hd : b + 2 ≤ a ∨ a + 18 ≤ b) (hn : next < 8) (hh : held ≤ 8) : CT Γ l 2 sz 0 0 mX0_push [.ref a, .ref b] μ (rv (fun μ' => PastAt Γ μ' a (min 8 (held + 1)) ((next + 1) % 8) (updV2 V next v) (updV2 U next u) ∧ Fr a 18 μ μ')) := by
  obtain ⟨g0, g1, g2⟩ := h
  refine CT.go RX0 rfl "push" rfl [some (.ref a), some (.ref b)] rfl (by decide) (Nat.le_of_ble_eq_true rfl) ?_
  intro p e R s m args below meth c X hsz
  refine r_aload_n (pc := 0) X dX0_push_0 rfl ?_
  apply r_get (pc := 1) X f_X0_11 dX0_push_1
  · repeat (first | exact mu_self | assumption | refine (mu_ne (by omega)).trans ?_)
  · rfl
  refine r_aload_n (pc := 4) X dX0_push_4 rfl ?_
  apply r_get (pc := 5) X f_X0_22 dX0_push_5
  · repeat (first | exact mu_self | assumption | refine (mu_ne (by omega)).trans ?_)
  · rfl
  refine r_sald (pc := 8) X dX0_push_8 g1 hn (by decide) rfl ?_
  refine r_aload_n (pc := 9) X dX0_push_9 rfl ?_
  have hsc := g2 next hn
  have hsc0 := hsc.1
  refine c_v X (rV (pc := 10) (ci := 2) X l_X0_25 (t2_copy (g2 next hn) hb (by omega)) dX0_push_10 (by repeat (first | exact mu_self | assumption | refine (mu_ne (by omega)).trans ?_)) rfl rfl rfl (Nat.le_of_ble_eq_true rfl) (by decide) (Nat.le_of_ble_eq_true rfl) (Nat.le_of_ble_eq_true rfl)) ?_
  rintro μ1 ⟨k1, k2⟩
  have f0 : μ1 a = some (xO 0 [.int (nI held), .int (nI next), .ref (a + 1)]) := (k2 a (by omega)).trans g0
  refine r_aload_n (pc := 13) X dX0_push_13 rfl ?_
  refine r_aload_n (pc := 14) X dX0_push_14 rfl ?_
  apply r_get (pc := 15) X f_X0_22 dX0_push_15
  · repeat (first | exact mu_self | assumption | refine (mu_ne (by omega)).trans ?_)
  · rfl
  refine r_iconst (pc := 18) (v := nI 1) X dX0_push_18 (by decide) ?_
  first | refine r_iaddN (pc := 19) X dX0_push_19 ?_ | refine r_iadd (pc := 19) X dX0_push_19 ?_
  refine r_bipush (pc := 20) (v := nI 8) X dX0_push_20 (by decide) ?_
  first | refine r_iremN (pc := 22) X dX0_push_22 (by omega) (by omega) (by omega) ?_ | refine r_irem (pc := 22) X dX0_push_22 (by decide) ?_
  first | refine r_putS (pc := 23) X f_X0_22 dX0_push_23 (by first | rfl | assumption | decide | simp [narrow]) (by first | rfl | assumption) (Nat.le_of_ble_eq_true rfl) ?_ | refine r_put (pc := 23) X f_X0_22 dX0_push_23 (by repeat (first | exact mu_self | assumption | refine (mu_ne (by omega)).trans ?_)) (by first | rfl | assumption | decide | simp [narrow]) (by first | rfl | assumption) (Nat.le_of_ble_eq_true rfl) ?_
  refine r_aload_n (pc := 26) X dX0_push_26 rfl ?_
  refine r_bipush (pc := 27) (v := nI 8) X dX0_push_27 (by decide) ?_
  refine r_aload_n (pc := 29) X dX0_push_29 rfl ?_
  apply r_get (pc := 30) X f_X0_18 dX0_push_30
  · repeat (first | exact mu_self | assumption | refine (mu_ne (by omega)).trans ?_)
  · rfl
  refine r_iconst (pc := 33) (v := nI 1) X dX0_push_33 (by decide) ?_
  first | refine r_iaddN (pc := 34) X dX0_push_34 ?_ | refine r_iadd (pc := 34) X dX0_push_34 ?_
  refine r_min (pc := 35) X l_X0_29 dX0_push_35 (by decide) (Nat.le_of_ble_eq_true rfl) (by decide) (by decide) ?_
  rw [min_nI (by omega) (by omega)]
  first | refine r_putS (pc := 38) X f_X0_18 dX0_push_38 (by first | rfl | assumption | decide | simp [narrow]) (by first | rfl | assumption) (Nat.le_of_ble_eq_true rfl) ?_ | refine r_put (pc := 38) X f_X0_18 dX0_push_38 (by repeat (first | exact mu_self | assumption | refine (mu_ne (by omega)).trans ?_)) (by first | rfl | assumption | decide | simp [narrow]) (by first | rfl | assumption) (Nat.le_of_ble_eq_true rfl) ?_
  refine r_vret (pc := 41) X dX0_push_41 ⟨⟨mu_self, (mu_ne (by omega)).trans ((k2 _ (by omega)).trans g1), fun i hi => ?_⟩, fun q hq => (mu_ne (by omega)).trans (k2 q (by omega))⟩
  by_cases hin : i = next
  · subst hin
    unfold updV2
    rw [if_pos rfl, if_pos rfl]
    exact k1.kept (fun q h1 h2 => mu_ne (by omega))
  · unfold updV2
    rw [if_neg hin, if_neg hin]
    exact (g2 i hi).kept (fun q h1 h2 => (mu_ne (by omega)).trans (k2 q (by omega)))
theorem t0_pop0 {next : Nat} {V U : Nat → Nat → Int32} (h : PastAt Γ μ a 0 next V U) : CT Γ l 2 sz 0 0 mX0_pop [.ref a, .ref b] μ (ri (fun r μ' => r = nI 0 ∧ μ' = μ)) := by
  obtain ⟨g0, g1, g2⟩ := h
  refine CT.go RX0 rfl "pop" rfl [some (.ref a), some (.ref b)] rfl (by decide) (Nat.le_of_ble_eq_true rfl) ?_
  intro p e R s m args below meth c X hsz
  refine r_aload_n (pc := 0) X dX0_pop_0 rfl ?_
  apply r_get (pc := 1) X f_X0_18 dX0_pop_1
  · repeat (first | exact mu_self | assumption | refine (mu_ne (by omega)).trans ?_)
  · rfl
  refine r_if_neN (pc := 4) X 9 dX0_pop_4 (by decide) (by omega) (fun h => absurd rfl h) (fun _ => ?_)
  refine r_iconst (pc := 7) (v := nI 0) X dX0_pop_7 (by decide) ?_
  exact r_zret (pc := 8) X dX0_pop_8 (by first | rfl | decide | exact zb_nar _) (⟨rfl, rfl⟩)
theorem t0_pop {held next : Nat} {V U : Nat → Nat → Int32} {v u : Nat → Int32} (h : PastAt Γ μ a (held + 1) next V U) (hb : ScAt Γ μ b v u) (hd : b + 2 ≤ a ∨ a + 18 ≤ b) (hn : next < 8) (hh : held < 8) : CT Γ l 2 sz 0 0 mX0_pop [.ref a, .ref b] μ (ri (fun r μ' => r = nI 1 ∧ PastAt Γ μ' a held ((next + 7) % 8) V U ∧ ScAt Γ μ' b (V ((next + 7) % 8)) (U ((next + 7) % 8)) ∧ ∀ q : Nat, (q < a ∨ a + 18 ≤ q) → (q < b ∨ b + 2 ≤ q) → μ' q = μ q)) := by
  obtain ⟨g0, g1, g2⟩ := h
  refine CT.go RX0 rfl "pop" rfl [some (.ref a), some (.ref b)] rfl (by decide) (Nat.le_of_ble_eq_true rfl) ?_
  intro p e R s m args below meth c X hsz
  refine r_aload_n (pc := 0) X dX0_pop_0 rfl ?_
  apply r_get (pc := 1) X f_X0_18 dX0_pop_1
  · repeat (first | exact mu_self | assumption | refine (mu_ne (by omega)).trans ?_)
  · rfl
  refine r_if_neN (pc := 4) X 9 dX0_pop_4 (by decide) (by omega) (fun _ => ?_) (fun h => absurd h (by omega))
  refine r_aload_n (pc := 9) X dX0_pop_9 rfl ?_
  refine r_aload_n (pc := 10) X dX0_pop_10 rfl ?_
  apply r_get (pc := 11) X f_X0_22 dX0_pop_11
  · repeat (first | exact mu_self | assumption | refine (mu_ne (by omega)).trans ?_)
  · rfl
  refine r_bipush (pc := 14) (v := nI 8) X dX0_pop_14 (by decide) ?_
  first | refine r_iaddN (pc := 16) X dX0_pop_16 ?_ | refine r_iadd (pc := 16) X dX0_pop_16 ?_
  refine r_iconst (pc := 17) (v := nI 1) X dX0_pop_17 (by decide) ?_
  first | refine r_isubN (pc := 18) X dX0_pop_18 (by omega) ?_ | refine r_isub (pc := 18) X dX0_pop_18 ?_
  refine r_bipush (pc := 19) (v := nI 8) X dX0_pop_19 (by decide) ?_
  first | refine r_iremN (pc := 21) X dX0_pop_21 (by omega) (by omega) (by omega) ?_ | refine r_irem (pc := 21) X dX0_pop_21 (by decide) ?_
  first | refine r_putS (pc := 22) X f_X0_22 dX0_pop_22 (by first | rfl | assumption | decide | simp [narrow]) (by first | rfl | assumption) (Nat.le_of_ble_eq_true rfl) ?_ | refine r_put (pc := 22) X f_X0_22 dX0_pop_22 (by repeat (first | exact mu_self | assumption | refine (mu_ne (by omega)).trans ?_)) (by first | rfl | assumption | decide | simp [narrow]) (by first | rfl | assumption) (Nat.le_of_ble_eq_true rfl) ?_
  refine r_aload_n (pc := 25) X dX0_pop_25 rfl ?_
  refine r_aload_n (pc := 26) X dX0_pop_26 rfl ?_
  apply r_get (pc := 27) X f_X0_11 dX0_pop_27
  · repeat (first | exact mu_self | assumption | refine (mu_ne (by omega)).trans ?_)
  · rfl
  refine r_aload_n (pc := 30) X dX0_pop_30 rfl ?_
  apply r_get (pc := 31) X f_X0_22 dX0_pop_31
  · repeat (first | exact mu_self | assumption | refine (mu_ne (by omega)).trans ?_)
  · rfl
  have hb0 := hb.1
  have hm : (next + 8 - 1) % 8 < 8 := Nat.mod_lt _ (by decide)
  have em : (next + 8 - 1) % 8 = (next + 7) % 8 := rfl
  refine r_sald (pc := 34) X dX0_pop_34 ((mu_ne (by omega)).trans g1) hm (by decide) rfl ?_
  refine c_v X (rV (pc := 35) (ci := 2) X l_X0_25 (t2_copy (hb.kept (fun q h1 h2 => mu_ne (by omega))) ((g2 ((next + 8 - 1) % 8) hm).kept (fun q h1 h2 => mu_ne (by omega))) (by omega)) dX0_pop_35 (by repeat (first | exact mu_self | assumption | refine (mu_ne (by omega)).trans ?_)) rfl rfl rfl (Nat.le_of_ble_eq_true rfl) (by decide) (Nat.le_of_ble_eq_true rfl) (Nat.le_of_ble_eq_true rfl)) ?_
  rintro μ1 ⟨k1, k2⟩
  have f0 : μ1 a = _ := (k2 a (by omega)).trans mu_self
  refine r_aload_n (pc := 38) X dX0_pop_38 rfl ?_
  refine r_dup (pc := 39) X dX0_pop_39 rfl ?_
  apply r_get (pc := 40) X f_X0_18 dX0_pop_40
  · repeat (first | exact mu_self | assumption | refine (mu_ne (by omega)).trans ?_)
  · rfl
  refine r_iconst (pc := 43) (v := nI 1) X dX0_pop_43 (by decide) ?_
  first | refine r_isubN (pc := 44) X dX0_pop_44 (by omega) ?_ | refine r_isub (pc := 44) X dX0_pop_44 ?_
  first | refine r_putS (pc := 45) X f_X0_18 dX0_pop_45 (by first | rfl | assumption | decide | simp [narrow]) (by first | rfl | assumption) (Nat.le_of_ble_eq_true rfl) ?_ | refine r_put (pc := 45) X f_X0_18 dX0_pop_45 (by repeat (first | exact mu_self | assumption | refine (mu_ne (by omega)).trans ?_)) (by first | rfl | assumption | decide | simp [narrow]) (by first | rfl | assumption) (Nat.le_of_ble_eq_true rfl) ?_
  refine r_iconst (pc := 48) (v := nI 1) X dX0_pop_48 (by decide) ?_
  refine r_zret (pc := 49) X dX0_pop_49 rfl ⟨rfl, ⟨mu_self, (mu_ne (by omega)).trans ((k2 _ (by omega)).trans ((mu_ne (by omega)).trans g1)), fun i hi => (g2 i hi).kept (fun q h1 h2 => (mu_ne (by omega)).trans ((k2 q (by omega)).trans (mu_ne (by omega))))⟩, k1.kept (fun q h1 h2 => mu_ne (by omega)), fun q h1 h2 => (mu_ne (by omega)).trans ((k2 q (by omega)).trans (mu_ne (by omega)))⟩
end S16
end
section
def alln : Nat → (Nat → Bool) → Bool
  | 0, _ => true
  | n + 1, p => alln n p && p n
theorem alln_no {n i : Nat} {p : Nat → Bool} (hi : i < n) (h : p i = false) : alln n p = false := by
  induction n with
  | zero => omega
  | succ n ih =>
    show (alln n p && p n) = false
    by_cases hn : i = n
    · subst hn; simp [h]
    · rw [ih (by omega)]; rfl
def wsP (T V : Nat → Nat) (w v i : Nat) : Bool := (V (3 * i + 1) != w) || (decide (T (1 + V (3 * i)) ≤ brs (T (8 + w)) v) == (V (3 * i + 2) == 1))
def wso (T V : Nat → Nat) (sn w v : Nat) : Bool := alln sn (wsP T V w v)
/-- the first, and the last, of 1 .. n of which P holds (0: none, else it and 1) -/
def lfS (P : Nat → Bool) : Nat → Nat
  | 0 => 0
  | v + 1 => if lfS P v = 0 ∧ P (v + 1) = true then v + 2 else lfS P v
def gsS (P : Nat → Bool) : Nat → Nat
  | 0 => 0
  | v + 1 => if P (v + 1) = true then v + 2 else gsS P v
theorem lfS_no {P : Nat → Bool} {n : Nat} (h : ∀ j, 1 ≤ j → j ≤ n → P j = false) : lfS P n = 0 := by
  induction n with
  | zero => rfl
  | succ n ih =>
    show (if lfS P n = 0 ∧ P (n + 1) = true then n + 2 else lfS P n) = 0
    rw [if_neg (by rw [h (n + 1) (by omega) (by omega)]; simp)]
    exact ih (fun j h1 h2 => h j h1 (by omega))
theorem lfS_at {P : Nat → Bool} {v n : Nat} (h : ∀ j, 1 ≤ j → j ≤ v → P j = false) (hv : P (v + 1) = true) (hn : v + 1 ≤ n) : lfS P n = v + 2 := by
  induction n with
  | zero => omega
  | succ n ih =>
    show (if lfS P n = 0 ∧ P (n + 1) = true then n + 2 else lfS P n) = v + 2
    by_cases hq : n = v
    · subst hq
      rw [if_pos ⟨lfS_no h, hv⟩]
    · have := ih (by omega)
      rw [if_neg (by omega)]
      exact this
theorem gsS_up {P : Nat → Bool} {v n : Nat} (hn : v ≤ n) (h : ∀ j, v < j → j ≤ n → P j = false) : gsS P n = gsS P v := by
  induction n with
  | zero => have : v = 0 := by omega
            subst this; rfl
  | succ n ih =>
    by_cases hq : v = n + 1
    · subst hq; rfl
    · show (if P (n + 1) = true then n + 2 else gsS P n) = gsS P v
      rw [if_neg (by rw [h (n + 1) (by omega) (by omega)]; simp)]
      exact ih (by omega) (fun j h1 h2 => h j h1 (by omega))
theorem lfS_le (P : Nat → Bool) (n : Nat) : lfS P n ≤ n + 1 := by
  induction n with
  | zero => exact Nat.zero_le _
  | succ n ih =>
    show (if lfS P n = 0 ∧ P (n + 1) = true then n + 2 else lfS P n) ≤ n + 1 + 1
    split <;> omega
theorem gsS_le (P : Nat → Bool) (n : Nat) : gsS P n ≤ n + 1 := by
  induction n with
  | zero => exact Nat.zero_le _
  | succ n ih =>
    show (if P (n + 1) = true then n + 2 else gsS P n) ≤ n + 1 + 1
    split <;> omega
theorem brs_le {kd v : Nat} (h : v ≤ 20) : brs kd v ≤ 40 := by
  unfold brs
  split
  · omega
  · split
    · omega
    · split <;> omega
section S17
variable {Γ : KK} {l : Launch} {sz : Nat} {μ : MM} {a b sn : Nat} {T V : Nat → Nat}
theorem t3_add {mm ww oo : Nat} (h : SigAt Γ μ a sn V) (hs : sn < 6) (ho : oo ≤ 1) : CT Γ l 0 sz 0 0 mX3_add [.ref a, .int (nI mm), .int (nI ww), .int (nI oo)] μ (ri (fun r μ' => r = nI 1 ∧ SigAt Γ μ' a (sn + 1) (upN (upN (upN V (3 * sn) mm) (3 * sn + 1) ww) (3 * sn + 2) oo) ∧ Fr a 4 μ μ')) := by
  obtain ⟨g0, g1, g2, g3⟩ := h
  refine CT.go RX3 rfl "add" rfl [some (.ref a), some (.int (nI mm)), some (.int (nI ww)), some (.int (nI oo))] rfl (by decide) (Nat.le_of_ble_eq_true rfl) ?_
  intro p e R s m args below meth c X hsz
  refine r_aload_n (pc := 0) X dX3_add_0 rfl ?_
  apply r_get (pc := 1) X f_X3_22 dX3_add_1
  · repeat (first | exact mu_self | assumption | refine (mu_ne (by omega)).trans ?_)
  · rfl
  refine r_bipush (pc := 4) (v := nI 6) X dX3_add_4 (by decide) ?_
  refine r_icmp_ltN (pc := 6) X 11 dX3_add_6 (by decide) (by omega) (by omega) (fun _ => ?_) (fun h => absurd hs h)
  refine r_aload_n (pc := 11) X dX3_add_11 rfl ?_
  apply r_get (pc := 12) X f_X3_9 dX3_add_12
  · repeat (first | exact mu_self | assumption | refine (mu_ne (by omega)).trans ?_)
  · rfl
  refine r_aload_n (pc := 15) X dX3_add_15 rfl ?_
  apply r_get (pc := 16) X f_X3_22 dX3_add_16
  · repeat (first | exact mu_self | assumption | refine (mu_ne (by omega)).trans ?_)
  · rfl
  refine r_iload_n (pc := 19) X dX3_add_19 rfl ?_
  apply r_iast (pc := 20) X dX3_add_20
  · repeat (first | exact mu_self | assumption | refine (mu_ne (by omega)).trans ?_)
  · omega
  · decide
  refine r_aload_n (pc := 21) X dX3_add_21 rfl ?_
  apply r_get (pc := 22) X f_X3_15 dX3_add_22
  · repeat (first | exact mu_self | assumption | refine (mu_ne (by omega)).trans ?_)
  · rfl
  refine r_aload_n (pc := 25) X dX3_add_25 rfl ?_
  apply r_get (pc := 26) X f_X3_22 dX3_add_26
  · repeat (first | exact mu_self | assumption | refine (mu_ne (by omega)).trans ?_)
  · rfl
  refine r_iload_n (pc := 29) X dX3_add_29 rfl ?_
  apply r_iast (pc := 30) X dX3_add_30
  · repeat (first | exact mu_self | assumption | refine (mu_ne (by omega)).trans ?_)
  · omega
  · decide
  refine r_aload_n (pc := 31) X dX3_add_31 rfl ?_
  apply r_get (pc := 32) X f_X3_18 dX3_add_32
  · repeat (first | exact mu_self | assumption | refine (mu_ne (by omega)).trans ?_)
  · rfl
  refine r_aload_n (pc := 35) X dX3_add_35 rfl ?_
  apply r_get (pc := 36) X f_X3_22 dX3_add_36
  · repeat (first | exact mu_self | assumption | refine (mu_ne (by omega)).trans ?_)
  · rfl
  refine r_iload_n (pc := 39) X dX3_add_39 rfl ?_
  have hbo : vp_nar .boolean (nI oo) = nI oo := by
    rcases (show oo = 0 ∨ oo = 1 by omega) with rfl | rfl <;> rfl
  apply r_zast (pc := 40) X dX3_add_40 hbo
  ·  repeat (first | exact mu_self | assumption | refine (mu_ne (by omega)).trans ?_)
  · omega
  · decide
  refine r_aload_n (pc := 41) X dX3_add_41 rfl ?_
  refine r_dup (pc := 42) X dX3_add_42 rfl ?_
  apply r_get (pc := 43) X f_X3_22 dX3_add_43
  · repeat (first | exact mu_self | assumption | refine (mu_ne (by omega)).trans ?_)
  · rfl
  refine r_iconst (pc := 46) (v := nI 1) X dX3_add_46 (by decide) ?_
  first | refine r_iaddN (pc := 47) X dX3_add_47 ?_ | refine r_iadd (pc := 47) X dX3_add_47 ?_
  first | refine r_putS (pc := 48) X f_X3_22 dX3_add_48 (by first | rfl | assumption | decide | simp [narrow]) (by first | rfl | assumption) (Nat.le_of_ble_eq_true rfl) ?_ | refine r_put (pc := 48) X f_X3_22 dX3_add_48 (by repeat (first | exact mu_self | assumption | refine (mu_ne (by omega)).trans ?_)) (by first | rfl | assumption | decide | simp [narrow]) (by first | rfl | assumption) (Nat.le_of_ble_eq_true rfl) ?_
  refine r_iconst (pc := 51) (v := nI 1) X dX3_add_51 (by decide) ?_
  refine vV.sub (μ' := mu (mu (mu (mu μ (a + 1) (xI Γ 6 (fun i => nI (upN (upN (upN V (3 * sn) mm) (3 * sn + 1) ww) (3 * sn + 2) oo (3 * i))))) (a + 2) (xI Γ 6 (fun i => nI (upN (upN (upN V (3 * sn) mm) (3 * sn + 1) ww) (3 * sn + 2) oo (3 * i + 1))))) (a + 3) (xZ Γ 6 (fun i => nI (upN (upN (upN V (3 * sn) mm) (3 * sn + 1) ww) (3 * sn + 2) oo (3 * i + 2))))) a (xO 3 [.int (nI (sn + 1)), .ref (a + 1), .ref (a + 2), .ref (a + 3)])) (fun H hP => ?_) ?_
  · have e1 : upd (fun i => nI (V (3 * i))) sn (nI mm) = fun i => nI (upN (upN (upN V (3 * sn) mm) (3 * sn + 1) ww) (3 * sn + 2) oo (3 * i)) := by
      funext i
      unfold upd upN
      by_cases hi : i = sn
      · subst hi; rw [if_pos rfl, if_neg (by omega), if_neg (by omega), if_pos rfl]
      · rw [if_neg hi, if_neg (by omega), if_neg (by omega), if_neg (by omega)]
    have e2 : upd (fun i => nI (V (3 * i + 1))) sn (nI ww) = fun i => nI (upN (upN (upN V (3 * sn) mm) (3 * sn + 1) ww) (3 * sn + 2) oo (3 * i + 1)) := by
      funext i
      unfold upd upN
      by_cases hi : i = sn
      · subst hi; rw [if_pos rfl, if_neg (by omega), if_pos rfl]
      · rw [if_neg hi, if_neg (by omega), if_neg (by omega), if_neg (by omega)]
    have e3 : upd (fun i => nI (V (3 * i + 2))) sn (nI oo) = fun i => nI (upN (upN (upN V (3 * sn) mm) (3 * sn + 1) ww) (3 * sn + 2) oo (3 * i + 2)) := by
      funext i
      unfold upd upN
      by_cases hi : i = sn
      · subst hi; rw [if_pos rfl, if_pos rfl]
      · rw [if_neg hi, if_neg (by omega), if_neg (by omega), if_neg (by omega)]
    rw [← e1, ← e2, ← e3]
    exact hP
  exact r_zret (pc := 52) X dX3_add_52 (by first | rfl | decide | exact zb_nar _) (⟨rfl, ⟨mu_self, (by repeat (first | exact mu_self | assumption | refine (mu_ne (by omega)).trans ?_)), (by repeat (first | exact mu_self | assumption | refine (mu_ne (by omega)).trans ?_)), (by repeat (first | exact mu_self | assumption | refine (mu_ne (by omega)).trans ?_))⟩, (fun q hq => by repeat (first | rfl | refine (mu_ne (by omega)).trans ?_))⟩)
theorem t3_addFull {x y z : Int32} (h : SigAt Γ μ a 6 V) : CT Γ l 0 sz 0 0 mX3_add [.ref a, .int x, .int y, .int z] μ (ri (fun r μ' => r = nI 0 ∧ μ' = μ)) := by
  obtain ⟨g0, g1, g2, g3⟩ := h
  refine CT.go RX3 rfl "add" rfl [some (.ref a), some (.int x), some (.int y), some (.int z)] rfl (by decide) (Nat.le_of_ble_eq_true rfl) ?_
  intro p e R s m args below meth c X hsz
  refine r_aload_n (pc := 0) X dX3_add_0 rfl ?_
  apply r_get (pc := 1) X f_X3_22 dX3_add_1
  · repeat (first | exact mu_self | assumption | refine (mu_ne (by omega)).trans ?_)
  · rfl
  refine r_bipush (pc := 4) (v := nI 6) X dX3_add_4 (by decide) ?_
  refine r_icmp_ltN (pc := 6) X 11 dX3_add_6 (by decide) (by omega) (by omega) (fun h => absurd h (by omega)) (fun _ => ?_)
  refine r_iconst (pc := 9) (v := nI 0) X dX3_add_9 (by decide) ?_
  exact r_zret (pc := 10) X dX3_add_10 (by first | rfl | decide | exact zb_nar _) (⟨rfl, rfl⟩)
theorem t3_wouldBeSo {w v : Nat} (h : SigAt Γ μ a sn V) (hT : ToldAt Γ μ b T) (hI : IT T) (hs : sn ≤ 6) (hV : ∀ k, k < sn → V (3 * k) < T 0 ∧ V (3 * k + 1) < T 7 ∧ V (3 * k + 2) ≤ 1) (hw : w < T 7) (hv : v ≤ 20) : CT Γ l 2 sz 0 0 mX3_wouldBeSo [.ref a, .ref b, .int (nI w), .int (nI v)] μ (ri (fun r μ' => r = zb (wso T V sn w v) ∧ μ' = μ)) := by
  obtain ⟨g0, g1, g2, g3⟩ := h
  obtain ⟨k0, k1, k2, k3, k4⟩ := hT
  have h6 := hI.1
  have h7 := hI.2.1
  have hbl := brs_le (kd := T (8 + w)) hv
  refine CT.go RX3 rfl "wouldBeSo" rfl [some (.ref a), some (.ref b), some (.int (nI w)), some (.int (nI v)), none, none] rfl (by decide) (Nat.le_of_ble_eq_true rfl) ?_
  intro p e R s m args below meth c X hsz
  refine r_aload_n (pc := 0) X dX3_wouldBeSo_0 rfl ?_
  apply r_get (pc := 1) X f_X3_30 dX3_wouldBeSo_1
  · repeat (first | exact mu_self | assumption | refine (mu_ne (by omega)).trans ?_)
  · rfl
  refine r_iload_n (pc := 4) X dX3_wouldBeSo_4 rfl ?_
  apply r_iald (pc := 5) X dX3_wouldBeSo_5
  · repeat (first | exact mu_self | assumption | refine (mu_ne (by omega)).trans ?_)
  · omega
  · decide
  refine r_iload_n (pc := 6) X dX3_wouldBeSo_6 rfl ?_
  refine c_i X (rSN (pc := 7) X l_X3_35 (t6_bearing (kd := T (8 + w)) (st := v) (hI.2.2.2.2.1 w (by omega)) (by omega)) dX3_wouldBeSo_7 rfl rfl (Nat.le_of_ble_eq_true rfl) (by decide) (Nat.le_of_ble_eq_true rfl) (Nat.le_of_ble_eq_true rfl)) ?_
  rintro _ μq ⟨rfl, hμq⟩
  rw [hμq]
  clear hμq μq
  refine r_istore (pc := 10) X dX3_wouldBeSo_10 (by decide) rfl ?_
  refine r_iconst (pc := 12) (v := nI 0) X dX3_wouldBeSo_12 (by decide) ?_
  refine r_istore (pc := 13) X dX3_wouldBeSo_13 (by decide) rfl ?_
  have key : ∀ (N i : Nat), i + N = sn → alln i (wsP T V w v) = true → vV Γ p l e R s m args below meth c (vQ Γ s args below 0 0 (ri (fun r μ' => r = zb (wso T V sn w v) ∧ μ' = μ))) 6 0 0 15 [some (.ref (a)), some (.ref (b)), some (.int (nI (w))), some (.int (nI (v))), some (.int (nI (brs (T (8 + w)) v))), some (.int (nI (i)))] [] (μ) := by
    intro N
    induction N with
    | zero =>
      intro i hi hal
      have hi2 : i = sn := by omega
      subst hi2
      refine r_iload (pc := 15) X dX3_wouldBeSo_15 rfl ?_
      refine r_aload_n (pc := 17) X dX3_wouldBeSo_17 rfl ?_
      apply r_get (pc := 18) X f_X3_22 dX3_wouldBeSo_18
      · repeat (first | exact mu_self | assumption | refine (mu_ne (by omega)).trans ?_)
      · rfl
      refine r_icmp_geN (pc := 21) X 75 dX3_wouldBeSo_21 (by decide) (by omega) (by omega) (fun _ => ?_) (fun h => absurd (Nat.le_refl _) h)
      refine r_iconst (pc := 75) (v := nI 1) X dX3_wouldBeSo_75 (by decide) ?_
      exact r_zret (pc := 76) X dX3_wouldBeSo_76 (by first | rfl | decide | exact zb_nar _) (⟨by unfold wso; rw [hal]; rfl, rfl⟩)
    | succ N ih =>
      intro i hi hal
      obtain ⟨v1, v2, v3⟩ := hV i (by omega)
      have hwt := hI.2.2.2.1 (V (3 * i)) (by omega)
      refine r_iload (pc := 15) X dX3_wouldBeSo_15 rfl ?_
      refine r_aload_n (pc := 17) X dX3_wouldBeSo_17 rfl ?_
      apply r_get (pc := 18) X f_X3_22 dX3_wouldBeSo_18
      · repeat (first | exact mu_self | assumption | refine (mu_ne (by omega)).trans ?_)
      · rfl
      refine r_icmp_geN (pc := 21) X 75 dX3_wouldBeSo_21 (by decide) (by omega) (by omega) (fun h => absurd h (by omega)) (fun _ => ?_)
      refine r_aload_n (pc := 24) X dX3_wouldBeSo_24 rfl ?_
      apply r_get (pc := 25) X f_X3_15 dX3_wouldBeSo_25
      · repeat (first | exact mu_self | assumption | refine (mu_ne (by omega)).trans ?_)
      · rfl
      refine r_iload (pc := 28) X dX3_wouldBeSo_28 rfl ?_
      apply r_iald (pc := 30) X dX3_wouldBeSo_30
      · repeat (first | exact mu_self | assumption | refine (mu_ne (by omega)).trans ?_)
      · omega
      · decide
      refine r_iload_n (pc := 31) X dX3_wouldBeSo_31 rfl ?_
      first | refine r_icmp_neN (pc := 32) X 69 dX3_wouldBeSo_32 (by decide) (by omega) (by omega) (fun h2 => ?_) (fun h2 => ?_) | refine r_icmp_ne (pc := 32) X 69 dX3_wouldBeSo_32 (by decide) (fun h2 => ?_) (fun h2 => ?_)
      · have hp : wsP T V w v i = true := by unfold wsP; simp [h2]
        refine r_iincN (pc := 69) (b := 1) X dX3_wouldBeSo_69 rfl (by decide) rfl ?_
        refine r_goto (pc := 72) X 15 dX3_wouldBeSo_72 (by decide) ?_
        exact ih (i + 1) (by omega) (by show (alln i _ && _) = true; rw [hal, hp]; rfl)
      · refine r_iload (pc := 35) X dX3_wouldBeSo_35 rfl ?_
        refine r_aload_n (pc := 37) X dX3_wouldBeSo_37 rfl ?_
        apply r_get (pc := 38) X f_X3_39 dX3_wouldBeSo_38
        · repeat (first | exact mu_self | assumption | refine (mu_ne (by omega)).trans ?_)
        · rfl
        refine r_aload_n (pc := 41) X dX3_wouldBeSo_41 rfl ?_
        apply r_get (pc := 42) X f_X3_9 dX3_wouldBeSo_42
        · repeat (first | exact mu_self | assumption | refine (mu_ne (by omega)).trans ?_)
        · rfl
        refine r_iload (pc := 45) X dX3_wouldBeSo_45 rfl ?_
        apply r_iald (pc := 47) X dX3_wouldBeSo_47
        · repeat (first | exact mu_self | assumption | refine (mu_ne (by omega)).trans ?_)
        · omega
        · decide
        apply r_iald (pc := 48) X dX3_wouldBeSo_48
        · repeat (first | exact mu_self | assumption | refine (mu_ne (by omega)).trans ?_)
        · omega
        · decide
        first | refine r_icmp_ltN (pc := 49) X 56 dX3_wouldBeSo_49 (by decide) (by omega) (by omega) (fun h3 => ?_) (fun h3 => ?_) | refine r_icmp_lt (pc := 49) X 56 dX3_wouldBeSo_49 (by decide) (fun h3 => ?_) (fun h3 => ?_)
        · refine r_iconst (pc := 56) (v := nI 0) X dX3_wouldBeSo_56 (by decide) ?_
          refine r_aload_n (pc := 57) X dX3_wouldBeSo_57 rfl ?_
          apply r_get (pc := 58) X f_X3_18 dX3_wouldBeSo_58
          · repeat (first | exact mu_self | assumption | refine (mu_ne (by omega)).trans ?_)
          · rfl
          refine r_iload (pc := 61) X dX3_wouldBeSo_61 rfl ?_
          apply r_zald (pc := 63) X dX3_wouldBeSo_63
          · repeat (first | exact mu_self | assumption | refine (mu_ne (by omega)).trans ?_)
          · omega
          · decide
          first | refine r_icmp_eqN (pc := 64) X 69 dX3_wouldBeSo_64 (by decide) (by omega) (by omega) (fun h4 => ?_) (fun h4 => ?_) | refine r_icmp_eq (pc := 64) X 69 dX3_wouldBeSo_64 (by decide) (fun h4 => ?_) (fun h4 => ?_)
          · have hp : wsP T V w v i = true := by
              unfold wsP
              rw [decide_eq_false (show ¬ T (1 + V (3 * i)) ≤ brs (T (8 + w)) v by omega), ← h4]
              simp
            refine r_iincN (pc := 69) (b := 1) X dX3_wouldBeSo_69 rfl (by decide) rfl ?_
            refine r_goto (pc := 72) X 15 dX3_wouldBeSo_72 (by decide) ?_
            exact ih (i + 1) (by omega) (by show (alln i _ && _) = true; rw [hal, hp]; rfl)
          · have hp : wsP T V w v i = false := by
              unfold wsP
              rw [decide_eq_false (show ¬ T (1 + V (3 * i)) ≤ brs (T (8 + w)) v by omega), show V (3 * i + 2) = 1 by omega]
              simp [h2]
            refine r_iconst (pc := 67) (v := nI 0) X dX3_wouldBeSo_67 (by decide) ?_
            exact r_zret (pc := 68) X dX3_wouldBeSo_68 (by first | rfl | decide | exact zb_nar _) (⟨by unfold wso; rw [alln_no (show i < sn by omega) hp]; rfl, rfl⟩)
        · refine r_iconst (pc := 52) (v := nI 1) X dX3_wouldBeSo_52 (by decide) ?_
          refine r_goto (pc := 53) X 57 dX3_wouldBeSo_53 (by decide) ?_
          refine r_aload_n (pc := 57) X dX3_wouldBeSo_57 rfl ?_
          apply r_get (pc := 58) X f_X3_18 dX3_wouldBeSo_58
          · repeat (first | exact mu_self | assumption | refine (mu_ne (by omega)).trans ?_)
          · rfl
          refine r_iload (pc := 61) X dX3_wouldBeSo_61 rfl ?_
          apply r_zald (pc := 63) X dX3_wouldBeSo_63
          · repeat (first | exact mu_self | assumption | refine (mu_ne (by omega)).trans ?_)
          · omega
          · decide
          first | refine r_icmp_eqN (pc := 64) X 69 dX3_wouldBeSo_64 (by decide) (by omega) (by omega) (fun h4 => ?_) (fun h4 => ?_) | refine r_icmp_eq (pc := 64) X 69 dX3_wouldBeSo_64 (by decide) (fun h4 => ?_) (fun h4 => ?_)
          · have hp : wsP T V w v i = true := by
              unfold wsP
              rw [decide_eq_true (show T (1 + V (3 * i)) ≤ brs (T (8 + w)) v by omega), ← h4]
              simp
            refine r_iincN (pc := 69) (b := 1) X dX3_wouldBeSo_69 rfl (by decide) rfl ?_
            refine r_goto (pc := 72) X 15 dX3_wouldBeSo_72 (by decide) ?_
            exact ih (i + 1) (by omega) (by show (alln i _ && _) = true; rw [hal, hp]; rfl)
          · have hp : wsP T V w v i = false := by
              unfold wsP
              rw [decide_eq_true (show T (1 + V (3 * i)) ≤ brs (T (8 + w)) v by omega), show V (3 * i + 2) = 0 by omega]
              simp [h2]
            refine r_iconst (pc := 67) (v := nI 0) X dX3_wouldBeSo_67 (by decide) ?_
            exact r_zret (pc := 68) X dX3_wouldBeSo_68 (by first | rfl | decide | exact zb_nar _) (⟨by unfold wso; rw [alln_no (show i < sn by omega) hp]; rfl, rfl⟩)
  exact key sn 0 (by omega) rfl
theorem t3_leastStrong {w : Nat} (h : SigAt Γ μ a sn V) (hT : ToldAt Γ μ b T) (hI : IT T) (hs : sn ≤ 6) (hV : ∀ k, k < sn → V (3 * k) < T 0 ∧ V (3 * k + 1) < T 7 ∧ V (3 * k + 2) ≤ 1) (hw : w < T 7) : CT Γ l 3 sz 0 0 mX3_leastStrong [.ref a, .ref b, .int (nI w)] μ (ri (fun r μ' => r = uI (lfS (wso T V sn w) 20) ∧ μ' = μ)) := by
  have hh := h
  have g0 := h.1
  refine CT.go RX3 rfl "leastStrong" rfl [some (.ref a), some (.ref b), some (.int (nI w)), none] rfl (by decide) (Nat.le_of_ble_eq_true rfl) ?_
  intro p e R s m args below meth c X hsz
  refine r_iconst (pc := 0) (v := nI 1) X dX3_leastStrong_0 (by decide) ?_
  refine r_istore_n (pc := 1) X dX3_leastStrong_1 (by decide) rfl ?_
  have key : ∀ (N v : Nat), v + 1 + N = 21 → (∀ j, 1 ≤ j → j ≤ v → wso T V sn w j = false) → vV Γ p l e R s m args below meth c (vQ Γ s args below 0 0 (ri (fun r μ' => r = uI (lfS (wso T V sn w) 20) ∧ μ' = μ))) 4 0 0 2 [some (.ref (a)), some (.ref (b)), some (.int (nI (w))), some (.int (nI (v + 1)))] [] (μ) := by
    intro N
    induction N with
    | zero =>
      intro v hv hn
      have hv2 : v = 20 := by omega
      subst hv2
      refine r_iload_n (pc := 2) X dX3_leastStrong_2 rfl ?_
      refine r_bipush (pc := 3) (v := nI 20) X dX3_leastStrong_3 (by decide) ?_
      refine r_icmp_gtN (pc := 5) X 26 dX3_leastStrong_5 (by decide) (by omega) (by omega) (fun _ => ?_) (fun h => absurd (show 20 < 20 + 1 by omega) h)
      refine r_iconst (pc := 26) (v := -1) X dX3_leastStrong_26 (by decide) ?_
      exact r_iret (pc := 27) X dX3_leastStrong_27 (⟨by rw [lfS_no hn, uI_0], rfl⟩)
    | succ N ih =>
      intro v hv hn
      refine r_iload_n (pc := 2) X dX3_leastStrong_2 rfl ?_
      refine r_bipush (pc := 3) (v := nI 20) X dX3_leastStrong_3 (by decide) ?_
      refine r_icmp_gtN (pc := 5) X 26 dX3_leastStrong_5 (by decide) (by omega) (by omega) (fun h => absurd h (by omega)) (fun _ => ?_)
      refine r_aload_n (pc := 8) X dX3_leastStrong_8 rfl ?_
      refine r_aload_n (pc := 9) X dX3_leastStrong_9 rfl ?_
      refine r_iload_n (pc := 10) X dX3_leastStrong_10 rfl ?_
      refine r_iload_n (pc := 11) X dX3_leastStrong_11 rfl ?_
      refine c_i X (rV (pc := 12) (ci := 3) X l_X3_26 (t3_wouldBeSo hh hT hI hs hV hw (v := v + 1) (by omega)) dX3_leastStrong_12 (by repeat (first | exact mu_self | assumption | refine (mu_ne (by omega)).trans ?_)) rfl rfl rfl (Nat.le_of_ble_eq_true rfl) (by decide) (Nat.le_of_ble_eq_true rfl) (Nat.le_of_ble_eq_true rfl)) ?_
      rintro _ μq ⟨rfl, hμq⟩
      rw [hμq]
      clear hμq μq
      first | refine r_if_eqZ (pc := 15) X 20 dX3_leastStrong_15 (by decide) (fun h2 => ?_) (fun h2 => ?_) | refine r_if_eqN (pc := 15) X 20 dX3_leastStrong_15 (by decide) (by omega) (fun h2 => ?_) (fun h2 => ?_) | refine r_if_eq (pc := 15) X 20 dX3_leastStrong_15 (by decide) (fun h2 => ?_) (fun h2 => ?_)
      · refine r_iincN (pc := 20) (b := 1) X dX3_leastStrong_20 rfl (by decide) rfl ?_
        refine r_goto (pc := 23) X 2 dX3_leastStrong_23 (by decide) ?_
        refine ih (v + 1) (by omega) (fun j h1 h3 => ?_)
        by_cases hj : j = v + 1
        · subst hj; exact h2
        · exact hn j h1 (by omega)
      · refine r_iload_n (pc := 18) X dX3_leastStrong_18 rfl ?_
        exact r_iret (pc := 19) X dX3_leastStrong_19 (⟨by rw [lfS_at hn h2 (by omega), uI_S], rfl⟩)
  exact key 20 0 (by omega) (fun j h1 h2 => by omega)
theorem t3_greatestStrong {w : Nat} (h : SigAt Γ μ a sn V) (hT : ToldAt Γ μ b T) (hI : IT T) (hs : sn ≤ 6) (hV : ∀ k, k < sn → V (3 * k) < T 0 ∧ V (3 * k + 1) < T 7 ∧ V (3 * k + 2) ≤ 1) (hw : w < T 7) : CT Γ l 3 sz 0 0 mX3_greatestStrong [.ref a, .ref b, .int (nI w)] μ (ri (fun r μ' => r = uI (gsS (wso T V sn w) 20) ∧ μ' = μ)) := by
  have hh := h
  have g0 := h.1
  refine CT.go RX3 rfl "greatestStrong" rfl [some (.ref a), some (.ref b), some (.int (nI w)), none] rfl (by decide) (Nat.le_of_ble_eq_true rfl) ?_
  intro p e R s m args below meth c X hsz
  refine r_bipush (pc := 0) (v := nI 20) X dX3_greatestStrong_0 (by decide) ?_
  refine r_istore_n (pc := 2) X dX3_greatestStrong_2 (by decide) rfl ?_
  have key : ∀ (v : Nat), v ≤ 20 → (∀ j, v < j → j ≤ 20 → wso T V sn w j = false) → vV Γ p l e R s m args below meth c (vQ Γ s args below 0 0 (ri (fun r μ' => r = uI (gsS (wso T V sn w) 20) ∧ μ' = μ))) 4 0 0 3 [some (.ref (a)), some (.ref (b)), some (.int (nI (w))), some (.int (nI (v)))] [] (μ) := by
    intro v
    induction v with
    | zero =>
      intro hv hn
      refine r_iload_n (pc := 3) X dX3_greatestStrong_3 rfl ?_
      refine r_iconst (pc := 4) (v := nI 1) X dX3_greatestStrong_4 (by decide) ?_
      refine r_icmp_ltN (pc := 5) X 26 dX3_greatestStrong_5 (by decide) (by omega) (by omega) (fun _ => ?_) (fun h => absurd (show 0 < 1 by omega) h)
      refine r_iconst (pc := 26) (v := -1) X dX3_greatestStrong_26 (by decide) ?_
      exact r_iret (pc := 27) X dX3_greatestStrong_27 (⟨by rw [gsS_up hv hn]; exact uI_0.symm, rfl⟩)
    | succ v ih =>
      intro hv hn
      refine r_iload_n (pc := 3) X dX3_greatestStrong_3 rfl ?_
      refine r_iconst (pc := 4) (v := nI 1) X dX3_greatestStrong_4 (by decide) ?_
      refine r_icmp_ltN (pc := 5) X 26 dX3_greatestStrong_5 (by decide) (by omega) (by omega) (fun h => absurd h (by omega)) (fun _ => ?_)
      refine r_aload_n (pc := 8) X dX3_greatestStrong_8 rfl ?_
      refine r_aload_n (pc := 9) X dX3_greatestStrong_9 rfl ?_
      refine r_iload_n (pc := 10) X dX3_greatestStrong_10 rfl ?_
      refine r_iload_n (pc := 11) X dX3_greatestStrong_11 rfl ?_
      refine c_i X (rV (pc := 12) (ci := 3) X l_X3_26 (t3_wouldBeSo hh hT hI hs hV hw (v := v + 1) (by omega)) dX3_greatestStrong_12 (by repeat (first | exact mu_self | assumption | refine (mu_ne (by omega)).trans ?_)) rfl rfl rfl (Nat.le_of_ble_eq_true rfl) (by decide) (Nat.le_of_ble_eq_true rfl) (Nat.le_of_ble_eq_true rfl)) ?_
      rintro _ μq ⟨rfl, hμq⟩
      rw [hμq]
      clear hμq μq
      first | refine r_if_eqZ (pc := 15) X 20 dX3_greatestStrong_15 (by decide) (fun h2 => ?_) (fun h2 => ?_) | refine r_if_eqN (pc := 15) X 20 dX3_greatestStrong_15 (by decide) (by omega) (fun h2 => ?_) (fun h2 => ?_) | refine r_if_eq (pc := 15) X 20 dX3_greatestStrong_15 (by decide) (fun h2 => ?_) (fun h2 => ?_)
      · refine r_iincD (pc := 20) X dX3_greatestStrong_20 rfl (by decide) rfl ?_
        refine r_goto (pc := 23) X 3 dX3_greatestStrong_23 (by decide) ?_
        refine ih (by omega) (fun j h1 h3 => ?_)
        by_cases hj : j = v + 1
        · subst hj; exact h2
        · exact hn j (by omega) h3
      · refine r_iload_n (pc := 18) X dX3_greatestStrong_18 rfl ?_
        have e : gsS (wso T V sn w) (v + 1) = v + 2 := by show (if wso T V sn w (v + 1) = true then v + 2 else _) = _; rw [if_pos h2]
        exact r_iret (pc := 19) X dX3_greatestStrong_19 (⟨by rw [gsS_up hv hn, e, uI_S], rfl⟩)
  exact key 20 (by omega) (fun j h1 h2 => by omega)
end S17
end
section
def fitG (T S : Nat → Nat) (G m s : Nat) : Bool := (S (6 + m) == 0) && !G.testBit s && brM T s m
def bst (ok : Nat → Bool) (nx : Nat → Nat) (X : Nat) : Nat → Nat
  | 0 => nx X
  | s + 1 => if (ok s && !X.testBit s) = true then max (bst ok nx X s) (1 + nx (X ||| 1 <<< s)) else bst ok nx X s
/-- how many of the last k men get out, with the sheep of X not to be had -/
def plv (T S : Nat → Nat) (G : Nat) : Nat → Nat → Nat
  | 0, _ => 0
  | k + 1, X => bst (fitG T S G (5 - k)) (plv T S G k) X 6
def fitM (T S : Nat → Nat) (G m : Nat) : Nat := mkb 6 (fitG T S G m)
theorem bst_le {ok : Nat → Bool} {nx : Nat → Nat} {b : Nat} (h : ∀ X, nx X ≤ b) (X n : Nat) : bst ok nx X n ≤ b + 1 := by
  induction n with
  | zero => have := h X; show nx X ≤ b + 1; omega
  | succ n ih =>
    show (if (ok n && !X.testBit n) = true then max (bst ok nx X n) (1 + nx (X ||| 1 <<< n)) else bst ok nx X n) ≤ b + 1
    have := h (X ||| 1 <<< n)
    split <;> omega
theorem plv_le (T S : Nat → Nat) (G : Nat) : ∀ k X, plv T S G k X ≤ k := by
  intro k
  induction k with
  | zero => intro X; exact Nat.le_refl _
  | succ k ih => intro X; exact bst_le ih X 6
theorem bst_stop {ok : Nat → Bool} {nx : Nat → Nat} {X s n : Nat} (hn : s ≤ n) (h : ∀ t, s ≤ t → t < n → (ok t && !X.testBit t) = false) : bst ok nx X n = bst ok nx X s := by
  induction n with
  | zero => have : s = 0 := by omega
            subst this; rfl
  | succ n ih =>
    by_cases hq : s = n + 1
    · subst hq; rfl
    · show (if (ok n && !X.testBit n) = true then _ else bst ok nx X n) = _
      rw [h n (by omega) (by omega), if_neg (by simp)]
      exact ih (by omega) (fun t h1 h2 => h t h1 (by omega))
theorem fit_s7 {T S : Nat → Nat} {G m s : Nat} (h : fitG T S G m s = true) : s < T 7 := by
  unfold fitG brM at h
  simp at h
  exact h.2.1
theorem open_test {T S : Nat → Nat} {G m X s : Nat} (hs : s < 6) : (fitM T S G m &&& (X ^^^ 63)).testBit s = (fitG T S G m s && !X.testBit s) := by
  rw [andn_test hs]
  unfold fitM
  rw [mkb_test]
  simp [hs]
theorem plv_s {T S : Nat → Nat} {G m : Nat} (hm : m < 6) (X : Nat) : plv T S G (6 - m) X = bst (fitG T S G m) (plv T S G (5 - m)) X 6 := by
  obtain ⟨k, hk⟩ : ∃ k, 5 - m = k := ⟨_, rfl⟩
  rw [show 6 - m = k + 1 by omega, hk]
  show bst (fitG T S G (5 - k)) (plv T S G k) X 6 = _
  rw [show 5 - k = m by omega]
def tab (T S : Nat → Nat) (G : Nat) (g : Nat → Int32) (i : Nat) : Prop := ∀ m X, i ≤ m → m ≤ 6 → X < 2 ^ T 7 → g (64 * m + X) = nI (plv T S G (6 - m) X)
theorem shr_test {a s t : Nat} (h : a >>> s = 0) (ht : s ≤ t) : a.testBit t = false := by
  have h1 : (a >>> s).testBit (t - s) = a.testBit t := by rw [Nat.testBit_shiftRight, show s + (t - s) = t by omega]
  rw [← h1, h]
  simp
theorem or_shl_lt {X s n : Nat} (hX : X < 2 ^ n) (hs : s < n) : X ||| 1 <<< s < 2 ^ n := Nat.or_lt_two_pow hX (shl_pow hs)
def fbP (T S : Nat → Nat) (G m X s : Nat) : Bool := (fitG T S G m s && !X.testBit s) && decide (1 + plv T S G (5 - m) (X ||| 1 <<< s) = plv T S G (6 - m) X)
/-- the first of f numbers from i on (0: none, else it and 1) -/
def fstF (P : Nat → Bool) : Nat → Nat → Nat
  | 0, _ => 0
  | f + 1, i => if P i = true then i + 1 else fstF P f (i + 1)
theorem fstF_le (P : Nat → Bool) : ∀ f i, fstF P f i ≤ i + f := by
  intro f
  induction f with
  | zero => intro i; exact Nat.zero_le _
  | succ f ih =>
    intro i
    show (if P i = true then i + 1 else fstF P f (i + 1)) ≤ i + (f + 1)
    have := ih (i + 1)
    split <;> omega
theorem fstF_at {P : Nat → Bool} : ∀ {f i k : Nat}, fstF P f i = k + 1 → P k = true := by
  intro f
  induction f with
  | zero => intro i k h; exact absurd h (by simp [fstF])
  | succ f ih =>
    intro i k h
    have h' : (if P i = true then i + 1 else fstF P f (i + 1)) = k + 1 := h
    by_cases hp : P i = true
    · rw [if_pos hp] at h'
      have : i = k := by omega
      rw [← this]; exact hp
    · rw [if_neg hp] at h'
      exact ih h'
def tkN (T S : Nat → Nat) (G : Nat) : Nat → Nat
  | 0 => 0
  | m + 1 => if fstF (fbP T S G m (tkN T S G m)) 6 0 = 0 then tkN T S G m else tkN T S G m ||| 1 <<< (fstF (fbP T S G m (tkN T S G m)) 6 0 - 1)
theorem tkN_lt (T S : Nat → Nat) (G : Nat) : ∀ m, tkN T S G m < 2 ^ T 7 := by
  intro m
  induction m with
  | zero => exact Nat.two_pow_pos _
  | succ m ih =>
    show (if fstF (fbP T S G m (tkN T S G m)) 6 0 = 0 then tkN T S G m else tkN T S G m ||| 1 <<< (fstF (fbP T S G m (tkN T S G m)) 6 0 - 1)) < 2 ^ T 7
    by_cases h : fstF (fbP T S G m (tkN T S G m)) 6 0 = 0
    · rw [if_pos h]; exact ih
    · rw [if_neg h]
      obtain ⟨k, hk⟩ : ∃ k, fstF (fbP T S G m (tkN T S G m)) 6 0 = k + 1 := ⟨_, (Nat.succ_pred h).symm⟩
      have h1 := fstF_at hk
      rw [hk]
      refine or_shl_lt ih ?_
      unfold fbP at h1
      simp only [Bool.and_eq_true] at h1
      exact fit_s7 h1.1.1
theorem iinc_u (k : Nat) : nI k + Int32.ofInt (-1) = uI k := by
  unfold uI
  rw [show Int32.ofInt (-1) = -1 by decide, show nI 1 = 1 by decide, Int32.sub_eq_add_neg]
section S18
variable {Γ : KK} {l : Launch} {sz : Nat} {μ : MM} {a b c' : Nat} {T S : Nat → Nat}
theorem t1_fitting {m' : Nat} (hT : ToldAt Γ μ b T) (hs : ScAt Γ μ c' (scV (T 0) S) (scU S)) (hI : IT T) (hS : IS T S) (hm : m' < 6) : CT Γ l 4 sz 0 0 mX1_fitting [.ref b, .ref c', .int (nI m')] μ (ri (fun r μ' => r = nI (fitM T S (S 5) m') ∧ μ' = μ)) := by
  obtain ⟨g0, g1, gz⟩ := hs
  have k0 := hT.1
  have h6 := hI.1
  have h7 := hI.2.1
  have hg : S 5 < 2 ^ 6 := Nat.lt_of_lt_of_le hS.2.2.2.2.1 (Nat.pow_le_pow_right (by decide) h7)
  refine CT.go RX1 rfl "fitting" rfl [some (.ref b), some (.ref c'), some (.int (nI m')), none, none] rfl (by decide) (Nat.le_of_ble_eq_true rfl) ?_
  intro p e R s m args below meth c X hsz
  refine r_iconst (pc := 0) (v := nI 0) X dX1_fitting_0 (by decide) ?_
  refine r_istore_n (pc := 1) X dX1_fitting_1 (by decide) rfl ?_
  refine r_iconst (pc := 2) (v := nI 0) X dX1_fitting_2 (by decide) ?_
  refine r_istore (pc := 3) X dX1_fitting_3 (by decide) rfl ?_
  have key : ∀ (N i : Nat), i + N = 6 → vV Γ p l e R s m args below meth c (vQ Γ s args below 0 0 (ri (fun r μ' => r = nI (fitM T S (S 5) m') ∧ μ' = μ))) 5 0 0 5 [some (.ref (b)), some (.ref (c')), some (.int (nI (m'))), some (.int (nI (mkb i (fitG T S (S 5) m')))), some (.int (nI (i)))] [] (μ) := by
    intro N
    induction N with
    | zero =>
      intro i hi
      have hi2 : i = 6 := by omega
      subst hi2
      refine r_iload (pc := 5) X dX1_fitting_5 rfl ?_
      refine r_bipush (pc := 7) (v := nI 6) X dX1_fitting_7 (by decide) ?_
      refine r_icmp_geN (pc := 9) X 58 dX1_fitting_9 (by decide) (by omega) (by omega) (fun _ => ?_) (fun h => absurd (Nat.le_refl _) h)
      refine r_iload_n (pc := 58) X dX1_fitting_58 rfl ?_
      exact r_iret (pc := 59) X dX1_fitting_59 (⟨rfl, rfl⟩)
    | succ N ih =>
      intro i hi
      refine r_iload (pc := 5) X dX1_fitting_5 rfl ?_
      refine r_bipush (pc := 7) (v := nI 6) X dX1_fitting_7 (by decide) ?_
      refine r_icmp_geN (pc := 9) X 58 dX1_fitting_9 (by decide) (by omega) (by omega) (fun h => absurd h (by omega)) (fun _ => ?_)
      refine r_aload_n (pc := 12) X dX1_fitting_12 rfl ?_
      apply r_get (pc := 13) X f_X1_32 dX1_fitting_13
      · repeat (first | exact mu_self | assumption | refine (mu_ne (by omega)).trans ?_)
      · rfl
      refine r_iload_n (pc := 16) X dX1_fitting_16 rfl ?_
      refine c_i X (rSN (pc := 17) X l_X1_37 (t6_hasBit (b := msk (T 0) S 0) (k := m') (Nat.lt_trans (msk_lt h6 S 0) (by decide)) (by omega)) dX1_fitting_17 rfl rfl (Nat.le_of_ble_eq_true rfl) (by decide) (Nat.le_of_ble_eq_true rfl) (Nat.le_of_ble_eq_true rfl)) ?_
      rintro _ μq ⟨rfl, hμq⟩
      rw [hμq]
      clear hμq μq
      have no : fitG T S (S 5) m' i = false → vV Γ p l e R s m args below meth c (vQ Γ s args below 0 0 (ri (fun r μ' => r = nI (fitM T S (S 5) m') ∧ μ' = μ))) 5 0 0 52 [some (.ref (b)), some (.ref (c')), some (.int (nI (m'))), some (.int (nI (mkb i (fitG T S (S 5) m')))), some (.int (nI (i)))] [] (μ) := by
        intro hq
        refine r_iincN (pc := 52) (b := 1) X dX1_fitting_52 rfl (by decide) rfl ?_
        refine r_goto (pc := 55) X 5 dX1_fitting_55 (by decide) ?_
        have e : mkb (i + 1) (fitG T S (S 5) m') = mkb i (fitG T S (S 5) m') := by rw [mkb_succ, hq]; simp
        rw [← e]
        exact ih (i + 1) (by omega)
      rw [msk_test]
      first | refine r_if_eqZ (pc := 20) X 52 dX1_fitting_20 (by decide) (fun h => ?_) (fun h => ?_) | refine r_if_eqN (pc := 20) X 52 dX1_fitting_20 (by decide) (by omega) (fun h => ?_) (fun h => ?_) | refine r_if_eq (pc := 20) X 52 dX1_fitting_20 (by decide) (fun h => ?_) (fun h => ?_)
      · refine no ?_
        unfold fitG brM
        simp at h
        by_cases h1 : m' < T 0
        · simp [h h1]
        · simp [h1]
      · simp at h
        refine r_aload_n (pc := 23) X dX1_fitting_23 rfl ?_
        apply r_get (pc := 24) X f_X1_41 dX1_fitting_24
        · repeat (first | exact mu_self | assumption | refine (mu_ne (by omega)).trans ?_)
        · rfl
        refine r_iload (pc := 27) X dX1_fitting_27 rfl ?_
        refine c_i X (rSN (pc := 29) X l_X1_37 (t6_hasBit (b := S 5) (k := i) (by omega) (by omega)) dX1_fitting_29 rfl rfl (Nat.le_of_ble_eq_true rfl) (by decide) (Nat.le_of_ble_eq_true rfl) (Nat.le_of_ble_eq_true rfl)) ?_
        rintro _ μq ⟨rfl, hμq⟩
        rw [hμq]
        clear hμq μq
        first | refine r_if_neZ (pc := 32) X 52 dX1_fitting_32 (by decide) (fun h2 => ?_) (fun h2 => ?_) | refine r_if_neN (pc := 32) X 52 dX1_fitting_32 (by decide) (by omega) (fun h2 => ?_) (fun h2 => ?_) | refine r_if_ne (pc := 32) X 52 dX1_fitting_32 (by decide) (fun h2 => ?_) (fun h2 => ?_)
        · refine no ?_
          unfold fitG
          simp [h2]
        · refine r_aload_n (pc := 35) X dX1_fitting_35 rfl ?_
          refine r_iload (pc := 36) X dX1_fitting_36 rfl ?_
          refine r_iload_n (pc := 38) X dX1_fitting_38 rfl ?_
          refine c_i X (rV (pc := 39) (ci := 5) X l_X1_44 (t5_bearsMan hT hI (w := i) (m' := m') (by omega) hm) dX1_fitting_39 (by repeat (first | exact mu_self | assumption | refine (mu_ne (by omega)).trans ?_)) rfl rfl rfl (Nat.le_of_ble_eq_true rfl) (by decide) (Nat.le_of_ble_eq_true rfl) (Nat.le_of_ble_eq_true rfl)) ?_
          rintro _ μq ⟨rfl, hμq⟩
          rw [hμq]
          clear hμq μq
          first | refine r_if_eqZ (pc := 42) X 52 dX1_fitting_42 (by decide) (fun h3 => ?_) (fun h3 => ?_) | refine r_if_eqN (pc := 42) X 52 dX1_fitting_42 (by decide) (by omega) (fun h3 => ?_) (fun h3 => ?_) | refine r_if_eq (pc := 42) X 52 dX1_fitting_42 (by decide) (fun h3 => ?_) (fun h3 => ?_)
          · refine no ?_
            unfold fitG
            simp [h3]
          · refine r_iload_n (pc := 45) X dX1_fitting_45 rfl ?_
            refine r_iconst (pc := 46) (v := nI 1) X dX1_fitting_46 (by decide) ?_
            refine r_iload (pc := 47) X dX1_fitting_47 rfl ?_
            first | refine r_ishlN (pc := 49) X dX1_fitting_49 (by omega) ?_ | refine r_ishl (pc := 49) X dX1_fitting_49 ?_
            first | refine r_iorN (pc := 50) X dX1_fitting_50 ?_ | refine r_ior (pc := 50) X dX1_fitting_50 ?_
            refine r_istore_n (pc := 51) X dX1_fitting_51 (by decide) rfl ?_
            refine r_iincN (pc := 52) (b := 1) X dX1_fitting_52 rfl (by decide) rfl ?_
            refine r_goto (pc := 55) X 5 dX1_fitting_55 (by decide) ?_
            have hq : fitG T S (S 5) m' i = true := by unfold fitG; simp [h.2, h2, h3]
            have e : mkb (i + 1) (fitG T S (S 5) m') = mkb i (fitG T S (S 5) m') ||| 1 <<< i := by rw [mkb_succ, hq]; simp
            rw [← e]
            exact ih (i + 1) (by omega)
  exact key 6 0 (by omega)
theorem t1_bestFrom {m' x : Nat} {G : Nat} {f g : Nat → Int32} (h : PlanAt Γ μ a f g) (h7 : T 7 ≤ 6) (hm : m' < 6) (hx : x < 2 ^ T 7) (hf : f m' = nI (fitM T S G m')) (ht : tab T S G g (m' + 1)) : CT Γ l 1 sz 0 0 mX1_bestFrom [.ref a, .int (nI m'), .int (nI x)] μ (ri (fun r μ' => r = nI (plv T S G (6 - m') x) ∧ μ' = μ)) := by
  obtain ⟨g0, g1, g2⟩ := h
  have hx6 : x < 64 := Nat.lt_of_lt_of_le hx (pow6 h7)
  have hg : ∀ y, y < 2 ^ T 7 → g ((m' + 1) * 64 + y) = nI (plv T S G (5 - m') y) := fun y hy => by
    have := ht (m' + 1) y (by omega) (by omega) hy
    rw [show 6 - (m' + 1) = 5 - m' by omega] at this
    rw [show (m' + 1) * 64 + y = 64 * (m' + 1) + y by omega]
    exact this
  have hfl : fitM T S G m' < 64 := mkb_lt64 (Nat.le_refl 6) _
  refine CT.go RX1 rfl "bestFrom" rfl [some (.ref a), some (.int (nI m')), some (.int (nI x)), none, none, none, none] rfl (by decide) (Nat.le_of_ble_eq_true rfl) ?_
  intro p e R s m args below meth c X hsz
  refine r_iload_n (pc := 0) X dX1_bestFrom_0 rfl ?_
  refine r_iconst (pc := 1) (v := nI 1) X dX1_bestFrom_1 (by decide) ?_
  first | refine r_iaddN (pc := 2) X dX1_bestFrom_2 ?_ | refine r_iadd (pc := 2) X dX1_bestFrom_2 ?_
  refine r_bipush (pc := 3) (v := nI 64) X dX1_bestFrom_3 (by decide) ?_
  first | refine r_imulN (pc := 5) X dX1_bestFrom_5 ?_ | refine r_imul (pc := 5) X dX1_bestFrom_5 ?_
  refine r_istore_n (pc := 6) X dX1_bestFrom_6 (by decide) rfl ?_
  refine r_aload_n (pc := 7) X dX1_bestFrom_7 rfl ?_
  apply r_get (pc := 8) X f_X1_15 dX1_bestFrom_8
  · repeat (first | exact mu_self | assumption | refine (mu_ne (by omega)).trans ?_)
  · rfl
  refine r_iload_n (pc := 11) X dX1_bestFrom_11 rfl ?_
  refine r_iload_n (pc := 12) X dX1_bestFrom_12 rfl ?_
  first | refine r_iaddN (pc := 13) X dX1_bestFrom_13 ?_ | refine r_iadd (pc := 13) X dX1_bestFrom_13 ?_
  apply r_iald (pc := 14) X dX1_bestFrom_14
  · repeat (first | exact mu_self | assumption | refine (mu_ne (by omega)).trans ?_)
  · omega
  · decide
  rw [hg x hx]
  refine r_istore (pc := 15) X dX1_bestFrom_15 (by decide) rfl ?_
  refine r_aload_n (pc := 17) X dX1_bestFrom_17 rfl ?_
  apply r_get (pc := 18) X f_X1_9 dX1_bestFrom_18
  · repeat (first | exact mu_self | assumption | refine (mu_ne (by omega)).trans ?_)
  · rfl
  refine r_iload_n (pc := 21) X dX1_bestFrom_21 rfl ?_
  apply r_iald (pc := 22) X dX1_bestFrom_22
  · repeat (first | exact mu_self | assumption | refine (mu_ne (by omega)).trans ?_)
  · omega
  · decide
  refine r_iload_n (pc := 23) X dX1_bestFrom_23 rfl ?_
  refine r_iconst (pc := 24) (v := -1) X dX1_bestFrom_24 (by decide) ?_
  refine r_ixor (pc := 25) X dX1_bestFrom_25 ?_
  refine r_iand (pc := 26) X dX1_bestFrom_26 ?_
  rw [hf, nI_andn _ hfl _ hx6]
  obtain ⟨op, hop⟩ : ∃ op, op = fitM T S G m' &&& (x ^^^ 63) := ⟨_, rfl⟩
  have hopl : op < 64 := by rw [hop]; exact andn_lt hfl
  have hopt : ∀ s, s < 6 → op.testBit s = (fitG T S G m' s && !x.testBit s) := fun s hs => by rw [hop]; exact open_test hs
  rw [← hop]
  refine r_istore (pc := 27) X dX1_bestFrom_27 (by decide) rfl ?_
  refine r_iconst (pc := 29) (v := nI 0) X dX1_bestFrom_29 (by decide) ?_
  refine r_istore (pc := 30) X dX1_bestFrom_30 (by decide) rfl ?_
  rw [plv_s hm x]
  have key : ∀ (N i : Nat), i + N = 6 → vV Γ p l e R s m args below meth c (vQ Γ s args below 0 0 (ri (fun r μ' => r = nI (bst (fitG T S G m') (plv T S G (5 - m')) x 6) ∧ μ' = μ))) 7 0 0 32 [some (.ref a), some (.int (nI m')), some (.int (nI x)), some (.int (nI ((m' + 1) * 64))), some (.int (nI (bst (fitG T S G m') (plv T S G (5 - m')) x i))), some (.int (nI op)), some (.int (nI i))] [] μ := by
    intro N
    induction N with
    | zero =>
      intro i hi
      have hi2 : i = 6 := by omega
      subst hi2
      refine r_iload (pc := 32) X dX1_bestFrom_32 rfl ?_
      refine r_iload (pc := 34) X dX1_bestFrom_34 rfl ?_
      first | refine r_ishrN (pc := 36) X dX1_bestFrom_36 (by omega) (by omega) ?_ | refine r_ishr (pc := 36) X dX1_bestFrom_36 ?_
      first | refine r_if_eqZ (pc := 37) X 85 dX1_bestFrom_37 (by decide) (fun h => ?_) (fun h => ?_) | refine r_if_eqN (pc := 37) X 85 dX1_bestFrom_37 (by decide) (by omega) (fun h => ?_) (fun h => ?_) | refine r_if_eq (pc := 37) X 85 dX1_bestFrom_37 (by decide) (fun h => ?_) (fun h => ?_)
      · refine r_iload (pc := 85) X dX1_bestFrom_85 rfl ?_
        exact r_iret (pc := 87) X dX1_bestFrom_87 (⟨rfl, rfl⟩)
      · refine r_iload (pc := 40) X dX1_bestFrom_40 rfl ?_
        refine r_bipush (pc := 42) (v := nI 6) X dX1_bestFrom_42 (by decide) ?_
        refine r_icmp_geN (pc := 44) X 85 dX1_bestFrom_44 (by decide) (by omega) (by omega) (fun _ => ?_) (fun h => absurd (Nat.le_refl _) h)
        refine r_iload (pc := 85) X dX1_bestFrom_85 rfl ?_
        exact r_iret (pc := 87) X dX1_bestFrom_87 (⟨rfl, rfl⟩)
    | succ N ih =>
      intro i hi
      have hb := bst_le (ok := fitG T S G m') (plv_le T S G (5 - m')) x i
      have hsr : op >>> i ≤ op := by rw [Nat.shiftRight_eq_div_pow]; exact Nat.div_le_self _ _
      refine r_iload (pc := 32) X dX1_bestFrom_32 rfl ?_
      refine r_iload (pc := 34) X dX1_bestFrom_34 rfl ?_
      first | refine r_ishrN (pc := 36) X dX1_bestFrom_36 (by omega) (by omega) ?_ | refine r_ishr (pc := 36) X dX1_bestFrom_36 ?_
      first | refine r_if_eqZ (pc := 37) X 85 dX1_bestFrom_37 (by decide) (fun h => ?_) (fun h => ?_) | refine r_if_eqN (pc := 37) X 85 dX1_bestFrom_37 (by decide) (by omega) (fun h => ?_) (fun h => ?_) | refine r_if_eq (pc := 37) X 85 dX1_bestFrom_37 (by decide) (fun h => ?_) (fun h => ?_)
      · refine r_iload (pc := 85) X dX1_bestFrom_85 rfl ?_
        exact r_iret (pc := 87) X dX1_bestFrom_87 (⟨by rw [bst_stop (show i ≤ 6 by omega) (fun t h1 h2 => by rw [← hopt t h2]; exact shr_test h h1)], rfl⟩)
      · refine r_iload (pc := 40) X dX1_bestFrom_40 rfl ?_
        refine r_bipush (pc := 42) (v := nI 6) X dX1_bestFrom_42 (by decide) ?_
        refine r_icmp_geN (pc := 44) X 85 dX1_bestFrom_44 (by decide) (by omega) (by omega) (fun h => absurd h (by omega)) (fun _ => ?_)
        refine r_iload (pc := 47) X dX1_bestFrom_47 rfl ?_
        refine r_iload (pc := 49) X dX1_bestFrom_49 rfl ?_
        refine c_i X (rSN (pc := 51) X l_X1_37 (t6_hasBit (b := op) (k := i) (by omega) (by omega)) dX1_bestFrom_51 rfl rfl (Nat.le_of_ble_eq_true rfl) (by decide) (Nat.le_of_ble_eq_true rfl) (Nat.le_of_ble_eq_true rfl)) ?_
        rintro _ μq ⟨rfl, hμq⟩
        rw [hμq]
        clear hμq μq
        rw [hopt i (by omega)]
        first | refine r_if_eqZ (pc := 54) X 79 dX1_bestFrom_54 (by decide) (fun h2 => ?_) (fun h2 => ?_) | refine r_if_eqN (pc := 54) X 79 dX1_bestFrom_54 (by decide) (by omega) (fun h2 => ?_) (fun h2 => ?_) | refine r_if_eq (pc := 54) X 79 dX1_bestFrom_54 (by decide) (fun h2 => ?_) (fun h2 => ?_)
        · refine r_iincN (pc := 79) (b := 1) X dX1_bestFrom_79 rfl (by decide) rfl ?_
          refine r_goto (pc := 82) X 32 dX1_bestFrom_82 (by decide) ?_
          have e : bst (fitG T S G m') (plv T S G (5 - m')) x (i + 1) = bst (fitG T S G m') (plv T S G (5 - m')) x i := by
            show (if (fitG T S G m' i && !x.testBit i) = true then _ else _) = _
            rw [h2]; rfl
          rw [← e]
          exact ih (i + 1) (by omega)
        · have hi7 : i < T 7 := by
            simp only [Bool.and_eq_true] at h2
            exact fit_s7 h2.1
          have hxo := or_shl_lt hx hi7
          have hxo6 : x ||| 1 <<< i < 64 := Nat.lt_of_lt_of_le hxo (pow6 h7)
          have hp := plv_le T S G (5 - m') (x ||| 1 <<< i)
          refine r_iload (pc := 57) X dX1_bestFrom_57 rfl ?_
          refine r_iconst (pc := 59) (v := nI 1) X dX1_bestFrom_59 (by decide) ?_
          refine r_aload_n (pc := 60) X dX1_bestFrom_60 rfl ?_
          apply r_get (pc := 61) X f_X1_15 dX1_bestFrom_61
          · repeat (first | exact mu_self | assumption | refine (mu_ne (by omega)).trans ?_)
          · rfl
          refine r_iload_n (pc := 64) X dX1_bestFrom_64 rfl ?_
          refine r_iload_n (pc := 65) X dX1_bestFrom_65 rfl ?_
          refine r_iconst (pc := 66) (v := nI 1) X dX1_bestFrom_66 (by decide) ?_
          refine r_iload (pc := 67) X dX1_bestFrom_67 rfl ?_
          first | refine r_ishlN (pc := 69) X dX1_bestFrom_69 (by omega) ?_ | refine r_ishl (pc := 69) X dX1_bestFrom_69 ?_
          first | refine r_iorN (pc := 70) X dX1_bestFrom_70 ?_ | refine r_ior (pc := 70) X dX1_bestFrom_70 ?_
          first | refine r_iaddN (pc := 71) X dX1_bestFrom_71 ?_ | refine r_iadd (pc := 71) X dX1_bestFrom_71 ?_
          apply r_iald (pc := 72) X dX1_bestFrom_72
          · repeat (first | exact mu_self | assumption | refine (mu_ne (by omega)).trans ?_)
          · omega
          · decide
          rw [hg _ hxo]
          first | refine r_iaddN (pc := 73) X dX1_bestFrom_73 ?_ | refine r_iadd (pc := 73) X dX1_bestFrom_73 ?_
          refine r_max (pc := 74) X l_X1_47 dX1_bestFrom_74 (by decide) (Nat.le_of_ble_eq_true rfl) (by decide) (by decide) ?_
          rw [max_nI (by omega) (by omega)]
          refine r_istore (pc := 77) X dX1_bestFrom_77 (by decide) rfl ?_
          refine r_iincN (pc := 79) (b := 1) X dX1_bestFrom_79 rfl (by decide) rfl ?_
          refine r_goto (pc := 82) X 32 dX1_bestFrom_82 (by decide) ?_
          have e : bst (fitG T S G m') (plv T S G (5 - m')) x (i + 1) = max (bst (fitG T S G m') (plv T S G (5 - m')) x i) (1 + plv T S G (5 - m') (x ||| 1 <<< i)) := by
            show (if (fitG T S G m' i && !x.testBit i) = true then max _ _ else _) = _
            rw [h2]; rfl
          rw [← e]
          exact ih (i + 1) (by omega)
  exact key 6 0 (by omega)
theorem t1_mostOut {x : Nat} {f g : Nat → Int32} (h : PlanAt Γ μ a f g) (hx : x < 64) : CT Γ l 0 sz 0 0 mX1_mostOut [.ref a, .int (nI x)] μ (ri (fun r μ' => r = g x ∧ μ' = μ)) := by
  obtain ⟨g0, g1, g2⟩ := h
  refine CT.go RX1 rfl "mostOut" rfl [some (.ref a), some (.int (nI x))] rfl (by decide) (Nat.le_of_ble_eq_true rfl) ?_
  intro p e R s m args below meth c X hsz
  refine r_iload_n (pc := 0) X dX1_mostOut_0 rfl ?_
  refine r_if_ltN (pc := 1) X 19 dX1_mostOut_1 (by decide) (by omega) (fun h => absurd h (by omega)) (fun _ => ?_)
  refine r_iload_n (pc := 4) X dX1_mostOut_4 rfl ?_
  refine r_bipush (pc := 5) (v := nI 64) X dX1_mostOut_5 (by decide) ?_
  refine r_icmp_geN (pc := 7) X 19 dX1_mostOut_7 (by decide) (by omega) (by omega) (fun h => absurd h (by omega)) (fun _ => ?_)
  refine r_aload_n (pc := 10) X dX1_mostOut_10 rfl ?_
  apply r_get (pc := 11) X f_X1_15 dX1_mostOut_11
  · repeat (first | exact mu_self | assumption | refine (mu_ne (by omega)).trans ?_)
  · rfl
  refine r_iload_n (pc := 14) X dX1_mostOut_14 rfl ?_
  apply r_iald (pc := 15) X dX1_mostOut_15
  · repeat (first | exact mu_self | assumption | refine (mu_ne (by omega)).trans ?_)
  · omega
  · decide
  refine r_goto (pc := 16) X 20 dX1_mostOut_16 (by decide) ?_
  exact r_iret (pc := 20) X dX1_mostOut_20 (⟨rfl, rfl⟩)
end S18
end
