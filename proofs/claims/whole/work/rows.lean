section
-- ===== PART A: goes FIRST, ahead of the names: the tables' words, and 'selects' of the private methods out of them =====
/-- a private method of a class that the tables say can be made, by its rows of tables_1 -/
def lw_okq (q : MethodName × Nat) : Prop := (q.1.cls ≠ "java/lang/invoke/MethodHandle" ∧ q.1.cls ≠ "java/lang/invoke/VarHandle") ∧ Cond.instantiable q.1.cls q.2 ∈ tables_1 ∧ Cond.privateMethod q.1 ∈ tables_1 ∧ Cond.instanceMethod q.1 ∈ tables_1
theorem lw_p0 : lw_okq (⟨"DuneMaps", "isCell", "(I)Z"⟩, 12) := ⟨⟨by decide +kernel, by decide +kernel⟩, List.mem_of_getElem? (i := 13) (by decide +kernel), List.mem_of_getElem? (i := 282) (by decide +kernel), List.mem_of_getElem? (i := 283) (by decide +kernel)⟩
theorem lw_p1 : lw_okq (⟨"DuneMaps$Sand", "leeOf", "(I)I"⟩, 2) := ⟨⟨by decide +kernel, by decide +kernel⟩, List.mem_of_getElem? (i := 42) (by decide +kernel), List.mem_of_getElem? (i := 319) (by decide +kernel), List.mem_of_getElem? (i := 320) (by decide +kernel)⟩
theorem lw_p2 : lw_okq (⟨"DuneMaps$Sand", "moveSand", "(III)I"⟩, 2) := ⟨⟨by decide +kernel, by decide +kernel⟩, List.mem_of_getElem? (i := 42) (by decide +kernel), List.mem_of_getElem? (i := 323) (by decide +kernel), List.mem_of_getElem? (i := 324) (by decide +kernel)⟩
theorem lw_p3 : lw_okq (⟨"DuneMaps$Sand", "luffOf", "(I)I"⟩, 2) := ⟨⟨by decide +kernel, by decide +kernel⟩, List.mem_of_getElem? (i := 42) (by decide +kernel), List.mem_of_getElem? (i := 396) (by decide +kernel), List.mem_of_getElem? (i := 397) (by decide +kernel)⟩
theorem lw_p4 : lw_okq (⟨"DuneMaps$Ordering", "tryTurn", "(LDuneMaps$Land;III)V"⟩, 5) := ⟨⟨by decide +kernel, by decide +kernel⟩, List.mem_of_getElem? (i := 112) (by decide +kernel), List.mem_of_getElem? (i := 439) (by decide +kernel), List.mem_of_getElem? (i := 440) (by decide +kernel)⟩
theorem lw_p5 : lw_okq (⟨"DuneMaps$Ordering", "keep", "(I)V"⟩, 5) := ⟨⟨by decide +kernel, by decide +kernel⟩, List.mem_of_getElem? (i := 112) (by decide +kernel), List.mem_of_getElem? (i := 443) (by decide +kernel), List.mem_of_getElem? (i := 444) (by decide +kernel)⟩
theorem lw_p6 : lw_okq (⟨"DuneMaps$Footing", "tryFrom", "(III)V"⟩, 7) := ⟨⟨by decide +kernel, by decide +kernel⟩, List.mem_of_getElem? (i := 138) (by decide +kernel), List.mem_of_getElem? (i := 468) (by decide +kernel), List.mem_of_getElem? (i := 469) (by decide +kernel)⟩
theorem lw_p7 : lw_okq (⟨"DuneMaps$Dusk", "tryWalk", "(ILDuneMaps$Sand;LDuneMaps$Sand;)V"⟩, 2) := ⟨⟨by decide +kernel, by decide +kernel⟩, List.mem_of_getElem? (i := 170) (by decide +kernel), List.mem_of_getElem? (i := 488) (by decide +kernel), List.mem_of_getElem? (i := 489) (by decide +kernel)⟩
theorem lw_p8 : lw_okq (⟨"DuneMaps", "withCells", "(J)J"⟩, 12) := ⟨⟨by decide +kernel, by decide +kernel⟩, List.mem_of_getElem? (i := 13) (by decide +kernel), List.mem_of_getElem? (i := 557) (by decide +kernel), List.mem_of_getElem? (i := 558) (by decide +kernel)⟩
theorem lw_p9 : lw_okq (⟨"DuneMaps", "withOrder", "(J)J"⟩, 12) := ⟨⟨by decide +kernel, by decide +kernel⟩, List.mem_of_getElem? (i := 13) (by decide +kernel), List.mem_of_getElem? (i := 566) (by decide +kernel), List.mem_of_getElem? (i := 567) (by decide +kernel)⟩
theorem lw_p10 : lw_okq (⟨"DuneMapsModel", "faultOf", "(I)I"⟩, 26) := ⟨⟨by decide +kernel, by decide +kernel⟩, List.mem_of_getElem? (i := 573) (by decide +kernel), List.mem_of_getElem? (i := 674) (by decide +kernel), List.mem_of_getElem? (i := 675) (by decide +kernel)⟩
theorem lw_p11 : lw_okq (⟨"DuneMapsModel", "isCell", "(I)Z"⟩, 26) := ⟨⟨by decide +kernel, by decide +kernel⟩, List.mem_of_getElem? (i := 573) (by decide +kernel), List.mem_of_getElem? (i := 691) (by decide +kernel), List.mem_of_getElem? (i := 692) (by decide +kernel)⟩
theorem lw_p12 : lw_okq (⟨"DuneMapsModel", "tellCell", "(II)I"⟩, 26) := ⟨⟨by decide +kernel, by decide +kernel⟩, List.mem_of_getElem? (i := 573) (by decide +kernel), List.mem_of_getElem? (i := 696) (by decide +kernel), List.mem_of_getElem? (i := 697) (by decide +kernel)⟩
theorem lw_p13 : lw_okq (⟨"DuneMapsModel", "walkersAt", "(I)I"⟩, 26) := ⟨⟨by decide +kernel, by decide +kernel⟩, List.mem_of_getElem? (i := 573) (by decide +kernel), List.mem_of_getElem? (i := 703) (by decide +kernel), List.mem_of_getElem? (i := 704) (by decide +kernel)⟩
theorem lw_p14 : lw_okq (⟨"DuneMapsModel", "nightOf", "([I)I"⟩, 26) := ⟨⟨by decide +kernel, by decide +kernel⟩, List.mem_of_getElem? (i := 573) (by decide +kernel), List.mem_of_getElem? (i := 715) (by decide +kernel), List.mem_of_getElem? (i := 716) (by decide +kernel)⟩
theorem lw_p15 : lw_okq (⟨"DuneMapsModel", "crests", "([I)I"⟩, 26) := ⟨⟨by decide +kernel, by decide +kernel⟩, List.mem_of_getElem? (i := 573) (by decide +kernel), List.mem_of_getElem? (i := 719) (by decide +kernel), List.mem_of_getElem? (i := 720) (by decide +kernel)⟩
def lw_privs_1 : List (MethodName × Nat) := [(⟨"DuneMaps", "isCell", "(I)Z"⟩, 12), (⟨"DuneMaps$Sand", "leeOf", "(I)I"⟩, 2), (⟨"DuneMaps$Sand", "moveSand", "(III)I"⟩, 2), (⟨"DuneMaps$Sand", "luffOf", "(I)I"⟩, 2), (⟨"DuneMaps$Ordering", "tryTurn", "(LDuneMaps$Land;III)V"⟩, 5), (⟨"DuneMaps$Ordering", "keep", "(I)V"⟩, 5), (⟨"DuneMaps$Footing", "tryFrom", "(III)V"⟩, 7), (⟨"DuneMaps$Dusk", "tryWalk", "(ILDuneMaps$Sand;LDuneMaps$Sand;)V"⟩, 2), (⟨"DuneMaps", "withCells", "(J)J"⟩, 12), (⟨"DuneMaps", "withOrder", "(J)J"⟩, 12), (⟨"DuneMapsModel", "faultOf", "(I)I"⟩, 26), (⟨"DuneMapsModel", "isCell", "(I)Z"⟩, 26), (⟨"DuneMapsModel", "tellCell", "(II)I"⟩, 26), (⟨"DuneMapsModel", "walkersAt", "(I)I"⟩, 26), (⟨"DuneMapsModel", "nightOf", "([I)I"⟩, 26), (⟨"DuneMapsModel", "crests", "([I)I"⟩, 26)]
theorem lw_r1 : ∀ q ∈ lw_privs_1, lw_okq q := List.forall_mem_cons.mpr ⟨lw_p0, List.forall_mem_cons.mpr ⟨lw_p1, List.forall_mem_cons.mpr ⟨lw_p2, List.forall_mem_cons.mpr ⟨lw_p3, List.forall_mem_cons.mpr ⟨lw_p4, List.forall_mem_cons.mpr ⟨lw_p5, List.forall_mem_cons.mpr ⟨lw_p6, List.forall_mem_cons.mpr ⟨lw_p7, List.forall_mem_cons.mpr ⟨lw_p8, List.forall_mem_cons.mpr ⟨lw_p9, List.forall_mem_cons.mpr ⟨lw_p10, List.forall_mem_cons.mpr ⟨lw_p11, List.forall_mem_cons.mpr ⟨lw_p12, List.forall_mem_cons.mpr ⟨lw_p13, List.forall_mem_cons.mpr ⟨lw_p14, List.forall_mem_cons.mpr ⟨lw_p15, fun _ h => absurd h List.not_mem_nil⟩⟩⟩⟩⟩⟩⟩⟩⟩⟩⟩⟩⟩⟩⟩⟩
theorem lw_p16 : lw_okq (⟨"DuneMapsModel", "leeOf", "(I)I"⟩, 26) := ⟨⟨by decide +kernel, by decide +kernel⟩, List.mem_of_getElem? (i := 573) (by decide +kernel), List.mem_of_getElem? (i := 723) (by decide +kernel), List.mem_of_getElem? (i := 724) (by decide +kernel)⟩
theorem lw_p17 : lw_okq (⟨"DuneMapsModel", "isWalker", "(I)Z"⟩, 26) := ⟨⟨by decide +kernel, by decide +kernel⟩, List.mem_of_getElem? (i := 573) (by decide +kernel), List.mem_of_getElem? (i := 739) (by decide +kernel), List.mem_of_getElem? (i := 740) (by decide +kernel)⟩
theorem lw_p18 : lw_okq (⟨"DuneMapsModel", "tell", "(II)I"⟩, 26) := ⟨⟨by decide +kernel, by decide +kernel⟩, List.mem_of_getElem? (i := 573) (by decide +kernel), List.mem_of_getElem? (i := 743) (by decide +kernel), List.mem_of_getElem? (i := 744) (by decide +kernel)⟩
theorem lw_p19 : lw_okq (⟨"DuneMapsModel", "hasMap", "(I)Z"⟩, 26) := ⟨⟨by decide +kernel, by decide +kernel⟩, List.mem_of_getElem? (i := 573) (by decide +kernel), List.mem_of_getElem? (i := 750) (by decide +kernel), List.mem_of_getElem? (i := 751) (by decide +kernel)⟩
theorem lw_p20 : lw_okq (⟨"DuneMapsModel", "isGood", "([II)Z"⟩, 26) := ⟨⟨by decide +kernel, by decide +kernel⟩, List.mem_of_getElem? (i := 573) (by decide +kernel), List.mem_of_getElem? (i := 754) (by decide +kernel), List.mem_of_getElem? (i := 755) (by decide +kernel)⟩
theorem lw_p21 : lw_okq (⟨"DuneMapsModel", "steps", "(II)I"⟩, 26) := ⟨⟨by decide +kernel, by decide +kernel⟩, List.mem_of_getElem? (i := 573) (by decide +kernel), List.mem_of_getElem? (i := 769) (by decide +kernel), List.mem_of_getElem? (i := 770) (by decide +kernel)⟩
theorem lw_p22 : lw_okq (⟨"DuneMapsModel", "treads", "([III)I"⟩, 26) := ⟨⟨by decide +kernel, by decide +kernel⟩, List.mem_of_getElem? (i := 573) (by decide +kernel), List.mem_of_getElem? (i := 773) (by decide +kernel), List.mem_of_getElem? (i := 774) (by decide +kernel)⟩
theorem lw_p23 : lw_okq (⟨"DuneMapsModel", "luffOf", "(I)I"⟩, 26) := ⟨⟨by decide +kernel, by decide +kernel⟩, List.mem_of_getElem? (i := 573) (by decide +kernel), List.mem_of_getElem? (i := 777) (by decide +kernel), List.mem_of_getElem? (i := 778) (by decide +kernel)⟩
theorem lw_p24 : lw_okq (⟨"DuneMapsModel", "tellOrder", "(I)I"⟩, 26) := ⟨⟨by decide +kernel, by decide +kernel⟩, List.mem_of_getElem? (i := 573) (by decide +kernel), List.mem_of_getElem? (i := 796) (by decide +kernel), List.mem_of_getElem? (i := 797) (by decide +kernel)⟩
theorem lw_p25 : lw_okq (⟨"DuneMapsModel", "layOrder", "()I"⟩, 26) := ⟨⟨by decide +kernel, by decide +kernel⟩, List.mem_of_getElem? (i := 573) (by decide +kernel), List.mem_of_getElem? (i := 800) (by decide +kernel), List.mem_of_getElem? (i := 801) (by decide +kernel)⟩
theorem lw_p26 : lw_okq (⟨"DuneMapsModel", "layWho", "()V"⟩, 26) := ⟨⟨by decide +kernel, by decide +kernel⟩, List.mem_of_getElem? (i := 573) (by decide +kernel), List.mem_of_getElem? (i := 804) (by decide +kernel), List.mem_of_getElem? (i := 805) (by decide +kernel)⟩
theorem lw_p27 : lw_okq (⟨"DuneMapsModel", "isOrder", "(I)Z"⟩, 26) := ⟨⟨by decide +kernel, by decide +kernel⟩, List.mem_of_getElem? (i := 573) (by decide +kernel), List.mem_of_getElem? (i := 808) (by decide +kernel), List.mem_of_getElem? (i := 809) (by decide +kernel)⟩
theorem lw_p28 : lw_okq (⟨"DuneMapsModel", "goes", "(I)V"⟩, 26) := ⟨⟨by decide +kernel, by decide +kernel⟩, List.mem_of_getElem? (i := 573) (by decide +kernel), List.mem_of_getElem? (i := 815) (by decide +kernel), List.mem_of_getElem? (i := 816) (by decide +kernel)⟩
theorem lw_p29 : lw_okq (⟨"DuneMapsModel", "feetOf", "(IIII)I"⟩, 26) := ⟨⟨by decide +kernel, by decide +kernel⟩, List.mem_of_getElem? (i := 573) (by decide +kernel), List.mem_of_getElem? (i := 824) (by decide +kernel), List.mem_of_getElem? (i := 825) (by decide +kernel)⟩
theorem lw_p30 : lw_okq (⟨"DuneMapsModel", "highBy", "(IIII)I"⟩, 26) := ⟨⟨by decide +kernel, by decide +kernel⟩, List.mem_of_getElem? (i := 573) (by decide +kernel), List.mem_of_getElem? (i := 828) (by decide +kernel), List.mem_of_getElem? (i := 829) (by decide +kernel)⟩
theorem lw_p31 : lw_okq (⟨"DuneMapsModel", "whoOf", "(I)I"⟩, 26) := ⟨⟨by decide +kernel, by decide +kernel⟩, List.mem_of_getElem? (i := 573) (by decide +kernel), List.mem_of_getElem? (i := 840) (by decide +kernel), List.mem_of_getElem? (i := 841) (by decide +kernel)⟩
def lw_privs_2 : List (MethodName × Nat) := [(⟨"DuneMapsModel", "leeOf", "(I)I"⟩, 26), (⟨"DuneMapsModel", "isWalker", "(I)Z"⟩, 26), (⟨"DuneMapsModel", "tell", "(II)I"⟩, 26), (⟨"DuneMapsModel", "hasMap", "(I)Z"⟩, 26), (⟨"DuneMapsModel", "isGood", "([II)Z"⟩, 26), (⟨"DuneMapsModel", "steps", "(II)I"⟩, 26), (⟨"DuneMapsModel", "treads", "([III)I"⟩, 26), (⟨"DuneMapsModel", "luffOf", "(I)I"⟩, 26), (⟨"DuneMapsModel", "tellOrder", "(I)I"⟩, 26), (⟨"DuneMapsModel", "layOrder", "()I"⟩, 26), (⟨"DuneMapsModel", "layWho", "()V"⟩, 26), (⟨"DuneMapsModel", "isOrder", "(I)Z"⟩, 26), (⟨"DuneMapsModel", "goes", "(I)V"⟩, 26), (⟨"DuneMapsModel", "feetOf", "(IIII)I"⟩, 26), (⟨"DuneMapsModel", "highBy", "(IIII)I"⟩, 26), (⟨"DuneMapsModel", "whoOf", "(I)I"⟩, 26)]
theorem lw_r2 : ∀ q ∈ lw_privs_2, lw_okq q := List.forall_mem_cons.mpr ⟨lw_p16, List.forall_mem_cons.mpr ⟨lw_p17, List.forall_mem_cons.mpr ⟨lw_p18, List.forall_mem_cons.mpr ⟨lw_p19, List.forall_mem_cons.mpr ⟨lw_p20, List.forall_mem_cons.mpr ⟨lw_p21, List.forall_mem_cons.mpr ⟨lw_p22, List.forall_mem_cons.mpr ⟨lw_p23, List.forall_mem_cons.mpr ⟨lw_p24, List.forall_mem_cons.mpr ⟨lw_p25, List.forall_mem_cons.mpr ⟨lw_p26, List.forall_mem_cons.mpr ⟨lw_p27, List.forall_mem_cons.mpr ⟨lw_p28, List.forall_mem_cons.mpr ⟨lw_p29, List.forall_mem_cons.mpr ⟨lw_p30, List.forall_mem_cons.mpr ⟨lw_p31, fun _ h => absurd h List.not_mem_nil⟩⟩⟩⟩⟩⟩⟩⟩⟩⟩⟩⟩⟩⟩⟩⟩
theorem lw_p32 : lw_okq (⟨"DuneMapsModel", "isAsNow", "()Z"⟩, 26) := ⟨⟨by decide +kernel, by decide +kernel⟩, List.mem_of_getElem? (i := 573) (by decide +kernel), List.mem_of_getElem? (i := 844) (by decide +kernel), List.mem_of_getElem? (i := 845) (by decide +kernel)⟩
theorem lw_p33 : lw_okq (⟨"DuneMapsModel", "draw", "(I)I"⟩, 26) := ⟨⟨by decide +kernel, by decide +kernel⟩, List.mem_of_getElem? (i := 573) (by decide +kernel), List.mem_of_getElem? (i := 854) (by decide +kernel), List.mem_of_getElem? (i := 855) (by decide +kernel)⟩
theorem lw_p34 : lw_okq (⟨"DuneMapsModel", "countOf", "(I)I"⟩, 26) := ⟨⟨by decide +kernel, by decide +kernel⟩, List.mem_of_getElem? (i := 573) (by decide +kernel), List.mem_of_getElem? (i := 874) (by decide +kernel), List.mem_of_getElem? (i := 875) (by decide +kernel)⟩
theorem lw_p35 : lw_okq (⟨"DuneMapsModel", "sumBy", "(I)I"⟩, 26) := ⟨⟨by decide +kernel, by decide +kernel⟩, List.mem_of_getElem? (i := 573) (by decide +kernel), List.mem_of_getElem? (i := 878) (by decide +kernel), List.mem_of_getElem? (i := 879) (by decide +kernel)⟩
theorem lw_p36 : lw_okq (⟨"DuneMapsModel", "sayDunes", "()V"⟩, 26) := ⟨⟨by decide +kernel, by decide +kernel⟩, List.mem_of_getElem? (i := 573) (by decide +kernel), List.mem_of_getElem? (i := 887) (by decide +kernel), List.mem_of_getElem? (i := 888) (by decide +kernel)⟩
theorem lw_p37 : lw_okq (⟨"DuneMapsModel", "say", "(J)V"⟩, 26) := ⟨⟨by decide +kernel, by decide +kernel⟩, List.mem_of_getElem? (i := 573) (by decide +kernel), List.mem_of_getElem? (i := 891) (by decide +kernel), List.mem_of_getElem? (i := 892) (by decide +kernel)⟩
def lw_privs_3 : List (MethodName × Nat) := [(⟨"DuneMapsModel", "isAsNow", "()Z"⟩, 26), (⟨"DuneMapsModel", "draw", "(I)I"⟩, 26), (⟨"DuneMapsModel", "countOf", "(I)I"⟩, 26), (⟨"DuneMapsModel", "sumBy", "(I)I"⟩, 26), (⟨"DuneMapsModel", "sayDunes", "()V"⟩, 26), (⟨"DuneMapsModel", "say", "(J)V"⟩, 26)]
theorem lw_r3 : ∀ q ∈ lw_privs_3, lw_okq q := List.forall_mem_cons.mpr ⟨lw_p32, List.forall_mem_cons.mpr ⟨lw_p33, List.forall_mem_cons.mpr ⟨lw_p34, List.forall_mem_cons.mpr ⟨lw_p35, List.forall_mem_cons.mpr ⟨lw_p36, List.forall_mem_cons.mpr ⟨lw_p37, fun _ h => absurd h List.not_mem_nil⟩⟩⟩⟩⟩⟩
def lw_privs : List (MethodName × Nat) := lw_privs_1 ++ (lw_privs_2 ++ (lw_privs_3))
def lw_tbl : List Cond := k2_sels lw_privs ++ tables_1
theorem lw_privs_ok : ∀ q ∈ lw_privs, lw_okq q := by
  show ∀ q ∈ lw_privs_1 ++ (lw_privs_2 ++ (lw_privs_3)), lw_okq q
  exact List.forall_mem_append.mpr ⟨lw_r1, List.forall_mem_append.mpr ⟨lw_r2, lw_r3⟩⟩
end
section
def RX0 : String := "DuneMaps$Dusk"
def TX0 : u_T := fun k => match k with
  | 0 => ("DuneMaps$Dusk", "found", "I", false)
  | _ => ("DuneMaps$Dusk", "least", "I", false)
def tyX0 : Nat → FieldType := fun k => match k with
  | 0 => .int
  | _ => .int
theorem nmX0 : ∀ a, a < 2 → ∀ b, b < 2 → a ≠ b → (TX0 a).2.1 ≠ (TX0 b).2.1 := by decide +kernel
theorem tyX0_ok : ∀ k, k < 2 → parseFieldDescriptor (TX0 k).2.2.1 = some (tyX0 k) := by decide +kernel
abbrev cX0_init : ByteArray := prog_2_method_1_code
def yX0_init : MethodName := ⟨RX0, "<init>", "()V"⟩
abbrev cX0_search : ByteArray := prog_2_method_2_code
def yX0_search : MethodName := ⟨RX0, "search", "(LDuneMaps$Sand;LDuneMaps$Sand;LDuneMaps$Sand;)V"⟩
abbrev cX0_tryWalk : ByteArray := prog_2_method_3_code
def yX0_tryWalk : MethodName := ⟨RX0, "tryWalk", "(ILDuneMaps$Sand;LDuneMaps$Sand;)V"⟩
def RX1 : String := "DuneMaps$Footing"
def TX1 : u_T := fun k => match k with
  | 0 => ("DuneMaps$Footing", "sands", "[LDuneMaps$Sand;", true)
  | 1 => ("DuneMaps$Footing", "kind", "I", false)
  | 2 => ("DuneMaps$Footing", "goal", "I", false)
  | 3 => ("DuneMaps$Footing", "goalHeight", "I", false)
  | 4 => ("DuneMaps$Footing", "stepsLeft", "I", false)
  | 5 => ("DuneMaps$Footing", "fewest", "I", false)
  | _ => ("DuneMaps$Footing", "bits", "I", false)
def tyX1 : Nat → FieldType := fun k => match k with
  | 0 => .array (.object "DuneMaps$Sand")
  | 1 => .int
  | 2 => .int
  | 3 => .int
  | 4 => .int
  | 5 => .int
  | _ => .int
theorem nmX1 : ∀ a, a < 7 → ∀ b, b < 7 → a ≠ b → (TX1 a).2.1 ≠ (TX1 b).2.1 := by decide +kernel
theorem tyX1_ok : ∀ k, k < 7 → parseFieldDescriptor (TX1 k).2.2.1 = some (tyX1 k) := by decide +kernel
abbrev cX1_init : ByteArray := prog_3_method_1_code
def yX1_init : MethodName := ⟨RX1, "<init>", "()V"⟩
abbrev cX1_search : ByteArray := prog_3_method_2_code
def yX1_search : MethodName := ⟨RX1, "search", "(LDuneMaps$Sand;LDuneMaps$Walker;II)V"⟩
abbrev cX1_tryFrom : ByteArray := prog_3_method_3_code
def yX1_tryFrom : MethodName := ⟨RX1, "tryFrom", "(III)V"⟩
def RX2 : String := "DuneMaps$Land"
def TX2 : u_T := fun k => match k with
  | 0 => ("DuneMaps$Land", "sand", "LDuneMaps$Sand;", true)
  | 1 => ("DuneMaps$Land", "walkers", "[LDuneMaps$Walker;", true)
  | 2 => ("DuneMaps$Land", "walkerCount", "I", false)
  | _ => ("DuneMaps$Land", "nights", "I", false)
def tyX2 : Nat → FieldType := fun k => match k with
  | 0 => .object "DuneMaps$Sand"
  | 1 => .array (.object "DuneMaps$Walker")
  | 2 => .int
  | _ => .int
theorem nmX2 : ∀ a, a < 4 → ∀ b, b < 4 → a ≠ b → (TX2 a).2.1 ≠ (TX2 b).2.1 := by decide +kernel
theorem tyX2_ok : ∀ k, k < 4 → parseFieldDescriptor (TX2 k).2.2.1 = some (tyX2 k) := by decide +kernel
abbrev cX2_init : ByteArray := prog_4_method_1_code
def yX2_init : MethodName := ⟨RX2, "<init>", "()V"⟩
abbrev cX2_empty : ByteArray := prog_4_method_2_code
def yX2_empty : MethodName := ⟨RX2, "empty", "()V"⟩
abbrev cX2_copyFrom : ByteArray := prog_4_method_3_code
def yX2_copyFrom : MethodName := ⟨RX2, "copyFrom", "(LDuneMaps$Land;)V"⟩
abbrev cX2_named : ByteArray := prog_4_method_4_code
def yX2_named : MethodName := ⟨RX2, "named", "(I)LDuneMaps$Walker;"⟩
abbrev cX2_arrive : ByteArray := prog_4_method_5_code
def yX2_arrive : MethodName := ⟨RX2, "arrive", "(II)I"⟩
abbrev cX2_walkersAt : ByteArray := prog_4_method_6_code
def yX2_walkersAt : MethodName := ⟨RX2, "walkersAt", "(I)I"⟩
abbrev cX2_maps : ByteArray := prog_4_method_7_code
def yX2_maps : MethodName := ⟨RX2, "maps", "()I"⟩
abbrev cX2_goodMaps : ByteArray := prog_4_method_8_code
def yX2_goodMaps : MethodName := ⟨RX2, "goodMaps", "()I"⟩
abbrev cX2_stepsGone : ByteArray := prog_4_method_9_code
def yX2_stepsGone : MethodName := ⟨RX2, "stepsGone", "()I"⟩
def RX3 : String := "DuneMaps$Ordering"
def TX3 : u_T := fun k => match k with
  | 0 => ("DuneMaps$Ordering", "sands", "[LDuneMaps$Sand;", true)
  | 1 => ("DuneMaps$Ordering", "turns", "[I", true)
  | 2 => ("DuneMaps$Ordering", "best", "[I", true)
  | 3 => ("DuneMaps$Ordering", "goers", "I", false)
  | _ => ("DuneMaps$Ordering", "mostGood", "I", false)
def tyX3 : Nat → FieldType := fun k => match k with
  | 0 => .array (.object "DuneMaps$Sand")
  | 1 => .array .int
  | 2 => .array .int
  | 3 => .int
  | _ => .int
theorem nmX3 : ∀ a, a < 5 → ∀ b, b < 5 → a ≠ b → (TX3 a).2.1 ≠ (TX3 b).2.1 := by decide +kernel
theorem tyX3_ok : ∀ k, k < 5 → parseFieldDescriptor (TX3 k).2.2.1 = some (tyX3 k) := by decide +kernel
abbrev cX3_init : ByteArray := prog_5_method_1_code
def yX3_init : MethodName := ⟨RX3, "<init>", "()V"⟩
abbrev cX3_goerAt : ByteArray := prog_5_method_2_code
def yX3_goerAt : MethodName := ⟨RX3, "goerAt", "(I)I"⟩
abbrev cX3_search : ByteArray := prog_5_method_3_code
def yX3_search : MethodName := ⟨RX3, "search", "(LDuneMaps$Land;)V"⟩
abbrev cX3_tryTurn : ByteArray := prog_5_method_4_code
def yX3_tryTurn : MethodName := ⟨RX3, "tryTurn", "(LDuneMaps$Land;III)V"⟩
abbrev cX3_keep : ByteArray := prog_5_method_5_code
def yX3_keep : MethodName := ⟨RX3, "keep", "(I)V"⟩
def RX4 : String := "DuneMaps$Page"
def TX4 : u_T := fun k => match k with
  | 0 => ("DuneMaps$Page", "codes", "[I", true)
  | _ => ("DuneMaps$Page", "length", "I", false)
def tyX4 : Nat → FieldType := fun k => match k with
  | 0 => .array .int
  | _ => .int
theorem nmX4 : ∀ a, a < 2 → ∀ b, b < 2 → a ≠ b → (TX4 a).2.1 ≠ (TX4 b).2.1 := by decide +kernel
theorem tyX4_ok : ∀ k, k < 2 → parseFieldDescriptor (TX4 k).2.2.1 = some (tyX4 k) := by decide +kernel
abbrev cX4_init : ByteArray := prog_6_method_1_code
def yX4_init : MethodName := ⟨RX4, "<init>", "()V"⟩
abbrev cX4_append : ByteArray := prog_6_method_2_code
def yX4_append : MethodName := ⟨RX4, "append", "(I)Z"⟩
abbrev cX4_codeAt : ByteArray := prog_6_method_3_code
def yX4_codeAt : MethodName := ⟨RX4, "codeAt", "(I)I"⟩
abbrev cX4_firstFault : ByteArray := prog_6_method_4_code
def yX4_firstFault : MethodName := ⟨RX4, "firstFault", "(I)I"⟩
abbrev cX4_isWhole : ByteArray := prog_6_method_5_code
def yX4_isWhole : MethodName := ⟨RX4, "isWhole", "(I)Z"⟩
abbrev cX4_readHeights : ByteArray := prog_6_method_6_code
def yX4_readHeights : MethodName := ⟨RX4, "readHeights", "(LDuneMaps$Sand;)V"⟩
abbrev cX4_tellsWindOn : ByteArray := prog_6_method_7_code
def yX4_tellsWindOn : MethodName := ⟨RX4, "tellsWindOn", "()Z"⟩
abbrev cX4_fits : ByteArray := prog_6_method_8_code
def yX4_fits : MethodName := ⟨RX4, "fits", "(III)Z"⟩
def RX5 : String := "DuneMaps$Sand"
def TX5 : u_T := fun k => match k with
  | 0 => ("DuneMaps$Sand", "heights", "[I", true)
  | _ => ("DuneMaps$Sand", "blowsOn", "Z", false)
def tyX5 : Nat → FieldType := fun k => match k with
  | 0 => .array .int
  | _ => .boolean
theorem nmX5 : ∀ a, a < 2 → ∀ b, b < 2 → a ≠ b → (TX5 a).2.1 ≠ (TX5 b).2.1 := by decide +kernel
theorem tyX5_ok : ∀ k, k < 2 → parseFieldDescriptor (TX5 k).2.2.1 = some (tyX5 k) := by decide +kernel
abbrev cX5_init : ByteArray := prog_7_method_1_code
def yX5_init : MethodName := ⟨RX5, "<init>", "()V"⟩
abbrev cX5_heightAt : ByteArray := prog_7_method_2_code
def yX5_heightAt : MethodName := ⟨RX5, "heightAt", "(I)I"⟩
abbrev cX5_setHeight : ByteArray := prog_7_method_3_code
def yX5_setHeight : MethodName := ⟨RX5, "setHeight", "(II)V"⟩
abbrev cX5_copyFrom : ByteArray := prog_7_method_4_code
def yX5_copyFrom : MethodName := ⟨RX5, "copyFrom", "(LDuneMaps$Sand;)V"⟩
abbrev cX5_copyHeights : ByteArray := prog_7_method_5_code
def yX5_copyHeights : MethodName := ⟨RX5, "copyHeights", "(LDuneMaps$Sand;)V"⟩
abbrev cX5_isAsHighAs : ByteArray := prog_7_method_6_code
def yX5_isAsHighAs : MethodName := ⟨RX5, "isAsHighAs", "(LDuneMaps$Sand;)Z"⟩
abbrev cX5_sum : ByteArray := prog_7_method_7_code
def yX5_sum : MethodName := ⟨RX5, "sum", "()I"⟩
abbrev cX5_highest : ByteArray := prog_7_method_8_code
def yX5_highest : MethodName := ⟨RX5, "highest", "()I"⟩
abbrev cX5_shapeAt : ByteArray := prog_7_method_9_code
def yX5_shapeAt : MethodName := ⟨RX5, "shapeAt", "(I)I"⟩
abbrev cX5_crests : ByteArray := prog_7_method_10_code
def yX5_crests : MethodName := ⟨RX5, "crests", "()I"⟩
abbrev cX5_passNight : ByteArray := prog_7_method_11_code
def yX5_passNight : MethodName := ⟨RX5, "passNight", "()I"⟩
abbrev cX5_tread : ByteArray := prog_7_method_12_code
def yX5_tread : MethodName := ⟨RX5, "tread", "(II)I"⟩
abbrev cX5_moveSand : ByteArray := prog_7_method_13_code
def yX5_moveSand : MethodName := ⟨RX5, "moveSand", "(III)I"⟩
abbrev cX5_leeOf : ByteArray := prog_7_method_14_code
def yX5_leeOf : MethodName := ⟨RX5, "leeOf", "(I)I"⟩
abbrev cX5_luffOf : ByteArray := prog_7_method_15_code
def yX5_luffOf : MethodName := ⟨RX5, "luffOf", "(I)I"⟩
def RX6 : String := "DuneMaps$Walker"
def TX6 : u_T := fun k => match k with
  | 0 => ("DuneMaps$Walker", "told", "[I", true)
  | 1 => ("DuneMaps$Walker", "kind", "I", false)
  | 2 => ("DuneMaps$Walker", "place", "I", false)
  | 3 => ("DuneMaps$Walker", "stepsGone", "I", false)
  | 4 => ("DuneMaps$Walker", "mapWay", "I", false)
  | _ => ("DuneMaps$Walker", "mapSteps", "I", false)
def tyX6 : Nat → FieldType := fun k => match k with
  | 0 => .array .int
  | 1 => .int
  | 2 => .int
  | 3 => .int
  | 4 => .int
  | _ => .int
theorem nmX6 : ∀ a, a < 6 → ∀ b, b < 6 → a ≠ b → (TX6 a).2.1 ≠ (TX6 b).2.1 := by decide +kernel
theorem tyX6_ok : ∀ k, k < 6 → parseFieldDescriptor (TX6 k).2.2.1 = some (tyX6 k) := by decide +kernel
abbrev cX6_init : ByteArray := prog_8_method_1_code
def yX6_init : MethodName := ⟨RX6, "<init>", "()V"⟩
abbrev cX6_arrive : ByteArray := prog_8_method_2_code
def yX6_arrive : MethodName := ⟨RX6, "arrive", "(II)V"⟩
abbrev cX6_copyFrom : ByteArray := prog_8_method_3_code
def yX6_copyFrom : MethodName := ⟨RX6, "copyFrom", "(LDuneMaps$Walker;)V"⟩
abbrev cX6_hasMap : ByteArray := prog_8_method_4_code
def yX6_hasMap : MethodName := ⟨RX6, "hasMap", "()Z"⟩
abbrev cX6_drawMap : ByteArray := prog_8_method_5_code
def yX6_drawMap : MethodName := ⟨RX6, "drawMap", "(LDuneMaps$Sand;II)I"⟩
abbrev cX6_hasGoodMap : ByteArray := prog_8_method_6_code
def yX6_hasGoodMap : MethodName := ⟨RX6, "hasGoodMap", "(LDuneMaps$Sand;)Z"⟩
abbrev cX6_stepOn : ByteArray := prog_8_method_7_code
def yX6_stepOn : MethodName := ⟨RX6, "stepOn", "(LDuneMaps$Sand;I)I"⟩
abbrev cX6_goByMap : ByteArray := prog_8_method_8_code
def yX6_goByMap : MethodName := ⟨RX6, "goByMap", "(LDuneMaps$Sand;)V"⟩
abbrev cX6_wouldGo : ByteArray := prog_8_method_9_code
def yX6_wouldGo : MethodName := ⟨RX6, "wouldGo", "(LDuneMaps$Sand;)V"⟩
def RX7 : String := "DuneMaps"
def TX7 : u_T := fun k => match k with
  | 0 => ("DuneMaps", "page", "LDuneMaps$Page;", true)
  | 1 => ("DuneMaps", "land", "LDuneMaps$Land;", true)
  | 2 => ("DuneMaps", "kept", "LDuneMaps$Land;", true)
  | 3 => ("DuneMaps", "before", "LDuneMaps$Sand;", true)
  | 4 => ("DuneMaps", "tried", "LDuneMaps$Sand;", true)
  | 5 => ("DuneMaps", "ordering", "LDuneMaps$Ordering;", true)
  | 6 => ("DuneMaps", "footing", "LDuneMaps$Footing;", true)
  | 7 => ("DuneMaps", "dusk", "LDuneMaps$Dusk;", true)
  | 8 => ("DuneMaps", "hasDunes", "Z", false)
  | 9 => ("DuneMaps", "hasImage", "Z", false)
  | 10 => ("DuneMaps", "hasBefore", "Z", false)
  | _ => ("DuneMaps", "timesRead", "I", false)
def tyX7 : Nat → FieldType := fun k => match k with
  | 0 => .object "DuneMaps$Page"
  | 1 => .object "DuneMaps$Land"
  | 2 => .object "DuneMaps$Land"
  | 3 => .object "DuneMaps$Sand"
  | 4 => .object "DuneMaps$Sand"
  | 5 => .object "DuneMaps$Ordering"
  | 6 => .object "DuneMaps$Footing"
  | 7 => .object "DuneMaps$Dusk"
  | 8 => .boolean
  | 9 => .boolean
  | 10 => .boolean
  | _ => .int
theorem nmX7 : ∀ a, a < 12 → ∀ b, b < 12 → a ≠ b → (TX7 a).2.1 ≠ (TX7 b).2.1 := by decide +kernel
theorem tyX7_ok : ∀ k, k < 12 → parseFieldDescriptor (TX7 k).2.2.1 = some (tyX7 k) := by decide +kernel
abbrev cX7_init : ByteArray := prog_1_method_1_code
def yX7_init : MethodName := ⟨RX7, "<init>", "()V"⟩
abbrev cX7_letter : ByteArray := prog_1_method_2_code
def yX7_letter : MethodName := ⟨RX7, "letter", "(I)I"⟩
abbrev cX7_blank : ByteArray := prog_1_method_3_code
def yX7_blank : MethodName := ⟨RX7, "blank", "()I"⟩
abbrev cX7_fault : ByteArray := prog_1_method_4_code
def yX7_fault : MethodName := ⟨RX7, "fault", "(I)I"⟩
abbrev cX7_dunes : ByteArray := prog_1_method_5_code
def yX7_dunes : MethodName := ⟨RX7, "dunes", "()I"⟩
abbrev cX7_cell : ByteArray := prog_1_method_6_code
def yX7_cell : MethodName := ⟨RX7, "cell", "(II)I"⟩
abbrev cX7_wind : ByteArray := prog_1_method_7_code
def yX7_wind : MethodName := ⟨RX7, "wind", "(Z)I"⟩
abbrev cX7_night : ByteArray := prog_1_method_8_code
def yX7_night : MethodName := ⟨RX7, "night", "()I"⟩
abbrev cX7_walker : ByteArray := prog_1_method_9_code
def yX7_walker : MethodName := ⟨RX7, "walker", "(II)I"⟩
abbrev cX7_about : ByteArray := prog_1_method_10_code
def yX7_about : MethodName := ⟨RX7, "about", "(II)I"⟩
abbrev cX7_as : ByteArray := prog_1_method_11_code
def yX7_as : MethodName := ⟨RX7, "as", "(II)I"⟩
abbrev cX7_step : ByteArray := prog_1_method_12_code
def yX7_step : MethodName := ⟨RX7, "step", "(II)I"⟩
abbrev cX7_map : ByteArray := prog_1_method_13_code
def yX7_map : MethodName := ⟨RX7, "map", "(III)I"⟩
abbrev cX7_go : ByteArray := prog_1_method_14_code
def yX7_go : MethodName := ⟨RX7, "go", "(I)I"⟩
abbrev cX7_order : ByteArray := prog_1_method_15_code
def yX7_order : MethodName := ⟨RX7, "order", "(I)I"⟩
abbrev cX7_feet : ByteArray := prog_1_method_16_code
def yX7_feet : MethodName := ⟨RX7, "feet", "(IIII)I"⟩
abbrev cX7_was : ByteArray := prog_1_method_17_code
def yX7_was : MethodName := ⟨RX7, "was", "()I"⟩
abbrev cX7_who : ByteArray := prog_1_method_18_code
def yX7_who : MethodName := ⟨RX7, "who", "(I)I"⟩
abbrev cX7_moons : ByteArray := prog_1_method_19_code
def yX7_moons : MethodName := ⟨RX7, "moons", "(III)I"⟩
abbrev cX7_image : ByteArray := prog_1_method_20_code
def yX7_image : MethodName := ⟨RX7, "image", "()I"⟩
abbrev cX7_restore : ByteArray := prog_1_method_21_code
def yX7_restore : MethodName := ⟨RX7, "restore", "()I"⟩
abbrev cX7_count : ByteArray := prog_1_method_22_code
def yX7_count : MethodName := ⟨RX7, "count", "(I)I"⟩
abbrev cX7_digest : ByteArray := prog_1_method_23_code
def yX7_digest : MethodName := ⟨RX7, "digest", "()J"⟩
abbrev cX7_withCells : ByteArray := prog_1_method_24_code
def yX7_withCells : MethodName := ⟨RX7, "withCells", "(J)J"⟩
abbrev cX7_withOrder : ByteArray := prog_1_method_25_code
def yX7_withOrder : MethodName := ⟨RX7, "withOrder", "(J)J"⟩
abbrev cX7_with : ByteArray := prog_1_method_26_code
def yX7_with : MethodName := ⟨RX7, "with", "(JI)J"⟩
abbrev cX7_isCell : ByteArray := prog_1_method_27_code
def yX7_isCell : MethodName := ⟨RX7, "isCell", "(I)Z"⟩
abbrev cX7_isKind : ByteArray := prog_1_method_28_code
def yX7_isKind : MethodName := ⟨RX7, "isKind", "(I)Z"⟩
abbrev cX7_isWay : ByteArray := prog_1_method_29_code
def yX7_isWay : MethodName := ⟨RX7, "isWay", "(I)Z"⟩
abbrev cX7_asNumber : ByteArray := prog_1_method_30_code
def yX7_asNumber : MethodName := ⟨RX7, "asNumber", "(Z)I"⟩
abbrev cX7_weightOf : ByteArray := prog_1_method_31_code
def yX7_weightOf : MethodName := ⟨RX7, "weightOf", "(I)I"⟩
abbrev cX7_beside : ByteArray := prog_1_method_32_code
def yX7_beside : MethodName := ⟨RX7, "beside", "(II)I"⟩
abbrev cX7_nextSeed : ByteArray := prog_1_method_33_code
def yX7_nextSeed : MethodName := ⟨RX7, "nextSeed", "(I)I"⟩
abbrev cX7_draw : ByteArray := prog_1_method_34_code
def yX7_draw : MethodName := ⟨RX7, "draw", "(II)I"⟩
def RX8 : String := "DuneMapsModel"
def TX8 : u_T := fun k => match k with
  | 0 => ("DuneMapsModel", "page", "[I", true)
  | 1 => ("DuneMapsModel", "pageMany", "I", false)
  | 2 => ("DuneMapsModel", "isThere", "Z", false)
  | 3 => ("DuneMapsModel", "windOn", "I", false)
  | 4 => ("DuneMapsModel", "nightsNow", "I", false)
  | 5 => ("DuneMapsModel", "dunesRead", "I", false)
  | 6 => ("DuneMapsModel", "heights", "[I", true)
  | 7 => ("DuneMapsModel", "isTold", "Z", false)
  | 8 => ("DuneMapsModel", "were", "[I", true)
  | 9 => ("DuneMapsModel", "walkers", "I", false)
  | 10 => ("DuneMapsModel", "rows", "[I", true)
  | 11 => ("DuneMapsModel", "maps", "[I", true)
  | 12 => ("DuneMapsModel", "then", "[I", true)
  | 13 => ("DuneMapsModel", "who", "[I", true)
  | 14 => ("DuneMapsModel", "whoMany", "I", false)
  | 15 => ("DuneMapsModel", "order", "[I", true)
  | 16 => ("DuneMapsModel", "bestOrder", "[I", true)
  | 17 => ("DuneMapsModel", "seedNow", "I", false)
  | 18 => ("DuneMapsModel", "keptDunes", "I", false)
  | 19 => ("DuneMapsModel", "keptWind", "I", false)
  | 20 => ("DuneMapsModel", "keptNights", "I", false)
  | 21 => ("DuneMapsModel", "keptWalkers", "I", false)
  | 22 => ("DuneMapsModel", "keptHeights", "[I", true)
  | 23 => ("DuneMapsModel", "keptRows", "[I", true)
  | 24 => ("DuneMapsModel", "keptMaps", "[I", true)
  | _ => ("DuneMapsModel", "hash", "J", false)
def tyX8 : Nat → FieldType := fun k => match k with
  | 0 => .array .int
  | 1 => .int
  | 2 => .boolean
  | 3 => .int
  | 4 => .int
  | 5 => .int
  | 6 => .array .int
  | 7 => .boolean
  | 8 => .array .int
  | 9 => .int
  | 10 => .array .int
  | 11 => .array .int
  | 12 => .array .int
  | 13 => .array .int
  | 14 => .int
  | 15 => .array .int
  | 16 => .array .int
  | 17 => .int
  | 18 => .int
  | 19 => .int
  | 20 => .int
  | 21 => .int
  | 22 => .array .int
  | 23 => .array .int
  | 24 => .array .int
  | _ => .long
theorem nmX8 : ∀ a, a < 26 → ∀ b, b < 26 → a ≠ b → (TX8 a).2.1 ≠ (TX8 b).2.1 := by decide +kernel
theorem tyX8_ok : ∀ k, k < 26 → parseFieldDescriptor (TX8 k).2.2.1 = some (tyX8 k) := by decide +kernel
abbrev cX8_init : ByteArray := prog_10_method_1_code
def yX8_init : MethodName := ⟨RX8, "<init>", "()V"⟩
abbrev cX8_in : ByteArray := prog_10_method_2_code
def yX8_in : MethodName := ⟨RX8, "in", "(JJJ)Z"⟩
abbrev cX8_copy : ByteArray := prog_10_method_3_code
def yX8_copy : MethodName := ⟨RX8, "copy", "([I[I)V"⟩
abbrev cX8_letter : ByteArray := prog_10_method_4_code
def yX8_letter : MethodName := ⟨RX8, "letter", "(I)I"⟩
abbrev cX8_blank : ByteArray := prog_10_method_5_code
def yX8_blank : MethodName := ⟨RX8, "blank", "()I"⟩
abbrev cX8_faultOf : ByteArray := prog_10_method_6_code
def yX8_faultOf : MethodName := ⟨RX8, "faultOf", "(I)I"⟩
abbrev cX8_fault : ByteArray := prog_10_method_7_code
def yX8_fault : MethodName := ⟨RX8, "fault", "(I)I"⟩
abbrev cX8_sumOf : ByteArray := prog_10_method_8_code
def yX8_sumOf : MethodName := ⟨RX8, "sumOf", "([I)I"⟩
abbrev cX8_dunes : ByteArray := prog_10_method_9_code
def yX8_dunes : MethodName := ⟨RX8, "dunes", "()I"⟩
abbrev cX8_isCell : ByteArray := prog_10_method_10_code
def yX8_isCell : MethodName := ⟨RX8, "isCell", "(I)Z"⟩
abbrev cX8_shapeOf : ByteArray := prog_10_method_11_code
def yX8_shapeOf : MethodName := ⟨RX8, "shapeOf", "([II)I"⟩
abbrev cX8_leeOf : ByteArray := prog_10_method_12_code
def yX8_leeOf : MethodName := ⟨RX8, "leeOf", "(I)I"⟩
abbrev cX8_luffOf : ByteArray := prog_10_method_13_code
def yX8_luffOf : MethodName := ⟨RX8, "luffOf", "(I)I"⟩
abbrev cX8_walkersAt : ByteArray := prog_10_method_14_code
def yX8_walkersAt : MethodName := ⟨RX8, "walkersAt", "(I)I"⟩
abbrev cX8_tellCell : ByteArray := prog_10_method_15_code
def yX8_tellCell : MethodName := ⟨RX8, "tellCell", "(II)I"⟩
abbrev cX8_cell : ByteArray := prog_10_method_16_code
def yX8_cell : MethodName := ⟨RX8, "cell", "(II)I"⟩
abbrev cX8_wind : ByteArray := prog_10_method_17_code
def yX8_wind : MethodName := ⟨RX8, "wind", "(Z)I"⟩
abbrev cX8_crests : ByteArray := prog_10_method_18_code
def yX8_crests : MethodName := ⟨RX8, "crests", "([I)I"⟩
abbrev cX8_ones : ByteArray := prog_10_method_19_code
def yX8_ones : MethodName := ⟨RX8, "ones", "(I)I"⟩
abbrev cX8_nightOf : ByteArray := prog_10_method_20_code
def yX8_nightOf : MethodName := ⟨RX8, "nightOf", "([I)I"⟩
abbrev cX8_night : ByteArray := prog_10_method_21_code
def yX8_night : MethodName := ⟨RX8, "night", "()I"⟩
abbrev cX8_isWalker : ByteArray := prog_10_method_22_code
def yX8_isWalker : MethodName := ⟨RX8, "isWalker", "(I)Z"⟩
abbrev cX8_weightOf : ByteArray := prog_10_method_23_code
def yX8_weightOf : MethodName := ⟨RX8, "weightOf", "(I)I"⟩
abbrev cX8_treads : ByteArray := prog_10_method_24_code
def yX8_treads : MethodName := ⟨RX8, "treads", "([III)I"⟩
abbrev cX8_stepTo : ByteArray := prog_10_method_25_code
def yX8_stepTo : MethodName := ⟨RX8, "stepTo", "(II)I"⟩
abbrev cX8_walker : ByteArray := prog_10_method_26_code
def yX8_walker : MethodName := ⟨RX8, "walker", "(II)I"⟩
abbrev cX8_hasMap : ByteArray := prog_10_method_27_code
def yX8_hasMap : MethodName := ⟨RX8, "hasMap", "(I)Z"⟩
abbrev cX8_isGood : ByteArray := prog_10_method_28_code
def yX8_isGood : MethodName := ⟨RX8, "isGood", "([II)Z"⟩
abbrev cX8_tell : ByteArray := prog_10_method_29_code
def yX8_tell : MethodName := ⟨RX8, "tell", "(II)I"⟩
abbrev cX8_about : ByteArray := prog_10_method_30_code
def yX8_about : MethodName := ⟨RX8, "about", "(II)I"⟩
abbrev cX8_as : ByteArray := prog_10_method_31_code
def yX8_as : MethodName := ⟨RX8, "as", "(II)I"⟩
abbrev cX8_steps : ByteArray := prog_10_method_32_code
def yX8_steps : MethodName := ⟨RX8, "steps", "(II)I"⟩
abbrev cX8_step : ByteArray := prog_10_method_33_code
def yX8_step : MethodName := ⟨RX8, "step", "(II)I"⟩
abbrev cX8_map : ByteArray := prog_10_method_34_code
def yX8_map : MethodName := ⟨RX8, "map", "(III)I"⟩
abbrev cX8_go : ByteArray := prog_10_method_35_code
def yX8_go : MethodName := ⟨RX8, "go", "(I)I"⟩
abbrev cX8_goes : ByteArray := prog_10_method_36_code
def yX8_goes : MethodName := ⟨RX8, "goes", "(I)V"⟩
abbrev cX8_layWho : ByteArray := prog_10_method_37_code
def yX8_layWho : MethodName := ⟨RX8, "layWho", "()V"⟩
abbrev cX8_isOrder : ByteArray := prog_10_method_38_code
def yX8_isOrder : MethodName := ⟨RX8, "isOrder", "(I)Z"⟩
abbrev cX8_layOrder : ByteArray := prog_10_method_39_code
def yX8_layOrder : MethodName := ⟨RX8, "layOrder", "()I"⟩
abbrev cX8_tellOrder : ByteArray := prog_10_method_40_code
def yX8_tellOrder : MethodName := ⟨RX8, "tellOrder", "(I)I"⟩
abbrev cX8_order : ByteArray := prog_10_method_41_code
def yX8_order : MethodName := ⟨RX8, "order", "(I)I"⟩
abbrev cX8_highBy : ByteArray := prog_10_method_42_code
def yX8_highBy : MethodName := ⟨RX8, "highBy", "(IIII)I"⟩
abbrev cX8_feetOf : ByteArray := prog_10_method_43_code
def yX8_feetOf : MethodName := ⟨RX8, "feetOf", "(IIII)I"⟩
abbrev cX8_feet : ByteArray := prog_10_method_44_code
def yX8_feet : MethodName := ⟨RX8, "feet", "(IIII)I"⟩
abbrev cX8_was : ByteArray := prog_10_method_45_code
def yX8_was : MethodName := ⟨RX8, "was", "()I"⟩
abbrev cX8_isAsNow : ByteArray := prog_10_method_46_code
def yX8_isAsNow : MethodName := ⟨RX8, "isAsNow", "()Z"⟩
abbrev cX8_whoOf : ByteArray := prog_10_method_47_code
def yX8_whoOf : MethodName := ⟨RX8, "whoOf", "(I)I"⟩
abbrev cX8_who : ByteArray := prog_10_method_48_code
def yX8_who : MethodName := ⟨RX8, "who", "(I)I"⟩
abbrev cX8_draw : ByteArray := prog_10_method_49_code
def yX8_draw : MethodName := ⟨RX8, "draw", "(I)I"⟩
abbrev cX8_moons : ByteArray := prog_10_method_50_code
def yX8_moons : MethodName := ⟨RX8, "moons", "(III)I"⟩
abbrev cX8_image : ByteArray := prog_10_method_51_code
def yX8_image : MethodName := ⟨RX8, "image", "()I"⟩
abbrev cX8_restore : ByteArray := prog_10_method_52_code
def yX8_restore : MethodName := ⟨RX8, "restore", "()I"⟩
abbrev cX8_sumBy : ByteArray := prog_10_method_53_code
def yX8_sumBy : MethodName := ⟨RX8, "sumBy", "(I)I"⟩
abbrev cX8_countOf : ByteArray := prog_10_method_54_code
def yX8_countOf : MethodName := ⟨RX8, "countOf", "(I)I"⟩
abbrev cX8_count : ByteArray := prog_10_method_55_code
def yX8_count : MethodName := ⟨RX8, "count", "(I)I"⟩
abbrev cX8_say : ByteArray := prog_10_method_56_code
def yX8_say : MethodName := ⟨RX8, "say", "(J)V"⟩
abbrev cX8_sayDunes : ByteArray := prog_10_method_57_code
def yX8_sayDunes : MethodName := ⟨RX8, "sayDunes", "()V"⟩
abbrev cX8_digest : ByteArray := prog_10_method_58_code
def yX8_digest : MethodName := ⟨RX8, "digest", "()J"⟩
def RJ6 : String := "java/lang/Integer"
def TJ6 : u_T := fun k => match k with
  | _ => ("", "", "", false)
def tyJ6 : Nat → FieldType := fun k => match k with
  | _ => .int
theorem nmJ6 : ∀ a, a < 0 → ∀ b, b < 0 → a ≠ b → (TJ6 a).2.1 ≠ (TJ6 b).2.1 := by decide +kernel
theorem tyJ6_ok : ∀ k, k < 0 → parseFieldDescriptor (TJ6 k).2.2.1 = some (tyJ6 k) := by decide +kernel
abbrev cJ6_bitCount_0f7a4 : ByteArray := prog_11_method_49_code
def yJ6_bitCount_0f7a4 : MethodName := ⟨RJ6, "bitCount", "(I)I"⟩
def RJ9 : String := "java/lang/Math"
def TJ9 : u_T := fun k => match k with
  | _ => ("", "", "", false)
def tyJ9 : Nat → FieldType := fun k => match k with
  | _ => .int
theorem nmJ9 : ∀ a, a < 0 → ∀ b, b < 0 → a ≠ b → (TJ9 a).2.1 ≠ (TJ9 b).2.1 := by decide +kernel
theorem tyJ9_ok : ∀ k, k < 0 → parseFieldDescriptor (TJ9 k).2.2.1 = some (tyJ9 k) := by decide +kernel
abbrev cJ9_max_7cf53 : ByteArray := prog_12_method_65_code
def yJ9_max_7cf53 : MethodName := ⟨RJ9, "max", "(II)I"⟩
abbrev cJ9_min_7cf53 : ByteArray := prog_12_method_69_code
def yJ9_min_7cf53 : MethodName := ⟨RJ9, "min", "(II)I"⟩
def RL : String := "DuneMapsLaw"
abbrev cL_law : ByteArray := code
def yL_law : MethodName := ⟨RL, "law", "([I)Z"⟩
abbrev vwCl : List vw_C := [(RX0, TX0, 2), (RX1, TX1, 7), (RX2, TX2, 4), (RX3, TX3, 5), (RX4, TX4, 2), (RX5, TX5, 2), (RX6, TX6, 6), (RX7, TX7, 12), (RX8, TX8, 26)]
end
section
/-! A pure machine beside the machine: a heap of cells by their places, locals, a stack; an instruction is a predicate transformer. -/
abbrev pC : Type := (List Int32) ⊕ ((Nat × List (Option Nat)) ⊕ (Nat × List Value))
abbrev pH : Type := List pC
abbrev pL : Type := List (Option Value)
abbrev pK : Type := Nat → pL → List Value → pH → Prop
abbrev pR : Type := Option Value → pH → Prop
abbrev pF : Type := Nat → List Value → pH → Option Value → pH → Prop
abbrev pO : Type := pF → pR → pK → pL → List Value → pH → Prop
def csz : pC → Nat
  | .inl xs => xs.length
  | .inr (.inl q) => q.2.length
  | .inr (.inr q) => q.2.length
def sz (h : pH) : Nat := (h.map csz).sum
theorem sz_app (h k : pH) : sz (h ++ k) = sz h + sz k := by simp [sz]
theorem sz_set {h : pH} {k : Nat} {c c' : pC} (hk : h[k]? = some c) (hc : csz c' = csz c) : sz (h.set k c') = sz h := by
  induction h generalizing k with
  | nil => simp at hk
  | cons a t ih =>
    cases k with
    | zero =>
      simp at hk
      subst hk
      simp [sz, hc]
    | succ k =>
      simp at hk
      have := ih hk
      simp [sz] at this ⊢
      omega
def kil : Option Value → Option Value
  | some (.long _) => none
  | some (.double _) => none
  | v => v
def st1 (L : pL) (i : Nat) (v : Value) : pL := match i with
  | 0 => L.set 0 (some v)
  | j + 1 => (L.set j (kil (L.getD j none))).set (j + 1) (some v)
def st2 (L : pL) (i : Nat) (v : Value) : pL := (st1 L i v).set (i + 1) none
def isR : Value → Bool
  | .ref _ => true
  | .null => true
  | .float _ => true
  | _ => false
def sOK (S : List Value) : Prop := (S.map fun v => v.category).sum ≤ 8
theorem sOK0 : sOK [] = True := by simp [sOK]
theorem sOK1 (a : Value) : sOK [a] = True := by cases a <;> simp [sOK, Value.category]
theorem sOK2 (a b : Value) : sOK [a, b] = True := by cases a <;> cases b <;> simp [sOK, Value.category]
theorem sOK3 (a b c : Value) : sOK [a, b, c] = True := by cases a <;> cases b <;> cases c <;> simp [sOK, Value.category]
theorem sOK4 (a b c d : Value) : sOK [a, b, c, d] = True := by
  have h : ∀ v : Value, v.category ≤ 2 := fun v => by cases v <;> simp [Value.category]
  have := h a; have := h b; have := h c; have := h d
  simp [sOK]; omega
def gf (h : pH) (k ci j : Nat) : Option Value := match h[k]? with
  | some (.inr (.inr q)) => if q.1 = ci then q.2[j]? else none
  | _ => none
def pfh (h : pH) (k ci j : Nat) (v : Value) : Option pH := match h[k]? with
  | some (.inr (.inr q)) => if q.1 = ci ∧ j < q.2.length then some (h.set k (.inr (.inr (ci, q.2.set j v)))) else none
  | _ => none
def ild (h : pH) (k : Nat) (i : Int32) : Option Int32 := match h[k]? with
  | some (.inl xs) => if i < 0 then none else xs[i.toNatClampNeg]?
  | _ => none
def ist (h : pH) (k : Nat) (i x : Int32) : Option pH := match h[k]? with
  | some (.inl xs) => if i < 0 ∨ xs.length ≤ i.toNatClampNeg then none else some (h.set k (.inl (xs.set i.toNatClampNeg x)))
  | _ => none
def vq : Option Nat → Value
  | none => .null
  | some k => .ref k
def ald (h : pH) (k : Nat) (i : Int32) : Option Value := match h[k]? with
  | some (.inr (.inl q)) => if i < 0 ∨ 2 ≤ q.1 then none else q.2[i.toNatClampNeg]?.map vq
  | _ => none
def asth (h : pH) (k : Nat) (i : Int32) (v t ci : Nat) : Option pH := match h[k]?, h[v]? with
  | some (.inr (.inl q)), some (.inr (.inr o)) => if q.1 = t ∧ o.1 = ci ∧ ¬ (i < 0 ∨ q.2.length ≤ i.toNatClampNeg) then some (h.set k (.inr (.inl (t, q.2.set i.toNatClampNeg (some v))))) else none
  | _, _ => none
def alen (h : pH) (k : Nat) : Option Nat := match h[k]? with
  | some (.inl xs) => some xs.length
  | some (.inr (.inl q)) => if q.1 < 2 then some q.2.length else none
  | _ => none
def rcv (h : pH) (ci : Nat) (as : List Value) : Prop := ∃ (k : Nat) (rest : List Value) (fs : List Value), as = .ref k :: rest ∧ h[k]? = some (.inr (.inr (ci, fs)))
def wts (j : Nat) : Int32 := ([1, 2, 0, 1, 4] : List Int32).getD j 0
/-! the instructions -/
def o_const (v : Value) (nx : Nat) : pO := fun _ _ K L S h => K nx L (v :: S) h
def o_il (i nx : Nat) : pO := fun _ _ K L S h => ∃ x, L[i]? = some (some (.int x)) ∧ K nx L (.int x :: S) h
def o_ll (i nx : Nat) : pO := fun _ _ K L S h => ∃ x, L[i]? = some (some (.long x)) ∧ K nx L (.long x :: S) h
def o_al (i nx : Nat) : pO := fun _ _ K L S h => ∃ v, L[i]? = some (some v) ∧ isR v = true ∧ K nx L (v :: S) h
def o_is (i nx : Nat) : pO := fun _ _ K L S h => ∃ x S', S = .int x :: S' ∧ i < L.length ∧ K nx (st1 L i (.int x)) S' h
def o_as (i nx : Nat) : pO := fun _ _ K L S h => ∃ v S', S = v :: S' ∧ isR v = true ∧ i < L.length ∧ K nx (st1 L i v) S' h
def o_ls (i nx : Nat) : pO := fun _ _ K L S h => ∃ x S', S = .long x :: S' ∧ i + 1 < L.length ∧ K nx (st2 L i (.long x)) S' h
def o_inc (i : Nat) (n : Int32) (nx : Nat) : pO := fun _ _ K L S h => ∃ x, L[i]? = some (some (.int x)) ∧ K nx (L.set i (some (.int (x + n)))) S h
def o_bin (f : Int32 → Int32 → Int32) (nx : Nat) : pO := fun _ _ K L S h => ∃ x y S', S = .int y :: .int x :: S' ∧ K nx L (.int (f x y) :: S') h
def o_binz (f : Int32 → Int32 → Int32) (nx : Nat) : pO := fun _ _ K L S h => ∃ x y S', S = .int y :: .int x :: S' ∧ ¬ y = 0 ∧ K nx L (.int (f x y) :: S') h
def o_lbin (f : Int64 → Int64 → Int64) (nx : Nat) : pO := fun _ _ K L S h => ∃ x y S', S = .long y :: .long x :: S' ∧ K nx L (.long (f x y) :: S') h
def o_lcmp (nx : Nat) : pO := fun _ _ K L S h => ∃ x y S', S = .long y :: .long x :: S' ∧ K nx L (.int (lg_cmp x y) :: S') h
def o_i2l (nx : Nat) : pO := fun _ _ K L S h => ∃ x S', S = .int x :: S' ∧ K nx L (.long x.toInt64 :: S') h
def o_l2i (nx : Nat) : pO := fun _ _ K L S h => ∃ x S', S = .long x :: S' ∧ K nx L (.int x.toInt32 :: S') h
def o_dup (nx : Nat) : pO := fun _ _ K L S h => ∃ v S', S = v :: S' ∧ v.category = 1 ∧ K nx L (v :: v :: S') h
def o_dup2 (nx : Nat) : pO := fun _ _ K L S h => ∃ v w S', S = v :: w :: S' ∧ v.category = 1 ∧ w.category = 1 ∧ K nx L (v :: w :: v :: w :: S') h
def o_pop (nx : Nat) : pO := fun _ _ K L S h => ∃ v S', S = v :: S' ∧ v.category = 1 ∧ K nx L S' h
def o_goto (tg : Nat) : pO := fun _ _ K L S h => K tg L S h
def o_if (c : Int32 → Prop) (tg nx : Nat) : pO := fun _ _ K L S h => ∃ x S', S = .int x :: S' ∧ (c x → K tg L S' h) ∧ (¬ c x → K nx L S' h)
def o_cmp (c : Int32 → Int32 → Prop) (tg nx : Nat) : pO := fun _ _ K L S h => ∃ x y S', S = .int y :: .int x :: S' ∧ (c x y → K tg L S' h) ∧ (¬ c x y → K nx L S' h)
def o_nul (tg nx : Nat) : pO := fun _ _ K L S h => (∃ S', S = .null :: S' ∧ K tg L S' h) ∨ (∃ k S', S = .ref k :: S' ∧ K nx L S' h)
def o_sw (ps : List (Int32 × Nat)) (df : Nat) : pO := fun _ _ K L S h => ∃ x S', S = .int x :: S' ∧ (∀ q ∈ ps, x = q.1 → K q.2 L S' h) ∧ ((∀ q ∈ ps, ¬ x = q.1) → K df L S' h)
def o_gf (ci j nx : Nat) : pO := fun _ _ K L S h => ∃ k S' v, S = .ref k :: S' ∧ gf h k ci j = some v ∧ K nx L (v :: S') h
def o_pf (ok : Value → Prop) (ci j nx : Nat) : pO := fun _ _ K L S h => ∃ v k S' h', S = v :: .ref k :: S' ∧ ok v ∧ pfh h k ci j v = some h' ∧ K nx L S' h'
def o_ia (nx : Nat) : pO := fun _ _ K L S h => ∃ i k S' x, S = .int i :: .ref k :: S' ∧ ild h k i = some x ∧ K nx L (.int x :: S') h
def o_ist (nx : Nat) : pO := fun _ _ K L S h => ∃ x i k S' h', S = .int x :: .int i :: .ref k :: S' ∧ ist h k i x = some h' ∧ K nx L S' h'
def o_aa (nx : Nat) : pO := fun _ _ K L S h => ∃ i k S' v, S = .int i :: .ref k :: S' ∧ ald h k i = some v ∧ K nx L (v :: S') h
def o_ast (t ci nx : Nat) : pO := fun _ _ K L S h => ∃ v i k S' h', S = .ref v :: .int i :: .ref k :: S' ∧ asth h k i v t ci = some h' ∧ K nx L S' h'
def o_len (nx : Nat) : pO := fun _ _ K L S h => ∃ k S' n, S = .ref k :: S' ∧ alen h k = some n ∧ K nx L (.int (Int32.ofNat n) :: S') h
def o_iaT (nx : Nat) : pO := fun _ _ K L S h => ∃ i S', S = .int i :: .float 0 :: S' ∧ vp_in i 5 ∧ K nx L (.int (wts i.toNatClampNeg) :: S') h
def o_lenT (nx : Nat) : pO := fun _ _ K L S h => ∃ S', S = .float 0 :: S' ∧ K nx L (.int 5 :: S') h
def o_iaS (n : Nat) (xs : Nat → Int32) (nx : Nat) : pO := fun _ _ K L S h => ∃ i S', S = .int i :: .float 1 :: S' ∧ vp_in i n ∧ K nx L (.int (xs i.toNatClampNeg) :: S') h
def o_lenS (n : Nat) (nx : Nat) : pO := fun _ _ K L S h => ∃ S', S = .float 1 :: S' ∧ K nx L (.int (Int32.ofNat n) :: S') h
def o_new (ci : Nat) (fs : List Value) (nx : Nat) : pO := fun _ _ K L S h => K nx L (.ref h.length :: S) (h ++ [.inr (.inr (ci, fs))])
def o_newa (nx : Nat) : pO := fun _ _ K L S h => ∃ n S', S = .int n :: S' ∧ ¬ n < 0 ∧ n.toNatClampNeg ≤ 1000 ∧ K nx L (.ref h.length :: S') (h ++ [.inl (List.replicate n.toNatClampNeg 0)])
def o_anew (t nx : Nat) : pO := fun _ _ K L S h => ∃ n S', S = .int n :: S' ∧ ¬ n < 0 ∧ n.toNatClampNeg ≤ 1000 ∧ K nx L (.ref h.length :: S') (h ++ [.inr (.inl (t, List.replicate n.toNatClampNeg none))])
def o_obj (nx : Nat) : pO := fun _ _ K L S h => ∃ k S', S = .ref k :: S' ∧ sOK S' ∧ K nx L S' h
def o_call (rc : pH → List Value → Prop) (y n nx : Nat) : pO := fun F _ K L S h => n ≤ S.length ∧ sOK (S.drop n) ∧ rc h (S.take n).reverse ∧ ∃ r h1, F y (S.take n).reverse h r h1 ∧ K nx L (r.toList ++ S.drop n) h1
def o_iret : pO := fun _ R _ _ S h => ∃ x, S = [.int x] ∧ R (some (.int x)) h
def o_zret : pO := fun _ R _ _ S h => ∃ x, S = [.int x] ∧ (x = 0 ∨ x = 1) ∧ R (some (.int x)) h
def o_lret : pO := fun _ R _ _ S h => ∃ x, S = [.long x] ∧ R (some (.long x)) h
def o_aret : pO := fun _ R _ _ S h => ∃ v, S = [v] ∧ (v = .null ∨ ∃ k, v = .ref k) ∧ R (some v) h
def o_vret : pO := fun _ R _ _ S h => S = [] ∧ R none h
def o_fail : pO := fun _ _ _ _ _ _ => False
/-! a run: the least predicate that the instructions keep -/
def rRun (T : Nat → pO) (F : pF) (R : pR) (pc : Nat) (L : pL) (S : List Value) (h : pH) : Prop := ∀ P : pK, (∀ pc L S h, T pc F R P L S h → P pc L S h) → P pc L S h
def ent : List Value → pL
  | [] => []
  | v :: vs => if v.category = 2 then some v :: none :: ent vs else some v :: ent vs
def entL (n : Nat) (vs : List Value) : pL := ent vs ++ List.replicate (n - (ent vs).length) none
def rCall (T : Nat → Nat → pO) (ml : Nat → Nat) : Nat → pF
  | 0 => fun _ _ _ _ _ => False
  | d + 1 => fun y as h r h' => (ent as).length ≤ ml y ∧ rRun (T y) (rCall T ml d) (fun r1 h1 => r1 = r ∧ h1 = h') 0 (entL (ml y) as) [] h
def moO (o : pO) : Prop := ∀ (F : pF) (R : pR) (P P' : pK) (L : pL) (S : List Value) (h : pH), (∀ pc L S h, P pc L S h → P' pc L S h) → o F R P L S h → o F R P' L S h
theorem run_eq {T : Nat → pO} (hT : ∀ pc, moO (T pc)) (F : pF) (R : pR) (pc : Nat) (L : pL) (S : List Value) (h : pH) : rRun T F R pc L S h = T pc F R (rRun T F R) L S h := by
  have fold : ∀ pc L S h, T pc F R (rRun T F R) L S h → rRun T F R pc L S h := by
    intro pc L S h hh P hP
    exact hP pc L S h (hT pc F R _ P L S h (fun pc L S h hr => hr P hP) hh)
  refine propext ⟨fun hr => ?_, fold pc L S h⟩
  exact hr (fun pc L S h => T pc F R (rRun T F R) L S h) (fun pc L S h hh => hT pc F R _ _ L S h fold hh)
def leO (o : pO) : Prop := ∀ (F : pF) (R : pR) (N Z : Nat), (∀ y as h r h1, F y as h r h1 → h.length ≤ h1.length ∧ sz h ≤ sz h1) → (∀ r h, R r h → h.length ≤ N ∧ sz h ≤ Z) → ∀ (L : pL) (S : List Value) (h : pH), o F R (fun _ _ _ h => h.length ≤ N ∧ sz h ≤ Z) L S h → h.length ≤ N ∧ sz h ≤ Z
theorem m_const (v : Value) (nx : Nat) : moO (o_const v nx) ∧ leO (o_const v nx) := ⟨fun _ _ _ _ _ _ _ hP h => hP _ _ _ _ h, fun _ _ _ _ _ _ _ _ _ h => h⟩
theorem m_il (i nx : Nat) : moO (o_il i nx) ∧ leO (o_il i nx) := ⟨fun _ _ _ _ _ _ _ hP ⟨x, a, h⟩ => ⟨x, a, hP _ _ _ _ h⟩, fun _ _ _ _ _ _ _ _ _ ⟨_, _, h⟩ => h⟩
theorem m_ll (i nx : Nat) : moO (o_ll i nx) ∧ leO (o_ll i nx) := ⟨fun _ _ _ _ _ _ _ hP ⟨x, a, h⟩ => ⟨x, a, hP _ _ _ _ h⟩, fun _ _ _ _ _ _ _ _ _ ⟨_, _, h⟩ => h⟩
theorem m_al (i nx : Nat) : moO (o_al i nx) ∧ leO (o_al i nx) := ⟨fun _ _ _ _ _ _ _ hP ⟨x, a, b, h⟩ => ⟨x, a, b, hP _ _ _ _ h⟩, fun _ _ _ _ _ _ _ _ _ ⟨_, _, _, h⟩ => h⟩
theorem m_is (i nx : Nat) : moO (o_is i nx) ∧ leO (o_is i nx) := ⟨fun _ _ _ _ _ _ _ hP ⟨x, s, a, b, h⟩ => ⟨x, s, a, b, hP _ _ _ _ h⟩, fun _ _ _ _ _ _ _ _ _ ⟨_, _, _, _, h⟩ => h⟩
theorem m_as (i nx : Nat) : moO (o_as i nx) ∧ leO (o_as i nx) := ⟨fun _ _ _ _ _ _ _ hP ⟨x, s, a, b, c, h⟩ => ⟨x, s, a, b, c, hP _ _ _ _ h⟩, fun _ _ _ _ _ _ _ _ _ ⟨_, _, _, _, _, h⟩ => h⟩
theorem m_ls (i nx : Nat) : moO (o_ls i nx) ∧ leO (o_ls i nx) := ⟨fun _ _ _ _ _ _ _ hP ⟨x, s, a, b, h⟩ => ⟨x, s, a, b, hP _ _ _ _ h⟩, fun _ _ _ _ _ _ _ _ _ ⟨_, _, _, _, h⟩ => h⟩
theorem m_inc (i : Nat) (n : Int32) (nx : Nat) : moO (o_inc i n nx) ∧ leO (o_inc i n nx) := ⟨fun _ _ _ _ _ _ _ hP ⟨x, a, h⟩ => ⟨x, a, hP _ _ _ _ h⟩, fun _ _ _ _ _ _ _ _ _ ⟨_, _, h⟩ => h⟩
theorem m_bin (f : Int32 → Int32 → Int32) (nx : Nat) : moO (o_bin f nx) ∧ leO (o_bin f nx) := ⟨fun _ _ _ _ _ _ _ hP ⟨x, y, s, a, h⟩ => ⟨x, y, s, a, hP _ _ _ _ h⟩, fun _ _ _ _ _ _ _ _ _ ⟨_, _, _, _, h⟩ => h⟩
theorem m_binz (f : Int32 → Int32 → Int32) (nx : Nat) : moO (o_binz f nx) ∧ leO (o_binz f nx) := ⟨fun _ _ _ _ _ _ _ hP ⟨x, y, s, a, b, h⟩ => ⟨x, y, s, a, b, hP _ _ _ _ h⟩, fun _ _ _ _ _ _ _ _ _ ⟨_, _, _, _, _, h⟩ => h⟩
theorem m_lbin (f : Int64 → Int64 → Int64) (nx : Nat) : moO (o_lbin f nx) ∧ leO (o_lbin f nx) := ⟨fun _ _ _ _ _ _ _ hP ⟨x, y, s, a, h⟩ => ⟨x, y, s, a, hP _ _ _ _ h⟩, fun _ _ _ _ _ _ _ _ _ ⟨_, _, _, _, h⟩ => h⟩
theorem m_lcmp (nx : Nat) : moO (o_lcmp nx) ∧ leO (o_lcmp nx) := ⟨fun _ _ _ _ _ _ _ hP ⟨x, y, s, a, h⟩ => ⟨x, y, s, a, hP _ _ _ _ h⟩, fun _ _ _ _ _ _ _ _ _ ⟨_, _, _, _, h⟩ => h⟩
theorem m_i2l (nx : Nat) : moO (o_i2l nx) ∧ leO (o_i2l nx) := ⟨fun _ _ _ _ _ _ _ hP ⟨x, s, a, h⟩ => ⟨x, s, a, hP _ _ _ _ h⟩, fun _ _ _ _ _ _ _ _ _ ⟨_, _, _, h⟩ => h⟩
theorem m_l2i (nx : Nat) : moO (o_l2i nx) ∧ leO (o_l2i nx) := ⟨fun _ _ _ _ _ _ _ hP ⟨x, s, a, h⟩ => ⟨x, s, a, hP _ _ _ _ h⟩, fun _ _ _ _ _ _ _ _ _ ⟨_, _, _, h⟩ => h⟩
theorem m_dup (nx : Nat) : moO (o_dup nx) ∧ leO (o_dup nx) := ⟨fun _ _ _ _ _ _ _ hP ⟨x, s, a, b, h⟩ => ⟨x, s, a, b, hP _ _ _ _ h⟩, fun _ _ _ _ _ _ _ _ _ ⟨_, _, _, _, h⟩ => h⟩
theorem m_dup2 (nx : Nat) : moO (o_dup2 nx) ∧ leO (o_dup2 nx) := ⟨fun _ _ _ _ _ _ _ hP ⟨x, y, s, a, b, c, h⟩ => ⟨x, y, s, a, b, c, hP _ _ _ _ h⟩, fun _ _ _ _ _ _ _ _ _ ⟨_, _, _, _, _, _, h⟩ => h⟩
theorem m_pop (nx : Nat) : moO (o_pop nx) ∧ leO (o_pop nx) := ⟨fun _ _ _ _ _ _ _ hP ⟨x, s, a, b, h⟩ => ⟨x, s, a, b, hP _ _ _ _ h⟩, fun _ _ _ _ _ _ _ _ _ ⟨_, _, _, _, h⟩ => h⟩
theorem m_goto (tg : Nat) : moO (o_goto tg) ∧ leO (o_goto tg) := ⟨fun _ _ _ _ _ _ _ hP h => hP _ _ _ _ h, fun _ _ _ _ _ _ _ _ _ h => h⟩
theorem m_if (c : Int32 → Prop) (tg nx : Nat) : moO (o_if c tg nx) ∧ leO (o_if c tg nx) := ⟨fun _ _ _ _ _ _ _ hP ⟨x, s, a, b, d⟩ => ⟨x, s, a, fun q => hP _ _ _ _ (b q), fun q => hP _ _ _ _ (d q)⟩, fun _ _ _ _ _ _ _ _ _ ⟨x, _, _, b, d⟩ => (Classical.em (c x)).elim b d⟩
theorem m_cmp (c : Int32 → Int32 → Prop) (tg nx : Nat) : moO (o_cmp c tg nx) ∧ leO (o_cmp c tg nx) := ⟨fun _ _ _ _ _ _ _ hP ⟨x, y, s, a, b, d⟩ => ⟨x, y, s, a, fun q => hP _ _ _ _ (b q), fun q => hP _ _ _ _ (d q)⟩, fun _ _ _ _ _ _ _ _ _ ⟨x, y, _, _, b, d⟩ => (Classical.em (c x y)).elim b d⟩
theorem m_nul (tg nx : Nat) : moO (o_nul tg nx) ∧ leO (o_nul tg nx) := ⟨fun _ _ _ _ _ _ _ hP q => q.elim (fun ⟨s, a, b⟩ => Or.inl ⟨s, a, hP _ _ _ _ b⟩) (fun ⟨k, s, a, b⟩ => Or.inr ⟨k, s, a, hP _ _ _ _ b⟩), fun _ _ _ _ _ _ _ _ _ q => q.elim (fun ⟨_, _, b⟩ => b) (fun ⟨_, _, _, b⟩ => b)⟩
theorem m_sw (ps : List (Int32 × Nat)) (df : Nat) : moO (o_sw ps df) ∧ leO (o_sw ps df) := ⟨fun _ _ _ _ _ _ _ hP ⟨x, s, a, b, d⟩ => ⟨x, s, a, fun q hq e => hP _ _ _ _ (b q hq e), fun q => hP _ _ _ _ (d q)⟩, fun _ _ _ _ _ _ _ _ _ ⟨x, _, _, b, d⟩ => (Classical.em (∃ q ∈ ps, x = q.1)).elim (fun ⟨q, hq, e⟩ => b q hq e) (fun z => d (fun q hq e => z ⟨q, hq, e⟩))⟩
theorem m_gf (ci j nx : Nat) : moO (o_gf ci j nx) ∧ leO (o_gf ci j nx) := ⟨fun _ _ _ _ _ _ _ hP ⟨x, s, v, a, b, h⟩ => ⟨x, s, v, a, b, hP _ _ _ _ h⟩, fun _ _ _ _ _ _ _ _ _ ⟨_, _, _, _, _, h⟩ => h⟩
theorem pfh_some {h h' : pH} {k ci j : Nat} {v : Value} (e : pfh h k ci j v = some h') : ∃ fs, h[k]? = some (.inr (.inr (ci, fs))) ∧ j < fs.length ∧ h' = h.set k (.inr (.inr (ci, fs.set j v))) := by
  unfold pfh at e
  split at e
  · next q hq =>
    split at e
    · next hc =>
      obtain ⟨c0, fs⟩ := q
      obtain ⟨rfl, hj⟩ := hc
      exact ⟨fs, hq, hj, (Option.some.inj e).symm⟩
    · cases e
  · cases e
theorem gf_some {h : pH} {k ci j : Nat} {v : Value} (e : gf h k ci j = some v) : ∃ fs, h[k]? = some (.inr (.inr (ci, fs))) ∧ fs[j]? = some v := by
  unfold gf at e
  split at e
  · next q hq =>
    split at e
    · next hc =>
      obtain ⟨c0, fs⟩ := q
      subst hc
      exact ⟨fs, hq, e⟩
    · cases e
  · cases e
theorem ild_some {h : pH} {k : Nat} {i x : Int32} (e : ild h k i = some x) : ∃ xs, h[k]? = some (.inl xs) ∧ vp_in i xs.length ∧ xs.getD i.toNatClampNeg 0 = x := by
  unfold ild at e
  split at e
  · next xs hq =>
    split at e
    · cases e
    · next hc =>
      obtain ⟨h1, h2⟩ := List.getElem?_eq_some_iff.mp e
      exact ⟨xs, hq, fun z => z.elim hc (fun z => by omega), by simp [List.getD, e]⟩
  · cases e
theorem ist_some {h h' : pH} {k : Nat} {i x : Int32} (e : ist h k i x = some h') : ∃ xs, h[k]? = some (.inl xs) ∧ vp_in i xs.length ∧ h' = h.set k (.inl (xs.set i.toNatClampNeg x)) := by
  unfold ist at e
  split at e
  · next xs hq =>
    split at e
    · cases e
    · next hc => exact ⟨xs, hq, hc, (Option.some.inj e).symm⟩
  · cases e
theorem ald_some {h : pH} {k : Nat} {i : Int32} {v : Value} (e : ald h k i = some v) : ∃ t rs r, h[k]? = some (.inr (.inl (t, rs))) ∧ t < 2 ∧ vp_in i rs.length ∧ rs[i.toNatClampNeg]? = some r ∧ vq r = v := by
  unfold ald at e
  split at e
  · next q hq =>
    split at e
    · cases e
    · next hc =>
      obtain ⟨t, rs⟩ := q
      obtain ⟨r, h1, h2⟩ := Option.map_eq_some_iff.mp e
      have h3 := (List.getElem?_eq_some_iff.mp h1).1
      exact ⟨t, rs, r, hq, by dsimp only at hc; omega, fun z => z.elim (fun z => hc (Or.inl z)) (fun z => by dsimp only at h3; omega), h1, h2⟩
  · cases e
theorem asth_some {h h' : pH} {k : Nat} {i : Int32} {v t ci : Nat} (e : asth h k i v t ci = some h') : ∃ rs fs, h[k]? = some (.inr (.inl (t, rs))) ∧ h[v]? = some (.inr (.inr (ci, fs))) ∧ vp_in i rs.length ∧ h' = h.set k (.inr (.inl (t, rs.set i.toNatClampNeg (some v)))) := by
  unfold asth at e
  split at e
  · next q o hq ho =>
    split at e
    · next hc =>
      obtain ⟨t, rs⟩ := q
      obtain ⟨ci, fs⟩ := o
      obtain ⟨rfl, rfl, hj⟩ := hc
      exact ⟨rs, fs, hq, ho, hj, (Option.some.inj e).symm⟩
    · cases e
  · cases e
theorem alen_some {h : pH} {k n : Nat} (e : alen h k = some n) : (∃ xs, h[k]? = some (.inl xs) ∧ n = xs.length) ∨ (∃ t rs, h[k]? = some (.inr (.inl (t, rs))) ∧ t < 2 ∧ n = rs.length) := by
  unfold alen at e
  split at e
  · next xs hq => exact Or.inl ⟨xs, hq, (Option.some.inj e).symm⟩
  · next q hq =>
    split at e
    · next hc => exact Or.inr ⟨q.1, q.2, hq, hc, (Option.some.inj e).symm⟩
    · cases e
  · cases e
theorem m_pf (ok : Value → Prop) (ci j nx : Nat) : moO (o_pf ok ci j nx) ∧ leO (o_pf ok ci j nx) := by
  refine ⟨fun _ _ _ _ _ _ _ hP ⟨x, s, v, h', a, b, c, h⟩ => ⟨x, s, v, h', a, b, c, hP _ _ _ _ h⟩, fun _ _ _ _ _ _ _ _ _ ⟨_, _, _, _, _, _, c, h⟩ => ?_⟩
  obtain ⟨fs, h1, -, rfl⟩ := pfh_some c
  try dsimp only at h
  rw [List.length_set, sz_set h1 (by simp [csz])] at h
  exact h
theorem m_ia (nx : Nat) : moO (o_ia nx) ∧ leO (o_ia nx) := ⟨fun _ _ _ _ _ _ _ hP ⟨x, s, v, z, a, b, h⟩ => ⟨x, s, v, z, a, b, hP _ _ _ _ h⟩, fun _ _ _ _ _ _ _ _ _ ⟨_, _, _, _, _, _, h⟩ => h⟩
theorem m_ist (nx : Nat) : moO (o_ist nx) ∧ leO (o_ist nx) := by
  refine ⟨fun _ _ _ _ _ _ _ hP ⟨x, i, k, s, h', a, c, h⟩ => ⟨x, i, k, s, h', a, c, hP _ _ _ _ h⟩, fun _ _ _ _ _ _ _ _ _ ⟨_, _, _, _, _, _, c, h⟩ => ?_⟩
  obtain ⟨xs, h1, -, rfl⟩ := ist_some c
  try dsimp only at h
  rw [List.length_set, sz_set h1 (by simp [csz])] at h
  exact h
theorem m_aa (nx : Nat) : moO (o_aa nx) ∧ leO (o_aa nx) := ⟨fun _ _ _ _ _ _ _ hP ⟨x, s, v, z, a, b, h⟩ => ⟨x, s, v, z, a, b, hP _ _ _ _ h⟩, fun _ _ _ _ _ _ _ _ _ ⟨_, _, _, _, _, _, h⟩ => h⟩
theorem m_ast (t ci nx : Nat) : moO (o_ast t ci nx) ∧ leO (o_ast t ci nx) := by
  refine ⟨fun _ _ _ _ _ _ _ hP ⟨x, i, k, s, h', a, c, h⟩ => ⟨x, i, k, s, h', a, c, hP _ _ _ _ h⟩, fun _ _ _ _ _ _ _ _ _ ⟨_, _, _, _, _, _, c, h⟩ => ?_⟩
  obtain ⟨rs, fs, h1, -, -, rfl⟩ := asth_some c
  try dsimp only at h
  rw [List.length_set, sz_set h1 (by simp [csz])] at h
  exact h
theorem m_len (nx : Nat) : moO (o_len nx) ∧ leO (o_len nx) := ⟨fun _ _ _ _ _ _ _ hP ⟨x, s, v, a, b, h⟩ => ⟨x, s, v, a, b, hP _ _ _ _ h⟩, fun _ _ _ _ _ _ _ _ _ ⟨_, _, _, _, _, h⟩ => h⟩
theorem m_iaT (nx : Nat) : moO (o_iaT nx) ∧ leO (o_iaT nx) := ⟨fun _ _ _ _ _ _ _ hP ⟨x, s, a, b, h⟩ => ⟨x, s, a, b, hP _ _ _ _ h⟩, fun _ _ _ _ _ _ _ _ _ ⟨_, _, _, _, h⟩ => h⟩
theorem m_lenT (nx : Nat) : moO (o_lenT nx) ∧ leO (o_lenT nx) := ⟨fun _ _ _ _ _ _ _ hP ⟨s, a, h⟩ => ⟨s, a, hP _ _ _ _ h⟩, fun _ _ _ _ _ _ _ _ _ ⟨_, _, h⟩ => h⟩
theorem m_iaS (n : Nat) (xs : Nat → Int32) (nx : Nat) : moO (o_iaS n xs nx) ∧ leO (o_iaS n xs nx) := ⟨fun _ _ _ _ _ _ _ hP ⟨x, s, a, b, h⟩ => ⟨x, s, a, b, hP _ _ _ _ h⟩, fun _ _ _ _ _ _ _ _ _ ⟨_, _, _, _, h⟩ => h⟩
theorem m_lenS (n nx : Nat) : moO (o_lenS n nx) ∧ leO (o_lenS n nx) := ⟨fun _ _ _ _ _ _ _ hP ⟨s, a, h⟩ => ⟨s, a, hP _ _ _ _ h⟩, fun _ _ _ _ _ _ _ _ _ ⟨_, _, h⟩ => h⟩
theorem m_new (ci : Nat) (fs : List Value) (nx : Nat) : moO (o_new ci fs nx) ∧ leO (o_new ci fs nx) := ⟨fun _ _ _ _ _ _ _ hP h => hP _ _ _ _ h, fun _ _ _ _ _ _ _ _ _ h => by
  dsimp only [o_new] at h
  rw [List.length_append, sz_app] at h
  omega⟩
theorem m_newa (nx : Nat) : moO (o_newa nx) ∧ leO (o_newa nx) := ⟨fun _ _ _ _ _ _ _ hP ⟨n, s, a, b, c, h⟩ => ⟨n, s, a, b, c, hP _ _ _ _ h⟩, fun _ _ _ _ _ _ _ _ _ ⟨_, _, _, _, _, h⟩ => by
  try dsimp only at h
  rw [List.length_append, sz_app] at h
  omega⟩
theorem m_anew (t nx : Nat) : moO (o_anew t nx) ∧ leO (o_anew t nx) := ⟨fun _ _ _ _ _ _ _ hP ⟨n, s, a, b, c, h⟩ => ⟨n, s, a, b, c, hP _ _ _ _ h⟩, fun _ _ _ _ _ _ _ _ _ ⟨_, _, _, _, _, h⟩ => by
  try dsimp only at h
  rw [List.length_append, sz_app] at h
  omega⟩
theorem m_obj (nx : Nat) : moO (o_obj nx) ∧ leO (o_obj nx) := ⟨fun _ _ _ _ _ _ _ hP ⟨x, s, a, b, h⟩ => ⟨x, s, a, b, hP _ _ _ _ h⟩, fun _ _ _ _ _ _ _ _ _ ⟨_, _, _, _, h⟩ => h⟩
theorem m_call (rc : pH → List Value → Prop) (y n nx : Nat) : moO (o_call rc y n nx) ∧ leO (o_call rc y n nx) := by
  refine ⟨fun _ _ _ _ _ _ _ hP ⟨a, b, c, r, h1, d, h⟩ => ⟨a, b, c, r, h1, d, hP _ _ _ _ h⟩, fun _ _ _ _ hF _ _ _ _ ⟨_, _, _, r, h1, d, h⟩ => ?_⟩
  have := hF _ _ _ _ _ d
  omega
theorem m_iret : moO o_iret ∧ leO o_iret := ⟨fun _ _ _ _ _ _ _ _ h => h, fun _ _ _ _ _ hR _ _ _ ⟨_, _, h⟩ => hR _ _ h⟩
theorem m_zret : moO o_zret ∧ leO o_zret := ⟨fun _ _ _ _ _ _ _ _ h => h, fun _ _ _ _ _ hR _ _ _ ⟨_, _, _, h⟩ => hR _ _ h⟩
theorem m_lret : moO o_lret ∧ leO o_lret := ⟨fun _ _ _ _ _ _ _ _ h => h, fun _ _ _ _ _ hR _ _ _ ⟨_, _, h⟩ => hR _ _ h⟩
theorem m_aret : moO o_aret ∧ leO o_aret := ⟨fun _ _ _ _ _ _ _ _ h => h, fun _ _ _ _ _ hR _ _ _ ⟨_, _, _, h⟩ => hR _ _ h⟩
theorem m_vret : moO o_vret ∧ leO o_vret := ⟨fun _ _ _ _ _ _ _ _ h => h, fun _ _ _ _ _ hR _ _ _ ⟨_, h⟩ => hR _ _ h⟩
theorem m_fail : moO o_fail ∧ leO o_fail := ⟨fun _ _ _ _ _ _ _ _ h => h, fun _ _ _ _ _ _ _ _ _ h => False.elim h⟩
end
section
def cG : List Cond := lw_tbl.filter goodWord
/-! how the pure machine lies in the machine: places from a base on -/
abbrev gG : Type := Nat × Nat × Nat × ClassId × (Nat → ClassId) × va_G
def rn (g : gG) : Value → Value
  | .ref k => .ref (g.1 + k)
  | .float w => .ref (if w = 0 then g.2.1 else g.2.2.1)
  | v => v
theorem rn_cat (g : gG) (v : Value) : (rn g v).category = v.category := by cases v <;> rfl
def wE (g : gG) : pC → va_E
  | .inl xs => .inl (g.2.2.2.1, xs.length, .inl (fun j => xs.getD j 0))
  | .inr (.inl q) => .inl (g.2.2.2.2.1 q.1, q.2.length, .inr (.inr (.inr (.inr (fun j => (q.2.getD j none).map (fun k => g.1 + k))))))
  | .inr (.inr q) => .inr (q.1, q.2.map (rn g))
def wR (g : gG) (h : pH) (H : Heap) : Prop := H.size = g.1 + h.length ∧ ∀ (k : Nat) (c : pC), h[k]? = some c → va_at g.2.2.2.2.2 vwCl (g.1 + k, wE g c) H
abbrev nA (g : gG) : Nat → Prop := fun q => g.1 ≤ q
def nests : List (String × Nat × MethodName × String) := [("DuneMaps", 11, { cls := "DuneMaps$Page", name := "<init>", desc := "()V" }, "DuneMaps"), ("DuneMaps$Land", 11, { cls := "DuneMaps$Sand", name := "<init>", desc := "()V" }, "DuneMaps"), ("DuneMaps$Land", 24, { cls := "DuneMaps$Walker", name := "<init>", desc := "()V" }, "DuneMaps"), ("DuneMaps", 28, { cls := "DuneMaps$Sand", name := "<init>", desc := "()V" }, "DuneMaps"), ("DuneMaps$Ordering", 24, { cls := "DuneMaps$Sand", name := "<init>", desc := "()V" }, "DuneMaps"), ("DuneMaps$Footing", 17, { cls := "DuneMaps$Sand", name := "<init>", desc := "()V" }, "DuneMaps"), ("DuneMaps", 52, { cls := "DuneMaps$Dusk", name := "<init>", desc := "()V" }, "DuneMaps"), ("DuneMaps$Land", 46, { cls := "DuneMaps", name := "asNumber", desc := "(Z)I" }, "DuneMaps"), ("DuneMaps$Walker", 31, { cls := "DuneMaps", name := "beside", desc := "(II)I" }, "DuneMaps"), ("DuneMaps$Sand", 52, { cls := "DuneMaps", name := "weightOf", desc := "(I)I" }, "DuneMaps"), ("DuneMaps$Ordering", 71, { cls := "DuneMaps", name := "asNumber", desc := "(Z)I" }, "DuneMaps"), ("DuneMaps$Footing", 55, { cls := "DuneMaps", name := "beside", desc := "(II)I" }, "DuneMaps"), ("DuneMaps$Dusk", 32, { cls := "DuneMaps", name := "beside", desc := "(II)I" }, "DuneMaps")]
abbrev tyl (g : gG) : List (ClassId × FieldType) := [(g.2.2.2.1, .int), (g.2.2.2.2.1 0, .object RX5), (g.2.2.2.2.1 1, .object RX6)]
def cxK (g : gG) (U : State) : Prop := va_K g.2.2.2.2.2 vwCl (tyl g) U ∧ (∀ q ∈ nests, va_Nw (.methodLinkNest q.1 q.2.1 q.2.2.1 q.2.2.2) U) ∧ va_AO RX5 U ∧ va_AO RX6 U
def cxZ (g : gG) (U : State) (H : Heap) : Prop := va_Z "DuneMaps" "WEIGHTS" "[I" (.ref g.2.1) (nA g) U H ∧ va_T .int g.2.1 5 (fun j => .int (wts j)) (nA g) U H
theorem cxK.warm {g : gG} {s U : State} (hW : s.WarmedH U.vm) (h : cxK g s) : cxK g U := ⟨h.1.moved hW.alike, fun q hq => va_Nw.warmM hW (h.2.1 q hq), va_AO.moved hW.alike h.2.2.1, va_AO.moved hW.alike h.2.2.2⟩
theorem cxK.same {g : gG} {s U : State} (hv : s.vm = U.vm) (h : cxK g s) : cxK g U := by
  have ha : s.vm.Alike U.vm := hv ▸ Vm.Alike.refl s.vm
  exact ⟨h.1.moved ha, fun q hq => va_Nw.same rfl hv (h.2.1 q hq), va_AO.moved ha h.2.2.1, va_AO.moved ha h.2.2.2⟩
theorem cxZ.moved {g : gG} {s U : State} {H : Heap} (hv : s.vm.Alike U.vm) (h : cxZ g s H) : cxZ g U H := ⟨h.1.moved hv, h.2.moved hv⟩
theorem cxZ.kept {g : gG} {U : State} {H H1 : Heap} (h : cxZ g U H) (hq : ∀ a : Nat, a < H.size → ¬ nA g a → H1[a]? = H[a]?) : cxZ g U H1 := ⟨h.1.kept hq, h.2.kept hq⟩
theorem wR.at {g : gG} {h : pH} {H : Heap} (w : wR g h H) {k : Nat} {c : pC} (hk : h[k]? = some c) : va_P g.2.2.2.2.2 vwCl [(g.1 + k, wE g c)] H := by
  intro i q hi
  cases i with
  | zero => cases hi; exact w.2 k c hk
  | succ i => simp at hi
theorem wR.set {g : gG} {h : pH} {H H1 : Heap} (w : wR g h H) {k : Nat} {c0 c : pC} (hk : h[k]? = some c0) (hz : H1.size = H.size) (oq : ∀ q : Nat, q ≠ g.1 + k → H1[q]? = H[q]?) (he : va_at g.2.2.2.2.2 vwCl (g.1 + k, wE g c) H1) : wR g (h.set k c) H1 := by
  have hl := (List.getElem?_eq_some_iff.mp hk).1
  refine ⟨by rw [hz, List.length_set]; exact w.1, fun j d hj => ?_⟩
  by_cases e : j = k
  · subst e
    rw [List.getElem?_set_self hl] at hj
    cases hj
    exact he
  · rw [List.getElem?_set_ne (Ne.symm e)] at hj
    exact (w.2 j d hj).kept (oq _ (fun z => e (by simpa using z)))
theorem wR.push {g : gG} {h : pH} {H H1 : Heap} (w : wR g h H) {c : pC} (hz : H1.size = H.size + 1) (oq : ∀ q : Nat, q < H.size → H1[q]? = H[q]?) (he : va_at g.2.2.2.2.2 vwCl (H.size, wE g c) H1) : wR g (h ++ [c]) H1 := by
  refine ⟨by rw [hz, List.length_append, w.1]; simp; omega, fun j d hj => ?_⟩
  by_cases e : j < h.length
  · rw [List.getElem?_append_left e] at hj
    exact (w.2 j d hj).kept (oq _ (by rw [w.1]; show g.1 + j < _; omega))
  · rw [List.getElem?_append_right (by omega)] at hj
    have hz : j - h.length < 1 := (List.getElem?_eq_some_iff.mp hj).1
    have hj0 : j = h.length := by omega
    subst hj0
    rw [Nat.sub_self] at hj
    cases hj
    rw [w.1] at he
    exact he
/-! locals -/
def lvh (g : gG) (ls : Array Slot) (nL : Nat) (L : pL) : Prop := ls.size = nL ∧ L.length = nL ∧ lv_wf ls ∧ ∀ (i : Nat) (v : Value), L[i]? = some (some v) → ls[i]? = some (.val (rn g v))
def asc (g : gG) (L : pL) : List (Nat × Value) := (List.range L.length).filterMap (fun i => (L.getD i none).map (fun v => (i, rn g v)))
theorem asc_mem {g : gG} {L : pL} {i : Nat} {v : Value} (h : L[i]? = some (some v)) : (i, rn g v) ∈ asc g L := by
  refine List.mem_filterMap.mpr ⟨i, List.mem_range.mpr (List.getElem?_eq_some_iff.mp h).1, ?_⟩
  simp [List.getD, h]
theorem lvh.has {g : gG} {ls : Array Slot} {nL : Nat} {L : pL} (h : lvh g ls nL L) : lv_has ls nL (asc g L) := by
  refine ⟨h.1, h.2.2.1, fun q hq => ?_⟩
  obtain ⟨i, -, hi⟩ := List.mem_filterMap.mp hq
  obtain ⟨v, hv, rfl⟩ := Option.map_eq_some_iff.mp hi
  refine h.2.2.2 i v ?_
  cases hL : L[i]? with
  | none => simp [List.getD, hL] at hv
  | some o => simp [List.getD, hL] at hv; rw [hv]
theorem kil_some {o : Option Value} {v : Value} (h : kil o = some v) : o = some v ∧ v.category = 1 := by
  cases o with
  | none => cases h
  | some w => cases w <;> first | (cases h; done) | (cases h; exact ⟨rfl, rfl⟩)
theorem st1_len (L : pL) (i : Nat) (v : Value) : (st1 L i v).length = L.length := by cases i <;> simp [st1]
theorem st1_get {L : pL} {i j : Nat} {v w : Value} (hi : i < L.length) (h : (st1 L i v)[j]? = some (some w)) : (j = i ∧ w = v) ∨ (j ≠ i ∧ L[j]? = some (some w) ∧ (j + 1 = i → w.category = 1)) := by
  cases i with
  | zero =>
    by_cases e : j = 0
    · subst e
      simp only [st1] at h
      rw [List.getElem?_set_self hi] at h
      cases h
      exact Or.inl ⟨rfl, rfl⟩
    · simp only [st1] at h
      rw [List.getElem?_set_ne (Ne.symm e)] at h
      exact Or.inr ⟨e, h, fun z => by omega⟩
  | succ i =>
    by_cases e : j = i + 1
    · subst e
      simp only [st1] at h
      rw [List.getElem?_set_self (by simpa using hi)] at h
      cases h
      exact Or.inl ⟨rfl, rfl⟩
    · simp only [st1] at h
      rw [List.getElem?_set_ne (Ne.symm e)] at h
      by_cases e2 : j = i
      · subst e2
        rw [List.getElem?_set_self (by omega)] at h
        obtain ⟨h1, h2⟩ := kil_some (Option.some.inj h)
        refine Or.inr ⟨e, ?_, fun _ => h2⟩
        have hj : j < L.length := by omega
        rw [List.getElem?_eq_getElem hj]
        simp [List.getD, hj] at h1
        rw [h1]
      · rw [List.getElem?_set_ne (Ne.symm e2)] at h
        exact Or.inr ⟨e, h, fun z => absurd (by omega) e2⟩
theorem lvh_st1 {g : gG} {ls ls' : Array Slot} {nL : Nat} {L : pL} {i : Nat} {v : Value} (h : lvh g ls nL L) (hi : i < L.length) (h' : lv_has ls' nL ((i, rn g v) :: (asc g L).filter (fun q => !(q.1 == i) && !(q.1 + 1 == i && q.2.category == 2)))) : lvh g ls' nL (st1 L i v) := by
  refine ⟨h'.1, by rw [st1_len]; exact h.2.1, h'.2.1, fun j w hj => ?_⟩
  rcases st1_get hi hj with ⟨rfl, rfl⟩ | ⟨h1, h2, h3⟩
  · exact h'.2.2 _ List.mem_cons_self
  · refine h'.2.2 (j, rn g w) (List.mem_cons_of_mem _ (List.mem_filter.mpr ⟨asc_mem h2, ?_⟩))
    by_cases e : j + 1 = i
    · simp [h1, rn_cat, h3 e]
    · simp [h1, e]
theorem lvh_st2 {g : gG} {ls ls' : Array Slot} {nL : Nat} {L : pL} {i : Nat} {v : Value} (h : lvh g ls nL L) (hi : i + 1 < L.length) (h' : lv_has ls' nL ((i, rn g v) :: (asc g L).filter (fun q => !(q.1 == i) && (!(q.1 == i + 1) && !(q.1 + 1 == i && q.2.category == 2))))) : lvh g ls' nL (st2 L i v) := by
  refine ⟨h'.1, by unfold st2; rw [List.length_set, st1_len]; exact h.2.1, h'.2.1, fun j w hj => ?_⟩
  have hne : j ≠ i + 1 := by
    rintro rfl
    unfold st2 at hj
    rw [List.getElem?_set_self (by rw [st1_len]; exact hi)] at hj
    cases hj
  unfold st2 at hj
  rw [List.getElem?_set_ne (Ne.symm hne)] at hj
  rcases st1_get (by omega) hj with ⟨rfl, rfl⟩ | ⟨h1, h2, h3⟩
  · exact h'.2.2 _ List.mem_cons_self
  · refine h'.2.2 (j, rn g w) (List.mem_cons_of_mem _ (List.mem_filter.mpr ⟨asc_mem h2, ?_⟩))
    by_cases e : j + 1 = i
    · simp [h1, hne, rn_cat, h3 e]
    · simp [h1, hne, e]
theorem lvh_inc {g : gG} {ls ls' : Array Slot} {nL : Nat} {L : pL} {i : Nat} {x y : Int32} (h : lvh g ls nL L) (hx : L[i]? = some (some (.int x))) (h' : lv_has ls' nL ((i, .int y) :: (asc g L).filter (fun q => !(q.1 == i) && !(q.1 + 1 == i && q.2.category == 2)))) : lvh g ls' nL (L.set i (some (.int y))) := by
  have hi := (List.getElem?_eq_some_iff.mp hx).1
  refine ⟨h'.1, by rw [List.length_set]; exact h.2.1, h'.2.1, fun j w hj => ?_⟩
  by_cases e : j = i
  · subst e
    rw [List.getElem?_set_self hi] at hj
    cases hj
    exact h'.2.2 _ List.mem_cons_self
  · rw [List.getElem?_set_ne (Ne.symm e)] at hj
    refine h'.2.2 (j, rn g w) (List.mem_cons_of_mem _ (List.mem_filter.mpr ⟨asc_mem hj, ?_⟩))
    have h1 := h.2.2.2 j w hj
    have h2 := h.2.2.2 i _ hx
    have h3 : j + 1 = i → ¬ (rn g w).category = 2 := by
      rintro rfl hc
      have := h.2.2.1.1 j _ h1 hc
      rw [h2] at this
      cases this
    by_cases e2 : j + 1 = i
    · simp [e, h3 e2]
    · simp [e, e2]
theorem ent_lvh (g : gG) (vs : List Value) (n : Nat) (h : (ent vs).length ≤ n) : lvh g ((lg_sl (vs.map (rn g)) ++ List.replicate (n - (lg_sl (vs.map (rn g))).length) Slot.unset).toArray) n (entL n vs) := by
  have hlen : ∀ vs : List Value, (lg_sl (vs.map (rn g))).length = (ent vs).length := by
    intro vs
    induction vs with
    | nil => rfl
    | cons v vs ih =>
      by_cases hc : v.category = 2
      · simp [lg_sl, ent, rn_cat, hc] at ih ⊢; exact ih
      · simp [lg_sl, ent, rn_cat, hc] at ih ⊢; exact ih
  have he := lv_entry (vs.map (rn g)) (n := n) (by rw [hlen]; exact h)
  refine ⟨he.1, by simp [entL]; omega, he.2.1, ?_⟩
  have key : ∀ (vs : List Value) (i : Nat) (v : Value) (o : Nat), (ent vs)[i]? = some (some v) → (o + i, rn g v) ∈ lv_args o (vs.map (rn g)) := by
    intro vs
    induction vs with
    | nil => intro i v o h; simp [ent] at h
    | cons a vs ih =>
      intro i v o h
      by_cases hc : a.category = 2
      · simp only [ent, hc, if_true] at h
        simp only [List.map_cons, lv_args, rn_cat, hc, if_true]
        match i, h with
        | 0, h => simp at h; subst h; exact List.mem_cons_self
        | 1, h => simp at h
        | i + 2, h =>
          simp at h
          have := ih i v (o + 2) h
          rw [show o + (i + 2) = o + 2 + i by omega]
          exact List.mem_cons_of_mem _ this
      · simp only [ent, hc, if_false] at h
        simp only [List.map_cons, lv_args, rn_cat, hc, if_false]
        match i, h with
        | 0, h => simp at h; subst h; exact List.mem_cons_self
        | i + 1, h =>
          simp at h
          have := ih i v (o + 1) h
          rw [show o + (i + 1) = o + 1 + i by omega]
          exact List.mem_cons_of_mem _ this
  intro i v hi
  refine he.2.2 (i, rn g v) ?_
  have hi2 : (ent vs)[i]? = some (some v) := by
    by_cases hl : i < (ent vs).length
    · rw [entL, List.getElem?_append_left hl] at hi; exact hi
    · rw [entL, List.getElem?_append_right (by omega)] at hi
      have := List.mem_of_getElem? hi
      rw [List.mem_replicate] at this
      cases this.2
  have := key vs i v 0 hi2
  rwa [Nat.zero_add] at this
end
section
/-! what a method is: its code, its class, how many locals, what it answers, whether it is a constructor -/
abbrev sI : Type := ByteArray × String × Nat × Option FieldType × Bool
def wst (p : Program) (l : Launch) (e : Env) (R : Room) (s : State) (m : MethodId) (args : Array Value) (below : List Frame) (meth : Method) (c : Code) (Q : State → Prop) (g : gG) (nL n0 z0 N Z : Nat) : pK := fun pc L S h => (h.length ≤ N ∧ sz h ≤ Z) ∧ ∀ (H : Heap) (locs : List Loc) (cells slots : Nat) (ls : Array Slot), wR g h H → va_S (nA g) s.heap H locs → lvh g ls nL L → cells + n0 = h.length → slots + z0 = sz h → W p l e R s m args below meth c H locs cells slots Q (F0 m pc ls (S.map (rn g)))
def rOk (mr : Option FieldType) (r : Option Value) (ins : Instr) : Prop := (∃ x ty, r = some (.int x) ∧ ins = .ireturn ∧ mr = some ty ∧ narrow ty (.int x) = .int x) ∨ (∃ x, r = some (.long x) ∧ ins = .lreturn ∧ mr = some .long) ∨ (r = none ∧ ins = .return_ ∧ mr = none) ∨ (∃ v n, r = some v ∧ (v = .null ∨ ∃ k, v = .ref k) ∧ ins = .areturn ∧ mr = some (.object n))
def cPre (g : gG) (h : pH) (U : State) : Prop := wR g h U.heap ∧ cxK g U ∧ cxZ g U U.heap
def cPost (g : gG) (r : Option Value) (h1 : pH) : Array Value → State → Outcome → State → Prop := fun _ st oc t => oc = .returned (r.map (rn g)) ∧ wR g h1 t.heap ∧ va_F (nA g) st t
abbrev mI : Type := Nat → MethodName × sI
def mW (M : mI) (y : Nat) : List Cond := Cond.code (M y).1 (M y).2.1 (M y).2.2.2.1 (M y).2.2.2.2.1 :: cG
/-- the context in which a method's instructions stand -/
def cx (SC : Nat → (Nat → Int32) → Prop) (M : mI) (p : Program) (l : Launch) (e : Env) (R : Room) (s : State) (m : MethodId) (args : Array Value) (below : List Frame) (meth : Method) (c : Code) (Q : State → Prop) (g : gG) (n0 z0 N Z : Nat) (F : pF) (Rt : pR) (si : sI) : Prop :=
  (p.tables.exec = Jvm.exec ∧ c.code = si.1 ∧ c.maxLocals = si.2.2.1 ∧ s.vm.findClass si.2.1 = some m.cls ∧ ∀ w ∈ cG, w.before args s = true) ∧ cxK g s ∧ (cxZ g s s.heap ∧ ∀ n xs, SC n xs → va_X g.2.2.1 n xs s s.heap ∧ g.2.2.1 < g.1) ∧ (g.1 ≤ s.heap.size ∧ N ≤ R.cells + n0 ∧ Z ≤ R.slots + z0 ∧ 1 ≤ R.frames ∧ 32 ≤ R.locals) ∧ (si.2.2.2.2 = true → meth.name = "<init>") ∧
  (∀ y as h r h1, F y as h r h1 → (h.length ≤ h1.length ∧ sz h ≤ sz h1) ∧ ∃ rm : Room, rm.cells = h1.length - h.length ∧ rm.slots = sz h1 - sz h ∧ rm.frames + 1 ≤ R.frames ∧ 64 + rm.locals ≤ R.locals ∧ Met l (M y).1 (mW M y) rm (va_Pc (as.map (rn g)) (cPre g h)) (cPost g r h1) (h1.length - h.length) (sz h1 - sz h) (nA g)) ∧
  (∀ r h, Rt r h → (h.length ≤ N ∧ sz h ≤ Z) ∧ ∀ (pc : Nat) (ins : Instr) (H : Heap) (locs : List Loc) (cells slots : Nat) (ls : Array Slot), wR g h H → va_S (nA g) s.heap H locs → cells + n0 = h.length → slots + z0 = sz h → decode si.1 pc = .ok (ins, 1) → rOk si.2.2.2.1 r ins → W p l e R s m args below meth c H locs cells slots Q (F0 m pc ls ((r.map (rn g)).toList)))
/-- an instruction is sound where it stands -/
def soO (SC : Nat → (Nat → Int32) → Prop) (M : mI) (si : sI) (pc : Nat) (o : pO) : Prop := ∀ (p : Program) (l : Launch) (e : Env) (R : Room) (s : State) (m : MethodId) (args : Array Value) (below : List Frame) (meth : Method) (c : Code) (Q : State → Prop) (g : gG) (n0 z0 N Z : Nat) (F : pF) (Rt : pR), cx SC M p l e R s m args below meth c Q g n0 z0 N Z F Rt si → ∀ (L : pL) (S : List Value) (h : pH), o F Rt (wst p l e R s m args below meth c Q g si.2.2.1 n0 z0 N Z) L S h → ∀ (H : Heap) (locs : List Loc) (cells slots : Nat) (ls : Array Slot), wR g h H → va_S (nA g) s.heap H locs → lvh g ls si.2.2.1 L → cells + n0 = h.length → slots + z0 = sz h → W p l e R s m args below meth c H locs cells slots Q (F0 m pc ls (S.map (rn g)))
def okA (SC : Nat → (Nat → Int32) → Prop) (M : mI) (si : sI) (pc : Nat) (o : pO) : Prop := (moO o ∧ leO o) ∧ soO SC M si pc o
section SO
variable {SC : Nat → (Nat → Int32) → Prop} {M : mI} {cc : ByteArray} {own : String} {nL : Nat} {mr : Option FieldType} {ini : Bool} {pc : Nat}
theorem k_iconst {n : Int} (v : Int32) (hd : decode cc pc = .ok (.iconst n, 1)) (hv : Int32.ofInt n = v) : okA SC M (cc, own, nL, mr, ini) pc (o_const (.int v) (pc + 1)) := by
  refine ⟨m_const _ _, ?_⟩
  intro p l e R s m args below meth c Q g n0 z0 N Z F Rt C L S h ho H locs cells slots ls a1 a2 a3 a4 a5
  exact lv_iconst C.1.1 C.1.2.1 hd hv (ho.2 H locs cells slots ls a1 a2 a3 a4 a5)
theorem k_bipush {n : Int} (v : Int32) (hd : decode cc pc = .ok (.bipush n, 2)) (hv : (Int8.ofInt n).toInt32 = v) : okA SC M (cc, own, nL, mr, ini) pc (o_const (.int v) (pc + 2)) := by
  refine ⟨m_const _ _, ?_⟩
  intro p l e R s m args below meth c Q g n0 z0 N Z F Rt C L S h ho H locs cells slots ls a1 a2 a3 a4 a5
  exact lv_bipush C.1.1 C.1.2.1 hd hv (ho.2 H locs cells slots ls a1 a2 a3 a4 a5)
theorem k_sipush {n : Int} (v : Int32) (hd : decode cc pc = .ok (.sipush n, 3)) (hv : (Int16.ofInt n).toInt32 = v) : okA SC M (cc, own, nL, mr, ini) pc (o_const (.int v) (pc + 3)) := by
  refine ⟨m_const _ _, ?_⟩
  intro p l e R s m args below meth c Q g n0 z0 N Z F Rt C L S h ho H locs cells slots ls a1 a2 a3 a4 a5
  exact lv_sipush C.1.1 C.1.2.1 hd hv (ho.2 H locs cells slots ls a1 a2 a3 a4 a5)
theorem k_lconst {n : Fin 2} (v : Int64) (hd : decode cc pc = .ok (.lconst n, 1)) (hv : Int64.ofNat (n : Nat) = v) : okA SC M (cc, own, nL, mr, ini) pc (o_const (.long v) (pc + 1)) := by
  refine ⟨m_const _ _, ?_⟩
  intro p l e R s m args below meth c Q g n0 z0 N Z F Rt C L S h ho H locs cells slots ls a1 a2 a3 a4 a5
  exact lv_lconst C.1.1 C.1.2.1 hd hv (ho.2 H locs cells slots ls a1 a2 a3 a4 a5)
theorem k_ldc {idx : Nat} {v : Int32} (hw : Cond.constant own idx v ∈ cG) (hd : decode cc pc = .ok (.ldc idx, 2)) : okA SC M (cc, own, nL, mr, ini) pc (o_const (.int v) (pc + 2)) := by
  refine ⟨m_const _ _, ?_⟩
  intro p l e R s m args below meth c Q g n0 z0 N Z F Rt C L S h ho H locs cells slots ls a1 a2 a3 a4 a5
  exact lv_ldc C.1.1 C.1.2.1 C.1.2.2.2.1 (C.1.2.2.2.2 _ hw) hd (ho.2 H locs cells slots ls a1 a2 a3 a4 a5)
theorem k_ldcw {idx : Nat} {v : Int32} (hw : Cond.constant own idx v ∈ cG) (hd : decode cc pc = .ok (.ldc_w idx, 3)) : okA SC M (cc, own, nL, mr, ini) pc (o_const (.int v) (pc + 3)) := by
  refine ⟨m_const _ _, ?_⟩
  intro p l e R s m args below meth c Q g n0 z0 N Z F Rt C L S h ho H locs cells slots ls a1 a2 a3 a4 a5
  exact lv_ldcw C.1.1 C.1.2.1 C.1.2.2.2.1 (C.1.2.2.2.2 _ hw) hd (ho.2 H locs cells slots ls a1 a2 a3 a4 a5)
theorem k_ldc2 {idx : Nat} {v : Int64} (hw : Cond.constantLong own idx v ∈ cG) (hd : decode cc pc = .ok (.ldc2_w idx, 3)) : okA SC M (cc, own, nL, mr, ini) pc (o_const (.long v) (pc + 3)) := by
  refine ⟨m_const _ _, ?_⟩
  intro p l e R s m args below meth c Q g n0 z0 N Z F Rt C L S h ho H locs cells slots ls a1 a2 a3 a4 a5
  exact lv_ldc2 C.1.1 C.1.2.1 C.1.2.2.2.1 (C.1.2.2.2.2 _ hw) hd (ho.2 H locs cells slots ls a1 a2 a3 a4 a5)
theorem k_null (hd : decode cc pc = .ok (.aconst_null, 1)) : okA SC M (cc, own, nL, mr, ini) pc (o_const .null (pc + 1)) := by
  refine ⟨m_const _ _, ?_⟩
  intro p l e R s m args below meth c Q g n0 z0 N Z F Rt C L S h ho H locs cells slots ls a1 a2 a3 a4 a5
  exact lv_null C.1.1 C.1.2.1 hd (ho.2 H locs cells slots ls a1 a2 a3 a4 a5)
theorem k_ilN {i : Fin 4} {k : Nat} (hd : decode cc pc = .ok (.iload_n i, 1)) (hi : (i : Nat) = k) : okA SC M (cc, own, nL, mr, ini) pc (o_il k (pc + 1)) := by
  refine ⟨m_il _ _, ?_⟩
  intro p l e R s m args below meth c Q g n0 z0 N Z F Rt C L S h ⟨x, hL, ho⟩ H locs cells slots ls a1 a2 a3 a4 a5
  exact lv_iload_n C.1.1 C.1.2.1 hd hi (a3.2.2.2 _ _ hL) (ho.2 H locs cells slots ls a1 a2 a3 a4 a5)
theorem k_il {k : Nat} (hd : decode cc pc = .ok (.iload k, 2)) : okA SC M (cc, own, nL, mr, ini) pc (o_il k (pc + 2)) := by
  refine ⟨m_il _ _, ?_⟩
  intro p l e R s m args below meth c Q g n0 z0 N Z F Rt C L S h ⟨x, hL, ho⟩ H locs cells slots ls a1 a2 a3 a4 a5
  exact lv_iload C.1.1 C.1.2.1 hd (a3.2.2.2 _ _ hL) (ho.2 H locs cells slots ls a1 a2 a3 a4 a5)
theorem k_llN {i : Fin 4} {k : Nat} (hd : decode cc pc = .ok (.lload_n i, 1)) (hi : (i : Nat) = k) : okA SC M (cc, own, nL, mr, ini) pc (o_ll k (pc + 1)) := by
  refine ⟨m_ll _ _, ?_⟩
  intro p l e R s m args below meth c Q g n0 z0 N Z F Rt C L S h ⟨x, hL, ho⟩ H locs cells slots ls a1 a2 a3 a4 a5
  exact lv_lload_n C.1.1 C.1.2.1 hd hi (a3.2.2.2 _ _ hL) (ho.2 H locs cells slots ls a1 a2 a3 a4 a5)
theorem k_ll {k : Nat} (hd : decode cc pc = .ok (.lload k, 2)) : okA SC M (cc, own, nL, mr, ini) pc (o_ll k (pc + 2)) := by
  refine ⟨m_ll _ _, ?_⟩
  intro p l e R s m args below meth c Q g n0 z0 N Z F Rt C L S h ⟨x, hL, ho⟩ H locs cells slots ls a1 a2 a3 a4 a5
  exact lv_lload C.1.1 C.1.2.1 hd (a3.2.2.2 _ _ hL) (ho.2 H locs cells slots ls a1 a2 a3 a4 a5)
theorem k_alN {i : Fin 4} {k : Nat} (hd : decode cc pc = .ok (.aload_n i, 1)) (hi : (i : Nat) = k) : okA SC M (cc, own, nL, mr, ini) pc (o_al k (pc + 1)) := by
  refine ⟨m_al _ _, ?_⟩
  intro p l e R s m args below meth c Q g n0 z0 N Z F Rt C L S h ⟨x, hL, hr, ho⟩ H locs cells slots ls a1 a2 a3 a4 a5
  have hg := a3.2.2.2 _ _ hL
  have hk := ho.2 H locs cells slots ls a1 a2 a3 a4 a5
  cases x with
  | ref q => exact lv_aload_n C.1.1 C.1.2.1 hd hi hg hk
  | null => exact lv_aload_nN C.1.1 C.1.2.1 hd hi hg hk
  | float q => exact lv_aload_n C.1.1 C.1.2.1 hd hi hg hk
  | _ => cases hr
theorem k_al {k : Nat} (hd : decode cc pc = .ok (.aload k, 2)) : okA SC M (cc, own, nL, mr, ini) pc (o_al k (pc + 2)) := by
  refine ⟨m_al _ _, ?_⟩
  intro p l e R s m args below meth c Q g n0 z0 N Z F Rt C L S h ⟨x, hL, hr, ho⟩ H locs cells slots ls a1 a2 a3 a4 a5
  have hg := a3.2.2.2 _ _ hL
  have hk := ho.2 H locs cells slots ls a1 a2 a3 a4 a5
  cases x with
  | ref q => exact lv_aload C.1.1 C.1.2.1 hd hg hk
  | null => exact lv_aloadN C.1.1 C.1.2.1 hd hg hk
  | float q => exact lv_aload C.1.1 C.1.2.1 hd hg hk
  | _ => cases hr
theorem k_isN {i : Fin 4} {k : Nat} (hd : decode cc pc = .ok (.istore_n i, 1)) (hi : (i : Nat) = k) : okA SC M (cc, own, nL, mr, ini) pc (o_is k (pc + 1)) := by
  refine ⟨m_is _ _, ?_⟩
  rintro p l e R s m args below meth c Q g n0 z0 N Z F Rt C L S h ⟨x, S', rfl, hn, ho⟩ H locs cells slots ls a1 a2 a3 a4 a5
  exact lv_istore_n C.1.1 C.1.2.1 hd hi a3.has (by rw [← a3.2.1]; exact hn) rfl (fun ls' h' => ho.2 H locs cells slots ls' a1 a2 (lvh_st1 a3 hn h') a4 a5)
theorem k_is {k : Nat} (hd : decode cc pc = .ok (.istore k, 2)) : okA SC M (cc, own, nL, mr, ini) pc (o_is k (pc + 2)) := by
  refine ⟨m_is _ _, ?_⟩
  rintro p l e R s m args below meth c Q g n0 z0 N Z F Rt C L S h ⟨x, S', rfl, hn, ho⟩ H locs cells slots ls a1 a2 a3 a4 a5
  exact lv_istore C.1.1 C.1.2.1 hd a3.has (by rw [← a3.2.1]; exact hn) rfl (fun ls' h' => ho.2 H locs cells slots ls' a1 a2 (lvh_st1 a3 hn h') a4 a5)
theorem k_lsN {i : Fin 4} {k : Nat} (hd : decode cc pc = .ok (.lstore_n i, 1)) (hi : (i : Nat) = k) : okA SC M (cc, own, nL, mr, ini) pc (o_ls k (pc + 1)) := by
  refine ⟨m_ls _ _, ?_⟩
  rintro p l e R s m args below meth c Q g n0 z0 N Z F Rt C L S h ⟨x, S', rfl, hn, ho⟩ H locs cells slots ls a1 a2 a3 a4 a5
  exact lv_lstore_n C.1.1 C.1.2.1 hd hi a3.has (by rw [← a3.2.1]; exact hn) rfl (fun ls' h' => ho.2 H locs cells slots ls' a1 a2 (lvh_st2 a3 hn h') a4 a5)
theorem k_asN {i : Fin 4} {k : Nat} (hd : decode cc pc = .ok (.astore_n i, 1)) (hi : (i : Nat) = k) : okA SC M (cc, own, nL, mr, ini) pc (o_as k (pc + 1)) := by
  refine ⟨m_as _ _, ?_⟩
  rintro p l e R s m args below meth c Q g n0 z0 N Z F Rt C L S h ⟨x, S', rfl, hr, hn, ho⟩ H locs cells slots ls a1 a2 a3 a4 a5
  have hk := fun (ls' : Array Slot) (h' : lv_has ls' nL ((k, rn g x) :: (asc g L).filter (fun q => !(q.1 == k) && !(q.1 + 1 == k && q.2.category == 2)))) => ho.2 H locs cells slots ls' a1 a2 (lvh_st1 a3 hn h') a4 a5
  cases x with
  | ref q => exact lv_astore_n C.1.1 C.1.2.1 hd hi a3.has (by rw [← a3.2.1]; exact hn) rfl hk
  | null => exact lv_astore_nN C.1.1 C.1.2.1 hd hi a3.has (by rw [← a3.2.1]; exact hn) rfl hk
  | float q => exact lv_astore_n C.1.1 C.1.2.1 hd hi a3.has (by rw [← a3.2.1]; exact hn) rfl hk
  | _ => cases hr
theorem k_as {k : Nat} (hd : decode cc pc = .ok (.astore k, 2)) : okA SC M (cc, own, nL, mr, ini) pc (o_as k (pc + 2)) := by
  refine ⟨m_as _ _, ?_⟩
  rintro p l e R s m args below meth c Q g n0 z0 N Z F Rt C L S h ⟨x, S', rfl, hr, hn, ho⟩ H locs cells slots ls a1 a2 a3 a4 a5
  have hk := fun (ls' : Array Slot) (h' : lv_has ls' nL ((k, rn g x) :: (asc g L).filter (fun q => !(q.1 == k) && !(q.1 + 1 == k && q.2.category == 2)))) => ho.2 H locs cells slots ls' a1 a2 (lvh_st1 a3 hn h') a4 a5
  cases x with
  | ref q => exact lv_astore C.1.1 C.1.2.1 hd a3.has (by rw [← a3.2.1]; exact hn) rfl hk
  | null => exact lv_astoreN C.1.1 C.1.2.1 hd a3.has (by rw [← a3.2.1]; exact hn) rfl hk
  | float q => exact lv_astore C.1.1 C.1.2.1 hd a3.has (by rw [← a3.2.1]; exact hn) rfl hk
  | _ => cases hr
theorem k_inc {k : Nat} {n : Int} (v : Int32) (hd : decode cc pc = .ok (.iinc k n, 3)) (hv : Int32.ofInt n = v) : okA SC M (cc, own, nL, mr, ini) pc (o_inc k v (pc + 3)) := by
  refine ⟨m_inc _ _ _, ?_⟩
  rintro p l e R s m args below meth c Q g n0 z0 N Z F Rt C L S h ⟨x, hL, ho⟩ H locs cells slots ls a1 a2 a3 a4 a5
  subst hv
  obtain ⟨i, hi⟩ := List.getElem?_of_mem (asc_mem (g := g) hL)
  exact lv_iinc C.1.1 C.1.2.1 hd a3.has hi rfl (by rw [← a3.2.1]; exact (List.getElem?_eq_some_iff.mp hL).1) rfl (fun ls' h' => ho.2 H locs cells slots ls' a1 a2 (lvh_inc a3 hL h') a4 a5)
theorem k_iadd (hd : decode cc pc = .ok (.iadd, 1)) : okA SC M (cc, own, nL, mr, ini) pc (o_bin (fun x y => x + y) (pc + 1)) := by
  refine ⟨m_bin _ _, ?_⟩
  rintro p l e R s m args below meth c Q g n0 z0 N Z F Rt C L S h ⟨x, y, S', rfl, ho⟩ H locs cells slots ls a1 a2 a3 a4 a5
  exact lv_iadd C.1.1 C.1.2.1 hd (ho.2 H locs cells slots ls a1 a2 a3 a4 a5)
theorem k_isub (hd : decode cc pc = .ok (.isub, 1)) : okA SC M (cc, own, nL, mr, ini) pc (o_bin (fun x y => x - y) (pc + 1)) := by
  refine ⟨m_bin _ _, ?_⟩
  rintro p l e R s m args below meth c Q g n0 z0 N Z F Rt C L S h ⟨x, y, S', rfl, ho⟩ H locs cells slots ls a1 a2 a3 a4 a5
  exact lv_isub C.1.1 C.1.2.1 hd (ho.2 H locs cells slots ls a1 a2 a3 a4 a5)
theorem k_imul (hd : decode cc pc = .ok (.imul, 1)) : okA SC M (cc, own, nL, mr, ini) pc (o_bin (fun x y => x * y) (pc + 1)) := by
  refine ⟨m_bin _ _, ?_⟩
  rintro p l e R s m args below meth c Q g n0 z0 N Z F Rt C L S h ⟨x, y, S', rfl, ho⟩ H locs cells slots ls a1 a2 a3 a4 a5
  exact lv_imul C.1.1 C.1.2.1 hd (ho.2 H locs cells slots ls a1 a2 a3 a4 a5)
theorem k_iand (hd : decode cc pc = .ok (.iand, 1)) : okA SC M (cc, own, nL, mr, ini) pc (o_bin (fun x y => x &&& y) (pc + 1)) := by
  refine ⟨m_bin _ _, ?_⟩
  rintro p l e R s m args below meth c Q g n0 z0 N Z F Rt C L S h ⟨x, y, S', rfl, ho⟩ H locs cells slots ls a1 a2 a3 a4 a5
  exact lv_iand C.1.1 C.1.2.1 hd (ho.2 H locs cells slots ls a1 a2 a3 a4 a5)
theorem k_ior (hd : decode cc pc = .ok (.ior, 1)) : okA SC M (cc, own, nL, mr, ini) pc (o_bin (fun x y => x ||| y) (pc + 1)) := by
  refine ⟨m_bin _ _, ?_⟩
  rintro p l e R s m args below meth c Q g n0 z0 N Z F Rt C L S h ⟨x, y, S', rfl, ho⟩ H locs cells slots ls a1 a2 a3 a4 a5
  exact lv_ior C.1.1 C.1.2.1 hd (ho.2 H locs cells slots ls a1 a2 a3 a4 a5)
theorem k_ishl (hd : decode cc pc = .ok (.ishl, 1)) : okA SC M (cc, own, nL, mr, ini) pc (o_bin (fun x y => x <<< (y &&& 31)) (pc + 1)) := by
  refine ⟨m_bin _ _, ?_⟩
  rintro p l e R s m args below meth c Q g n0 z0 N Z F Rt C L S h ⟨x, y, S', rfl, ho⟩ H locs cells slots ls a1 a2 a3 a4 a5
  exact lv_ishl C.1.1 C.1.2.1 hd (ho.2 H locs cells slots ls a1 a2 a3 a4 a5)
theorem k_ishr (hd : decode cc pc = .ok (.ishr, 1)) : okA SC M (cc, own, nL, mr, ini) pc (o_bin (fun x y => x >>> (y &&& 31)) (pc + 1)) := by
  refine ⟨m_bin _ _, ?_⟩
  rintro p l e R s m args below meth c Q g n0 z0 N Z F Rt C L S h ⟨x, y, S', rfl, ho⟩ H locs cells slots ls a1 a2 a3 a4 a5
  exact lv_ishr C.1.1 C.1.2.1 hd (ho.2 H locs cells slots ls a1 a2 a3 a4 a5)
theorem k_iushr (hd : decode cc pc = .ok (.iushr, 1)) : okA SC M (cc, own, nL, mr, ini) pc (o_bin (fun x y => (x.toUInt32 >>> (y.toUInt32 &&& Int32.toUInt32 31)).toInt32) (pc + 1)) := by
  refine ⟨m_bin _ _, ?_⟩
  rintro p l e R s m args below meth c Q g n0 z0 N Z F Rt C L S h ⟨x, y, S', rfl, ho⟩ H locs cells slots ls a1 a2 a3 a4 a5
  exact lv_iushr C.1.1 C.1.2.1 hd rfl (ho.2 H locs cells slots ls a1 a2 a3 a4 a5)
theorem k_ladd (hd : decode cc pc = .ok (.ladd, 1)) : okA SC M (cc, own, nL, mr, ini) pc (o_lbin (fun x y => x + y) (pc + 1)) := by
  refine ⟨m_lbin _ _, ?_⟩
  rintro p l e R s m args below meth c Q g n0 z0 N Z F Rt C L S h ⟨x, y, S', rfl, ho⟩ H locs cells slots ls a1 a2 a3 a4 a5
  exact lv_ladd C.1.1 C.1.2.1 hd (ho.2 H locs cells slots ls a1 a2 a3 a4 a5)
theorem k_lmul (hd : decode cc pc = .ok (.lmul, 1)) : okA SC M (cc, own, nL, mr, ini) pc (o_lbin (fun x y => x * y) (pc + 1)) := by
  refine ⟨m_lbin _ _, ?_⟩
  rintro p l e R s m args below meth c Q g n0 z0 N Z F Rt C L S h ⟨x, y, S', rfl, ho⟩ H locs cells slots ls a1 a2 a3 a4 a5
  exact lv_lmul C.1.1 C.1.2.1 hd (ho.2 H locs cells slots ls a1 a2 a3 a4 a5)
theorem k_land (hd : decode cc pc = .ok (.land, 1)) : okA SC M (cc, own, nL, mr, ini) pc (o_lbin (fun x y => x &&& y) (pc + 1)) := by
  refine ⟨m_lbin _ _, ?_⟩
  rintro p l e R s m args below meth c Q g n0 z0 N Z F Rt C L S h ⟨x, y, S', rfl, ho⟩ H locs cells slots ls a1 a2 a3 a4 a5
  exact lv_land C.1.1 C.1.2.1 hd (ho.2 H locs cells slots ls a1 a2 a3 a4 a5)
theorem k_idiv (hd : decode cc pc = .ok (.idiv, 1)) : okA SC M (cc, own, nL, mr, ini) pc (o_binz (fun x y => x / y) (pc + 1)) := by
  refine ⟨m_binz _ _, ?_⟩
  rintro p l e R s m args below meth c Q g n0 z0 N Z F Rt C L S h ⟨x, y, S', rfl, hy, ho⟩ H locs cells slots ls a1 a2 a3 a4 a5
  exact lv_idiv C.1.1 C.1.2.1 hd hy (ho.2 H locs cells slots ls a1 a2 a3 a4 a5)
theorem k_irem (hd : decode cc pc = .ok (.irem, 1)) : okA SC M (cc, own, nL, mr, ini) pc (o_binz (fun x y => x - x / y * y) (pc + 1)) := by
  refine ⟨m_binz _ _, ?_⟩
  rintro p l e R s m args below meth c Q g n0 z0 N Z F Rt C L S h ⟨x, y, S', rfl, hy, ho⟩ H locs cells slots ls a1 a2 a3 a4 a5
  exact lv_irem C.1.1 C.1.2.1 hd hy (ho.2 H locs cells slots ls a1 a2 a3 a4 a5)
theorem k_lcmp (hd : decode cc pc = .ok (.lcmp, 1)) : okA SC M (cc, own, nL, mr, ini) pc (o_lcmp (pc + 1)) := by
  refine ⟨m_lcmp _, ?_⟩
  rintro p l e R s m args below meth c Q g n0 z0 N Z F Rt C L S h ⟨x, y, S', rfl, ho⟩ H locs cells slots ls a1 a2 a3 a4 a5
  exact W.lcmp C.1.1 C.1.2.1 hd (ho.2 H locs cells slots ls a1 a2 a3 a4 a5)
theorem k_i2l (hd : decode cc pc = .ok (.i2l, 1)) : okA SC M (cc, own, nL, mr, ini) pc (o_i2l (pc + 1)) := by
  refine ⟨m_i2l _, ?_⟩
  rintro p l e R s m args below meth c Q g n0 z0 N Z F Rt C L S h ⟨x, S', rfl, ho⟩ H locs cells slots ls a1 a2 a3 a4 a5
  exact lv_i2l C.1.1 C.1.2.1 hd rfl (ho.2 H locs cells slots ls a1 a2 a3 a4 a5)
theorem k_l2i (hd : decode cc pc = .ok (.l2i, 1)) : okA SC M (cc, own, nL, mr, ini) pc (o_l2i (pc + 1)) := by
  refine ⟨m_l2i _, ?_⟩
  rintro p l e R s m args below meth c Q g n0 z0 N Z F Rt C L S h ⟨x, S', rfl, ho⟩ H locs cells slots ls a1 a2 a3 a4 a5
  exact lv_l2i C.1.1 C.1.2.1 hd rfl (ho.2 H locs cells slots ls a1 a2 a3 a4 a5)
theorem k_dup (hd : decode cc pc = .ok (.dup, 1)) : okA SC M (cc, own, nL, mr, ini) pc (o_dup (pc + 1)) := by
  refine ⟨m_dup _, ?_⟩
  rintro p l e R s m args below meth c Q g n0 z0 N Z F Rt C L S h ⟨x, S', rfl, hc, ho⟩ H locs cells slots ls a1 a2 a3 a4 a5
  exact lv_dup C.1.1 C.1.2.1 hd (by rw [rn_cat]; exact hc) (ho.2 H locs cells slots ls a1 a2 a3 a4 a5)
theorem k_dup2 (hd : decode cc pc = .ok (.dup2, 1)) : okA SC M (cc, own, nL, mr, ini) pc (o_dup2 (pc + 1)) := by
  refine ⟨m_dup2 _, ?_⟩
  rintro p l e R s m args below meth c Q g n0 z0 N Z F Rt C L S h ⟨x, y, S', rfl, hc, hc2, ho⟩ H locs cells slots ls a1 a2 a3 a4 a5
  exact lv_dup2_11 C.1.1 C.1.2.1 hd (by rw [rn_cat]; exact hc) (by rw [rn_cat]; exact hc2) (ho.2 H locs cells slots ls a1 a2 a3 a4 a5)
theorem k_pop (hd : decode cc pc = .ok (.pop, 1)) : okA SC M (cc, own, nL, mr, ini) pc (o_pop (pc + 1)) := by
  refine ⟨m_pop _, ?_⟩
  rintro p l e R s m args below meth c Q g n0 z0 N Z F Rt C L S h ⟨x, S', rfl, hc, ho⟩ H locs cells slots ls a1 a2 a3 a4 a5
  exact lv_pop C.1.1 C.1.2.1 hd (by rw [rn_cat]; exact hc) (ho.2 H locs cells slots ls a1 a2 a3 a4 a5)
theorem k_goto {off : Int} {tg : Nat} (hd : decode cc pc = .ok (.goto off, 3)) (ht : (pc : Int) + off = (tg : Int)) : okA SC M (cc, own, nL, mr, ini) pc (o_goto tg) := by
  refine ⟨m_goto _, ?_⟩
  rintro p l e R s m args below meth c Q g n0 z0 N Z F Rt C L S h ho H locs cells slots ls a1 a2 a3 a4 a5
  exact lv_goto C.1.1 C.1.2.1 hd ht (ho.2 H locs cells slots ls a1 a2 a3 a4 a5)
theorem k_if_eq {off : Int} {tg : Nat} (hd : decode cc pc = .ok (.ifCond .eq off, 3)) (ht : (pc : Int) + off = (tg : Int)) : okA SC M (cc, own, nL, mr, ini) pc (o_if (fun x => x = 0) tg (pc + 3)) := by
  refine ⟨m_if _ _ _, ?_⟩
  rintro p l e R s m args below meth c Q g n0 z0 N Z F Rt C L S h ⟨x, S', rfl, h1, h2⟩ H locs cells slots ls a1 a2 a3 a4 a5
  exact lv_if_eq C.1.1 C.1.2.1 hd ht (fun q => (h1 q).2 H locs cells slots ls a1 a2 a3 a4 a5) (fun q => (h2 q).2 H locs cells slots ls a1 a2 a3 a4 a5)
theorem k_icmp_eq {off : Int} {tg : Nat} (hd : decode cc pc = .ok (.if_icmp .eq off, 3)) (ht : (pc : Int) + off = (tg : Int)) : okA SC M (cc, own, nL, mr, ini) pc (o_cmp (fun x y => x = y) tg (pc + 3)) := by
  refine ⟨m_cmp _ _ _, ?_⟩
  rintro p l e R s m args below meth c Q g n0 z0 N Z F Rt C L S h ⟨x, y, S', rfl, h1, h2⟩ H locs cells slots ls a1 a2 a3 a4 a5
  exact lv_icmp_eq C.1.1 C.1.2.1 hd ht (fun q => (h1 q).2 H locs cells slots ls a1 a2 a3 a4 a5) (fun q => (h2 q).2 H locs cells slots ls a1 a2 a3 a4 a5)
theorem k_if_ne {off : Int} {tg : Nat} (hd : decode cc pc = .ok (.ifCond .ne off, 3)) (ht : (pc : Int) + off = (tg : Int)) : okA SC M (cc, own, nL, mr, ini) pc (o_if (fun x => ¬ x = 0) tg (pc + 3)) := by
  refine ⟨m_if _ _ _, ?_⟩
  rintro p l e R s m args below meth c Q g n0 z0 N Z F Rt C L S h ⟨x, S', rfl, h1, h2⟩ H locs cells slots ls a1 a2 a3 a4 a5
  exact lv_if_ne C.1.1 C.1.2.1 hd ht (fun q => (h1 q).2 H locs cells slots ls a1 a2 a3 a4 a5) (fun q => (h2 (fun z => z q)).2 H locs cells slots ls a1 a2 a3 a4 a5)
theorem k_icmp_ne {off : Int} {tg : Nat} (hd : decode cc pc = .ok (.if_icmp .ne off, 3)) (ht : (pc : Int) + off = (tg : Int)) : okA SC M (cc, own, nL, mr, ini) pc (o_cmp (fun x y => ¬ x = y) tg (pc + 3)) := by
  refine ⟨m_cmp _ _ _, ?_⟩
  rintro p l e R s m args below meth c Q g n0 z0 N Z F Rt C L S h ⟨x, y, S', rfl, h1, h2⟩ H locs cells slots ls a1 a2 a3 a4 a5
  exact lv_icmp_ne C.1.1 C.1.2.1 hd ht (fun q => (h1 q).2 H locs cells slots ls a1 a2 a3 a4 a5) (fun q => (h2 (fun z => z q)).2 H locs cells slots ls a1 a2 a3 a4 a5)
theorem k_if_lt {off : Int} {tg : Nat} (hd : decode cc pc = .ok (.ifCond .lt off, 3)) (ht : (pc : Int) + off = (tg : Int)) : okA SC M (cc, own, nL, mr, ini) pc (o_if (fun x => x < 0) tg (pc + 3)) := by
  refine ⟨m_if _ _ _, ?_⟩
  rintro p l e R s m args below meth c Q g n0 z0 N Z F Rt C L S h ⟨x, S', rfl, h1, h2⟩ H locs cells slots ls a1 a2 a3 a4 a5
  exact lv_if_lt C.1.1 C.1.2.1 hd ht (fun q => (h1 q).2 H locs cells slots ls a1 a2 a3 a4 a5) (fun q => (h2 q).2 H locs cells slots ls a1 a2 a3 a4 a5)
theorem k_icmp_lt {off : Int} {tg : Nat} (hd : decode cc pc = .ok (.if_icmp .lt off, 3)) (ht : (pc : Int) + off = (tg : Int)) : okA SC M (cc, own, nL, mr, ini) pc (o_cmp (fun x y => x < y) tg (pc + 3)) := by
  refine ⟨m_cmp _ _ _, ?_⟩
  rintro p l e R s m args below meth c Q g n0 z0 N Z F Rt C L S h ⟨x, y, S', rfl, h1, h2⟩ H locs cells slots ls a1 a2 a3 a4 a5
  exact lv_icmp_lt C.1.1 C.1.2.1 hd ht (fun q => (h1 q).2 H locs cells slots ls a1 a2 a3 a4 a5) (fun q => (h2 q).2 H locs cells slots ls a1 a2 a3 a4 a5)
theorem k_if_ge {off : Int} {tg : Nat} (hd : decode cc pc = .ok (.ifCond .ge off, 3)) (ht : (pc : Int) + off = (tg : Int)) : okA SC M (cc, own, nL, mr, ini) pc (o_if (fun x => 0 ≤ x) tg (pc + 3)) := by
  refine ⟨m_if _ _ _, ?_⟩
  rintro p l e R s m args below meth c Q g n0 z0 N Z F Rt C L S h ⟨x, S', rfl, h1, h2⟩ H locs cells slots ls a1 a2 a3 a4 a5
  exact lv_if_ge C.1.1 C.1.2.1 hd ht (fun q => (h1 q).2 H locs cells slots ls a1 a2 a3 a4 a5) (fun q => (h2 q).2 H locs cells slots ls a1 a2 a3 a4 a5)
theorem k_icmp_ge {off : Int} {tg : Nat} (hd : decode cc pc = .ok (.if_icmp .ge off, 3)) (ht : (pc : Int) + off = (tg : Int)) : okA SC M (cc, own, nL, mr, ini) pc (o_cmp (fun x y => y ≤ x) tg (pc + 3)) := by
  refine ⟨m_cmp _ _ _, ?_⟩
  rintro p l e R s m args below meth c Q g n0 z0 N Z F Rt C L S h ⟨x, y, S', rfl, h1, h2⟩ H locs cells slots ls a1 a2 a3 a4 a5
  exact lv_icmp_ge C.1.1 C.1.2.1 hd ht (fun q => (h1 q).2 H locs cells slots ls a1 a2 a3 a4 a5) (fun q => (h2 q).2 H locs cells slots ls a1 a2 a3 a4 a5)
theorem k_if_gt {off : Int} {tg : Nat} (hd : decode cc pc = .ok (.ifCond .gt off, 3)) (ht : (pc : Int) + off = (tg : Int)) : okA SC M (cc, own, nL, mr, ini) pc (o_if (fun x => 0 < x) tg (pc + 3)) := by
  refine ⟨m_if _ _ _, ?_⟩
  rintro p l e R s m args below meth c Q g n0 z0 N Z F Rt C L S h ⟨x, S', rfl, h1, h2⟩ H locs cells slots ls a1 a2 a3 a4 a5
  exact lv_if_gt C.1.1 C.1.2.1 hd ht (fun q => (h1 q).2 H locs cells slots ls a1 a2 a3 a4 a5) (fun q => (h2 q).2 H locs cells slots ls a1 a2 a3 a4 a5)
theorem k_icmp_gt {off : Int} {tg : Nat} (hd : decode cc pc = .ok (.if_icmp .gt off, 3)) (ht : (pc : Int) + off = (tg : Int)) : okA SC M (cc, own, nL, mr, ini) pc (o_cmp (fun x y => y < x) tg (pc + 3)) := by
  refine ⟨m_cmp _ _ _, ?_⟩
  rintro p l e R s m args below meth c Q g n0 z0 N Z F Rt C L S h ⟨x, y, S', rfl, h1, h2⟩ H locs cells slots ls a1 a2 a3 a4 a5
  exact lv_icmp_gt C.1.1 C.1.2.1 hd ht (fun q => (h1 q).2 H locs cells slots ls a1 a2 a3 a4 a5) (fun q => (h2 q).2 H locs cells slots ls a1 a2 a3 a4 a5)
theorem k_if_le {off : Int} {tg : Nat} (hd : decode cc pc = .ok (.ifCond .le off, 3)) (ht : (pc : Int) + off = (tg : Int)) : okA SC M (cc, own, nL, mr, ini) pc (o_if (fun x => x ≤ 0) tg (pc + 3)) := by
  refine ⟨m_if _ _ _, ?_⟩
  rintro p l e R s m args below meth c Q g n0 z0 N Z F Rt C L S h ⟨x, S', rfl, h1, h2⟩ H locs cells slots ls a1 a2 a3 a4 a5
  exact lv_if_le C.1.1 C.1.2.1 hd ht (fun q => (h1 q).2 H locs cells slots ls a1 a2 a3 a4 a5) (fun q => (h2 q).2 H locs cells slots ls a1 a2 a3 a4 a5)
theorem k_icmp_le {off : Int} {tg : Nat} (hd : decode cc pc = .ok (.if_icmp .le off, 3)) (ht : (pc : Int) + off = (tg : Int)) : okA SC M (cc, own, nL, mr, ini) pc (o_cmp (fun x y => x ≤ y) tg (pc + 3)) := by
  refine ⟨m_cmp _ _ _, ?_⟩
  rintro p l e R s m args below meth c Q g n0 z0 N Z F Rt C L S h ⟨x, y, S', rfl, h1, h2⟩ H locs cells slots ls a1 a2 a3 a4 a5
  exact lv_icmp_le C.1.1 C.1.2.1 hd ht (fun q => (h1 q).2 H locs cells slots ls a1 a2 a3 a4 a5) (fun q => (h2 q).2 H locs cells slots ls a1 a2 a3 a4 a5)
theorem k_ifnull {off : Int} {tg : Nat} (hd : decode cc pc = .ok (.ifnull off, 3)) (ht : (pc : Int) + off = (tg : Int)) : okA SC M (cc, own, nL, mr, ini) pc (o_nul tg (pc + 3)) := by
  refine ⟨m_nul _ _, ?_⟩
  rintro p l e R s m args below meth c Q g n0 z0 N Z F Rt C L S h (⟨S', rfl, ho⟩ | ⟨k, S', rfl, ho⟩) H locs cells slots ls a1 a2 a3 a4 a5
  · exact lv_ifnullN C.1.1 C.1.2.1 hd ht (ho.2 H locs cells slots ls a1 a2 a3 a4 a5)
  · exact lv_ifnull C.1.1 C.1.2.1 hd (ho.2 H locs cells slots ls a1 a2 a3 a4 a5)
/-- ifnonnull: null goes on, another jumps -/
def o_nnul (tg nx : Nat) : pO := fun _ _ K L S h => (∃ S', S = .null :: S' ∧ K nx L S' h) ∨ (∃ k S', S = .ref k :: S' ∧ K tg L S' h)
theorem m_nnul (tg nx : Nat) : moO (o_nnul tg nx) ∧ leO (o_nnul tg nx) := ⟨fun _ _ _ _ _ _ _ hP q => q.elim (fun ⟨s, a, b⟩ => Or.inl ⟨s, a, hP _ _ _ _ b⟩) (fun ⟨k, s, a, b⟩ => Or.inr ⟨k, s, a, hP _ _ _ _ b⟩), fun _ _ _ _ _ _ _ _ _ q => q.elim (fun ⟨_, _, b⟩ => b) (fun ⟨_, _, _, b⟩ => b)⟩
theorem k_ifnonnull {off : Int} {tg : Nat} (hd : decode cc pc = .ok (.ifnonnull off, 3)) (ht : (pc : Int) + off = (tg : Int)) : okA SC M (cc, own, nL, mr, ini) pc (o_nnul tg (pc + 3)) := by
  refine ⟨m_nnul _ _, ?_⟩
  rintro p l e R s m args below meth c Q g n0 z0 N Z F Rt C L S h (⟨S', rfl, ho⟩ | ⟨k, S', rfl, ho⟩) H locs cells slots ls a1 a2 a3 a4 a5
  · exact lv_ifnonnullN C.1.1 C.1.2.1 hd (ho.2 H locs cells slots ls a1 a2 a3 a4 a5)
  · exact lv_ifnonnull C.1.1 C.1.2.1 hd ht (ho.2 H locs cells slots ls a1 a2 a3 a4 a5)
theorem k_tsw {dflt lo hi : Int} {offs : Array Int} {len df : Nat} (ps : List (Int32 × Nat)) (hd : decode cc pc = .ok (.tableswitch dflt lo hi offs, len)) (hdf : (pc : Int) + dflt = (df : Int)) (hlo : -2147483648 ≤ lo) (hhi : hi ≤ 2147483647)
    (hp : ∀ i, i < ps.length → ∃ off : Int, offs[i]? = some off ∧ (pc : Int) + off = ((ps.getD i (0, 0)).2 : Int) ∧ (ps.getD i (0, 0)).1 = Int32.ofInt (lo + i)) (hn : (ps.length : Int) = hi - lo + 1) : okA SC M (cc, own, nL, mr, ini) pc (o_sw ps df) := by
  refine ⟨m_sw _ _, ?_⟩
  rintro p l e R s m args below meth c Q g n0 z0 N Z F Rt C L S h ⟨x, S', rfl, h1, h2⟩ H locs cells slots ls a1 a2 a3 a4 a5
  by_cases hx : x.toInt < lo ∨ hi < x.toInt
  · refine lv_tableOut C.1.1 C.1.2.1 hd hx hdf ((h2 ?_).2 H locs cells slots ls a1 a2 a3 a4 a5)
    intro q hq e
    obtain ⟨i, hi1⟩ := List.getElem?_of_mem hq
    have hil := (List.getElem?_eq_some_iff.mp hi1).1
    obtain ⟨off, -, -, h3⟩ := hp i hil
    have hg : ps.getD i (0, 0) = q := by simp [List.getD, hi1]
    rw [hg] at h3
    rw [e, h3, Int32.toInt_ofInt_of_le (by omega) (by omega)] at hx
    omega
  · have hx1 : ¬ x.toInt < lo := fun z => hx (Or.inl z)
    have hx2 : ¬ hi < x.toInt := fun z => hx (Or.inr z)
    have hil : (x.toInt - lo).toNat < ps.length := by omega
    obtain ⟨off, h3, h4, h5⟩ := hp _ hil
    refine lv_tableIn C.1.1 C.1.2.1 hd hx1 hx2 h3 h4 ((h1 (ps.getD (x.toInt - lo).toNat (0, 0)) ?_ ?_).2 H locs cells slots ls a1 a2 a3 a4 a5)
    · simp [List.getD, hil]
    · rw [h5]
      rw [show lo + ((x.toInt - lo).toNat : Int) = x.toInt by omega]
      exact (Int32.ofInt_toInt x).symm
theorem k_lsw {dflt : Int} {qs : Array (Int × Int)} {len df : Nat} (ps : List (Int32 × Nat)) (hd : decode cc pc = .ok (.lookupswitch dflt qs, len)) (hdf : (pc : Int) + dflt = (df : Int)) (hs : (qs.toList.zip (qs.toList.drop 1)).all (fun (a, next) => a.1 < next.1) = true)
    (hp : ps.map (fun q => (q.1.toInt, (q.2 : Int))) = qs.toList.map (fun q => (q.1, (pc : Int) + q.2))) : okA SC M (cc, own, nL, mr, ini) pc (o_sw ps df) := by
  refine ⟨m_sw _ _, ?_⟩
  rintro p l e R s m args below meth c Q g n0 z0 N Z F Rt C L S h ⟨x, S', rfl, h1, h2⟩ H locs cells slots ls a1 a2 a3 a4 a5
  have key : ∀ (qs : List (Int × Int)) (ps : List (Int32 × Nat)), ps.map (fun q => (q.1.toInt, (q.2 : Int))) = qs.map (fun q => (q.1, (pc : Int) + q.2)) → (∃ q ∈ ps, x = q.1 ∧ (pc : Int) + Op.lookupswitch.offset qs dflt x.toInt = (q.2 : Int)) ∨ ((∀ q ∈ ps, ¬ x = q.1) ∧ Op.lookupswitch.offset qs dflt x.toInt = dflt) := by
    intro qs
    induction qs with
    | nil =>
      intro ps hps
      cases ps with
      | nil => exact Or.inr ⟨fun q hq => (by cases hq), rfl⟩
      | cons a t => simp at hps
    | cons b t ih =>
      intro ps hps
      cases ps with
      | nil => simp at hps
      | cons a u =>
        obtain ⟨b1, b2⟩ := b
        simp only [List.map_cons, List.cons.injEq, Prod.mk.injEq] at hps
        obtain ⟨⟨e1, e2⟩, e3⟩ := hps
        rw [Op.lookupswitch.offset_cons]
        by_cases hx : b1 = x.toInt
        · rw [if_pos hx]
          exact Or.inl ⟨a, List.mem_cons_self, Int32.toInt_inj.mp (by rw [← hx, e1]), e2.symm⟩
        · rw [if_neg hx]
          rcases ih u e3 with ⟨q, g1, g2, g3⟩ | ⟨g1, g2⟩
          · exact Or.inl ⟨q, List.mem_cons_of_mem _ g1, g2, g3⟩
          · refine Or.inr ⟨fun q hq => ?_, g2⟩
            rcases List.mem_cons.mp hq with rfl | hq
            · intro z
              exact hx (by rw [z, e1])
            · exact g1 q hq
  rcases key qs.toList ps hp with ⟨q, g1, g2, g3⟩ | ⟨g1, g2⟩
  · exact lv_lookup C.1.1 C.1.2.1 hd hs rfl g3 ((h1 q g1 g2).2 H locs cells slots ls a1 a2 a3 a4 a5)
  · exact lv_lookup C.1.1 C.1.2.1 hd hs g2 hdf ((h2 g1).2 H locs cells slots ls a1 a2 a3 a4 a5)
theorem k_iret (hd : decode cc pc = .ok (.ireturn, 1)) : okA SC M (cc, own, nL, some .int, ini) pc o_iret := by
  refine ⟨m_iret, ?_⟩
  rintro p l e R s m args below meth c Q g n0 z0 N Z F Rt C L S h ⟨x, rfl, ho⟩ H locs cells slots ls a1 a2 a3 a4 a5
  exact (C.2.2.2.2.2.2 _ _ ho).2 pc _ H locs cells slots ls a1 a2 a4 a5 hd (Or.inl ⟨x, _, rfl, rfl, rfl, rfl⟩)
theorem k_zret (hd : decode cc pc = .ok (.ireturn, 1)) : okA SC M (cc, own, nL, some .boolean, ini) pc o_zret := by
  refine ⟨m_zret, ?_⟩
  rintro p l e R s m args below meth c Q g n0 z0 N Z F Rt C L S h ⟨x, rfl, hx, ho⟩ H locs cells slots ls a1 a2 a3 a4 a5
  exact (C.2.2.2.2.2.2 _ _ ho).2 pc _ H locs cells slots ls a1 a2 a4 a5 hd (Or.inl ⟨x, _, rfl, rfl, rfl, by rcases hx with rfl | rfl <;> rfl⟩)
theorem k_lret (hd : decode cc pc = .ok (.lreturn, 1)) : okA SC M (cc, own, nL, some .long, ini) pc o_lret := by
  refine ⟨m_lret, ?_⟩
  rintro p l e R s m args below meth c Q g n0 z0 N Z F Rt C L S h ⟨x, rfl, ho⟩ H locs cells slots ls a1 a2 a3 a4 a5
  exact (C.2.2.2.2.2.2 _ _ ho).2 pc _ H locs cells slots ls a1 a2 a4 a5 hd (Or.inr (Or.inl ⟨x, rfl, rfl, rfl⟩))
theorem k_aret {nm : String} (hd : decode cc pc = .ok (.areturn, 1)) : okA SC M (cc, own, nL, some (.object nm), ini) pc o_aret := by
  refine ⟨m_aret, ?_⟩
  rintro p l e R s m args below meth c Q g n0 z0 N Z F Rt C L S h ⟨x, rfl, hx, ho⟩ H locs cells slots ls a1 a2 a3 a4 a5
  exact (C.2.2.2.2.2.2 _ _ ho).2 pc _ H locs cells slots ls a1 a2 a4 a5 hd (Or.inr (Or.inr (Or.inr ⟨x, nm, rfl, hx, rfl, rfl⟩)))
theorem k_vret (hd : decode cc pc = .ok (.return_, 1)) : okA SC M (cc, own, nL, none, ini) pc o_vret := by
  refine ⟨m_vret, ?_⟩
  rintro p l e R s m args below meth c Q g n0 z0 N Z F Rt C L S h ⟨rfl, ho⟩ H locs cells slots ls a1 a2 a3 a4 a5
  exact (C.2.2.2.2.2.2 _ _ ho).2 pc _ H locs cells slots ls a1 a2 a4 a5 hd (Or.inr (Or.inr (Or.inl ⟨rfl, rfl, rfl⟩)))
end SO
end
section
theorem cG_good {w : Cond} (h : w ∈ cG) : (w.onTables && w.keeps) = true ∨ ∃ ty, w = .arrayClass ty := good_of_word (List.mem_filter.mp h).2
theorem mW_good {M : mI} {y : Nat} (hc : Cond.code (M y).1 (M y).2.1 (M y).2.2.2.1 (M y).2.2.2.2.1 ∈ cG) : GoodIn cG (mW M y) := fun w hw => by
  rcases List.mem_cons.mp hw with rfl | hw
  · exact ⟨hc, cG_good hc⟩
  · exact ⟨hw, cG_good hw⟩
def okI (v : Value) : Prop := ∃ x, v = .int x
def okZ (v : Value) : Prop := v = .int 0 ∨ v = .int 1
def okJ (v : Value) : Prop := ∃ x, v = .long x
def okR (v : Value) : Prop := ∃ k, v = .ref k
theorem okI_fit (g : gG) (v : Value) (h : okI v) : narrow .int (rn g v) = rn g v ∧ fits .int (rn g v) = true := by obtain ⟨x, rfl⟩ := h; exact ⟨rfl, rfl⟩
theorem okZ_fit (g : gG) (v : Value) (h : okZ v) : narrow .boolean (rn g v) = rn g v ∧ fits .boolean (rn g v) = true := by rcases h with rfl | rfl <;> exact ⟨rfl, rfl⟩
theorem okJ_fit (g : gG) (v : Value) (h : okJ v) : narrow .long (rn g v) = rn g v ∧ fits .long (rn g v) = true := by obtain ⟨x, rfl⟩ := h; exact ⟨rfl, rfl⟩
theorem okR_fitO (n : String) (g : gG) (v : Value) (h : okR v) : narrow (.object n) (rn g v) = rn g v ∧ fits (.object n) (rn g v) = true := by obtain ⟨x, rfl⟩ := h; exact ⟨rfl, rfl⟩
theorem okR_fitA (t : FieldType) (g : gG) (v : Value) (h : okR v) : narrow (.array t) (rn g v) = rn g v ∧ fits (.array t) (rn g v) = true := by obtain ⟨x, rfl⟩ := h; exact ⟨rfl, rfl⟩
section SH
variable {SC : Nat → (Nat → Int32) → Prop} {M : mI} {cc : ByteArray} {own : String} {nL : Nat} {mr : Option FieldType} {ini : Bool} {pc : Nat}
theorem k_gf {idx ci j Nf : Nat} {Cn : String} {T : u_T} (hc : vwCl[ci]? = some (Cn, T, Nf)) (hin : ∀ w ∈ u_ws Cn T Nf, w ∈ cG) (hj : j < Nf) (hl : Cond.fieldLink own idx (T j).1 (T j).2.1 (T j).2.2.1 ∈ cG) (hd : decode cc pc = .ok (.getfield idx, 3)) : okA SC M (cc, own, nL, mr, ini) pc (o_gf ci j (pc + 3)) := by
  refine ⟨m_gf _ _ _, ?_⟩
  rintro p l e R s m args below meth c Q g n0 z0 N Z F Rt C L S h ⟨k, S', v, rfl, hg, ho⟩ H locs cells slots ls a1 a2 a3 a4 a5
  obtain ⟨fs, h1, h2⟩ := gf_some hg
  exact va_get C.1.1 C.1.2.1 C.1.2.2.2.2 hin C.1.2.2.2.1 C.2.1.1 (a1.at h1) 0 rfl hc j hj (C.1.2.2.2.2 _ hl) (fun _ z => z) (v := rn g v) (by rw [List.getElem?_map, h2]; rfl) hd (ho.2 H locs cells slots ls a1 a2 a3 a4 a5)
theorem k_pf {ok : Value → Prop} {idx ci j Nf : Nat} {Cn : String} {T : u_T} {ty : FieldType} (ty0 : Nat → FieldType) (hty : ∀ k, k < Nf → parseFieldDescriptor (T k).2.2.1 = some (ty0 k)) (hnm : ∀ a, a < Nf → ∀ b, b < Nf → a ≠ b → (T a).2.1 ≠ (T b).2.1) (hok : ∀ g v, ok v → narrow ty (rn g v) = rn g v ∧ fits ty (rn g v) = true) (hc : vwCl[ci]? = some (Cn, T, Nf)) (hin : ∀ w ∈ u_ws Cn T Nf, w ∈ cG) (hj : j < Nf) (hfin : (T j).2.2.2 = false) (hdt : parseFieldDescriptor (T j).2.2.1 = some ty) (hl : Cond.fieldLink own idx (T j).1 (T j).2.1 (T j).2.2.1 ∈ cG) (hd : decode cc pc = .ok (.putfield idx, 3)) : okA SC M (cc, own, nL, mr, ini) pc (o_pf ok ci j (pc + 3)) := by
  refine ⟨m_pf _ _ _ _, ?_⟩
  rintro p l e R s m args below meth c Q g n0 z0 N Z F Rt C L S h ⟨v, k, S', h', rfl, hv, hg, ho⟩ H locs cells slots ls a1 a2 a3 a4 a5
  obtain ⟨fs, h1, h2, rfl⟩ := pfh_some hg
  have hap := va_apart (own := own) C.1.2.2.2.2 hin ty0 hty hnm C.2.1.1 hc
  obtain ⟨r, r1, cell, q1, q2, q3, q4⟩ := a1.2 k _ h1
  have hr : r = (Cn, T, Nf) := Option.some.inj (r1.symm.trans hc)
  subst hr
  obtain ⟨hS, hfc, kC, hkC, hkind⟩ := C.2.1.1.1 ci _ hc
  obtain ⟨cf, kf, fi, f, hi, hsl⟩ := hS j hj
  have hlay := C.1.2.2.2.2 _ (hin _ (u_in_lay hj))
  unfold u_lay at hlay
  rw [if_neg (by rw [hfin]; decide)] at hlay
  have hst := (u_facts hfc hkC (u_lays C.1.2.2.2.2 hin hj) hi).1
  have h6 := u_store hfc hkC hkind hlay hi hdt (hok g v hv).1 (hok g v hv).2
  refine W.putK C.1.1 C.1.2.1 (f := f) ⟨C.1.2.2.2.1, C.1.2.2.2.2 _ hl, ⟨_, _, _, hi⟩, hst⟩ (by rw [q2]; exact h6) q1 q3 (by rw [hsl]; exact k2_hasslot (q4 j hj)) rfl rfl hd fun H' e1 e2 e3 => ?_
  rw [hsl] at e1 ⊢
  refine ho.2 H' _ cells slots ls (a1.set h1 e2 e3 ⟨_, hc, t_OB.to (V := updV (vp_V (fs.map (rn g))) j (rn g v)) ⟨_, e1, q2, q3, t_set q4 hap hj (rn g v)⟩ (fun i _ => ?_)⟩) (a2.put e2 e3 (Nat.le_add_right _ _)) a3 (by rw [List.length_set]; exact a4) (by rw [sz_set h1 (by simp [csz])]; exact a5)
  rw [vp_updV_set (by rw [List.length_map]; exact h2)]
  show _ = vp_V ((fs.set j v).map (rn g)) i
  rw [List.map_set]
theorem k_pfF {ok : Value → Prop} {idx ci j Nf : Nat} {Cn : String} {T : u_T} {ty : FieldType} (ty0 : Nat → FieldType) (hty : ∀ k, k < Nf → parseFieldDescriptor (T k).2.2.1 = some (ty0 k)) (hnm : ∀ a, a < Nf → ∀ b, b < Nf → a ≠ b → (T a).2.1 ≠ (T b).2.1) (hok : ∀ g v, ok v → narrow ty (rn g v) = rn g v ∧ fits ty (rn g v) = true) (hc : vwCl[ci]? = some (Cn, T, Nf)) (hin : ∀ w ∈ u_ws Cn T Nf, w ∈ cG) (hj : j < Nf) (hfin : (T j).2.2.2 = true) (hdecl : (T j).1 = own) (hdt : parseFieldDescriptor (T j).2.2.1 = some ty) (hl : Cond.fieldLink own idx (T j).1 (T j).2.1 (T j).2.2.1 ∈ cG) (hd : decode cc pc = .ok (.putfield idx, 3)) : okA SC M (cc, own, nL, mr, true) pc (o_pf ok ci j (pc + 3)) := by
  refine ⟨m_pf _ _ _ _, ?_⟩
  rintro p l e R s m args below meth c Q g n0 z0 N Z F Rt C L S h ⟨v, k, S', h', rfl, hv, hg, ho⟩ H locs cells slots ls a1 a2 a3 a4 a5
  obtain ⟨fs, h1, h2, rfl⟩ := pfh_some hg
  have hap := va_apart (own := own) C.1.2.2.2.2 hin ty0 hty hnm C.2.1.1 hc
  obtain ⟨r, r1, cell, q1, q2, q3, q4⟩ := a1.2 k _ h1
  have hr : r = (Cn, T, Nf) := Option.some.inj (r1.symm.trans hc)
  subst hr
  obtain ⟨hS, hfc, kC, hkC, hkind⟩ := C.2.1.1.1 ci _ hc
  obtain ⟨cf, kf, fi, f, hi, hsl⟩ := hS j hj
  have hlay := C.1.2.2.2.2 _ (hin _ (u_in_lay hj))
  unfold u_lay at hlay
  rw [if_pos hfin] at hlay
  have hst := (u_facts hfc hkC (u_lays C.1.2.2.2.2 hin hj) hi).1
  have hcf : m.cls = cf := by
    obtain ⟨_, _, c', _, _, _, -, -, hf', -, -, -, hown2, -⟩ := Cond.laysFinal_spec hlay
    have e1 : c' = cf := by have := hi.symm.trans hf'; simp at this; exact this.1.symm
    rw [hdecl] at hown2
    rw [← e1]; exact Option.some.inj (C.1.2.2.2.1.symm.trans hown2)
  have h6 := u_fits hfc hkC hkind (Or.inr hlay) hi hdt (hok g v hv).1 (hok g v hv).2
  refine W.putFinK C.1.1 C.1.2.1 C.1.2.2.2.1 (C.1.2.2.2.2 _ hl) hi hst hcf (C.2.2.2.2.1 rfl) (by rw [q2]; exact h6) q1 q3 (by rw [hsl]; exact k2_hasslot (q4 j hj)) rfl rfl hd fun H' e1 e2 e3 => ?_
  rw [hsl] at e1 ⊢
  refine ho.2 H' _ cells slots ls (a1.set h1 e2 e3 ⟨_, hc, t_OB.to (V := updV (vp_V (fs.map (rn g))) j (rn g v)) ⟨_, e1, q2, q3, t_set q4 hap hj (rn g v)⟩ (fun i _ => ?_)⟩) (a2.put e2 e3 (Nat.le_add_right _ _)) a3 (by rw [List.length_set]; exact a4) (by rw [sz_set h1 (by simp [csz])]; exact a5)
  rw [vp_updV_set (by rw [List.length_map]; exact h2)]
  show _ = vp_V ((fs.set j v).map (rn g)) i
  rw [List.map_set]
theorem k_ia (hd : decode cc pc = .ok (.iaload, 1)) : okA SC M (cc, own, nL, mr, ini) pc (o_ia (pc + 1)) := by
  refine ⟨m_ia _, ?_⟩
  rintro p l e R s m args below meth c Q g n0 z0 N Z F Rt C L S h ⟨i, k, S', x, rfl, hg, ho⟩ H locs cells slots ls a1 a2 a3 a4 a5
  obtain ⟨xs, h1, h2, rfl⟩ := ild_some hg
  exact va_iald C.1.1 C.1.2.1 C.2.1.1 (a1.at h1) 0 0 rfl rfl h2 hd (ho.2 H locs cells slots ls a1 a2 a3 a4 a5)
theorem k_ist (hd : decode cc pc = .ok (.iastore, 1)) : okA SC M (cc, own, nL, mr, ini) pc (o_ist (pc + 1)) := by
  refine ⟨m_ist _, ?_⟩
  rintro p l e R s m args below meth c Q g n0 z0 N Z F Rt C L S h ⟨x, i, k, S', h', rfl, hg, ho⟩ H locs cells slots ls a1 a2 a3 a4 a5
  obtain ⟨xs, h1, h2, rfl⟩ := ist_some hg
  have hlt : i.toNatClampNeg < xs.length := Nat.not_le.mp fun q => h2 (Or.inr q)
  refine W.iast C.1.1 C.1.2.1 (a1.2 k _ h1) ((C.2.1.1.2 0 _ rfl).1 xs.length (fun j => .int (xs.getD j 0))) (fun q => by cases q) (by show ¬ (i < 0 ∨ (arrV _ _ _).slots.size ≤ _); rw [arrV_size]; exact h2) rfl rfl hd fun H1 e1 e2 e3 => ?_
  refine ho.2 H1 _ cells slots ls (a1.set h1 e2 e3 ?_) (a2.put e2 e3 (Nat.le_add_right _ _)) a3 (by rw [List.length_set]; exact a4) (by rw [sz_set h1 (by simp [csz])]; exact a5)
  show H1[_]? = some (vp_cell _ _)
  rw [e1]
  show some ((vp_cell _ (_, Sum.inl _)).setSlot _ _) = some (vp_cell _ (_, Sum.inl _))
  rw [vp_cell_i, vp_cell_i, arrV_store, List.length_set]
  congr 2
  funext q
  by_cases hq : q = i.toNatClampNeg
  · subst hq
    simp [updV, hlt]
  · simp [updV, hq, List.getElem?_set_ne (Ne.symm hq)]
theorem k_aa (hd : decode cc pc = .ok (.aaload, 1)) : okA SC M (cc, own, nL, mr, ini) pc (o_aa (pc + 1)) := by
  refine ⟨m_aa _, ?_⟩
  rintro p l e R s m args below meth c Q g n0 z0 N Z F Rt C L S h ⟨i, k, S', v, rfl, hg, ho⟩ H locs cells slots ls a1 a2 a3 a4 a5
  obtain ⟨t, rs, r, h1, ht, h2, h3, rfl⟩ := ald_some hg
  have hk := ho.2 H locs cells slots ls a1 a2 a3 a4 a5
  have ee : va_rf ((rs.getD i.toNatClampNeg none).map (fun k => g.1 + k)) = rn g (vq r) := by
    rw [show rs.getD i.toNatClampNeg none = r by simp [List.getD, h3]]
    cases r <;> rfl
  have hk2 : W p l e R s m args below meth c H locs cells slots Q (F0 m (pc + 1) ls (va_rf ((rs.getD i.toNatClampNeg none).map (fun k => g.1 + k)) :: S'.map (rn g))) := by rw [ee]; exact hk
  match t, ht with
  | 0, _ => exact va_aldq C.1.1 C.1.2.1 C.2.1.1 (a1.at h1) 0 1 rfl rfl h2 hd hk2
  | 1, _ => exact va_aldq C.1.1 C.1.2.1 C.2.1.1 (a1.at h1) 0 2 rfl rfl h2 hd hk2
theorem k_ast {t ci : Nat} {r : vw_C} (t0 : Nat) (ht : ∀ g : gG, (tyl g)[t0]? = some (g.2.2.2.2.1 t, .object r.1)) (hc : vwCl[ci]? = some r) (hd : decode cc pc = .ok (.aastore, 1)) : okA SC M (cc, own, nL, mr, ini) pc (o_ast t ci (pc + 1)) := by
  refine ⟨m_ast _ _ _, ?_⟩
  rintro p l e R s m args below meth c Q g n0 z0 N Z F Rt C L S h ⟨v, i, k, S', h', rfl, hg, ho⟩ H locs cells slots ls a1 a2 a3 a4 a5
  obtain ⟨rs, fs, h1, h2, h3, rfl⟩ := asth_some hg
  have hlt : i.toNatClampNeg < rs.length := Nat.not_le.mp fun q => h3 (Or.inr q)
  have h0 : ¬ i < 0 := fun q => h3 (Or.inl q)
  obtain ⟨r', hr', cellV, g1, g2, g3, -⟩ := a1.2 v _ h2
  have hcls := (C.2.1.1.1 ci r hc).2
  obtain ⟨kA, comp, k1, k2, k3, -⟩ := (C.2.1.1.2 t0 _ (ht g)).2
  have hcomp : comp = g.2.2.2.2.2.1 ci := Option.some.inj (k3.symm.trans hcls.1)
  subst hcomp
  obtain ⟨kC, hkC, -⟩ := hcls.2
  refine W.aast C.1.1 C.1.2.1 (a1.2 k _ h1) (fun q h => by cases h) (fun h => by cases h) k1 k2 rfl hkC ⟨h0, by show _ < (arrV _ _ _).slots.size; rw [arrV_size]; exact hlt⟩ g1 (fun q h => by rw [g3] at h; cases h) (by rw [g2]; exact hkC) (by rw [g2]; exact va_assign hcls) rfl rfl hd fun H1 e1 e2 e3 => ?_
  refine ho.2 H1 _ cells slots ls (a1.set h1 e2 e3 ?_) (a2.put e2 e3 (Nat.le_add_right _ _)) a3 (by rw [List.length_set]; exact a4) (by rw [sz_set h1 (by simp [csz])]; exact a5)
  show H1[_]? = some (vp_cell _ _)
  rw [e1]
  show some ((vp_cell _ (_, Sum.inr (Sum.inr (Sum.inr (Sum.inr _))))).setSlot _ _) = some (vp_cell _ (_, Sum.inr (Sum.inr (Sum.inr (Sum.inr _)))))
  rw [vp_cell_q, vp_cell_q, arrV_store, List.length_set]
  congr 2
  funext q
  by_cases hq : q = i.toNatClampNeg
  · subst hq
    simp [updV, hlt, va_rf]
  · simp [updV, hq, List.getElem?_set_ne (Ne.symm hq)]
theorem k_len (hd : decode cc pc = .ok (.arraylength, 1)) : okA SC M (cc, own, nL, mr, ini) pc (o_len (pc + 1)) := by
  refine ⟨m_len _, ?_⟩
  rintro p l e R s m args below meth c Q g n0 z0 N Z F Rt C L S h ⟨k, S', n, rfl, hg, ho⟩ H locs cells slots ls a1 a2 a3 a4 a5
  have hk := ho.2 H locs cells slots ls a1 a2 a3 a4 a5
  rcases alen_some hg with ⟨xs, h1, rfl⟩ | ⟨t, rs, h1, ht, rfl⟩
  · exact va_alen C.1.1 C.1.2.1 C.2.1.1 (a1.at h1) 0 0 rfl rfl rfl hd hk
  · match t, ht with
    | 0, _ => exact va_alen C.1.1 C.1.2.1 C.2.1.1 (a1.at h1) 0 1 rfl rfl rfl hd hk
    | 1, _ => exact va_alen C.1.1 C.1.2.1 C.2.1.1 (a1.at h1) 0 2 rfl rfl rfl hd hk
theorem k_gs {idx : Nat} (hl : Cond.fieldLink own idx "DuneMaps" "WEIGHTS" "[I" ∈ cG) (hd : decode cc pc = .ok (.getstatic idx, 3)) : okA SC M (cc, own, nL, mr, ini) pc (o_const (.float 0) (pc + 3)) := by
  refine ⟨m_const _ _, ?_⟩
  intro p l e R s m args below meth c Q g n0 z0 N Z F Rt C L S h ho H locs cells slots ls a1 a2 a3 a4 a5
  exact va_gets C.1.1 C.1.2.1 C.2.2.1.1.1 a2 C.1.2.2.2.1 (C.1.2.2.2.2 _ hl) (fun _ z => z) hd (ho.2 H locs cells slots ls a1 a2 a3 a4 a5)
theorem k_iaT (hd : decode cc pc = .ok (.iaload, 1)) : okA SC M (cc, own, nL, mr, ini) pc (o_iaT (pc + 1)) := by
  refine ⟨m_iaT _, ?_⟩
  rintro p l e R s m args below meth c Q g n0 z0 N Z F Rt C L S h ⟨i, S', rfl, hi, ho⟩ H locs cells slots ls a1 a2 a3 a4 a5
  exact va_ti C.1.1 C.1.2.1 C.2.2.1.1.2 a2 hi rfl hd (ho.2 H locs cells slots ls a1 a2 a3 a4 a5)
theorem k_lenT (hd : decode cc pc = .ok (.arraylength, 1)) : okA SC M (cc, own, nL, mr, ini) pc (o_lenT (pc + 1)) := by
  refine ⟨m_lenT _, ?_⟩
  rintro p l e R s m args below meth c Q g n0 z0 N Z F Rt C L S h ⟨S', rfl, ho⟩ H locs cells slots ls a1 a2 a3 a4 a5
  exact va_tlen C.1.1 C.1.2.1 C.2.2.1.1.2 a2 rfl hd (ho.2 H locs cells slots ls a1 a2 a3 a4 a5)
theorem k_iaS {n : Nat} {xs : Nat → Int32} (hS : SC n xs) (hd : decode cc pc = .ok (.iaload, 1)) : okA SC M (cc, own, nL, mr, ini) pc (o_iaS n xs (pc + 1)) := by
  refine ⟨m_iaS _ _ _, ?_⟩
  rintro p l e R s m args below meth c Q g n0 z0 N Z F Rt C L S h ⟨i, S', rfl, hi, ho⟩ H locs cells slots ls a1 a2 a3 a4 a5
  obtain ⟨hX, hb⟩ := C.2.2.1.2 n xs hS
  exact va_sld C.1.1 C.1.2.1 hX (Nat.lt_of_lt_of_le hb C.2.2.2.1.1) (Nat.not_le.mpr hb) a2 hi hd (ho.2 H locs cells slots ls a1 a2 a3 a4 a5)
theorem k_lenS {n : Nat} {xs : Nat → Int32} (hS : SC n xs) (hd : decode cc pc = .ok (.arraylength, 1)) : okA SC M (cc, own, nL, mr, ini) pc (o_lenS n (pc + 1)) := by
  refine ⟨m_lenS _ _, ?_⟩
  rintro p l e R s m args below meth c Q g n0 z0 N Z F Rt C L S h ⟨S', rfl, ho⟩ H locs cells slots ls a1 a2 a3 a4 a5
  obtain ⟨hX, hb⟩ := C.2.2.1.2 n xs hS
  exact va_slen C.1.1 C.1.2.1 hX (Nat.lt_of_lt_of_le hb C.2.2.2.1.1) (Nat.not_le.mpr hb) a2 hd (ho.2 H locs cells slots ls a1 a2 a3 a4 a5)
theorem k_new {idx ci Nf : Nat} {Cn : String} {T : u_T} (ty : Nat → FieldType) (fs : List Value) (hty : ∀ k, k < Nf → parseFieldDescriptor (T k).2.2.1 = some (ty k)) (hc : vwCl[ci]? = some (Cn, T, Nf)) (hin : ∀ w ∈ u_ws Cn T Nf, w ∈ cG) (hcl : Cond.classLink own idx Cn ∈ cG) (hins : Cond.instantiable Cn Nf ∈ cG) (hini : Cond.initialized Cn ∈ cG) (hfl : fs.length = Nf) (hfs : ∀ (g : gG) (j : Nat), j < Nf → defaultValue (ty j) = vp_V (fs.map (rn g)) j) (hd : decode cc pc = .ok (.new idx, 3)) : okA SC M (cc, own, nL, mr, ini) pc (o_new ci fs (pc + 3)) := by
  refine ⟨m_new _ _ _, ?_⟩
  rintro p l e R s m args below meth c Q g n0 z0 N Z F Rt C L S h ho H locs cells slots ls a1 a2 a3 a4 a5
  have hKn := C.2.1.1.1 ci _ hc
  have hz := ho.1
  rw [List.length_append, sz_app] at hz
  have hz2 : sz [(.inr (.inr (ci, fs)) : pC)] = Nf := by simp [sz, csz, hfl]
  have hR := C.2.2.2.1
  simp only [List.length_singleton, hz2] at hz
  refine W.newcK C.1.1 C.1.2.1 C.1.2.2.2.1 (C.1.2.2.2.2 _ hcl) (C.1.2.2.2.2 _ hins) (C.1.2.2.2.2 _ hini) rfl hd (by omega) (by omega) hKn.2.1 rfl fun H1 kC hkC e1 z1 o1 => ?_
  have hw : wR g (h ++ [.inr (.inr (ci, fs))]) H1 := a1.push z1 o1 ⟨_, hc, (u_born ty C.1.2.2.2.2 hin hKn hkC e1 hty).to (hfs g)⟩
  have hk := ho.2 H1 locs (cells + 1) (slots + Nf) ls hw ⟨Nat.le_trans a2.1 (by omega), fun x h1 h2 => (o1 x (Nat.lt_of_lt_of_le h1 a2.1)).trans (a2.2.1 x h1 h2), a2.2.2⟩ a3 (by rw [List.length_append]; simp; omega) (by rw [sz_app, hz2]; omega)
  rw [a1.1]
  exact hk
theorem k_newa (ha : Cond.arrayClass .int ∈ cG) (hd : decode cc pc = .ok (.newarray .int, 2)) : okA SC M (cc, own, nL, mr, ini) pc (o_newa (pc + 2)) := by
  refine ⟨m_newa _, ?_⟩
  rintro p l e R s m args below meth c Q g n0 z0 N Z F Rt C L S h ⟨n, S', rfl, hn, hn2, ho⟩ H locs cells slots ls a1 a2 a3 a4 a5
  have hz := ho.1
  rw [List.length_append, sz_app] at hz
  have hz2 : sz [(.inl (List.replicate n.toNatClampNeg 0) : pC)] = n.toNatClampNeg := by simp [sz, csz]
  have hR := C.2.2.2.1
  simp only [List.length_singleton, hz2] at hz
  refine va_newaK (atype := .int) C.1.1 C.1.2.1 (C.1.2.2.2.2 _ ha) rfl hd rfl hn rfl (by show _ * 4 ≤ _; omega) (by omega) (by omega) rfl fun H1 cA e1 z1 o1 hAr hNm => ?_
  have hcA : cA = g.2.2.2.1 := Option.some.inj (hNm.symm.trans (C.2.1.1.2 0 _ rfl).2)
  subst hcA
  have hw : wR g (h ++ [.inl (List.replicate n.toNatClampNeg 0)]) H1 := a1.push z1 o1 (by
    show H1[H.size]? = some (vp_cell _ (_, Sum.inl _))
    rw [e1, vp_cell_i, List.length_replicate]
    congr 2
    funext q
    by_cases hq : q < n.toNatClampNeg <;> simp [hq, defaultValue, newarray.typeOf])
  have hk := ho.2 H1 locs (cells + 1) (slots + n.toNatClampNeg) ls hw ⟨Nat.le_trans a2.1 (by omega), fun x h1 h2 => (o1 x (Nat.lt_of_lt_of_le h1 a2.1)).trans (a2.2.1 x h1 h2), a2.2.2⟩ a3 (by rw [List.length_append]; simp; omega) (by rw [sz_app, hz2]; omega)
  rw [a1.1]
  exact hk
theorem k_anew {idx t : Nat} {Cn : String} (t0 : Nat) (ht : ∀ g : gG, (tyl g)[t0]? = some (g.2.2.2.2.1 t, .object Cn)) (hao : ∀ (g : gG) (U : State), cxK g U → va_AO Cn U) (hcl : Cond.classLink own idx Cn ∈ cG) (hd : decode cc pc = .ok (.anewarray idx, 3)) : okA SC M (cc, own, nL, mr, ini) pc (o_anew t (pc + 3)) := by
  refine ⟨m_anew _ _, ?_⟩
  rintro p l e R s m args below meth c Q g n0 z0 N Z F Rt C L S h ⟨n, S', rfl, hn, hn2, ho⟩ H locs cells slots ls a1 a2 a3 a4 a5
  have hz := ho.1
  rw [List.length_append, sz_app] at hz
  have hz2 : sz [(.inr (.inl (t, List.replicate n.toNatClampNeg none)) : pC)] = n.toNatClampNeg := by simp [sz, csz]
  have hR := C.2.2.2.1
  simp only [List.length_singleton, hz2] at hz
  refine W.anew C.1.1 C.1.2.1 C.1.2.2.2.1 (C.1.2.2.2.2 _ hcl) (va_AO.use (hao g s C.2.1)) rfl hd rfl hn (by omega) (by omega) (by omega) fun cA kA comp f1 f2 f3 f4 => ?_
  obtain ⟨kA2, comp2, -, -, -, f5⟩ := (C.2.1.1.2 t0 _ (ht g)).2
  have hcA : cA = g.2.2.2.2.1 t := Option.some.inj (f1.symm.trans f5)
  subst hcA
  generalize hH1 : H.push ({ cls := g.2.2.2.2.1 t, slots := Array.replicate n.toNatClampNeg .null, vm := .none } : Cell) = H1
  have z1 : H1.size = H.size + 1 := by rw [← hH1, Array.size_push]
  have e1 : H1[H.size]? = some (arrV (g.2.2.2.2.1 t) n.toNatClampNeg (fun _ => .null)) := by rw [← hH1, Array.getElem?_push_size, ← arrV_new]
  have o1 : ∀ q : Nat, q < H.size → H1[q]? = H[q]? := fun q hq => by rw [← hH1, Array.getElem?_push, if_neg (Nat.ne_of_lt hq)]
  have hw : wR g (h ++ [.inr (.inl (t, List.replicate n.toNatClampNeg none))]) H1 := a1.push z1 o1 (by
    show H1[H.size]? = some (vp_cell _ (_, Sum.inr (Sum.inr (Sum.inr (Sum.inr _)))))
    rw [e1, vp_cell_q]
    show _ = some (arrV _ (List.replicate n.toNatClampNeg none).length _)
    rw [List.length_replicate]
    congr 2
    funext q
    by_cases hq : q < n.toNatClampNeg <;> simp [hq, va_rf])
  have hk := ho.2 H1 locs (cells + 1) (slots + n.toNatClampNeg) ls hw ⟨Nat.le_trans a2.1 (by omega), fun x h1 h2 => (o1 x (Nat.lt_of_lt_of_le h1 a2.1)).trans (a2.2.1 x h1 h2), a2.2.2⟩ a3 (by rw [List.length_append]; simp; omega) (by rw [sz_app, hz2]; omega)
  rw [a1.1]
  exact hk
theorem k_obj {idx : Nat} (h1 : Cond.methodLink own idx objectInit ∈ cG) (h2 : Cond.instanceMethod objectInit ∈ cG) (h3 : Cond.code objectInit ⟨#[0xb1]⟩ 1 none ∈ cG) (hd : decode cc pc = .ok (.invokespecial idx, 3)) : okA SC M (cc, own, nL, mr, ini) pc (o_obj (pc + 3)) := by
  refine ⟨m_obj _, ?_⟩
  rintro p l e R s m args below meth c Q g n0 z0 N Z F Rt C L S h ⟨k, S', rfl, hs, ho⟩ H locs cells slots ls a1 a2 a3 a4 a5
  have hR := C.2.2.2.1
  have hs' : ((S'.map (rn g)).map fun v => v.category).sum ≤ 8 := by
    rw [List.map_map]
    have : ((fun v => v.category) ∘ rn g) = fun v : Value => v.category := funext fun v => rn_cat g v
    rw [this]; exact hs
  exact W.objInit C.1.1 C.1.2.1 C.1.2.2.2.1 (C.1.2.2.2.2 _ h1) (C.1.2.2.2.2 _ h2) (C.1.2.2.2.2 _ h3) rfl (by rw [C.1.2.2.1]; exact a3.1) rfl hd hR.2.2.2.1 (by show 2 * 0 + _ + 12 ≤ _; omega) (ho.2 H locs cells slots ls a1 a2 a3 a4 a5)
end SH
end
section
theorem cPre_blind (g : gG) (h : pH) (as : List Value) : FrameBlind (va_Pc (as.map (rn g)) (cPre g h)) := by
  rintro a U gf mk ⟨q0, q1, q2, q3⟩
  exact ⟨q0, q1, q2.same rfl, q3.moved (Vm.Alike.refl U.vm)⟩
theorem cPre_at {g : gG} {h : pH} {s : State} {H : Heap} {locs : List Loc} (a1 : wR g h H) (a2 : va_S (nA g) s.heap H locs) (k1 : cxK g s) (k2 : cxZ g s s.heap) : ∀ U : State, U.heap = H → s.WarmedH U.vm → cPre g h U := by
  intro U hU hW
  refine ⟨by rw [hU]; exact a1, k1.warm hW, ?_⟩
  rw [hU]
  exact (k2.kept a2.2.1).moved hW.alike
section SC1
variable {p : Program} {l : Launch} {e : Env} {R : Room} {s : State} {m : MethodId} {args : Array Value} {below : List Frame} {meth : Method} {c : Code} {H : Heap} {locs : List Loc} {cells slots : Nat} {Q : State → Prop}
theorem run_to {g : gG} {r : Option Value} {h1 : pH} {mc ms pc : Nat} {ls : Array Slot} {st0 rest : List Value} {a : Array Value} (hr : va_Run p l e R s m args below meth c H locs cells slots mc ms (F0 m pc ls st0) rest (cPost g r h1 a) (nA g)) (hS : va_S (nA g) s.heap H locs)
    (kk : ∀ (H1 : Heap) (locs1 : List Loc), wR g h1 H1 → va_S (nA g) s.heap H1 locs1 → W p l e R s m args below meth c H1 locs1 (cells + mc) (slots + ms) Q (F0 m (pc + 3) ls ((r.map (rn g)).toList ++ rest))) : W p l e R s m args below meth c H locs cells slots Q (F0 m pc ls st0) := by
  intro T hT X
  obtain ⟨v, st₀, t, T', L, h0, X', hL, e1, e2, ⟨hv, hw, hz, hk⟩, st⟩ := hr T hT X
  cases hv
  rw [h0] at hz hk
  obtain ⟨t2, b1, b2⟩ := kk T'.heap (locs ++ L) (by rw [e1]; exact hw) ⟨Nat.le_trans hS.1 (by rw [e1]; exact hz), fun q h1 h2 => by rw [e1, hk q (Nat.lt_of_lt_of_le h1 hS.1) h2]; exact hS.2.1 q h1 h2, fun q hq => by
      rcases List.mem_append.mp hq with h | h
      · exact hS.2.2 q h
      · exact hL q h⟩ T' rfl X'
  exact ⟨t2, st t2 b1, b2⟩
end SC1
theorem rn_sum (g : gG) (S : List Value) : ((S.map (rn g)).map fun v => v.category).sum = (S.map fun v => v.category).sum := by
  rw [List.map_map]
  have : ((fun v => v.category) ∘ rn g) = fun v : Value => v.category := funext fun v => rn_cat g v
  rw [this]
theorem S_split (g : gG) (S : List Value) (n : Nat) : S.map (rn g) = (((S.take n).reverse).map (rn g)).reverse ++ (S.drop n).map (rn g) := by
  rw [← List.map_reverse, List.reverse_reverse, ← List.map_append, List.take_append_drop]
theorem r_push (g : gG) (r : Option Value) (S : List Value) : (r.toList ++ S).map (rn g) = (r.map (rn g)).toList ++ S.map (rn g) := by cases r <;> rfl
def rc0 (_ : pH) (_ : List Value) : Prop := True
def rcI (_ : pH) (as : List Value) : Prop := ∃ k rest, as = .ref k :: rest
def rcV (ci : Nat) (h : pH) (as : List Value) : Prop := rcv h ci as
section SK
variable {SC : Nat → (Nat → Int32) → Prop} {M : mI} {cc : ByteArray} {own : String} {nL : Nat} {mr : Option FieldType} {ini : Bool} {pc : Nat}
theorem k_callV {idx y n ci : Nat} {C : String} {T : u_T} {Nf : Nat} (hc : vwCl[ci]? = some (C, T, Nf)) (w1 : Cond.methodLink own idx (M y).1 ∈ cG) (w2 : Cond.instanceMethod (M y).1 ∈ cG) (w3 : Cond.selects C (M y).1 (M y).1 ∈ cG) (w4 : Cond.initialized C ∈ cG) (w5 : Cond.code (M y).1 (M y).2.1 (M y).2.2.2.1 (M y).2.2.2.2.1 ∈ cG)
    (hy : (M y).1.cls = C ∧ (M y).1.cls ≠ "java/lang/invoke/MethodHandle" ∧ (M y).1.cls ≠ "java/lang/invoke/VarHandle" ∧ (parseMethodDescriptor (M y).1.desc).map (fun d => d.parameters.length) = some n) (hm : (M y).2.2.2.1 ≤ 45) (hd : decode cc pc = .ok (.invokevirtual idx, 3)) : okA SC M (cc, own, nL, mr, ini) pc (o_call (rcV ci) y (n + 1) (pc + 3)) := by
  refine ⟨m_call _ _ _ _, ?_⟩
  rintro p l e R s m args below meth c Q g n0 z0 N Z F Rt Cx L S h ⟨hn, hs, ⟨k, rest, fs, hk, hob⟩, r, h1, hF, ho⟩ H locs cells slots ls a1 a2 a3 a4 a5
  obtain ⟨hz, rm, r1, r2, r3, r4, hM⟩ := Cx.2.2.2.2.2.1 _ _ _ _ _ hF
  have hz1 := ho.1
  have hR := Cx.2.2.2.1
  have hlen : rest.length = n := by
    have e1 := congrArg List.length hk
    simp only [List.length_reverse, List.length_take, List.length_cons] at e1
    omega
  rw [S_split g S (n + 1), hk]
  rw [hk] at hM
  refine run_to (va_runV (As := rest.map (rn g)) (rest := (S.drop (n + 1)).map (rn g)) (b := g.1 + k) (C := C) (n := n) Cx.1 hM (cwV n Cx.1.2.2.2.2 (fun w hw => ?_) rfl r1 r2 hy ⟨r3, by omega⟩) ⟨cPre_blind g h _, ?_, fun U hU hW => ⟨rfl, cPre_at a1 a2 Cx.2.1 Cx.2.2.1.1 U hU hW⟩⟩ rfl (by rw [List.length_map]; exact hlen) a3.1 ?_ (lv_room (by rw [rn_sum]; exact hs)) hd ⟨by omega, by omega⟩) a2 (fun H1 locs1 hw hS1 => ?_)
  · unfold wsV at hw
    rcases List.mem_append.mp hw with hw | hw
    · simp only [List.mem_cons, List.not_mem_nil, or_false] at hw
      rcases hw with rfl | rfl | rfl | rfl
      · exact ⟨w1, cG_good w1⟩
      · exact ⟨w2, cG_good w2⟩
      · exact ⟨w3, cG_good w3⟩
      · exact ⟨w4, cG_good w4⟩
    · exact mW_good w5 w hw
  · exact va_recv Cx.2.1.1 (a1.at hob) (ci := ci) (q := (C, T, Nf)) (q0 := 0) hc rfl
  · simp [rn]
  · rw [← r_push]
    exact ho.2 H1 locs1 _ _ ls hw hS1 a3 (by omega) (by omega)
theorem k_callS {idx y n : Nat} (w1 : Cond.methodLink own idx (M y).1 ∈ cG) (w2 : Cond.static (M y).1 ∈ cG) (w4 : Cond.initialized (M y).1.cls ∈ cG) (w5 : Cond.code (M y).1 (M y).2.1 (M y).2.2.2.1 (M y).2.2.2.2.1 ∈ cG)
    (hy : (M y).1.cls ≠ "java/lang/invoke/MethodHandle" ∧ (M y).1.cls ≠ "java/lang/invoke/VarHandle" ∧ (parseMethodDescriptor (M y).1.desc).map (fun d => d.parameters.length) = some n) (hm : (M y).2.2.2.1 ≤ 45) (hd : decode cc pc = .ok (.invokestatic idx, 3)) : okA SC M (cc, own, nL, mr, ini) pc (o_call rc0 y n (pc + 3)) := by
  refine ⟨m_call _ _ _ _, ?_⟩
  rintro p l e R s m args below meth c Q g n0 z0 N Z F Rt Cx L S h ⟨hn, hs, -, r, h1, hF, ho⟩ H locs cells slots ls a1 a2 a3 a4 a5
  obtain ⟨hz, rm, r1, r2, r3, r4, hM⟩ := Cx.2.2.2.2.2.1 _ _ _ _ _ hF
  have hz1 := ho.1
  have hR := Cx.2.2.2.1
  rw [S_split g S n]
  refine run_to (va_runS (As := ((S.take n).reverse).map (rn g)) (rest := (S.drop n).map (rn g)) (n := n) Cx.1 hM (va_cwS n Cx.1.2.2.2.2 (fun w hw => ?_) rfl r1 r2 hy ⟨r3, by omega⟩) ⟨cPre_blind g h _, fun U hU hW => ⟨rfl, cPre_at a1 a2 Cx.2.1 Cx.2.2.1.1 U hU hW⟩⟩ rfl (by simp; omega) a3.1 rfl (lv_room (by rw [rn_sum]; exact hs)) hd ⟨by omega, by omega⟩) a2 (fun H1 locs1 hw hS1 => ?_)
  · unfold va_wsS at hw
    rcases List.mem_append.mp hw with hw | hw
    · simp only [List.mem_cons, List.not_mem_nil, or_false] at hw
      rcases hw with rfl | rfl | rfl
      · exact ⟨w1, cG_good w1⟩
      · exact ⟨w2, cG_good w2⟩
      · exact ⟨w4, cG_good w4⟩
    · exact mW_good w5 w hw
  · rw [← r_push]
    exact ho.2 H1 locs1 _ _ ls hw hS1 a3 (by omega) (by omega)
theorem k_callSN {idx y n : Nat} {host : String} (w1 : (own, idx, (M y).1, host) ∈ nests) (w2 : Cond.static (M y).1 ∈ cG) (w4 : Cond.initialized (M y).1.cls ∈ cG) (w5 : Cond.code (M y).1 (M y).2.1 (M y).2.2.2.1 (M y).2.2.2.2.1 ∈ cG)
    (hy : (M y).1.cls ≠ "java/lang/invoke/MethodHandle" ∧ (M y).1.cls ≠ "java/lang/invoke/VarHandle" ∧ (parseMethodDescriptor (M y).1.desc).map (fun d => d.parameters.length) = some n) (hm : (M y).2.2.2.1 ≤ 45) (hd : decode cc pc = .ok (.invokestatic idx, 3)) : okA SC M (cc, own, nL, mr, ini) pc (o_call rc0 y n (pc + 3)) := by
  refine ⟨m_call _ _ _ _, ?_⟩
  rintro p l e R s m args below meth c Q g n0 z0 N Z F Rt Cx L S h ⟨hn, hs, -, r, h1, hF, ho⟩ H locs cells slots ls a1 a2 a3 a4 a5
  obtain ⟨hz, rm, r1, r2, r3, r4, hM⟩ := Cx.2.2.2.2.2.1 _ _ _ _ _ hF
  have hz1 := ho.1
  have hR := Cx.2.2.2.1
  rw [S_split g S n]
  refine run_to (va_runSN (As := ((S.take n).reverse).map (rn g)) (rest := (S.drop n).map (rn g)) (n := n) Cx.1 hM ⟨va_cnB n Cx.1.2.2.2.2 (mW_good w5) rfl r1 r2 (Cx.2.1.2.1 _ w1) (Cx.1.2.2.2.2 _ w4) hy ⟨r3, by omega⟩, Cx.1.2.2.2.2 _ w2, trivial⟩ ⟨cPre_blind g h _, fun U hU hW => ⟨rfl, cPre_at a1 a2 Cx.2.1 Cx.2.2.1.1 U hU hW⟩⟩ rfl (by simp; omega) a3.1 rfl (lv_room (by rw [rn_sum]; exact hs)) hd ⟨by omega, by omega⟩) a2 (fun H1 locs1 hw hS1 => ?_)
  rw [← r_push]
  exact ho.2 H1 locs1 _ _ ls hw hS1 a3 (by omega) (by omega)
theorem k_callI {idx y n : Nat} (w1 : Cond.methodLink own idx (M y).1 ∈ cG) (w2 : Cond.instanceMethod (M y).1 ∈ cG) (w4 : Cond.initialized (M y).1.cls ∈ cG) (hrt : (M y).2.2.2.2.1 = none) (w5 : Cond.code (M y).1 (M y).2.1 (M y).2.2.2.1 (M y).2.2.2.2.1 ∈ cG) (hin : (M y).1.name = "<init>")
    (hy : (M y).1.cls ≠ "java/lang/invoke/MethodHandle" ∧ (M y).1.cls ≠ "java/lang/invoke/VarHandle" ∧ (parseMethodDescriptor (M y).1.desc).map (fun d => d.parameters.length) = some n) (hm : (M y).2.2.2.1 ≤ 45) (hd : decode cc pc = .ok (.invokespecial idx, 3)) : okA SC M (cc, own, nL, mr, ini) pc (o_call rcI y (n + 1) (pc + 3)) := by
  refine ⟨m_call _ _ _ _, ?_⟩
  rintro p l e R s m args below meth c Q g n0 z0 N Z F Rt Cx L S h ⟨hn, hs, ⟨k, rest, hk⟩, r, h1, hF, ho⟩ H locs cells slots ls a1 a2 a3 a4 a5
  obtain ⟨hz, rm, r1, r2, r3, r4, hM⟩ := Cx.2.2.2.2.2.1 _ _ _ _ _ hF
  have hz1 := ho.1
  have hR := Cx.2.2.2.1
  have hlen : rest.length = n := by
    have e1 := congrArg List.length hk
    simp only [List.length_reverse, List.length_take, List.length_cons] at e1
    omega
  rw [S_split g S (n + 1), hk]
  rw [hk] at hM
  refine run_to (va_runI (As := rest.map (rn g)) (rest := (S.drop (n + 1)).map (rn g)) (b := g.1 + k) (n := n) Cx.1 hM (cwI n Cx.1.2.2.2.2 (mW_good w5) (by unfold mW; rw [hrt]) r1 r2 (Cx.1.2.2.2.2 _ w4) (Cx.1.2.2.2.2 _ w1) (Cx.1.2.2.2.2 _ w2) hin hy ⟨r3, by omega⟩) ⟨cPre_blind g h _, fun U hU hW => ⟨rfl, cPre_at a1 a2 Cx.2.1 Cx.2.2.1.1 U hU hW⟩⟩ rfl (by rw [List.length_map]; exact hlen) a3.1 ?_ (lv_room (by rw [rn_sum]; exact hs)) hd ⟨by omega, by omega⟩) a2 (fun H1 locs1 hw hS1 => ?_)
  · simp [rn]
  · rw [← r_push]
    exact ho.2 H1 locs1 _ _ ls hw hS1 a3 (by omega) (by omega)
theorem k_callIN {idx y n : Nat} {host : String} (w1 : (own, idx, (M y).1, host) ∈ nests) (w2 : Cond.instanceMethod (M y).1 ∈ cG) (w4 : Cond.initialized (M y).1.cls ∈ cG) (hrt : (M y).2.2.2.2.1 = none) (w5 : Cond.code (M y).1 (M y).2.1 (M y).2.2.2.1 (M y).2.2.2.2.1 ∈ cG) (hin : (M y).1.name = "<init>")
    (hy : (M y).1.cls ≠ "java/lang/invoke/MethodHandle" ∧ (M y).1.cls ≠ "java/lang/invoke/VarHandle" ∧ (parseMethodDescriptor (M y).1.desc).map (fun d => d.parameters.length) = some n) (hm : (M y).2.2.2.1 ≤ 45) (hd : decode cc pc = .ok (.invokespecial idx, 3)) : okA SC M (cc, own, nL, mr, ini) pc (o_call rcI y (n + 1) (pc + 3)) := by
  refine ⟨m_call _ _ _ _, ?_⟩
  rintro p l e R s m args below meth c Q g n0 z0 N Z F Rt Cx L S h ⟨hn, hs, ⟨k, rest, hk⟩, r, h1, hF, ho⟩ H locs cells slots ls a1 a2 a3 a4 a5
  obtain ⟨hz, rm, r1, r2, r3, r4, hM⟩ := Cx.2.2.2.2.2.1 _ _ _ _ _ hF
  have hz1 := ho.1
  have hR := Cx.2.2.2.1
  have hlen : rest.length = n := by
    have e1 := congrArg List.length hk
    simp only [List.length_reverse, List.length_take, List.length_cons] at e1
    omega
  rw [S_split g S (n + 1), hk]
  rw [hk] at hM
  refine run_to (va_runIN (As := rest.map (rn g)) (rest := (S.drop (n + 1)).map (rn g)) (b := g.1 + k) (n := n) Cx.1 hM ⟨va_cnB n Cx.1.2.2.2.2 (mW_good w5) (by unfold mW; rw [hrt]) r1 r2 (Cx.2.1.2.1 _ w1) (Cx.1.2.2.2.2 _ w4) hy ⟨r3, by omega⟩, hin, Cx.1.2.2.2.2 _ w2⟩ ⟨cPre_blind g h _, fun U hU hW => ⟨rfl, cPre_at a1 a2 Cx.2.1 Cx.2.2.1.1 U hU hW⟩⟩ rfl (by rw [List.length_map]; exact hlen) a3.1 ?_ (lv_room (by rw [rn_sum]; exact hs)) hd ⟨by omega, by omega⟩) a2 (fun H1 locs1 hw hS1 => ?_)
  · simp [rn]
  · rw [← r_push]
    exact ho.2 H1 locs1 _ _ ls hw hS1 a3 (by omega) (by omega)
end SK
end
section
def noS (_ : Nat) (_ : Nat → Int32) : Prop := False
theorem k_fail {SC : Nat → (Nat → Int32) → Prop} {M : mI} {si : sI} {pc : Nat} : okA SC M si pc o_fail := ⟨m_fail, fun _ _ _ _ _ _ _ _ _ _ _ _ _ _ _ _ _ _ _ _ _ _ h => False.elim h⟩
theorem s_run {SC : Nat → (Nat → Int32) → Prop} {M : mI} {p : Program} {l : Launch} {e : Env} {R : Room} {s : State} {m : MethodId} {args : Array Value} {below : List Frame} {meth : Method} {c : Code} {Q : State → Prop} {g : gG} {n0 z0 N Z : Nat} {F : pF} {Rt : pR} {si : sI} {T : Nat → pO}
    (hT : ∀ pc, okA SC M si pc (T pc)) (C : cx SC M p l e R s m args below meth c Q g n0 z0 N Z F Rt si) {pc : Nat} {L : pL} {S : List Value} {h : pH} (hr : rRun T F Rt pc L S h) : wst p l e R s m args below meth c Q g si.2.2.1 n0 z0 N Z pc L S h :=
  hr _ (fun pc L S h hh => ⟨(hT pc).1.2 F Rt N Z (fun y as h r h1 q => (C.2.2.2.2.2.1 y as h r h1 q).1) (fun r h q => (C.2.2.2.2.2.2 r h q).1) L S h ((hT pc).1.1 F Rt _ _ L S h (fun _ _ _ _ q => q.1) hh), (hT pc).2 p l e R s m args below meth c Q g n0 z0 N Z F Rt C L S h hh⟩)
theorem s_call {T : Nat → Nat → pO} {ml : Nat → Nat} {M : mI} (hT : ∀ y pc, okA noS M (M y).2 pc (T y pc)) (hml : ∀ y, ml y = (M y).2.2.2.1) (hpn : ∀ y, plainName (M y).1.cls = true) (hini : ∀ y, (M y).2.2.2.2.2 = true → (M y).1.name = "<init>") (hown : ∀ y, (M y).2.2.1 = (M y).1.cls) :
    ∀ (d y : Nat) (as : List Value) (h : pH) (r : Option Value) (h1 : pH), rCall T ml d y as h r h1 → (h.length ≤ h1.length ∧ sz h ≤ sz h1) ∧ ∀ (l : Launch) (g : gG), Met l (M y).1 (mW M y) ({ frames := d, cells := h1.length - h.length, slots := sz h1 - sz h, locals := 64 * d } : Room) (va_Pc (as.map (rn g)) (cPre g h)) (cPost g r h1) (h1.length - h.length) (sz h1 - sz h) (nA g) := by
  intro d
  induction d with
  | zero => intro y as h r h1 hc; exact False.elim hc
  | succ d ih =>
    intro y as h r h1 ⟨hlen, hrun⟩
    have hle : h.length ≤ h1.length ∧ sz h ≤ sz h1 := hrun (fun _ _ _ h => h.length ≤ h1.length ∧ sz h ≤ sz h1) (fun pc L S h hh => (hT y pc).1.2 _ _ _ _ (fun y as h r h1 q => (ih y as h r h1 q).1) (fun r2 h2 q => by rw [q.2]; exact ⟨Nat.le_refl _, Nat.le_refl _⟩) L S h hh)
    refine ⟨hle, fun l g => ?_⟩
    refine Met.ofW (cc := (M y).2.1) (maxL := (M y).2.2.2.1) (ret := (M y).2.2.2.2.1) (hpn y) rfl ?_
    intro p e s m args below meth c s₁ B hm0 hv
    obtain ⟨rfl, q1, q2, q3⟩ := hv
    have hts := atoms_spec (ws := mW M y) B.pre
    have Cx : cx noS M p l e (headSpec (mW M y) ({ frames := d + 1, cells := h1.length - h.length, slots := sz h1 - sz h, locals := 64 * (d + 1) } : Room)).room s m (as.map (rn g)).toArray below meth c (MQ below (cPost g r h1) (as.map (rn g)).toArray s (h1.length - h.length) (sz h1 - sz h) (nA g)) g h.length (sz h) h1.length (sz h1) (rCall T ml d) (fun r1 h2 => r1 = r ∧ h2 = h1) (M y).2 := by
      refine ⟨⟨B.exec, B.bytes, hm0, ?_, fun w hw => hts w (List.mem_cons_of_mem _ hw)⟩, q2, ⟨q3, fun _ _ z => False.elim z⟩, ⟨by rw [q1.1]; exact Nat.le_add_right _ _, ?_, ?_, ?_, ?_⟩, fun z => ?_, fun y2 as2 h2 r2 h3 q => ?_, ?_⟩
      · rw [hown y]; exact findClass_of_methodNamed B.named
      · show _ ≤ h1.length - h.length + h.length; omega
      · show _ ≤ sz h1 - sz h + sz h; omega
      · show 1 ≤ d + 1; omega
      · show 32 ≤ 64 * (d + 1); omega
      · rw [(name_of_methodNamed B.named B.method).1]; exact hini y z
      · obtain ⟨z1, z2⟩ := ih y2 as2 h2 r2 h3 q
        exact ⟨z1, _, rfl, rfl, Nat.le_refl _, by show 64 + 64 * d ≤ 64 * (d + 1); omega, z2 l g⟩
      · rintro r2 h2 ⟨rfl, rfl⟩
        refine ⟨⟨Nat.le_refl _, Nat.le_refl _⟩, fun pc ins H locs cells slots ls a1 a2 a4 a5 hd hk => ?_⟩
        have c1 : cells = h2.length - h.length := by omega
        have c2 : slots = sz h2 - sz h := by omega
        subst c1; subst c2
        have hq : ∀ t : State, t.heap = H → s.WarmedH t.vm → cPost g r2 h2 (as.map (rn g)).toArray s (.returned (r2.map (rn g))) t := fun t ht hW => ⟨rfl, by rw [ht]; exact a1, a2.F ht⟩
        have hf : ∀ q ∈ locs, nA g q.base := a2.2.2
        have hlk := B.notSynchronized
        rcases hk with ⟨x, ty, rfl, rfl, h3, h4⟩ | ⟨x, rfl, rfl, h3⟩ | ⟨rfl, rfl, h3⟩ | ⟨v, n, rfl, hv, rfl, h3⟩
        · exact W.zret B.exec B.bytes (B.returns.trans h3) h4 hq hf hd hlk
        · exact W.lret B.exec B.bytes (B.returns.trans h3) hq hf hd hlk
        · exact W.vret B.exec B.bytes (B.returns.trans h3) hq hf hd hlk
        · refine W.aret B.exec B.bytes (B.returns.trans h3) (Or.inl ⟨n, rfl⟩) ?_ hq hf hd hlk
          rcases hv with rfl | ⟨k, rfl⟩
          · exact Or.inl rfl
          · exact Or.inr ⟨_, rfl⟩
    have key := s_run (hT y) Cx hrun
    rw [lg_entry_eq]
    rw [hml y] at hlen key
    exact key.2 s.heap [] 0 0 _ q1 va_S.rf (ent_lvh g as _ hlen) (Nat.zero_add _) (Nat.zero_add _)
end
section
theorem inG {i : Nat} {w : Cond} (h : lw_tbl[i]? = some w) (hg : goodWord w = true) : w ∈ cG := List.mem_filter.mpr ⟨List.mem_of_getElem? h, hg⟩
theorem inT {i : Nat} {w : Cond} (h : lw_tbl[i]? = some w) : w ∈ lw_tbl := List.mem_of_getElem? h
theorem w_0 : (Cond.selects "DuneMaps" ⟨"DuneMaps", "isCell", "(I)Z"⟩ ⟨"DuneMaps", "isCell", "(I)Z"⟩) ∈ cG := inG (i := 0) (by decide +kernel) rfl
theorem w_1 : (Cond.selects "DuneMaps$Sand" ⟨"DuneMaps$Sand", "leeOf", "(I)I"⟩ ⟨"DuneMaps$Sand", "leeOf", "(I)I"⟩) ∈ cG := inG (i := 1) (by decide +kernel) rfl
theorem w_2 : (Cond.selects "DuneMaps$Sand" ⟨"DuneMaps$Sand", "moveSand", "(III)I"⟩ ⟨"DuneMaps$Sand", "moveSand", "(III)I"⟩) ∈ cG := inG (i := 2) (by decide +kernel) rfl
theorem w_3 : (Cond.selects "DuneMaps$Sand" ⟨"DuneMaps$Sand", "luffOf", "(I)I"⟩ ⟨"DuneMaps$Sand", "luffOf", "(I)I"⟩) ∈ cG := inG (i := 3) (by decide +kernel) rfl
theorem w_4 : (Cond.selects "DuneMaps$Ordering" ⟨"DuneMaps$Ordering", "tryTurn", "(LDuneMaps$Land;III)V"⟩ ⟨"DuneMaps$Ordering", "tryTurn", "(LDuneMaps$Land;III)V"⟩) ∈ cG := inG (i := 4) (by decide +kernel) rfl
theorem w_5 : (Cond.selects "DuneMaps$Ordering" ⟨"DuneMaps$Ordering", "keep", "(I)V"⟩ ⟨"DuneMaps$Ordering", "keep", "(I)V"⟩) ∈ cG := inG (i := 5) (by decide +kernel) rfl
theorem w_6 : (Cond.selects "DuneMaps$Footing" ⟨"DuneMaps$Footing", "tryFrom", "(III)V"⟩ ⟨"DuneMaps$Footing", "tryFrom", "(III)V"⟩) ∈ cG := inG (i := 6) (by decide +kernel) rfl
theorem w_7 : (Cond.selects "DuneMaps$Dusk" ⟨"DuneMaps$Dusk", "tryWalk", "(ILDuneMaps$Sand;LDuneMaps$Sand;)V"⟩ ⟨"DuneMaps$Dusk", "tryWalk", "(ILDuneMaps$Sand;LDuneMaps$Sand;)V"⟩) ∈ cG := inG (i := 7) (by decide +kernel) rfl
theorem w_8 : (Cond.selects "DuneMaps" ⟨"DuneMaps", "withCells", "(J)J"⟩ ⟨"DuneMaps", "withCells", "(J)J"⟩) ∈ cG := inG (i := 8) (by decide +kernel) rfl
theorem w_9 : (Cond.selects "DuneMaps" ⟨"DuneMaps", "withOrder", "(J)J"⟩ ⟨"DuneMaps", "withOrder", "(J)J"⟩) ∈ cG := inG (i := 9) (by decide +kernel) rfl
theorem w_10 : (Cond.selects "DuneMapsModel" ⟨"DuneMapsModel", "faultOf", "(I)I"⟩ ⟨"DuneMapsModel", "faultOf", "(I)I"⟩) ∈ cG := inG (i := 10) (by decide +kernel) rfl
theorem w_11 : (Cond.selects "DuneMapsModel" ⟨"DuneMapsModel", "isCell", "(I)Z"⟩ ⟨"DuneMapsModel", "isCell", "(I)Z"⟩) ∈ cG := inG (i := 11) (by decide +kernel) rfl
theorem w_12 : (Cond.selects "DuneMapsModel" ⟨"DuneMapsModel", "tellCell", "(II)I"⟩ ⟨"DuneMapsModel", "tellCell", "(II)I"⟩) ∈ cG := inG (i := 12) (by decide +kernel) rfl
theorem w_13 : (Cond.selects "DuneMapsModel" ⟨"DuneMapsModel", "walkersAt", "(I)I"⟩ ⟨"DuneMapsModel", "walkersAt", "(I)I"⟩) ∈ cG := inG (i := 13) (by decide +kernel) rfl
theorem w_14 : (Cond.selects "DuneMapsModel" ⟨"DuneMapsModel", "nightOf", "([I)I"⟩ ⟨"DuneMapsModel", "nightOf", "([I)I"⟩) ∈ cG := inG (i := 14) (by decide +kernel) rfl
theorem w_15 : (Cond.selects "DuneMapsModel" ⟨"DuneMapsModel", "crests", "([I)I"⟩ ⟨"DuneMapsModel", "crests", "([I)I"⟩) ∈ cG := inG (i := 15) (by decide +kernel) rfl
theorem w_16 : (Cond.selects "DuneMapsModel" ⟨"DuneMapsModel", "leeOf", "(I)I"⟩ ⟨"DuneMapsModel", "leeOf", "(I)I"⟩) ∈ cG := inG (i := 16) (by decide +kernel) rfl
theorem w_17 : (Cond.selects "DuneMapsModel" ⟨"DuneMapsModel", "isWalker", "(I)Z"⟩ ⟨"DuneMapsModel", "isWalker", "(I)Z"⟩) ∈ cG := inG (i := 17) (by decide +kernel) rfl
theorem w_18 : (Cond.selects "DuneMapsModel" ⟨"DuneMapsModel", "tell", "(II)I"⟩ ⟨"DuneMapsModel", "tell", "(II)I"⟩) ∈ cG := inG (i := 18) (by decide +kernel) rfl
theorem w_19 : (Cond.selects "DuneMapsModel" ⟨"DuneMapsModel", "hasMap", "(I)Z"⟩ ⟨"DuneMapsModel", "hasMap", "(I)Z"⟩) ∈ cG := inG (i := 19) (by decide +kernel) rfl
theorem w_20 : (Cond.selects "DuneMapsModel" ⟨"DuneMapsModel", "isGood", "([II)Z"⟩ ⟨"DuneMapsModel", "isGood", "([II)Z"⟩) ∈ cG := inG (i := 20) (by decide +kernel) rfl
theorem w_21 : (Cond.selects "DuneMapsModel" ⟨"DuneMapsModel", "steps", "(II)I"⟩ ⟨"DuneMapsModel", "steps", "(II)I"⟩) ∈ cG := inG (i := 21) (by decide +kernel) rfl
theorem w_22 : (Cond.selects "DuneMapsModel" ⟨"DuneMapsModel", "treads", "([III)I"⟩ ⟨"DuneMapsModel", "treads", "([III)I"⟩) ∈ cG := inG (i := 22) (by decide +kernel) rfl
theorem w_23 : (Cond.selects "DuneMapsModel" ⟨"DuneMapsModel", "luffOf", "(I)I"⟩ ⟨"DuneMapsModel", "luffOf", "(I)I"⟩) ∈ cG := inG (i := 23) (by decide +kernel) rfl
theorem w_24 : (Cond.selects "DuneMapsModel" ⟨"DuneMapsModel", "tellOrder", "(I)I"⟩ ⟨"DuneMapsModel", "tellOrder", "(I)I"⟩) ∈ cG := inG (i := 24) (by decide +kernel) rfl
theorem w_25 : (Cond.selects "DuneMapsModel" ⟨"DuneMapsModel", "layOrder", "()I"⟩ ⟨"DuneMapsModel", "layOrder", "()I"⟩) ∈ cG := inG (i := 25) (by decide +kernel) rfl
theorem w_26 : (Cond.selects "DuneMapsModel" ⟨"DuneMapsModel", "layWho", "()V"⟩ ⟨"DuneMapsModel", "layWho", "()V"⟩) ∈ cG := inG (i := 26) (by decide +kernel) rfl
theorem w_27 : (Cond.selects "DuneMapsModel" ⟨"DuneMapsModel", "isOrder", "(I)Z"⟩ ⟨"DuneMapsModel", "isOrder", "(I)Z"⟩) ∈ cG := inG (i := 27) (by decide +kernel) rfl
theorem w_28 : (Cond.selects "DuneMapsModel" ⟨"DuneMapsModel", "goes", "(I)V"⟩ ⟨"DuneMapsModel", "goes", "(I)V"⟩) ∈ cG := inG (i := 28) (by decide +kernel) rfl
theorem w_29 : (Cond.selects "DuneMapsModel" ⟨"DuneMapsModel", "feetOf", "(IIII)I"⟩ ⟨"DuneMapsModel", "feetOf", "(IIII)I"⟩) ∈ cG := inG (i := 29) (by decide +kernel) rfl
theorem w_30 : (Cond.selects "DuneMapsModel" ⟨"DuneMapsModel", "highBy", "(IIII)I"⟩ ⟨"DuneMapsModel", "highBy", "(IIII)I"⟩) ∈ cG := inG (i := 30) (by decide +kernel) rfl
theorem w_31 : (Cond.selects "DuneMapsModel" ⟨"DuneMapsModel", "whoOf", "(I)I"⟩ ⟨"DuneMapsModel", "whoOf", "(I)I"⟩) ∈ cG := inG (i := 31) (by decide +kernel) rfl
theorem w_32 : (Cond.selects "DuneMapsModel" ⟨"DuneMapsModel", "isAsNow", "()Z"⟩ ⟨"DuneMapsModel", "isAsNow", "()Z"⟩) ∈ cG := inG (i := 32) (by decide +kernel) rfl
theorem w_33 : (Cond.selects "DuneMapsModel" ⟨"DuneMapsModel", "draw", "(I)I"⟩ ⟨"DuneMapsModel", "draw", "(I)I"⟩) ∈ cG := inG (i := 33) (by decide +kernel) rfl
theorem w_34 : (Cond.selects "DuneMapsModel" ⟨"DuneMapsModel", "countOf", "(I)I"⟩ ⟨"DuneMapsModel", "countOf", "(I)I"⟩) ∈ cG := inG (i := 34) (by decide +kernel) rfl
theorem w_35 : (Cond.selects "DuneMapsModel" ⟨"DuneMapsModel", "sumBy", "(I)I"⟩ ⟨"DuneMapsModel", "sumBy", "(I)I"⟩) ∈ cG := inG (i := 35) (by decide +kernel) rfl
theorem w_36 : (Cond.selects "DuneMapsModel" ⟨"DuneMapsModel", "sayDunes", "()V"⟩ ⟨"DuneMapsModel", "sayDunes", "()V"⟩) ∈ cG := inG (i := 36) (by decide +kernel) rfl
theorem w_37 : (Cond.selects "DuneMapsModel" ⟨"DuneMapsModel", "say", "(J)V"⟩ ⟨"DuneMapsModel", "say", "(J)V"⟩) ∈ cG := inG (i := 37) (by decide +kernel) rfl
theorem w_38 : (Cond.initialized "DuneMapsLaw") ∈ cG := inG (i := 38) (by decide +kernel) rfl
theorem w_39 : (Cond.initialized "DuneMaps") ∈ cG := inG (i := 39) (by decide +kernel) rfl
theorem w_40 : (Cond.initialized "DuneMaps$Page") ∈ cG := inG (i := 40) (by decide +kernel) rfl
theorem w_41 : (Cond.initialized "DuneMaps$Land") ∈ cG := inG (i := 41) (by decide +kernel) rfl
theorem w_42 : (Cond.initialized "DuneMaps$Sand") ∈ cG := inG (i := 42) (by decide +kernel) rfl
theorem w_43 : (Cond.initialized "DuneMaps$Walker") ∈ cG := inG (i := 43) (by decide +kernel) rfl
theorem w_44 : (Cond.initialized "DuneMaps$Ordering") ∈ cG := inG (i := 44) (by decide +kernel) rfl
theorem w_45 : (Cond.initialized "DuneMaps$Footing") ∈ cG := inG (i := 45) (by decide +kernel) rfl
theorem w_46 : (Cond.initialized "DuneMaps$Dusk") ∈ cG := inG (i := 46) (by decide +kernel) rfl
theorem w_47 : (Cond.initialized "DuneMapsModel") ∈ cG := inG (i := 47) (by decide +kernel) rfl
theorem w_48 : (Cond.initialized "java/lang/Math") ∈ cG := inG (i := 48) (by decide +kernel) rfl
theorem w_49 : (Cond.initialized "java/lang/Integer") ∈ cG := inG (i := 49) (by decide +kernel) rfl
theorem w_50 : (Cond.classLink "DuneMapsLaw" (7 : Nat) "DuneMaps") ∈ cG := inG (i := 50) (by decide +kernel) rfl
theorem w_51 : (Cond.instantiable "DuneMaps" (12 : Nat)) ∈ cG := inG (i := 51) (by decide +kernel) rfl
theorem w_52 : (Cond.methodLink "DuneMapsLaw" (9 : Nat) ({ cls := "DuneMaps", name := "<init>", desc := "()V" } : MethodName)) ∈ cG := inG (i := 52) (by decide +kernel) rfl
theorem w_53 : (Cond.instanceMethod ({ cls := "DuneMaps", name := "<init>", desc := "()V" } : MethodName)) ∈ cG := inG (i := 53) (by decide +kernel) rfl
theorem w_54 : (Cond.code ({ cls := "DuneMaps", name := "<init>", desc := "()V" } : MethodName) prog_1_method_1_code (1 : Nat) (Option.none : Option FieldType)) ∈ cG := inG (i := 54) (by decide +kernel) rfl
theorem w_55 : (Cond.methodLink "DuneMaps" (3 : Nat) ({ cls := "java/lang/Object", name := "<init>", desc := "()V" } : MethodName)) ∈ cG := inG (i := 55) (by decide +kernel) rfl
theorem w_56 : (Cond.instanceMethod ({ cls := "java/lang/Object", name := "<init>", desc := "()V" } : MethodName)) ∈ cG := inG (i := 56) (by decide +kernel) rfl
theorem w_57 : (Cond.code ({ cls := "java/lang/Object", name := "<init>", desc := "()V" } : MethodName) object_method_1_code (1 : Nat) (Option.none : Option FieldType)) ∈ cG := inG (i := 57) (by decide +kernel) rfl
theorem w_58 : (Cond.classLink "DuneMaps" (9 : Nat) "DuneMaps$Page") ∈ cG := inG (i := 58) (by decide +kernel) rfl
theorem w_59 : (Cond.instantiable "DuneMaps$Page" (2 : Nat)) ∈ cG := inG (i := 59) (by decide +kernel) rfl
theorem w_60 : (Cond.methodLinkNest "DuneMaps" (11 : Nat) ({ cls := "DuneMaps$Page", name := "<init>", desc := "()V" } : MethodName) "DuneMaps") ∈ lw_tbl := inT (i := 60) (by decide +kernel)
theorem w_61 : (Cond.instanceMethod ({ cls := "DuneMaps$Page", name := "<init>", desc := "()V" } : MethodName)) ∈ cG := inG (i := 61) (by decide +kernel) rfl
theorem w_62 : (Cond.code ({ cls := "DuneMaps$Page", name := "<init>", desc := "()V" } : MethodName) prog_6_method_1_code (1 : Nat) (Option.none : Option FieldType)) ∈ cG := inG (i := 62) (by decide +kernel) rfl
theorem w_63 : (Cond.methodLink "DuneMaps$Page" (3 : Nat) ({ cls := "java/lang/Object", name := "<init>", desc := "()V" } : MethodName)) ∈ cG := inG (i := 63) (by decide +kernel) rfl
theorem w_64 : (Cond.fieldLink "DuneMaps$Page" (9 : Nat) "DuneMaps$Page" "codes" "[I") ∈ cG := inG (i := 64) (by decide +kernel) rfl
theorem w_65 : (Cond.fieldLink "DuneMaps$Page" (15 : Nat) "DuneMaps$Page" "length" "I") ∈ cG := inG (i := 65) (by decide +kernel) rfl
theorem w_66 : (Cond.fieldLink "DuneMaps" (61 : Nat) "DuneMaps$Page" "length" "I") ∈ cG := inG (i := 66) (by decide +kernel) rfl
theorem w_67 : (Cond.laysFinal "DuneMaps$Page" "DuneMaps$Page" "codes" "[I") ∈ cG := inG (i := 67) (by decide +kernel) rfl
theorem w_68 : (Cond.soleField "DuneMaps$Page" "codes") ∈ lw_tbl := inT (i := 68) (by decide +kernel)
theorem w_69 : (Cond.lays "DuneMaps$Page" "DuneMaps$Page" "length" "I") ∈ cG := inG (i := 69) (by decide +kernel) rfl
theorem w_70 : (Cond.soleField "DuneMaps$Page" "length") ∈ lw_tbl := inT (i := 70) (by decide +kernel)
theorem w_71 : (Cond.superclass "DuneMaps$Page" "java/lang/Object") ∈ lw_tbl := inT (i := 71) (by decide +kernel)
theorem w_72 : (Cond.arrayClass FieldType.int) ∈ cG := inG (i := 72) (by decide +kernel) rfl
theorem w_73 : (Cond.classLink "DuneMaps" (16 : Nat) "DuneMaps$Land") ∈ cG := inG (i := 73) (by decide +kernel) rfl
theorem w_74 : (Cond.instantiable "DuneMaps$Land" (4 : Nat)) ∈ cG := inG (i := 74) (by decide +kernel) rfl
theorem w_75 : (Cond.methodLink "DuneMaps" (18 : Nat) ({ cls := "DuneMaps$Land", name := "<init>", desc := "()V" } : MethodName)) ∈ cG := inG (i := 75) (by decide +kernel) rfl
theorem w_76 : (Cond.instanceMethod ({ cls := "DuneMaps$Land", name := "<init>", desc := "()V" } : MethodName)) ∈ cG := inG (i := 76) (by decide +kernel) rfl
theorem w_77 : (Cond.code ({ cls := "DuneMaps$Land", name := "<init>", desc := "()V" } : MethodName) prog_4_method_1_code (2 : Nat) (Option.none : Option FieldType)) ∈ cG := inG (i := 77) (by decide +kernel) rfl
theorem w_78 : (Cond.methodLink "DuneMaps$Land" (3 : Nat) ({ cls := "java/lang/Object", name := "<init>", desc := "()V" } : MethodName)) ∈ cG := inG (i := 78) (by decide +kernel) rfl
theorem w_79 : (Cond.classLink "DuneMaps$Land" (9 : Nat) "DuneMaps$Sand") ∈ cG := inG (i := 79) (by decide +kernel) rfl
theorem w_80 : (Cond.instantiable "DuneMaps$Sand" (2 : Nat)) ∈ cG := inG (i := 80) (by decide +kernel) rfl
theorem w_81 : (Cond.methodLinkNest "DuneMaps$Land" (11 : Nat) ({ cls := "DuneMaps$Sand", name := "<init>", desc := "()V" } : MethodName) "DuneMaps") ∈ lw_tbl := inT (i := 81) (by decide +kernel)
theorem w_82 : (Cond.instanceMethod ({ cls := "DuneMaps$Sand", name := "<init>", desc := "()V" } : MethodName)) ∈ cG := inG (i := 82) (by decide +kernel) rfl
theorem w_83 : (Cond.code ({ cls := "DuneMaps$Sand", name := "<init>", desc := "()V" } : MethodName) prog_7_method_1_code (1 : Nat) (Option.none : Option FieldType)) ∈ cG := inG (i := 83) (by decide +kernel) rfl
theorem w_84 : (Cond.methodLink "DuneMaps$Sand" (3 : Nat) ({ cls := "java/lang/Object", name := "<init>", desc := "()V" } : MethodName)) ∈ cG := inG (i := 84) (by decide +kernel) rfl
theorem w_85 : (Cond.fieldLink "DuneMaps$Sand" (9 : Nat) "DuneMaps$Sand" "heights" "[I") ∈ cG := inG (i := 85) (by decide +kernel) rfl
theorem w_86 : (Cond.fieldLink "DuneMaps$Dusk" (24 : Nat) "DuneMaps$Sand" "blowsOn" "Z") ∈ cG := inG (i := 86) (by decide +kernel) rfl
theorem w_87 : (Cond.fieldLink "DuneMaps$Sand" (19 : Nat) "DuneMaps$Sand" "blowsOn" "Z") ∈ cG := inG (i := 87) (by decide +kernel) rfl
theorem w_88 : (Cond.fieldLink "DuneMaps" (86 : Nat) "DuneMaps$Sand" "blowsOn" "Z") ∈ cG := inG (i := 88) (by decide +kernel) rfl
theorem w_89 : (Cond.laysFinal "DuneMaps$Sand" "DuneMaps$Sand" "heights" "[I") ∈ cG := inG (i := 89) (by decide +kernel) rfl
theorem w_90 : (Cond.soleField "DuneMaps$Sand" "heights") ∈ lw_tbl := inT (i := 90) (by decide +kernel)
theorem w_91 : (Cond.lays "DuneMaps$Sand" "DuneMaps$Sand" "blowsOn" "Z") ∈ cG := inG (i := 91) (by decide +kernel) rfl
theorem w_92 : (Cond.soleField "DuneMaps$Sand" "blowsOn") ∈ lw_tbl := inT (i := 92) (by decide +kernel)
theorem w_93 : (Cond.superclass "DuneMaps$Sand" "java/lang/Object") ∈ lw_tbl := inT (i := 93) (by decide +kernel)
theorem w_94 : (Cond.classLink "DuneMaps$Land" (18 : Nat) "DuneMaps$Walker") ∈ cG := inG (i := 94) (by decide +kernel) rfl
theorem w_95 : (Cond.arrayOver (FieldType.object "DuneMaps$Walker")) ∈ lw_tbl := inT (i := 95) (by decide +kernel)
theorem w_96 : (Cond.instantiable "DuneMaps$Walker" (6 : Nat)) ∈ cG := inG (i := 96) (by decide +kernel) rfl
theorem w_97 : (Cond.methodLinkNest "DuneMaps$Land" (24 : Nat) ({ cls := "DuneMaps$Walker", name := "<init>", desc := "()V" } : MethodName) "DuneMaps") ∈ lw_tbl := inT (i := 97) (by decide +kernel)
theorem w_98 : (Cond.instanceMethod ({ cls := "DuneMaps$Walker", name := "<init>", desc := "()V" } : MethodName)) ∈ cG := inG (i := 98) (by decide +kernel) rfl
theorem w_99 : (Cond.code ({ cls := "DuneMaps$Walker", name := "<init>", desc := "()V" } : MethodName) prog_8_method_1_code (1 : Nat) (Option.none : Option FieldType)) ∈ cG := inG (i := 99) (by decide +kernel) rfl
theorem w_100 : (Cond.methodLink "DuneMaps$Walker" (3 : Nat) ({ cls := "java/lang/Object", name := "<init>", desc := "()V" } : MethodName)) ∈ cG := inG (i := 100) (by decide +kernel) rfl
theorem w_101 : (Cond.fieldLink "DuneMaps$Walker" (9 : Nat) "DuneMaps$Walker" "told" "[I") ∈ cG := inG (i := 101) (by decide +kernel) rfl
theorem w_102 : (Cond.fieldLink "DuneMaps$Walker" (15 : Nat) "DuneMaps$Walker" "kind" "I") ∈ cG := inG (i := 102) (by decide +kernel) rfl
theorem w_103 : (Cond.fieldLink "DuneMaps$Footing" (18 : Nat) "DuneMaps$Walker" "kind" "I") ∈ cG := inG (i := 103) (by decide +kernel) rfl
theorem w_104 : (Cond.fieldLink "DuneMaps" (139 : Nat) "DuneMaps$Walker" "kind" "I") ∈ cG := inG (i := 104) (by decide +kernel) rfl
theorem w_105 : (Cond.fieldLink "DuneMaps$Walker" (19 : Nat) "DuneMaps$Walker" "place" "I") ∈ cG := inG (i := 105) (by decide +kernel) rfl
theorem w_106 : (Cond.fieldLink "DuneMaps$Footing" (44 : Nat) "DuneMaps$Walker" "place" "I") ∈ cG := inG (i := 106) (by decide +kernel) rfl
theorem w_107 : (Cond.fieldLink "DuneMaps$Land" (43 : Nat) "DuneMaps$Walker" "place" "I") ∈ cG := inG (i := 107) (by decide +kernel) rfl
theorem w_108 : (Cond.fieldLink "DuneMaps" (144 : Nat) "DuneMaps$Walker" "place" "I") ∈ cG := inG (i := 108) (by decide +kernel) rfl
theorem w_109 : (Cond.fieldLink "DuneMaps$Walker" (22 : Nat) "DuneMaps$Walker" "stepsGone" "I") ∈ cG := inG (i := 109) (by decide +kernel) rfl
theorem w_110 : (Cond.fieldLink "DuneMaps$Land" (58 : Nat) "DuneMaps$Walker" "stepsGone" "I") ∈ cG := inG (i := 110) (by decide +kernel) rfl
theorem w_111 : (Cond.fieldLink "DuneMaps" (150 : Nat) "DuneMaps$Walker" "stepsGone" "I") ∈ cG := inG (i := 111) (by decide +kernel) rfl
theorem w_112 : (Cond.fieldLink "DuneMaps$Walker" (25 : Nat) "DuneMaps$Walker" "mapWay" "I") ∈ cG := inG (i := 112) (by decide +kernel) rfl
theorem w_113 : (Cond.fieldLink "DuneMaps" (160 : Nat) "DuneMaps$Walker" "mapWay" "I") ∈ cG := inG (i := 113) (by decide +kernel) rfl
theorem w_114 : (Cond.fieldLink "DuneMaps$Walker" (28 : Nat) "DuneMaps$Walker" "mapSteps" "I") ∈ cG := inG (i := 114) (by decide +kernel) rfl
theorem w_115 : (Cond.fieldLink "DuneMaps" (163 : Nat) "DuneMaps$Walker" "mapSteps" "I") ∈ cG := inG (i := 115) (by decide +kernel) rfl
theorem w_116 : (Cond.laysFinal "DuneMaps$Walker" "DuneMaps$Walker" "told" "[I") ∈ cG := inG (i := 116) (by decide +kernel) rfl
theorem w_117 : (Cond.soleField "DuneMaps$Walker" "told") ∈ lw_tbl := inT (i := 117) (by decide +kernel)
theorem w_118 : (Cond.lays "DuneMaps$Walker" "DuneMaps$Walker" "kind" "I") ∈ cG := inG (i := 118) (by decide +kernel) rfl
theorem w_119 : (Cond.soleField "DuneMaps$Walker" "kind") ∈ lw_tbl := inT (i := 119) (by decide +kernel)
theorem w_120 : (Cond.lays "DuneMaps$Walker" "DuneMaps$Walker" "place" "I") ∈ cG := inG (i := 120) (by decide +kernel) rfl
theorem w_121 : (Cond.soleField "DuneMaps$Walker" "place") ∈ lw_tbl := inT (i := 121) (by decide +kernel)
theorem w_122 : (Cond.lays "DuneMaps$Walker" "DuneMaps$Walker" "stepsGone" "I") ∈ cG := inG (i := 122) (by decide +kernel) rfl
theorem w_123 : (Cond.soleField "DuneMaps$Walker" "stepsGone") ∈ lw_tbl := inT (i := 123) (by decide +kernel)
theorem w_124 : (Cond.lays "DuneMaps$Walker" "DuneMaps$Walker" "mapWay" "I") ∈ cG := inG (i := 124) (by decide +kernel) rfl
theorem w_125 : (Cond.soleField "DuneMaps$Walker" "mapWay") ∈ lw_tbl := inT (i := 125) (by decide +kernel)
theorem w_126 : (Cond.lays "DuneMaps$Walker" "DuneMaps$Walker" "mapSteps" "I") ∈ cG := inG (i := 126) (by decide +kernel) rfl
theorem w_127 : (Cond.soleField "DuneMaps$Walker" "mapSteps") ∈ lw_tbl := inT (i := 127) (by decide +kernel)
theorem w_128 : (Cond.superclass "DuneMaps$Walker" "java/lang/Object") ∈ lw_tbl := inT (i := 128) (by decide +kernel)
theorem w_129 : (Cond.fieldLink "DuneMaps$Land" (12 : Nat) "DuneMaps$Land" "sand" "LDuneMaps$Sand;") ∈ cG := inG (i := 129) (by decide +kernel) rfl
theorem w_130 : (Cond.fieldLink "DuneMaps$Ordering" (38 : Nat) "DuneMaps$Land" "sand" "LDuneMaps$Sand;") ∈ cG := inG (i := 130) (by decide +kernel) rfl
theorem w_131 : (Cond.fieldLink "DuneMaps" (75 : Nat) "DuneMaps$Land" "sand" "LDuneMaps$Sand;") ∈ cG := inG (i := 131) (by decide +kernel) rfl
theorem w_132 : (Cond.fieldLink "DuneMaps$Land" (20 : Nat) "DuneMaps$Land" "walkers" "[LDuneMaps$Walker;") ∈ cG := inG (i := 132) (by decide +kernel) rfl
theorem w_133 : (Cond.fieldLink "DuneMaps$Land" (25 : Nat) "DuneMaps$Land" "walkerCount" "I") ∈ cG := inG (i := 133) (by decide +kernel) rfl
theorem w_134 : (Cond.fieldLink "DuneMaps$Ordering" (54 : Nat) "DuneMaps$Land" "walkerCount" "I") ∈ cG := inG (i := 134) (by decide +kernel) rfl
theorem w_135 : (Cond.fieldLink "DuneMaps" (225 : Nat) "DuneMaps$Land" "walkerCount" "I") ∈ cG := inG (i := 135) (by decide +kernel) rfl
theorem w_136 : (Cond.fieldLink "DuneMaps$Land" (29 : Nat) "DuneMaps$Land" "nights" "I") ∈ cG := inG (i := 136) (by decide +kernel) rfl
theorem w_137 : (Cond.fieldLink "DuneMaps" (122 : Nat) "DuneMaps$Land" "nights" "I") ∈ cG := inG (i := 137) (by decide +kernel) rfl
theorem w_138 : (Cond.laysFinal "DuneMaps$Land" "DuneMaps$Land" "sand" "LDuneMaps$Sand;") ∈ cG := inG (i := 138) (by decide +kernel) rfl
theorem w_139 : (Cond.soleField "DuneMaps$Land" "sand") ∈ lw_tbl := inT (i := 139) (by decide +kernel)
theorem w_140 : (Cond.laysFinal "DuneMaps$Land" "DuneMaps$Land" "walkers" "[LDuneMaps$Walker;") ∈ cG := inG (i := 140) (by decide +kernel) rfl
theorem w_141 : (Cond.soleField "DuneMaps$Land" "walkers") ∈ lw_tbl := inT (i := 141) (by decide +kernel)
theorem w_142 : (Cond.lays "DuneMaps$Land" "DuneMaps$Land" "walkerCount" "I") ∈ cG := inG (i := 142) (by decide +kernel) rfl
theorem w_143 : (Cond.soleField "DuneMaps$Land" "walkerCount") ∈ lw_tbl := inT (i := 143) (by decide +kernel)
theorem w_144 : (Cond.lays "DuneMaps$Land" "DuneMaps$Land" "nights" "I") ∈ cG := inG (i := 144) (by decide +kernel) rfl
theorem w_145 : (Cond.soleField "DuneMaps$Land" "nights") ∈ lw_tbl := inT (i := 145) (by decide +kernel)
theorem w_146 : (Cond.superclass "DuneMaps$Land" "java/lang/Object") ∈ lw_tbl := inT (i := 146) (by decide +kernel)
theorem w_147 : (Cond.classLink "DuneMaps" (26 : Nat) "DuneMaps$Sand") ∈ cG := inG (i := 147) (by decide +kernel) rfl
theorem w_148 : (Cond.methodLinkNest "DuneMaps" (28 : Nat) ({ cls := "DuneMaps$Sand", name := "<init>", desc := "()V" } : MethodName) "DuneMaps") ∈ lw_tbl := inT (i := 148) (by decide +kernel)
theorem w_149 : (Cond.classLink "DuneMaps" (36 : Nat) "DuneMaps$Ordering") ∈ cG := inG (i := 149) (by decide +kernel) rfl
theorem w_150 : (Cond.instantiable "DuneMaps$Ordering" (5 : Nat)) ∈ cG := inG (i := 150) (by decide +kernel) rfl
theorem w_151 : (Cond.methodLink "DuneMaps" (38 : Nat) ({ cls := "DuneMaps$Ordering", name := "<init>", desc := "()V" } : MethodName)) ∈ cG := inG (i := 151) (by decide +kernel) rfl
theorem w_152 : (Cond.instanceMethod ({ cls := "DuneMaps$Ordering", name := "<init>", desc := "()V" } : MethodName)) ∈ cG := inG (i := 152) (by decide +kernel) rfl
theorem w_153 : (Cond.code ({ cls := "DuneMaps$Ordering", name := "<init>", desc := "()V" } : MethodName) prog_5_method_1_code (2 : Nat) (Option.none : Option FieldType)) ∈ cG := inG (i := 153) (by decide +kernel) rfl
theorem w_154 : (Cond.methodLink "DuneMaps$Ordering" (3 : Nat) ({ cls := "java/lang/Object", name := "<init>", desc := "()V" } : MethodName)) ∈ cG := inG (i := 154) (by decide +kernel) rfl
theorem w_155 : (Cond.classLink "DuneMaps$Ordering" (9 : Nat) "DuneMaps$Sand") ∈ cG := inG (i := 155) (by decide +kernel) rfl
theorem w_156 : (Cond.arrayOver (FieldType.object "DuneMaps$Sand")) ∈ lw_tbl := inT (i := 156) (by decide +kernel)
theorem w_157 : (Cond.methodLinkNest "DuneMaps$Ordering" (24 : Nat) ({ cls := "DuneMaps$Sand", name := "<init>", desc := "()V" } : MethodName) "DuneMaps") ∈ lw_tbl := inT (i := 157) (by decide +kernel)
theorem w_158 : (Cond.fieldLink "DuneMaps$Ordering" (11 : Nat) "DuneMaps$Ordering" "sands" "[LDuneMaps$Sand;") ∈ cG := inG (i := 158) (by decide +kernel) rfl
theorem w_159 : (Cond.fieldLink "DuneMaps$Ordering" (17 : Nat) "DuneMaps$Ordering" "turns" "[I") ∈ cG := inG (i := 159) (by decide +kernel) rfl
theorem w_160 : (Cond.fieldLink "DuneMaps$Ordering" (21 : Nat) "DuneMaps$Ordering" "best" "[I") ∈ cG := inG (i := 160) (by decide +kernel) rfl
theorem w_161 : (Cond.fieldLink "DuneMaps$Ordering" (25 : Nat) "DuneMaps$Ordering" "goers" "I") ∈ cG := inG (i := 161) (by decide +kernel) rfl
theorem w_162 : (Cond.fieldLink "DuneMaps$Ordering" (35 : Nat) "DuneMaps$Ordering" "mostGood" "I") ∈ cG := inG (i := 162) (by decide +kernel) rfl
theorem w_163 : (Cond.fieldLink "DuneMaps" (187 : Nat) "DuneMaps$Ordering" "mostGood" "I") ∈ cG := inG (i := 163) (by decide +kernel) rfl
theorem w_164 : (Cond.laysFinal "DuneMaps$Ordering" "DuneMaps$Ordering" "sands" "[LDuneMaps$Sand;") ∈ cG := inG (i := 164) (by decide +kernel) rfl
theorem w_165 : (Cond.soleField "DuneMaps$Ordering" "sands") ∈ lw_tbl := inT (i := 165) (by decide +kernel)
theorem w_166 : (Cond.laysFinal "DuneMaps$Ordering" "DuneMaps$Ordering" "turns" "[I") ∈ cG := inG (i := 166) (by decide +kernel) rfl
theorem w_167 : (Cond.soleField "DuneMaps$Ordering" "turns") ∈ lw_tbl := inT (i := 167) (by decide +kernel)
theorem w_168 : (Cond.laysFinal "DuneMaps$Ordering" "DuneMaps$Ordering" "best" "[I") ∈ cG := inG (i := 168) (by decide +kernel) rfl
theorem w_169 : (Cond.soleField "DuneMaps$Ordering" "best") ∈ lw_tbl := inT (i := 169) (by decide +kernel)
theorem w_170 : (Cond.lays "DuneMaps$Ordering" "DuneMaps$Ordering" "goers" "I") ∈ cG := inG (i := 170) (by decide +kernel) rfl
theorem w_171 : (Cond.soleField "DuneMaps$Ordering" "goers") ∈ lw_tbl := inT (i := 171) (by decide +kernel)
theorem w_172 : (Cond.lays "DuneMaps$Ordering" "DuneMaps$Ordering" "mostGood" "I") ∈ cG := inG (i := 172) (by decide +kernel) rfl
theorem w_173 : (Cond.soleField "DuneMaps$Ordering" "mostGood") ∈ lw_tbl := inT (i := 173) (by decide +kernel)
theorem w_174 : (Cond.superclass "DuneMaps$Ordering" "java/lang/Object") ∈ lw_tbl := inT (i := 174) (by decide +kernel)
theorem w_175 : (Cond.classLink "DuneMaps" (43 : Nat) "DuneMaps$Footing") ∈ cG := inG (i := 175) (by decide +kernel) rfl
theorem w_176 : (Cond.instantiable "DuneMaps$Footing" (7 : Nat)) ∈ cG := inG (i := 176) (by decide +kernel) rfl
theorem w_177 : (Cond.methodLink "DuneMaps" (45 : Nat) ({ cls := "DuneMaps$Footing", name := "<init>", desc := "()V" } : MethodName)) ∈ cG := inG (i := 177) (by decide +kernel) rfl
theorem w_178 : (Cond.instanceMethod ({ cls := "DuneMaps$Footing", name := "<init>", desc := "()V" } : MethodName)) ∈ cG := inG (i := 178) (by decide +kernel) rfl
theorem w_179 : (Cond.code ({ cls := "DuneMaps$Footing", name := "<init>", desc := "()V" } : MethodName) prog_3_method_1_code (2 : Nat) (Option.none : Option FieldType)) ∈ cG := inG (i := 179) (by decide +kernel) rfl
theorem w_180 : (Cond.methodLink "DuneMaps$Footing" (3 : Nat) ({ cls := "java/lang/Object", name := "<init>", desc := "()V" } : MethodName)) ∈ cG := inG (i := 180) (by decide +kernel) rfl
theorem w_181 : (Cond.classLink "DuneMaps$Footing" (9 : Nat) "DuneMaps$Sand") ∈ cG := inG (i := 181) (by decide +kernel) rfl
theorem w_182 : (Cond.methodLinkNest "DuneMaps$Footing" (17 : Nat) ({ cls := "DuneMaps$Sand", name := "<init>", desc := "()V" } : MethodName) "DuneMaps") ∈ lw_tbl := inT (i := 182) (by decide +kernel)
theorem w_183 : (Cond.fieldLink "DuneMaps$Footing" (11 : Nat) "DuneMaps$Footing" "sands" "[LDuneMaps$Sand;") ∈ cG := inG (i := 183) (by decide +kernel) rfl
theorem w_184 : (Cond.fieldLink "DuneMaps$Footing" (24 : Nat) "DuneMaps$Footing" "kind" "I") ∈ cG := inG (i := 184) (by decide +kernel) rfl
theorem w_185 : (Cond.fieldLink "DuneMaps$Footing" (25 : Nat) "DuneMaps$Footing" "goal" "I") ∈ cG := inG (i := 185) (by decide +kernel) rfl
theorem w_186 : (Cond.fieldLink "DuneMaps$Footing" (28 : Nat) "DuneMaps$Footing" "goalHeight" "I") ∈ cG := inG (i := 186) (by decide +kernel) rfl
theorem w_187 : (Cond.fieldLink "DuneMaps$Footing" (31 : Nat) "DuneMaps$Footing" "stepsLeft" "I") ∈ cG := inG (i := 187) (by decide +kernel) rfl
theorem w_188 : (Cond.fieldLink "DuneMaps$Footing" (34 : Nat) "DuneMaps$Footing" "fewest" "I") ∈ cG := inG (i := 188) (by decide +kernel) rfl
theorem w_189 : (Cond.fieldLink "DuneMaps" (193 : Nat) "DuneMaps$Footing" "fewest" "I") ∈ cG := inG (i := 189) (by decide +kernel) rfl
theorem w_190 : (Cond.fieldLink "DuneMaps$Footing" (37 : Nat) "DuneMaps$Footing" "bits" "I") ∈ cG := inG (i := 190) (by decide +kernel) rfl
theorem w_191 : (Cond.fieldLink "DuneMaps" (196 : Nat) "DuneMaps$Footing" "bits" "I") ∈ cG := inG (i := 191) (by decide +kernel) rfl
theorem w_192 : (Cond.laysFinal "DuneMaps$Footing" "DuneMaps$Footing" "sands" "[LDuneMaps$Sand;") ∈ cG := inG (i := 192) (by decide +kernel) rfl
theorem w_193 : (Cond.soleField "DuneMaps$Footing" "sands") ∈ lw_tbl := inT (i := 193) (by decide +kernel)
theorem w_194 : (Cond.lays "DuneMaps$Footing" "DuneMaps$Footing" "kind" "I") ∈ cG := inG (i := 194) (by decide +kernel) rfl
theorem w_195 : (Cond.soleField "DuneMaps$Footing" "kind") ∈ lw_tbl := inT (i := 195) (by decide +kernel)
theorem w_196 : (Cond.lays "DuneMaps$Footing" "DuneMaps$Footing" "goal" "I") ∈ cG := inG (i := 196) (by decide +kernel) rfl
theorem w_197 : (Cond.soleField "DuneMaps$Footing" "goal") ∈ lw_tbl := inT (i := 197) (by decide +kernel)
theorem w_198 : (Cond.lays "DuneMaps$Footing" "DuneMaps$Footing" "goalHeight" "I") ∈ cG := inG (i := 198) (by decide +kernel) rfl
theorem w_199 : (Cond.soleField "DuneMaps$Footing" "goalHeight") ∈ lw_tbl := inT (i := 199) (by decide +kernel)
theorem w_200 : (Cond.lays "DuneMaps$Footing" "DuneMaps$Footing" "stepsLeft" "I") ∈ cG := inG (i := 200) (by decide +kernel) rfl
theorem w_201 : (Cond.soleField "DuneMaps$Footing" "stepsLeft") ∈ lw_tbl := inT (i := 201) (by decide +kernel)
theorem w_202 : (Cond.lays "DuneMaps$Footing" "DuneMaps$Footing" "fewest" "I") ∈ cG := inG (i := 202) (by decide +kernel) rfl
theorem w_203 : (Cond.soleField "DuneMaps$Footing" "fewest") ∈ lw_tbl := inT (i := 203) (by decide +kernel)
theorem w_204 : (Cond.lays "DuneMaps$Footing" "DuneMaps$Footing" "bits" "I") ∈ cG := inG (i := 204) (by decide +kernel) rfl
theorem w_205 : (Cond.soleField "DuneMaps$Footing" "bits") ∈ lw_tbl := inT (i := 205) (by decide +kernel)
theorem w_206 : (Cond.superclass "DuneMaps$Footing" "java/lang/Object") ∈ lw_tbl := inT (i := 206) (by decide +kernel)
theorem w_207 : (Cond.classLink "DuneMaps" (50 : Nat) "DuneMaps$Dusk") ∈ cG := inG (i := 207) (by decide +kernel) rfl
theorem w_208 : (Cond.instantiable "DuneMaps$Dusk" (2 : Nat)) ∈ cG := inG (i := 208) (by decide +kernel) rfl
theorem w_209 : (Cond.methodLinkNest "DuneMaps" (52 : Nat) ({ cls := "DuneMaps$Dusk", name := "<init>", desc := "()V" } : MethodName) "DuneMaps") ∈ lw_tbl := inT (i := 209) (by decide +kernel)
theorem w_210 : (Cond.instanceMethod ({ cls := "DuneMaps$Dusk", name := "<init>", desc := "()V" } : MethodName)) ∈ cG := inG (i := 210) (by decide +kernel) rfl
theorem w_211 : (Cond.code ({ cls := "DuneMaps$Dusk", name := "<init>", desc := "()V" } : MethodName) prog_2_method_1_code (1 : Nat) (Option.none : Option FieldType)) ∈ cG := inG (i := 211) (by decide +kernel) rfl
theorem w_212 : (Cond.methodLink "DuneMaps$Dusk" (3 : Nat) ({ cls := "java/lang/Object", name := "<init>", desc := "()V" } : MethodName)) ∈ cG := inG (i := 212) (by decide +kernel) rfl
theorem w_213 : (Cond.fieldLink "DuneMaps$Dusk" (9 : Nat) "DuneMaps$Dusk" "found" "I") ∈ cG := inG (i := 213) (by decide +kernel) rfl
theorem w_214 : (Cond.fieldLink "DuneMaps" (202 : Nat) "DuneMaps$Dusk" "found" "I") ∈ cG := inG (i := 214) (by decide +kernel) rfl
theorem w_215 : (Cond.fieldLink "DuneMaps$Dusk" (15 : Nat) "DuneMaps$Dusk" "least" "I") ∈ cG := inG (i := 215) (by decide +kernel) rfl
theorem w_216 : (Cond.fieldLink "DuneMaps" (205 : Nat) "DuneMaps$Dusk" "least" "I") ∈ cG := inG (i := 216) (by decide +kernel) rfl
theorem w_217 : (Cond.lays "DuneMaps$Dusk" "DuneMaps$Dusk" "found" "I") ∈ cG := inG (i := 217) (by decide +kernel) rfl
theorem w_218 : (Cond.soleField "DuneMaps$Dusk" "found") ∈ lw_tbl := inT (i := 218) (by decide +kernel)
theorem w_219 : (Cond.lays "DuneMaps$Dusk" "DuneMaps$Dusk" "least" "I") ∈ cG := inG (i := 219) (by decide +kernel) rfl
theorem w_220 : (Cond.soleField "DuneMaps$Dusk" "least") ∈ lw_tbl := inT (i := 220) (by decide +kernel)
theorem w_221 : (Cond.superclass "DuneMaps$Dusk" "java/lang/Object") ∈ lw_tbl := inT (i := 221) (by decide +kernel)
theorem w_222 : (Cond.fieldLink "DuneMaps" (12 : Nat) "DuneMaps" "page" "LDuneMaps$Page;") ∈ cG := inG (i := 222) (by decide +kernel) rfl
theorem w_223 : (Cond.fieldLink "DuneMaps" (19 : Nat) "DuneMaps" "land" "LDuneMaps$Land;") ∈ cG := inG (i := 223) (by decide +kernel) rfl
theorem w_224 : (Cond.fieldLink "DuneMaps" (23 : Nat) "DuneMaps" "kept" "LDuneMaps$Land;") ∈ cG := inG (i := 224) (by decide +kernel) rfl
theorem w_225 : (Cond.fieldLink "DuneMaps" (29 : Nat) "DuneMaps" "before" "LDuneMaps$Sand;") ∈ cG := inG (i := 225) (by decide +kernel) rfl
theorem w_226 : (Cond.fieldLink "DuneMaps" (33 : Nat) "DuneMaps" "tried" "LDuneMaps$Sand;") ∈ cG := inG (i := 226) (by decide +kernel) rfl
theorem w_227 : (Cond.fieldLink "DuneMaps" (39 : Nat) "DuneMaps" "ordering" "LDuneMaps$Ordering;") ∈ cG := inG (i := 227) (by decide +kernel) rfl
theorem w_228 : (Cond.fieldLink "DuneMaps" (46 : Nat) "DuneMaps" "footing" "LDuneMaps$Footing;") ∈ cG := inG (i := 228) (by decide +kernel) rfl
theorem w_229 : (Cond.fieldLink "DuneMaps" (53 : Nat) "DuneMaps" "dusk" "LDuneMaps$Dusk;") ∈ cG := inG (i := 229) (by decide +kernel) rfl
theorem w_230 : (Cond.fieldLink "DuneMaps" (90 : Nat) "DuneMaps" "hasDunes" "Z") ∈ cG := inG (i := 230) (by decide +kernel) rfl
theorem w_231 : (Cond.fieldLink "DuneMaps" (93 : Nat) "DuneMaps" "hasImage" "Z") ∈ cG := inG (i := 231) (by decide +kernel) rfl
theorem w_232 : (Cond.fieldLink "DuneMaps" (96 : Nat) "DuneMaps" "hasBefore" "Z") ∈ cG := inG (i := 232) (by decide +kernel) rfl
theorem w_233 : (Cond.fieldLink "DuneMaps" (99 : Nat) "DuneMaps" "timesRead" "I") ∈ cG := inG (i := 233) (by decide +kernel) rfl
theorem w_234 : (Cond.laysFinal "DuneMaps" "DuneMaps" "page" "LDuneMaps$Page;") ∈ cG := inG (i := 234) (by decide +kernel) rfl
theorem w_235 : (Cond.soleField "DuneMaps" "page") ∈ lw_tbl := inT (i := 235) (by decide +kernel)
theorem w_236 : (Cond.laysFinal "DuneMaps" "DuneMaps" "land" "LDuneMaps$Land;") ∈ cG := inG (i := 236) (by decide +kernel) rfl
theorem w_237 : (Cond.soleField "DuneMaps" "land") ∈ lw_tbl := inT (i := 237) (by decide +kernel)
theorem w_238 : (Cond.laysFinal "DuneMaps" "DuneMaps" "kept" "LDuneMaps$Land;") ∈ cG := inG (i := 238) (by decide +kernel) rfl
theorem w_239 : (Cond.soleField "DuneMaps" "kept") ∈ lw_tbl := inT (i := 239) (by decide +kernel)
theorem w_240 : (Cond.laysFinal "DuneMaps" "DuneMaps" "before" "LDuneMaps$Sand;") ∈ cG := inG (i := 240) (by decide +kernel) rfl
theorem w_241 : (Cond.soleField "DuneMaps" "before") ∈ lw_tbl := inT (i := 241) (by decide +kernel)
theorem w_242 : (Cond.laysFinal "DuneMaps" "DuneMaps" "tried" "LDuneMaps$Sand;") ∈ cG := inG (i := 242) (by decide +kernel) rfl
theorem w_243 : (Cond.soleField "DuneMaps" "tried") ∈ lw_tbl := inT (i := 243) (by decide +kernel)
theorem w_244 : (Cond.laysFinal "DuneMaps" "DuneMaps" "ordering" "LDuneMaps$Ordering;") ∈ cG := inG (i := 244) (by decide +kernel) rfl
theorem w_245 : (Cond.soleField "DuneMaps" "ordering") ∈ lw_tbl := inT (i := 245) (by decide +kernel)
theorem w_246 : (Cond.laysFinal "DuneMaps" "DuneMaps" "footing" "LDuneMaps$Footing;") ∈ cG := inG (i := 246) (by decide +kernel) rfl
theorem w_247 : (Cond.soleField "DuneMaps" "footing") ∈ lw_tbl := inT (i := 247) (by decide +kernel)
theorem w_248 : (Cond.laysFinal "DuneMaps" "DuneMaps" "dusk" "LDuneMaps$Dusk;") ∈ cG := inG (i := 248) (by decide +kernel) rfl
theorem w_249 : (Cond.soleField "DuneMaps" "dusk") ∈ lw_tbl := inT (i := 249) (by decide +kernel)
theorem w_250 : (Cond.lays "DuneMaps" "DuneMaps" "hasDunes" "Z") ∈ cG := inG (i := 250) (by decide +kernel) rfl
theorem w_251 : (Cond.soleField "DuneMaps" "hasDunes") ∈ lw_tbl := inT (i := 251) (by decide +kernel)
theorem w_252 : (Cond.lays "DuneMaps" "DuneMaps" "hasImage" "Z") ∈ cG := inG (i := 252) (by decide +kernel) rfl
theorem w_253 : (Cond.soleField "DuneMaps" "hasImage") ∈ lw_tbl := inT (i := 253) (by decide +kernel)
theorem w_254 : (Cond.lays "DuneMaps" "DuneMaps" "hasBefore" "Z") ∈ cG := inG (i := 254) (by decide +kernel) rfl
theorem w_255 : (Cond.soleField "DuneMaps" "hasBefore") ∈ lw_tbl := inT (i := 255) (by decide +kernel)
theorem w_256 : (Cond.lays "DuneMaps" "DuneMaps" "timesRead" "I") ∈ cG := inG (i := 256) (by decide +kernel) rfl
theorem w_257 : (Cond.soleField "DuneMaps" "timesRead") ∈ lw_tbl := inT (i := 257) (by decide +kernel)
theorem w_258 : (Cond.superclass "DuneMaps" "java/lang/Object") ∈ lw_tbl := inT (i := 258) (by decide +kernel)
theorem w_259 : (Cond.methodLink "DuneMapsLaw" (13 : Nat) ({ cls := "DuneMaps", name := "letter", desc := "(I)I" } : MethodName)) ∈ cG := inG (i := 259) (by decide +kernel) rfl
theorem w_260 : (Cond.instanceMethod ({ cls := "DuneMaps", name := "letter", desc := "(I)I" } : MethodName)) ∈ cG := inG (i := 260) (by decide +kernel) rfl
theorem w_261 : (Cond.selects "DuneMaps" ({ cls := "DuneMaps", name := "letter", desc := "(I)I" } : MethodName) ({ cls := "DuneMaps", name := "letter", desc := "(I)I" } : MethodName)) ∈ cG := inG (i := 261) (by decide +kernel) rfl
theorem w_262 : (Cond.code ({ cls := "DuneMaps", name := "letter", desc := "(I)I" } : MethodName) prog_1_method_2_code (2 : Nat) (Option.some FieldType.int)) ∈ cG := inG (i := 262) (by decide +kernel) rfl
theorem w_263 : (Cond.methodLink "DuneMaps" (57 : Nat) ({ cls := "DuneMaps$Page", name := "append", desc := "(I)Z" } : MethodName)) ∈ cG := inG (i := 263) (by decide +kernel) rfl
theorem w_264 : (Cond.instanceMethod ({ cls := "DuneMaps$Page", name := "append", desc := "(I)Z" } : MethodName)) ∈ cG := inG (i := 264) (by decide +kernel) rfl
theorem w_265 : (Cond.selects "DuneMaps$Page" ({ cls := "DuneMaps$Page", name := "append", desc := "(I)Z" } : MethodName) ({ cls := "DuneMaps$Page", name := "append", desc := "(I)Z" } : MethodName)) ∈ cG := inG (i := 265) (by decide +kernel) rfl
theorem w_266 : (Cond.code ({ cls := "DuneMaps$Page", name := "append", desc := "(I)Z" } : MethodName) prog_6_method_2_code (2 : Nat) (Option.some FieldType.boolean)) ∈ cG := inG (i := 266) (by decide +kernel) rfl
theorem w_267 : (Cond.methodLink "DuneMapsLaw" (18 : Nat) ({ cls := "DuneMaps", name := "blank", desc := "()I" } : MethodName)) ∈ cG := inG (i := 267) (by decide +kernel) rfl
theorem w_268 : (Cond.instanceMethod ({ cls := "DuneMaps", name := "blank", desc := "()I" } : MethodName)) ∈ cG := inG (i := 268) (by decide +kernel) rfl
theorem w_269 : (Cond.selects "DuneMaps" ({ cls := "DuneMaps", name := "blank", desc := "()I" } : MethodName) ({ cls := "DuneMaps", name := "blank", desc := "()I" } : MethodName)) ∈ cG := inG (i := 269) (by decide +kernel) rfl
theorem w_270 : (Cond.code ({ cls := "DuneMaps", name := "blank", desc := "()I" } : MethodName) prog_1_method_3_code (2 : Nat) (Option.some FieldType.int)) ∈ cG := inG (i := 270) (by decide +kernel) rfl
theorem w_271 : (Cond.methodLink "DuneMapsLaw" (23 : Nat) ({ cls := "DuneMaps", name := "fault", desc := "(I)I" } : MethodName)) ∈ cG := inG (i := 271) (by decide +kernel) rfl
theorem w_272 : (Cond.instanceMethod ({ cls := "DuneMaps", name := "fault", desc := "(I)I" } : MethodName)) ∈ cG := inG (i := 272) (by decide +kernel) rfl
theorem w_273 : (Cond.selects "DuneMaps" ({ cls := "DuneMaps", name := "fault", desc := "(I)I" } : MethodName) ({ cls := "DuneMaps", name := "fault", desc := "(I)I" } : MethodName)) ∈ cG := inG (i := 273) (by decide +kernel) rfl
theorem w_274 : (Cond.code ({ cls := "DuneMaps", name := "fault", desc := "(I)I" } : MethodName) prog_1_method_4_code (2 : Nat) (Option.some FieldType.int)) ∈ cG := inG (i := 274) (by decide +kernel) rfl
theorem w_275 : (Cond.methodLink "DuneMaps" (65 : Nat) ({ cls := "DuneMaps$Page", name := "firstFault", desc := "(I)I" } : MethodName)) ∈ cG := inG (i := 275) (by decide +kernel) rfl
theorem w_276 : (Cond.instanceMethod ({ cls := "DuneMaps$Page", name := "firstFault", desc := "(I)I" } : MethodName)) ∈ cG := inG (i := 276) (by decide +kernel) rfl
theorem w_277 : (Cond.selects "DuneMaps$Page" ({ cls := "DuneMaps$Page", name := "firstFault", desc := "(I)I" } : MethodName) ({ cls := "DuneMaps$Page", name := "firstFault", desc := "(I)I" } : MethodName)) ∈ cG := inG (i := 277) (by decide +kernel) rfl
theorem w_278 : (Cond.code ({ cls := "DuneMaps$Page", name := "firstFault", desc := "(I)I" } : MethodName) prog_6_method_4_code (3 : Nat) (Option.some FieldType.int)) ∈ cG := inG (i := 278) (by decide +kernel) rfl
theorem w_279 : (Cond.methodLink "DuneMaps$Page" (19 : Nat) ({ cls := "DuneMaps$Page", name := "codeAt", desc := "(I)I" } : MethodName)) ∈ cG := inG (i := 279) (by decide +kernel) rfl
theorem w_280 : (Cond.instanceMethod ({ cls := "DuneMaps$Page", name := "codeAt", desc := "(I)I" } : MethodName)) ∈ cG := inG (i := 280) (by decide +kernel) rfl
theorem w_281 : (Cond.selects "DuneMaps$Page" ({ cls := "DuneMaps$Page", name := "codeAt", desc := "(I)I" } : MethodName) ({ cls := "DuneMaps$Page", name := "codeAt", desc := "(I)I" } : MethodName)) ∈ cG := inG (i := 281) (by decide +kernel) rfl
theorem w_282 : (Cond.code ({ cls := "DuneMaps$Page", name := "codeAt", desc := "(I)I" } : MethodName) prog_6_method_3_code (2 : Nat) (Option.some FieldType.int)) ∈ cG := inG (i := 282) (by decide +kernel) rfl
theorem w_283 : (Cond.methodLink "DuneMaps$Page" (23 : Nat) ({ cls := "DuneMaps$Page", name := "fits", desc := "(III)Z" } : MethodName)) ∈ cG := inG (i := 283) (by decide +kernel) rfl
theorem w_284 : (Cond.static ({ cls := "DuneMaps$Page", name := "fits", desc := "(III)Z" } : MethodName)) ∈ cG := inG (i := 284) (by decide +kernel) rfl
theorem w_285 : (Cond.code ({ cls := "DuneMaps$Page", name := "fits", desc := "(III)Z" } : MethodName) prog_6_method_8_code (3 : Nat) (Option.some FieldType.boolean)) ∈ cG := inG (i := 285) (by decide +kernel) rfl
theorem w_286 : (Cond.methodLink "DuneMapsLaw" (27 : Nat) ({ cls := "DuneMaps", name := "dunes", desc := "()I" } : MethodName)) ∈ cG := inG (i := 286) (by decide +kernel) rfl
theorem w_287 : (Cond.instanceMethod ({ cls := "DuneMaps", name := "dunes", desc := "()I" } : MethodName)) ∈ cG := inG (i := 287) (by decide +kernel) rfl
theorem w_288 : (Cond.selects "DuneMaps" ({ cls := "DuneMaps", name := "dunes", desc := "()I" } : MethodName) ({ cls := "DuneMaps", name := "dunes", desc := "()I" } : MethodName)) ∈ cG := inG (i := 288) (by decide +kernel) rfl
theorem w_289 : (Cond.code ({ cls := "DuneMaps", name := "dunes", desc := "()I" } : MethodName) prog_1_method_5_code (1 : Nat) (Option.some FieldType.int)) ∈ cG := inG (i := 289) (by decide +kernel) rfl
theorem w_290 : (Cond.methodLink "DuneMaps" (69 : Nat) ({ cls := "DuneMaps$Page", name := "isWhole", desc := "(I)Z" } : MethodName)) ∈ cG := inG (i := 290) (by decide +kernel) rfl
theorem w_291 : (Cond.instanceMethod ({ cls := "DuneMaps$Page", name := "isWhole", desc := "(I)Z" } : MethodName)) ∈ cG := inG (i := 291) (by decide +kernel) rfl
theorem w_292 : (Cond.selects "DuneMaps$Page" ({ cls := "DuneMaps$Page", name := "isWhole", desc := "(I)Z" } : MethodName) ({ cls := "DuneMaps$Page", name := "isWhole", desc := "(I)Z" } : MethodName)) ∈ cG := inG (i := 292) (by decide +kernel) rfl
theorem w_293 : (Cond.code ({ cls := "DuneMaps$Page", name := "isWhole", desc := "(I)Z" } : MethodName) prog_6_method_5_code (3 : Nat) (Option.some FieldType.boolean)) ∈ cG := inG (i := 293) (by decide +kernel) rfl
theorem w_294 : (Cond.methodLink "DuneMaps$Page" (27 : Nat) ({ cls := "DuneMaps$Page", name := "firstFault", desc := "(I)I" } : MethodName)) ∈ cG := inG (i := 294) (by decide +kernel) rfl
theorem w_295 : (Cond.methodLink "DuneMaps" (72 : Nat) ({ cls := "DuneMaps$Land", name := "empty", desc := "()V" } : MethodName)) ∈ cG := inG (i := 295) (by decide +kernel) rfl
theorem w_296 : (Cond.instanceMethod ({ cls := "DuneMaps$Land", name := "empty", desc := "()V" } : MethodName)) ∈ cG := inG (i := 296) (by decide +kernel) rfl
theorem w_297 : (Cond.selects "DuneMaps$Land" ({ cls := "DuneMaps$Land", name := "empty", desc := "()V" } : MethodName) ({ cls := "DuneMaps$Land", name := "empty", desc := "()V" } : MethodName)) ∈ cG := inG (i := 297) (by decide +kernel) rfl
theorem w_298 : (Cond.code ({ cls := "DuneMaps$Land", name := "empty", desc := "()V" } : MethodName) prog_4_method_2_code (1 : Nat) (Option.none : Option FieldType)) ∈ cG := inG (i := 298) (by decide +kernel) rfl
theorem w_299 : (Cond.methodLink "DuneMaps" (78 : Nat) ({ cls := "DuneMaps$Page", name := "readHeights", desc := "(LDuneMaps$Sand;)V" } : MethodName)) ∈ cG := inG (i := 299) (by decide +kernel) rfl
theorem w_300 : (Cond.instanceMethod ({ cls := "DuneMaps$Page", name := "readHeights", desc := "(LDuneMaps$Sand;)V" } : MethodName)) ∈ cG := inG (i := 300) (by decide +kernel) rfl
theorem w_301 : (Cond.selects "DuneMaps$Page" ({ cls := "DuneMaps$Page", name := "readHeights", desc := "(LDuneMaps$Sand;)V" } : MethodName) ({ cls := "DuneMaps$Page", name := "readHeights", desc := "(LDuneMaps$Sand;)V" } : MethodName)) ∈ cG := inG (i := 301) (by decide +kernel) rfl
theorem w_302 : (Cond.code ({ cls := "DuneMaps$Page", name := "readHeights", desc := "(LDuneMaps$Sand;)V" } : MethodName) prog_6_method_6_code (3 : Nat) (Option.none : Option FieldType)) ∈ cG := inG (i := 302) (by decide +kernel) rfl
theorem w_303 : (Cond.methodLink "DuneMaps$Page" (30 : Nat) ({ cls := "DuneMaps$Sand", name := "setHeight", desc := "(II)V" } : MethodName)) ∈ cG := inG (i := 303) (by decide +kernel) rfl
theorem w_304 : (Cond.instanceMethod ({ cls := "DuneMaps$Sand", name := "setHeight", desc := "(II)V" } : MethodName)) ∈ cG := inG (i := 304) (by decide +kernel) rfl
theorem w_305 : (Cond.selects "DuneMaps$Sand" ({ cls := "DuneMaps$Sand", name := "setHeight", desc := "(II)V" } : MethodName) ({ cls := "DuneMaps$Sand", name := "setHeight", desc := "(II)V" } : MethodName)) ∈ cG := inG (i := 305) (by decide +kernel) rfl
theorem w_306 : (Cond.code ({ cls := "DuneMaps$Sand", name := "setHeight", desc := "(II)V" } : MethodName) prog_7_method_3_code (3 : Nat) (Option.none : Option FieldType)) ∈ cG := inG (i := 306) (by decide +kernel) rfl
theorem w_307 : (Cond.methodLink "DuneMaps" (82 : Nat) ({ cls := "DuneMaps$Page", name := "tellsWindOn", desc := "()Z" } : MethodName)) ∈ cG := inG (i := 307) (by decide +kernel) rfl
theorem w_308 : (Cond.instanceMethod ({ cls := "DuneMaps$Page", name := "tellsWindOn", desc := "()Z" } : MethodName)) ∈ cG := inG (i := 308) (by decide +kernel) rfl
theorem w_309 : (Cond.selects "DuneMaps$Page" ({ cls := "DuneMaps$Page", name := "tellsWindOn", desc := "()Z" } : MethodName) ({ cls := "DuneMaps$Page", name := "tellsWindOn", desc := "()Z" } : MethodName)) ∈ cG := inG (i := 309) (by decide +kernel) rfl
theorem w_310 : (Cond.code ({ cls := "DuneMaps$Page", name := "tellsWindOn", desc := "()Z" } : MethodName) prog_6_method_7_code (1 : Nat) (Option.some FieldType.boolean)) ∈ cG := inG (i := 310) (by decide +kernel) rfl
theorem w_311 : (Cond.methodLink "DuneMaps" (102 : Nat) ({ cls := "DuneMaps$Sand", name := "sum", desc := "()I" } : MethodName)) ∈ cG := inG (i := 311) (by decide +kernel) rfl
theorem w_312 : (Cond.instanceMethod ({ cls := "DuneMaps$Sand", name := "sum", desc := "()I" } : MethodName)) ∈ cG := inG (i := 312) (by decide +kernel) rfl
theorem w_313 : (Cond.selects "DuneMaps$Sand" ({ cls := "DuneMaps$Sand", name := "sum", desc := "()I" } : MethodName) ({ cls := "DuneMaps$Sand", name := "sum", desc := "()I" } : MethodName)) ∈ cG := inG (i := 313) (by decide +kernel) rfl
theorem w_314 : (Cond.code ({ cls := "DuneMaps$Sand", name := "sum", desc := "()I" } : MethodName) prog_7_method_7_code (3 : Nat) (Option.some FieldType.int)) ∈ cG := inG (i := 314) (by decide +kernel) rfl
theorem w_315 : (Cond.methodLink "DuneMapsLaw" (31 : Nat) ({ cls := "DuneMaps", name := "cell", desc := "(II)I" } : MethodName)) ∈ cG := inG (i := 315) (by decide +kernel) rfl
theorem w_316 : (Cond.instanceMethod ({ cls := "DuneMaps", name := "cell", desc := "(II)I" } : MethodName)) ∈ cG := inG (i := 316) (by decide +kernel) rfl
theorem w_317 : (Cond.selects "DuneMaps" ({ cls := "DuneMaps", name := "cell", desc := "(II)I" } : MethodName) ({ cls := "DuneMaps", name := "cell", desc := "(II)I" } : MethodName)) ∈ cG := inG (i := 317) (by decide +kernel) rfl
theorem w_318 : (Cond.code ({ cls := "DuneMaps", name := "cell", desc := "(II)I" } : MethodName) prog_1_method_6_code (3 : Nat) (Option.some FieldType.int)) ∈ cG := inG (i := 318) (by decide +kernel) rfl
theorem w_319 : (Cond.methodLink "DuneMaps" (106 : Nat) ({ cls := "DuneMaps", name := "isCell", desc := "(I)Z" } : MethodName)) ∈ cG := inG (i := 319) (by decide +kernel) rfl
theorem w_320 : (Cond.privateMethod ({ cls := "DuneMaps", name := "isCell", desc := "(I)Z" } : MethodName)) ∈ lw_tbl := inT (i := 320) (by decide +kernel)
theorem w_321 : (Cond.instanceMethod ({ cls := "DuneMaps", name := "isCell", desc := "(I)Z" } : MethodName)) ∈ cG := inG (i := 321) (by decide +kernel) rfl
theorem w_322 : (Cond.code ({ cls := "DuneMaps", name := "isCell", desc := "(I)Z" } : MethodName) prog_1_method_27_code (2 : Nat) (Option.some FieldType.boolean)) ∈ cG := inG (i := 322) (by decide +kernel) rfl
theorem w_323 : (Cond.methodLink "DuneMaps" (109 : Nat) ({ cls := "DuneMaps$Sand", name := "heightAt", desc := "(I)I" } : MethodName)) ∈ cG := inG (i := 323) (by decide +kernel) rfl
theorem w_324 : (Cond.instanceMethod ({ cls := "DuneMaps$Sand", name := "heightAt", desc := "(I)I" } : MethodName)) ∈ cG := inG (i := 324) (by decide +kernel) rfl
theorem w_325 : (Cond.selects "DuneMaps$Sand" ({ cls := "DuneMaps$Sand", name := "heightAt", desc := "(I)I" } : MethodName) ({ cls := "DuneMaps$Sand", name := "heightAt", desc := "(I)I" } : MethodName)) ∈ cG := inG (i := 325) (by decide +kernel) rfl
theorem w_326 : (Cond.code ({ cls := "DuneMaps$Sand", name := "heightAt", desc := "(I)I" } : MethodName) prog_7_method_2_code (2 : Nat) (Option.some FieldType.int)) ∈ cG := inG (i := 326) (by decide +kernel) rfl
theorem w_327 : (Cond.methodLink "DuneMaps" (112 : Nat) ({ cls := "DuneMaps$Sand", name := "shapeAt", desc := "(I)I" } : MethodName)) ∈ cG := inG (i := 327) (by decide +kernel) rfl
theorem w_328 : (Cond.instanceMethod ({ cls := "DuneMaps$Sand", name := "shapeAt", desc := "(I)I" } : MethodName)) ∈ cG := inG (i := 328) (by decide +kernel) rfl
theorem w_329 : (Cond.selects "DuneMaps$Sand" ({ cls := "DuneMaps$Sand", name := "shapeAt", desc := "(I)I" } : MethodName) ({ cls := "DuneMaps$Sand", name := "shapeAt", desc := "(I)I" } : MethodName)) ∈ cG := inG (i := 329) (by decide +kernel) rfl
theorem w_330 : (Cond.code ({ cls := "DuneMaps$Sand", name := "shapeAt", desc := "(I)I" } : MethodName) prog_7_method_9_code (5 : Nat) (Option.some FieldType.int)) ∈ cG := inG (i := 330) (by decide +kernel) rfl
theorem w_331 : (Cond.methodLink "DuneMaps" (115 : Nat) ({ cls := "DuneMaps$Land", name := "walkersAt", desc := "(I)I" } : MethodName)) ∈ cG := inG (i := 331) (by decide +kernel) rfl
theorem w_332 : (Cond.instanceMethod ({ cls := "DuneMaps$Land", name := "walkersAt", desc := "(I)I" } : MethodName)) ∈ cG := inG (i := 332) (by decide +kernel) rfl
theorem w_333 : (Cond.selects "DuneMaps$Land" ({ cls := "DuneMaps$Land", name := "walkersAt", desc := "(I)I" } : MethodName) ({ cls := "DuneMaps$Land", name := "walkersAt", desc := "(I)I" } : MethodName)) ∈ cG := inG (i := 333) (by decide +kernel) rfl
theorem w_334 : (Cond.code ({ cls := "DuneMaps$Land", name := "walkersAt", desc := "(I)I" } : MethodName) prog_4_method_6_code (4 : Nat) (Option.some FieldType.int)) ∈ cG := inG (i := 334) (by decide +kernel) rfl
theorem w_335 : (Cond.methodLinkNest "DuneMaps$Land" (46 : Nat) ({ cls := "DuneMaps", name := "asNumber", desc := "(Z)I" } : MethodName) "DuneMaps") ∈ lw_tbl := inT (i := 335) (by decide +kernel)
theorem w_336 : (Cond.static ({ cls := "DuneMaps", name := "asNumber", desc := "(Z)I" } : MethodName)) ∈ cG := inG (i := 336) (by decide +kernel) rfl
theorem w_337 : (Cond.code ({ cls := "DuneMaps", name := "asNumber", desc := "(Z)I" } : MethodName) prog_1_method_30_code (1 : Nat) (Option.some FieldType.int)) ∈ cG := inG (i := 337) (by decide +kernel) rfl
theorem w_338 : (Cond.methodLink "DuneMapsLaw" (36 : Nat) ({ cls := "DuneMaps", name := "wind", desc := "(Z)I" } : MethodName)) ∈ cG := inG (i := 338) (by decide +kernel) rfl
theorem w_339 : (Cond.instanceMethod ({ cls := "DuneMaps", name := "wind", desc := "(Z)I" } : MethodName)) ∈ cG := inG (i := 339) (by decide +kernel) rfl
theorem w_340 : (Cond.selects "DuneMaps" ({ cls := "DuneMaps", name := "wind", desc := "(Z)I" } : MethodName) ({ cls := "DuneMaps", name := "wind", desc := "(Z)I" } : MethodName)) ∈ cG := inG (i := 340) (by decide +kernel) rfl
theorem w_341 : (Cond.code ({ cls := "DuneMaps", name := "wind", desc := "(Z)I" } : MethodName) prog_1_method_7_code (3 : Nat) (Option.some FieldType.int)) ∈ cG := inG (i := 341) (by decide +kernel) rfl
theorem w_342 : (Cond.methodLink "DuneMaps" (118 : Nat) ({ cls := "DuneMaps", name := "asNumber", desc := "(Z)I" } : MethodName)) ∈ cG := inG (i := 342) (by decide +kernel) rfl
theorem w_343 : (Cond.methodLink "DuneMapsLaw" (41 : Nat) ({ cls := "DuneMaps", name := "night", desc := "()I" } : MethodName)) ∈ cG := inG (i := 343) (by decide +kernel) rfl
theorem w_344 : (Cond.instanceMethod ({ cls := "DuneMaps", name := "night", desc := "()I" } : MethodName)) ∈ cG := inG (i := 344) (by decide +kernel) rfl
theorem w_345 : (Cond.selects "DuneMaps" ({ cls := "DuneMaps", name := "night", desc := "()I" } : MethodName) ({ cls := "DuneMaps", name := "night", desc := "()I" } : MethodName)) ∈ cG := inG (i := 345) (by decide +kernel) rfl
theorem w_346 : (Cond.code ({ cls := "DuneMaps", name := "night", desc := "()I" } : MethodName) prog_1_method_8_code (1 : Nat) (Option.some FieldType.int)) ∈ cG := inG (i := 346) (by decide +kernel) rfl
theorem w_347 : (Cond.methodLink "DuneMaps" (125 : Nat) ({ cls := "DuneMaps$Sand", name := "passNight", desc := "()I" } : MethodName)) ∈ cG := inG (i := 347) (by decide +kernel) rfl
theorem w_348 : (Cond.instanceMethod ({ cls := "DuneMaps$Sand", name := "passNight", desc := "()I" } : MethodName)) ∈ cG := inG (i := 348) (by decide +kernel) rfl
theorem w_349 : (Cond.selects "DuneMaps$Sand" ({ cls := "DuneMaps$Sand", name := "passNight", desc := "()I" } : MethodName) ({ cls := "DuneMaps$Sand", name := "passNight", desc := "()I" } : MethodName)) ∈ cG := inG (i := 349) (by decide +kernel) rfl
theorem w_350 : (Cond.code ({ cls := "DuneMaps$Sand", name := "passNight", desc := "()I" } : MethodName) prog_7_method_11_code (3 : Nat) (Option.some FieldType.int)) ∈ cG := inG (i := 350) (by decide +kernel) rfl
theorem w_351 : (Cond.methodLink "DuneMaps$Sand" (33 : Nat) ({ cls := "DuneMaps$Sand", name := "crests", desc := "()I" } : MethodName)) ∈ cG := inG (i := 351) (by decide +kernel) rfl
theorem w_352 : (Cond.instanceMethod ({ cls := "DuneMaps$Sand", name := "crests", desc := "()I" } : MethodName)) ∈ cG := inG (i := 352) (by decide +kernel) rfl
theorem w_353 : (Cond.selects "DuneMaps$Sand" ({ cls := "DuneMaps$Sand", name := "crests", desc := "()I" } : MethodName) ({ cls := "DuneMaps$Sand", name := "crests", desc := "()I" } : MethodName)) ∈ cG := inG (i := 353) (by decide +kernel) rfl
theorem w_354 : (Cond.code ({ cls := "DuneMaps$Sand", name := "crests", desc := "()I" } : MethodName) prog_7_method_10_code (3 : Nat) (Option.some FieldType.int)) ∈ cG := inG (i := 354) (by decide +kernel) rfl
theorem w_355 : (Cond.methodLink "DuneMaps$Sand" (29 : Nat) ({ cls := "DuneMaps$Sand", name := "shapeAt", desc := "(I)I" } : MethodName)) ∈ cG := inG (i := 355) (by decide +kernel) rfl
theorem w_356 : (Cond.methodLink "DuneMaps$Sand" (37 : Nat) ({ cls := "DuneMaps$Sand", name := "leeOf", desc := "(I)I" } : MethodName)) ∈ cG := inG (i := 356) (by decide +kernel) rfl
theorem w_357 : (Cond.privateMethod ({ cls := "DuneMaps$Sand", name := "leeOf", desc := "(I)I" } : MethodName)) ∈ lw_tbl := inT (i := 357) (by decide +kernel)
theorem w_358 : (Cond.instanceMethod ({ cls := "DuneMaps$Sand", name := "leeOf", desc := "(I)I" } : MethodName)) ∈ cG := inG (i := 358) (by decide +kernel) rfl
theorem w_359 : (Cond.code ({ cls := "DuneMaps$Sand", name := "leeOf", desc := "(I)I" } : MethodName) prog_7_method_14_code (2 : Nat) (Option.some FieldType.int)) ∈ cG := inG (i := 359) (by decide +kernel) rfl
theorem w_360 : (Cond.methodLink "DuneMaps$Sand" (40 : Nat) ({ cls := "DuneMaps$Sand", name := "moveSand", desc := "(III)I" } : MethodName)) ∈ cG := inG (i := 360) (by decide +kernel) rfl
theorem w_361 : (Cond.privateMethod ({ cls := "DuneMaps$Sand", name := "moveSand", desc := "(III)I" } : MethodName)) ∈ lw_tbl := inT (i := 361) (by decide +kernel)
theorem w_362 : (Cond.instanceMethod ({ cls := "DuneMaps$Sand", name := "moveSand", desc := "(III)I" } : MethodName)) ∈ cG := inG (i := 362) (by decide +kernel) rfl
theorem w_363 : (Cond.code ({ cls := "DuneMaps$Sand", name := "moveSand", desc := "(III)I" } : MethodName) prog_7_method_13_code (5 : Nat) (Option.some FieldType.int)) ∈ cG := inG (i := 363) (by decide +kernel) rfl
theorem w_364 : (Cond.methodLink "DuneMaps$Sand" (55 : Nat) ({ cls := "java/lang/Math", name := "min", desc := "(II)I" } : MethodName)) ∈ cG := inG (i := 364) (by decide +kernel) rfl
theorem w_365 : (Cond.static ({ cls := "java/lang/Math", name := "min", desc := "(II)I" } : MethodName)) ∈ cG := inG (i := 365) (by decide +kernel) rfl
theorem w_366 : (Cond.code ({ cls := "java/lang/Math", name := "min", desc := "(II)I" } : MethodName) prog_12_method_69_code (2 : Nat) (Option.some FieldType.int)) ∈ cG := inG (i := 366) (by decide +kernel) rfl
theorem w_367 : (Cond.methodLink "DuneMaps$Sand" (44 : Nat) ({ cls := "java/lang/Integer", name := "bitCount", desc := "(I)I" } : MethodName)) ∈ cG := inG (i := 367) (by decide +kernel) rfl
theorem w_368 : (Cond.static ({ cls := "java/lang/Integer", name := "bitCount", desc := "(I)I" } : MethodName)) ∈ cG := inG (i := 368) (by decide +kernel) rfl
theorem w_369 : (Cond.code ({ cls := "java/lang/Integer", name := "bitCount", desc := "(I)I" } : MethodName) prog_11_method_49_code (1 : Nat) (Option.some FieldType.int)) ∈ cG := inG (i := 369) (by decide +kernel) rfl
theorem w_370 : (Cond.constant "java/lang/Integer" (265 : Nat) (1431655765 : Int32)) ∈ cG := inG (i := 370) (by decide +kernel) rfl
theorem w_371 : (Cond.constant "java/lang/Integer" (266 : Nat) (858993459 : Int32)) ∈ cG := inG (i := 371) (by decide +kernel) rfl
theorem w_372 : (Cond.constant "java/lang/Integer" (267 : Nat) (252645135 : Int32)) ∈ cG := inG (i := 372) (by decide +kernel) rfl
theorem w_373 : (Cond.methodLink "DuneMapsLaw" (45 : Nat) ({ cls := "DuneMaps", name := "walker", desc := "(II)I" } : MethodName)) ∈ cG := inG (i := 373) (by decide +kernel) rfl
theorem w_374 : (Cond.instanceMethod ({ cls := "DuneMaps", name := "walker", desc := "(II)I" } : MethodName)) ∈ cG := inG (i := 374) (by decide +kernel) rfl
theorem w_375 : (Cond.selects "DuneMaps" ({ cls := "DuneMaps", name := "walker", desc := "(II)I" } : MethodName) ({ cls := "DuneMaps", name := "walker", desc := "(II)I" } : MethodName)) ∈ cG := inG (i := 375) (by decide +kernel) rfl
theorem w_376 : (Cond.code ({ cls := "DuneMaps", name := "walker", desc := "(II)I" } : MethodName) prog_1_method_9_code (3 : Nat) (Option.some FieldType.int)) ∈ cG := inG (i := 376) (by decide +kernel) rfl
theorem w_377 : (Cond.methodLink "DuneMaps" (128 : Nat) ({ cls := "DuneMaps", name := "isKind", desc := "(I)Z" } : MethodName)) ∈ cG := inG (i := 377) (by decide +kernel) rfl
theorem w_378 : (Cond.static ({ cls := "DuneMaps", name := "isKind", desc := "(I)Z" } : MethodName)) ∈ cG := inG (i := 378) (by decide +kernel) rfl
theorem w_379 : (Cond.code ({ cls := "DuneMaps", name := "isKind", desc := "(I)Z" } : MethodName) prog_1_method_28_code (1 : Nat) (Option.some FieldType.boolean)) ∈ cG := inG (i := 379) (by decide +kernel) rfl
theorem w_380 : (Cond.methodLink "DuneMaps" (131 : Nat) ({ cls := "DuneMaps$Land", name := "arrive", desc := "(II)I" } : MethodName)) ∈ cG := inG (i := 380) (by decide +kernel) rfl
theorem w_381 : (Cond.instanceMethod ({ cls := "DuneMaps$Land", name := "arrive", desc := "(II)I" } : MethodName)) ∈ cG := inG (i := 381) (by decide +kernel) rfl
theorem w_382 : (Cond.selects "DuneMaps$Land" ({ cls := "DuneMaps$Land", name := "arrive", desc := "(II)I" } : MethodName) ({ cls := "DuneMaps$Land", name := "arrive", desc := "(II)I" } : MethodName)) ∈ cG := inG (i := 382) (by decide +kernel) rfl
theorem w_383 : (Cond.code ({ cls := "DuneMaps$Land", name := "arrive", desc := "(II)I" } : MethodName) prog_4_method_5_code (3 : Nat) (Option.some FieldType.int)) ∈ cG := inG (i := 383) (by decide +kernel) rfl
theorem w_384 : (Cond.methodLink "DuneMaps$Land" (39 : Nat) ({ cls := "DuneMaps$Walker", name := "arrive", desc := "(II)V" } : MethodName)) ∈ cG := inG (i := 384) (by decide +kernel) rfl
theorem w_385 : (Cond.instanceMethod ({ cls := "DuneMaps$Walker", name := "arrive", desc := "(II)V" } : MethodName)) ∈ cG := inG (i := 385) (by decide +kernel) rfl
theorem w_386 : (Cond.selects "DuneMaps$Walker" ({ cls := "DuneMaps$Walker", name := "arrive", desc := "(II)V" } : MethodName) ({ cls := "DuneMaps$Walker", name := "arrive", desc := "(II)V" } : MethodName)) ∈ cG := inG (i := 386) (by decide +kernel) rfl
theorem w_387 : (Cond.code ({ cls := "DuneMaps$Walker", name := "arrive", desc := "(II)V" } : MethodName) prog_8_method_2_code (3 : Nat) (Option.none : Option FieldType)) ∈ cG := inG (i := 387) (by decide +kernel) rfl
theorem w_388 : (Cond.methodLink "DuneMapsLaw" (49 : Nat) ({ cls := "DuneMaps", name := "about", desc := "(II)I" } : MethodName)) ∈ cG := inG (i := 388) (by decide +kernel) rfl
theorem w_389 : (Cond.instanceMethod ({ cls := "DuneMaps", name := "about", desc := "(II)I" } : MethodName)) ∈ cG := inG (i := 389) (by decide +kernel) rfl
theorem w_390 : (Cond.selects "DuneMaps" ({ cls := "DuneMaps", name := "about", desc := "(II)I" } : MethodName) ({ cls := "DuneMaps", name := "about", desc := "(II)I" } : MethodName)) ∈ cG := inG (i := 390) (by decide +kernel) rfl
theorem w_391 : (Cond.code ({ cls := "DuneMaps", name := "about", desc := "(II)I" } : MethodName) prog_1_method_10_code (4 : Nat) (Option.some FieldType.int)) ∈ cG := inG (i := 391) (by decide +kernel) rfl
theorem w_392 : (Cond.methodLink "DuneMaps" (135 : Nat) ({ cls := "DuneMaps$Land", name := "named", desc := "(I)LDuneMaps$Walker;" } : MethodName)) ∈ cG := inG (i := 392) (by decide +kernel) rfl
theorem w_393 : (Cond.instanceMethod ({ cls := "DuneMaps$Land", name := "named", desc := "(I)LDuneMaps$Walker;" } : MethodName)) ∈ cG := inG (i := 393) (by decide +kernel) rfl
theorem w_394 : (Cond.selects "DuneMaps$Land" ({ cls := "DuneMaps$Land", name := "named", desc := "(I)LDuneMaps$Walker;" } : MethodName) ({ cls := "DuneMaps$Land", name := "named", desc := "(I)LDuneMaps$Walker;" } : MethodName)) ∈ cG := inG (i := 394) (by decide +kernel) rfl
theorem w_395 : (Cond.code ({ cls := "DuneMaps$Land", name := "named", desc := "(I)LDuneMaps$Walker;" } : MethodName) prog_4_method_4_code (3 : Nat) (Option.some (FieldType.object "DuneMaps$Walker"))) ∈ cG := inG (i := 395) (by decide +kernel) rfl
theorem w_396 : (Cond.methodLink "DuneMaps" (147 : Nat) ({ cls := "DuneMaps", name := "weightOf", desc := "(I)I" } : MethodName)) ∈ cG := inG (i := 396) (by decide +kernel) rfl
theorem w_397 : (Cond.static ({ cls := "DuneMaps", name := "weightOf", desc := "(I)I" } : MethodName)) ∈ cG := inG (i := 397) (by decide +kernel) rfl
theorem w_398 : (Cond.code ({ cls := "DuneMaps", name := "weightOf", desc := "(I)I" } : MethodName) prog_1_method_31_code (1 : Nat) (Option.some FieldType.int)) ∈ cG := inG (i := 398) (by decide +kernel) rfl
theorem w_399 : (Cond.fieldLink "DuneMaps" (271 : Nat) "DuneMaps" "WEIGHTS" "[I") ∈ cG := inG (i := 399) (by decide +kernel) rfl
theorem w_400 : (Cond.laysStatic "DuneMaps" "WEIGHTS" "[I") ∈ lw_tbl := inT (i := 400) (by decide +kernel)
theorem w_401 : (Cond.methodLink "DuneMaps" (153 : Nat) ({ cls := "DuneMaps$Walker", name := "hasMap", desc := "()Z" } : MethodName)) ∈ cG := inG (i := 401) (by decide +kernel) rfl
theorem w_402 : (Cond.instanceMethod ({ cls := "DuneMaps$Walker", name := "hasMap", desc := "()Z" } : MethodName)) ∈ cG := inG (i := 402) (by decide +kernel) rfl
theorem w_403 : (Cond.selects "DuneMaps$Walker" ({ cls := "DuneMaps$Walker", name := "hasMap", desc := "()Z" } : MethodName) ({ cls := "DuneMaps$Walker", name := "hasMap", desc := "()Z" } : MethodName)) ∈ cG := inG (i := 403) (by decide +kernel) rfl
theorem w_404 : (Cond.code ({ cls := "DuneMaps$Walker", name := "hasMap", desc := "()Z" } : MethodName) prog_8_method_4_code (1 : Nat) (Option.some FieldType.boolean)) ∈ cG := inG (i := 404) (by decide +kernel) rfl
theorem w_405 : (Cond.methodLink "DuneMaps" (156 : Nat) ({ cls := "DuneMaps$Walker", name := "hasGoodMap", desc := "(LDuneMaps$Sand;)Z" } : MethodName)) ∈ cG := inG (i := 405) (by decide +kernel) rfl
theorem w_406 : (Cond.instanceMethod ({ cls := "DuneMaps$Walker", name := "hasGoodMap", desc := "(LDuneMaps$Sand;)Z" } : MethodName)) ∈ cG := inG (i := 406) (by decide +kernel) rfl
theorem w_407 : (Cond.selects "DuneMaps$Walker" ({ cls := "DuneMaps$Walker", name := "hasGoodMap", desc := "(LDuneMaps$Sand;)Z" } : MethodName) ({ cls := "DuneMaps$Walker", name := "hasGoodMap", desc := "(LDuneMaps$Sand;)Z" } : MethodName)) ∈ cG := inG (i := 407) (by decide +kernel) rfl
theorem w_408 : (Cond.code ({ cls := "DuneMaps$Walker", name := "hasGoodMap", desc := "(LDuneMaps$Sand;)Z" } : MethodName) prog_8_method_6_code (4 : Nat) (Option.some FieldType.boolean)) ∈ cG := inG (i := 408) (by decide +kernel) rfl
theorem w_409 : (Cond.methodLinkNest "DuneMaps$Walker" (31 : Nat) ({ cls := "DuneMaps", name := "beside", desc := "(II)I" } : MethodName) "DuneMaps") ∈ lw_tbl := inT (i := 409) (by decide +kernel)
theorem w_410 : (Cond.static ({ cls := "DuneMaps", name := "beside", desc := "(II)I" } : MethodName)) ∈ cG := inG (i := 410) (by decide +kernel) rfl
theorem w_411 : (Cond.code ({ cls := "DuneMaps", name := "beside", desc := "(II)I" } : MethodName) prog_1_method_32_code (2 : Nat) (Option.some FieldType.int)) ∈ cG := inG (i := 411) (by decide +kernel) rfl
theorem w_412 : (Cond.methodLink "DuneMaps$Walker" (35 : Nat) ({ cls := "DuneMaps$Sand", name := "heightAt", desc := "(I)I" } : MethodName)) ∈ cG := inG (i := 412) (by decide +kernel) rfl
theorem w_413 : (Cond.methodLink "DuneMaps$Walker" (41 : Nat) ({ cls := "DuneMaps$Walker", name := "hasMap", desc := "()Z" } : MethodName)) ∈ cG := inG (i := 413) (by decide +kernel) rfl
theorem w_414 : (Cond.methodLink "DuneMapsLaw" (53 : Nat) ({ cls := "DuneMaps", name := "as", desc := "(II)I" } : MethodName)) ∈ cG := inG (i := 414) (by decide +kernel) rfl
theorem w_415 : (Cond.instanceMethod ({ cls := "DuneMaps", name := "as", desc := "(II)I" } : MethodName)) ∈ cG := inG (i := 415) (by decide +kernel) rfl
theorem w_416 : (Cond.selects "DuneMaps" ({ cls := "DuneMaps", name := "as", desc := "(II)I" } : MethodName) ({ cls := "DuneMaps", name := "as", desc := "(II)I" } : MethodName)) ∈ cG := inG (i := 416) (by decide +kernel) rfl
theorem w_417 : (Cond.code ({ cls := "DuneMaps", name := "as", desc := "(II)I" } : MethodName) prog_1_method_11_code (5 : Nat) (Option.some FieldType.int)) ∈ cG := inG (i := 417) (by decide +kernel) rfl
theorem w_418 : (Cond.methodLink "DuneMapsLaw" (57 : Nat) ({ cls := "DuneMaps", name := "step", desc := "(II)I" } : MethodName)) ∈ cG := inG (i := 418) (by decide +kernel) rfl
theorem w_419 : (Cond.instanceMethod ({ cls := "DuneMaps", name := "step", desc := "(II)I" } : MethodName)) ∈ cG := inG (i := 419) (by decide +kernel) rfl
theorem w_420 : (Cond.selects "DuneMaps" ({ cls := "DuneMaps", name := "step", desc := "(II)I" } : MethodName) ({ cls := "DuneMaps", name := "step", desc := "(II)I" } : MethodName)) ∈ cG := inG (i := 420) (by decide +kernel) rfl
theorem w_421 : (Cond.code ({ cls := "DuneMaps", name := "step", desc := "(II)I" } : MethodName) prog_1_method_12_code (4 : Nat) (Option.some FieldType.int)) ∈ cG := inG (i := 421) (by decide +kernel) rfl
theorem w_422 : (Cond.methodLink "DuneMaps" (166 : Nat) ({ cls := "DuneMaps", name := "isWay", desc := "(I)Z" } : MethodName)) ∈ cG := inG (i := 422) (by decide +kernel) rfl
theorem w_423 : (Cond.static ({ cls := "DuneMaps", name := "isWay", desc := "(I)Z" } : MethodName)) ∈ cG := inG (i := 423) (by decide +kernel) rfl
theorem w_424 : (Cond.code ({ cls := "DuneMaps", name := "isWay", desc := "(I)Z" } : MethodName) prog_1_method_29_code (1 : Nat) (Option.some FieldType.boolean)) ∈ cG := inG (i := 424) (by decide +kernel) rfl
theorem w_425 : (Cond.methodLink "DuneMaps" (169 : Nat) ({ cls := "DuneMaps$Walker", name := "stepOn", desc := "(LDuneMaps$Sand;I)I" } : MethodName)) ∈ cG := inG (i := 425) (by decide +kernel) rfl
theorem w_426 : (Cond.instanceMethod ({ cls := "DuneMaps$Walker", name := "stepOn", desc := "(LDuneMaps$Sand;I)I" } : MethodName)) ∈ cG := inG (i := 426) (by decide +kernel) rfl
theorem w_427 : (Cond.selects "DuneMaps$Walker" ({ cls := "DuneMaps$Walker", name := "stepOn", desc := "(LDuneMaps$Sand;I)I" } : MethodName) ({ cls := "DuneMaps$Walker", name := "stepOn", desc := "(LDuneMaps$Sand;I)I" } : MethodName)) ∈ cG := inG (i := 427) (by decide +kernel) rfl
theorem w_428 : (Cond.code ({ cls := "DuneMaps$Walker", name := "stepOn", desc := "(LDuneMaps$Sand;I)I" } : MethodName) prog_8_method_7_code (3 : Nat) (Option.some FieldType.int)) ∈ cG := inG (i := 428) (by decide +kernel) rfl
theorem w_429 : (Cond.methodLink "DuneMaps$Walker" (45 : Nat) ({ cls := "DuneMaps$Sand", name := "tread", desc := "(II)I" } : MethodName)) ∈ cG := inG (i := 429) (by decide +kernel) rfl
theorem w_430 : (Cond.instanceMethod ({ cls := "DuneMaps$Sand", name := "tread", desc := "(II)I" } : MethodName)) ∈ cG := inG (i := 430) (by decide +kernel) rfl
theorem w_431 : (Cond.selects "DuneMaps$Sand" ({ cls := "DuneMaps$Sand", name := "tread", desc := "(II)I" } : MethodName) ({ cls := "DuneMaps$Sand", name := "tread", desc := "(II)I" } : MethodName)) ∈ cG := inG (i := 431) (by decide +kernel) rfl
theorem w_432 : (Cond.code ({ cls := "DuneMaps$Sand", name := "tread", desc := "(II)I" } : MethodName) prog_7_method_12_code (6 : Nat) (Option.some FieldType.int)) ∈ cG := inG (i := 432) (by decide +kernel) rfl
theorem w_433 : (Cond.methodLink "DuneMaps$Sand" (49 : Nat) ({ cls := "DuneMaps$Sand", name := "luffOf", desc := "(I)I" } : MethodName)) ∈ cG := inG (i := 433) (by decide +kernel) rfl
theorem w_434 : (Cond.privateMethod ({ cls := "DuneMaps$Sand", name := "luffOf", desc := "(I)I" } : MethodName)) ∈ lw_tbl := inT (i := 434) (by decide +kernel)
theorem w_435 : (Cond.instanceMethod ({ cls := "DuneMaps$Sand", name := "luffOf", desc := "(I)I" } : MethodName)) ∈ cG := inG (i := 435) (by decide +kernel) rfl
theorem w_436 : (Cond.code ({ cls := "DuneMaps$Sand", name := "luffOf", desc := "(I)I" } : MethodName) prog_7_method_15_code (2 : Nat) (Option.some FieldType.int)) ∈ cG := inG (i := 436) (by decide +kernel) rfl
theorem w_437 : (Cond.methodLinkNest "DuneMaps$Sand" (52 : Nat) ({ cls := "DuneMaps", name := "weightOf", desc := "(I)I" } : MethodName) "DuneMaps") ∈ lw_tbl := inT (i := 437) (by decide +kernel)
theorem w_438 : (Cond.methodLink "DuneMapsLaw" (61 : Nat) ({ cls := "DuneMaps", name := "map", desc := "(III)I" } : MethodName)) ∈ cG := inG (i := 438) (by decide +kernel) rfl
theorem w_439 : (Cond.instanceMethod ({ cls := "DuneMaps", name := "map", desc := "(III)I" } : MethodName)) ∈ cG := inG (i := 439) (by decide +kernel) rfl
theorem w_440 : (Cond.selects "DuneMaps" ({ cls := "DuneMaps", name := "map", desc := "(III)I" } : MethodName) ({ cls := "DuneMaps", name := "map", desc := "(III)I" } : MethodName)) ∈ cG := inG (i := 440) (by decide +kernel) rfl
theorem w_441 : (Cond.code ({ cls := "DuneMaps", name := "map", desc := "(III)I" } : MethodName) prog_1_method_13_code (5 : Nat) (Option.some FieldType.int)) ∈ cG := inG (i := 441) (by decide +kernel) rfl
theorem w_442 : (Cond.methodLink "DuneMaps" (173 : Nat) ({ cls := "DuneMaps$Walker", name := "drawMap", desc := "(LDuneMaps$Sand;II)I" } : MethodName)) ∈ cG := inG (i := 442) (by decide +kernel) rfl
theorem w_443 : (Cond.instanceMethod ({ cls := "DuneMaps$Walker", name := "drawMap", desc := "(LDuneMaps$Sand;II)I" } : MethodName)) ∈ cG := inG (i := 443) (by decide +kernel) rfl
theorem w_444 : (Cond.selects "DuneMaps$Walker" ({ cls := "DuneMaps$Walker", name := "drawMap", desc := "(LDuneMaps$Sand;II)I" } : MethodName) ({ cls := "DuneMaps$Walker", name := "drawMap", desc := "(LDuneMaps$Sand;II)I" } : MethodName)) ∈ cG := inG (i := 444) (by decide +kernel) rfl
theorem w_445 : (Cond.code ({ cls := "DuneMaps$Walker", name := "drawMap", desc := "(LDuneMaps$Sand;II)I" } : MethodName) prog_8_method_5_code (7 : Nat) (Option.some FieldType.int)) ∈ cG := inG (i := 445) (by decide +kernel) rfl
theorem w_446 : (Cond.methodLink "DuneMapsLaw" (66 : Nat) ({ cls := "DuneMaps", name := "go", desc := "(I)I" } : MethodName)) ∈ cG := inG (i := 446) (by decide +kernel) rfl
theorem w_447 : (Cond.instanceMethod ({ cls := "DuneMaps", name := "go", desc := "(I)I" } : MethodName)) ∈ cG := inG (i := 447) (by decide +kernel) rfl
theorem w_448 : (Cond.selects "DuneMaps" ({ cls := "DuneMaps", name := "go", desc := "(I)I" } : MethodName) ({ cls := "DuneMaps", name := "go", desc := "(I)I" } : MethodName)) ∈ cG := inG (i := 448) (by decide +kernel) rfl
theorem w_449 : (Cond.code ({ cls := "DuneMaps", name := "go", desc := "(I)I" } : MethodName) prog_1_method_14_code (4 : Nat) (Option.some FieldType.int)) ∈ cG := inG (i := 449) (by decide +kernel) rfl
theorem w_450 : (Cond.methodLink "DuneMaps" (177 : Nat) ({ cls := "DuneMaps$Walker", name := "goByMap", desc := "(LDuneMaps$Sand;)V" } : MethodName)) ∈ cG := inG (i := 450) (by decide +kernel) rfl
theorem w_451 : (Cond.instanceMethod ({ cls := "DuneMaps$Walker", name := "goByMap", desc := "(LDuneMaps$Sand;)V" } : MethodName)) ∈ cG := inG (i := 451) (by decide +kernel) rfl
theorem w_452 : (Cond.selects "DuneMaps$Walker" ({ cls := "DuneMaps$Walker", name := "goByMap", desc := "(LDuneMaps$Sand;)V" } : MethodName) ({ cls := "DuneMaps$Walker", name := "goByMap", desc := "(LDuneMaps$Sand;)V" } : MethodName)) ∈ cG := inG (i := 452) (by decide +kernel) rfl
theorem w_453 : (Cond.code ({ cls := "DuneMaps$Walker", name := "goByMap", desc := "(LDuneMaps$Sand;)V" } : MethodName) prog_8_method_8_code (3 : Nat) (Option.none : Option FieldType)) ∈ cG := inG (i := 453) (by decide +kernel) rfl
theorem w_454 : (Cond.methodLink "DuneMaps$Walker" (48 : Nat) ({ cls := "DuneMaps$Walker", name := "stepOn", desc := "(LDuneMaps$Sand;I)I" } : MethodName)) ∈ cG := inG (i := 454) (by decide +kernel) rfl
theorem w_455 : (Cond.methodLink "DuneMapsLaw" (70 : Nat) ({ cls := "DuneMaps", name := "order", desc := "(I)I" } : MethodName)) ∈ cG := inG (i := 455) (by decide +kernel) rfl
theorem w_456 : (Cond.instanceMethod ({ cls := "DuneMaps", name := "order", desc := "(I)I" } : MethodName)) ∈ cG := inG (i := 456) (by decide +kernel) rfl
theorem w_457 : (Cond.selects "DuneMaps" ({ cls := "DuneMaps", name := "order", desc := "(I)I" } : MethodName) ({ cls := "DuneMaps", name := "order", desc := "(I)I" } : MethodName)) ∈ cG := inG (i := 457) (by decide +kernel) rfl
theorem w_458 : (Cond.code ({ cls := "DuneMaps", name := "order", desc := "(I)I" } : MethodName) prog_1_method_15_code (3 : Nat) (Option.some FieldType.int)) ∈ cG := inG (i := 458) (by decide +kernel) rfl
theorem w_459 : (Cond.methodLink "DuneMaps" (180 : Nat) ({ cls := "DuneMaps$Ordering", name := "search", desc := "(LDuneMaps$Land;)V" } : MethodName)) ∈ cG := inG (i := 459) (by decide +kernel) rfl
theorem w_460 : (Cond.instanceMethod ({ cls := "DuneMaps$Ordering", name := "search", desc := "(LDuneMaps$Land;)V" } : MethodName)) ∈ cG := inG (i := 460) (by decide +kernel) rfl
theorem w_461 : (Cond.selects "DuneMaps$Ordering" ({ cls := "DuneMaps$Ordering", name := "search", desc := "(LDuneMaps$Land;)V" } : MethodName) ({ cls := "DuneMaps$Ordering", name := "search", desc := "(LDuneMaps$Land;)V" } : MethodName)) ∈ cG := inG (i := 461) (by decide +kernel) rfl
theorem w_462 : (Cond.code ({ cls := "DuneMaps$Ordering", name := "search", desc := "(LDuneMaps$Land;)V" } : MethodName) prog_5_method_3_code (2 : Nat) (Option.none : Option FieldType)) ∈ cG := inG (i := 462) (by decide +kernel) rfl
theorem w_463 : (Cond.methodLink "DuneMaps$Ordering" (29 : Nat) ({ cls := "DuneMaps$Land", name := "maps", desc := "()I" } : MethodName)) ∈ cG := inG (i := 463) (by decide +kernel) rfl
theorem w_464 : (Cond.instanceMethod ({ cls := "DuneMaps$Land", name := "maps", desc := "()I" } : MethodName)) ∈ cG := inG (i := 464) (by decide +kernel) rfl
theorem w_465 : (Cond.selects "DuneMaps$Land" ({ cls := "DuneMaps$Land", name := "maps", desc := "()I" } : MethodName) ({ cls := "DuneMaps$Land", name := "maps", desc := "()I" } : MethodName)) ∈ cG := inG (i := 465) (by decide +kernel) rfl
theorem w_466 : (Cond.code ({ cls := "DuneMaps$Land", name := "maps", desc := "()I" } : MethodName) prog_4_method_7_code (3 : Nat) (Option.some FieldType.int)) ∈ cG := inG (i := 466) (by decide +kernel) rfl
theorem w_467 : (Cond.methodLink "DuneMaps$Land" (50 : Nat) ({ cls := "DuneMaps$Walker", name := "hasMap", desc := "()Z" } : MethodName)) ∈ cG := inG (i := 467) (by decide +kernel) rfl
theorem w_468 : (Cond.methodLink "DuneMaps$Ordering" (42 : Nat) ({ cls := "DuneMaps$Sand", name := "copyFrom", desc := "(LDuneMaps$Sand;)V" } : MethodName)) ∈ cG := inG (i := 468) (by decide +kernel) rfl
theorem w_469 : (Cond.instanceMethod ({ cls := "DuneMaps$Sand", name := "copyFrom", desc := "(LDuneMaps$Sand;)V" } : MethodName)) ∈ cG := inG (i := 469) (by decide +kernel) rfl
theorem w_470 : (Cond.selects "DuneMaps$Sand" ({ cls := "DuneMaps$Sand", name := "copyFrom", desc := "(LDuneMaps$Sand;)V" } : MethodName) ({ cls := "DuneMaps$Sand", name := "copyFrom", desc := "(LDuneMaps$Sand;)V" } : MethodName)) ∈ cG := inG (i := 470) (by decide +kernel) rfl
theorem w_471 : (Cond.code ({ cls := "DuneMaps$Sand", name := "copyFrom", desc := "(LDuneMaps$Sand;)V" } : MethodName) prog_7_method_4_code (2 : Nat) (Option.none : Option FieldType)) ∈ cG := inG (i := 471) (by decide +kernel) rfl
theorem w_472 : (Cond.methodLink "DuneMaps$Sand" (15 : Nat) ({ cls := "DuneMaps$Sand", name := "copyHeights", desc := "(LDuneMaps$Sand;)V" } : MethodName)) ∈ cG := inG (i := 472) (by decide +kernel) rfl
theorem w_473 : (Cond.instanceMethod ({ cls := "DuneMaps$Sand", name := "copyHeights", desc := "(LDuneMaps$Sand;)V" } : MethodName)) ∈ cG := inG (i := 473) (by decide +kernel) rfl
theorem w_474 : (Cond.selects "DuneMaps$Sand" ({ cls := "DuneMaps$Sand", name := "copyHeights", desc := "(LDuneMaps$Sand;)V" } : MethodName) ({ cls := "DuneMaps$Sand", name := "copyHeights", desc := "(LDuneMaps$Sand;)V" } : MethodName)) ∈ cG := inG (i := 474) (by decide +kernel) rfl
theorem w_475 : (Cond.code ({ cls := "DuneMaps$Sand", name := "copyHeights", desc := "(LDuneMaps$Sand;)V" } : MethodName) prog_7_method_5_code (3 : Nat) (Option.none : Option FieldType)) ∈ cG := inG (i := 475) (by decide +kernel) rfl
theorem w_476 : (Cond.methodLink "DuneMaps$Ordering" (46 : Nat) ({ cls := "DuneMaps$Ordering", name := "tryTurn", desc := "(LDuneMaps$Land;III)V" } : MethodName)) ∈ cG := inG (i := 476) (by decide +kernel) rfl
theorem w_477 : (Cond.privateMethod ({ cls := "DuneMaps$Ordering", name := "tryTurn", desc := "(LDuneMaps$Land;III)V" } : MethodName)) ∈ lw_tbl := inT (i := 477) (by decide +kernel)
theorem w_478 : (Cond.instanceMethod ({ cls := "DuneMaps$Ordering", name := "tryTurn", desc := "(LDuneMaps$Land;III)V" } : MethodName)) ∈ cG := inG (i := 478) (by decide +kernel) rfl
theorem w_479 : (Cond.code ({ cls := "DuneMaps$Ordering", name := "tryTurn", desc := "(LDuneMaps$Land;III)V" } : MethodName) prog_5_method_4_code (8 : Nat) (Option.none : Option FieldType)) ∈ cG := inG (i := 479) (by decide +kernel) rfl
theorem w_480 : (Cond.methodLink "DuneMaps$Ordering" (50 : Nat) ({ cls := "DuneMaps$Ordering", name := "keep", desc := "(I)V" } : MethodName)) ∈ cG := inG (i := 480) (by decide +kernel) rfl
theorem w_481 : (Cond.privateMethod ({ cls := "DuneMaps$Ordering", name := "keep", desc := "(I)V" } : MethodName)) ∈ lw_tbl := inT (i := 481) (by decide +kernel)
theorem w_482 : (Cond.instanceMethod ({ cls := "DuneMaps$Ordering", name := "keep", desc := "(I)V" } : MethodName)) ∈ cG := inG (i := 482) (by decide +kernel) rfl
theorem w_483 : (Cond.code ({ cls := "DuneMaps$Ordering", name := "keep", desc := "(I)V" } : MethodName) prog_5_method_5_code (3 : Nat) (Option.none : Option FieldType)) ∈ cG := inG (i := 483) (by decide +kernel) rfl
theorem w_484 : (Cond.methodLink "DuneMaps$Ordering" (57 : Nat) ({ cls := "DuneMaps$Land", name := "named", desc := "(I)LDuneMaps$Walker;" } : MethodName)) ∈ cG := inG (i := 484) (by decide +kernel) rfl
theorem w_485 : (Cond.methodLink "DuneMaps$Ordering" (61 : Nat) ({ cls := "DuneMaps$Walker", name := "hasMap", desc := "()Z" } : MethodName)) ∈ cG := inG (i := 485) (by decide +kernel) rfl
theorem w_486 : (Cond.methodLink "DuneMaps$Ordering" (67 : Nat) ({ cls := "DuneMaps$Walker", name := "hasGoodMap", desc := "(LDuneMaps$Sand;)Z" } : MethodName)) ∈ cG := inG (i := 486) (by decide +kernel) rfl
theorem w_487 : (Cond.methodLinkNest "DuneMaps$Ordering" (71 : Nat) ({ cls := "DuneMaps", name := "asNumber", desc := "(Z)I" } : MethodName) "DuneMaps") ∈ lw_tbl := inT (i := 487) (by decide +kernel)
theorem w_488 : (Cond.methodLink "DuneMaps$Ordering" (75 : Nat) ({ cls := "DuneMaps$Walker", name := "wouldGo", desc := "(LDuneMaps$Sand;)V" } : MethodName)) ∈ cG := inG (i := 488) (by decide +kernel) rfl
theorem w_489 : (Cond.instanceMethod ({ cls := "DuneMaps$Walker", name := "wouldGo", desc := "(LDuneMaps$Sand;)V" } : MethodName)) ∈ cG := inG (i := 489) (by decide +kernel) rfl
theorem w_490 : (Cond.selects "DuneMaps$Walker" ({ cls := "DuneMaps$Walker", name := "wouldGo", desc := "(LDuneMaps$Sand;)V" } : MethodName) ({ cls := "DuneMaps$Walker", name := "wouldGo", desc := "(LDuneMaps$Sand;)V" } : MethodName)) ∈ cG := inG (i := 490) (by decide +kernel) rfl
theorem w_491 : (Cond.code ({ cls := "DuneMaps$Walker", name := "wouldGo", desc := "(LDuneMaps$Sand;)V" } : MethodName) prog_8_method_9_code (4 : Nat) (Option.none : Option FieldType)) ∈ cG := inG (i := 491) (by decide +kernel) rfl
theorem w_492 : (Cond.methodLink "DuneMaps" (184 : Nat) ({ cls := "DuneMaps$Ordering", name := "goerAt", desc := "(I)I" } : MethodName)) ∈ cG := inG (i := 492) (by decide +kernel) rfl
theorem w_493 : (Cond.instanceMethod ({ cls := "DuneMaps$Ordering", name := "goerAt", desc := "(I)I" } : MethodName)) ∈ cG := inG (i := 493) (by decide +kernel) rfl
theorem w_494 : (Cond.selects "DuneMaps$Ordering" ({ cls := "DuneMaps$Ordering", name := "goerAt", desc := "(I)I" } : MethodName) ({ cls := "DuneMaps$Ordering", name := "goerAt", desc := "(I)I" } : MethodName)) ∈ cG := inG (i := 494) (by decide +kernel) rfl
theorem w_495 : (Cond.code ({ cls := "DuneMaps$Ordering", name := "goerAt", desc := "(I)I" } : MethodName) prog_5_method_2_code (2 : Nat) (Option.some FieldType.int)) ∈ cG := inG (i := 495) (by decide +kernel) rfl
theorem w_496 : (Cond.methodLink "DuneMapsLaw" (74 : Nat) ({ cls := "DuneMaps", name := "feet", desc := "(IIII)I" } : MethodName)) ∈ cG := inG (i := 496) (by decide +kernel) rfl
theorem w_497 : (Cond.instanceMethod ({ cls := "DuneMaps", name := "feet", desc := "(IIII)I" } : MethodName)) ∈ cG := inG (i := 497) (by decide +kernel) rfl
theorem w_498 : (Cond.selects "DuneMaps" ({ cls := "DuneMaps", name := "feet", desc := "(IIII)I" } : MethodName) ({ cls := "DuneMaps", name := "feet", desc := "(IIII)I" } : MethodName)) ∈ cG := inG (i := 498) (by decide +kernel) rfl
theorem w_499 : (Cond.code ({ cls := "DuneMaps", name := "feet", desc := "(IIII)I" } : MethodName) prog_1_method_16_code (6 : Nat) (Option.some FieldType.int)) ∈ cG := inG (i := 499) (by decide +kernel) rfl
theorem w_500 : (Cond.methodLink "DuneMaps" (190 : Nat) ({ cls := "DuneMaps$Footing", name := "search", desc := "(LDuneMaps$Sand;LDuneMaps$Walker;II)V" } : MethodName)) ∈ cG := inG (i := 500) (by decide +kernel) rfl
theorem w_501 : (Cond.instanceMethod ({ cls := "DuneMaps$Footing", name := "search", desc := "(LDuneMaps$Sand;LDuneMaps$Walker;II)V" } : MethodName)) ∈ cG := inG (i := 501) (by decide +kernel) rfl
theorem w_502 : (Cond.selects "DuneMaps$Footing" ({ cls := "DuneMaps$Footing", name := "search", desc := "(LDuneMaps$Sand;LDuneMaps$Walker;II)V" } : MethodName) ({ cls := "DuneMaps$Footing", name := "search", desc := "(LDuneMaps$Sand;LDuneMaps$Walker;II)V" } : MethodName)) ∈ cG := inG (i := 502) (by decide +kernel) rfl
theorem w_503 : (Cond.code ({ cls := "DuneMaps$Footing", name := "search", desc := "(LDuneMaps$Sand;LDuneMaps$Walker;II)V" } : MethodName) prog_3_method_2_code (5 : Nat) (Option.none : Option FieldType)) ∈ cG := inG (i := 503) (by decide +kernel) rfl
theorem w_504 : (Cond.methodLink "DuneMaps$Footing" (40 : Nat) ({ cls := "DuneMaps$Sand", name := "copyFrom", desc := "(LDuneMaps$Sand;)V" } : MethodName)) ∈ cG := inG (i := 504) (by decide +kernel) rfl
theorem w_505 : (Cond.methodLink "DuneMaps$Footing" (47 : Nat) ({ cls := "DuneMaps$Footing", name := "tryFrom", desc := "(III)V" } : MethodName)) ∈ cG := inG (i := 505) (by decide +kernel) rfl
theorem w_506 : (Cond.privateMethod ({ cls := "DuneMaps$Footing", name := "tryFrom", desc := "(III)V" } : MethodName)) ∈ lw_tbl := inT (i := 506) (by decide +kernel)
theorem w_507 : (Cond.instanceMethod ({ cls := "DuneMaps$Footing", name := "tryFrom", desc := "(III)V" } : MethodName)) ∈ cG := inG (i := 507) (by decide +kernel) rfl
theorem w_508 : (Cond.code ({ cls := "DuneMaps$Footing", name := "tryFrom", desc := "(III)V" } : MethodName) prog_3_method_3_code (6 : Nat) (Option.none : Option FieldType)) ∈ cG := inG (i := 508) (by decide +kernel) rfl
theorem w_509 : (Cond.methodLink "DuneMaps$Footing" (51 : Nat) ({ cls := "DuneMaps$Sand", name := "heightAt", desc := "(I)I" } : MethodName)) ∈ cG := inG (i := 509) (by decide +kernel) rfl
theorem w_510 : (Cond.methodLinkNest "DuneMaps$Footing" (55 : Nat) ({ cls := "DuneMaps", name := "beside", desc := "(II)I" } : MethodName) "DuneMaps") ∈ lw_tbl := inT (i := 510) (by decide +kernel)
theorem w_511 : (Cond.methodLink "DuneMaps$Footing" (59 : Nat) ({ cls := "DuneMaps$Sand", name := "tread", desc := "(II)I" } : MethodName)) ∈ cG := inG (i := 511) (by decide +kernel) rfl
theorem w_512 : (Cond.methodLink "DuneMapsLaw" (79 : Nat) ({ cls := "DuneMaps", name := "was", desc := "()I" } : MethodName)) ∈ cG := inG (i := 512) (by decide +kernel) rfl
theorem w_513 : (Cond.instanceMethod ({ cls := "DuneMaps", name := "was", desc := "()I" } : MethodName)) ∈ cG := inG (i := 513) (by decide +kernel) rfl
theorem w_514 : (Cond.selects "DuneMaps" ({ cls := "DuneMaps", name := "was", desc := "()I" } : MethodName) ({ cls := "DuneMaps", name := "was", desc := "()I" } : MethodName)) ∈ cG := inG (i := 514) (by decide +kernel) rfl
theorem w_515 : (Cond.code ({ cls := "DuneMaps", name := "was", desc := "()I" } : MethodName) prog_1_method_17_code (1 : Nat) (Option.some FieldType.int)) ∈ cG := inG (i := 515) (by decide +kernel) rfl
theorem w_516 : (Cond.methodLink "DuneMapsLaw" (83 : Nat) ({ cls := "DuneMaps", name := "who", desc := "(I)I" } : MethodName)) ∈ cG := inG (i := 516) (by decide +kernel) rfl
theorem w_517 : (Cond.instanceMethod ({ cls := "DuneMaps", name := "who", desc := "(I)I" } : MethodName)) ∈ cG := inG (i := 517) (by decide +kernel) rfl
theorem w_518 : (Cond.selects "DuneMaps" ({ cls := "DuneMaps", name := "who", desc := "(I)I" } : MethodName) ({ cls := "DuneMaps", name := "who", desc := "(I)I" } : MethodName)) ∈ cG := inG (i := 518) (by decide +kernel) rfl
theorem w_519 : (Cond.code ({ cls := "DuneMaps", name := "who", desc := "(I)I" } : MethodName) prog_1_method_18_code (2 : Nat) (Option.some FieldType.int)) ∈ cG := inG (i := 519) (by decide +kernel) rfl
theorem w_520 : (Cond.methodLink "DuneMaps" (199 : Nat) ({ cls := "DuneMaps$Dusk", name := "search", desc := "(LDuneMaps$Sand;LDuneMaps$Sand;LDuneMaps$Sand;)V" } : MethodName)) ∈ cG := inG (i := 520) (by decide +kernel) rfl
theorem w_521 : (Cond.instanceMethod ({ cls := "DuneMaps$Dusk", name := "search", desc := "(LDuneMaps$Sand;LDuneMaps$Sand;LDuneMaps$Sand;)V" } : MethodName)) ∈ cG := inG (i := 521) (by decide +kernel) rfl
theorem w_522 : (Cond.selects "DuneMaps$Dusk" ({ cls := "DuneMaps$Dusk", name := "search", desc := "(LDuneMaps$Sand;LDuneMaps$Sand;LDuneMaps$Sand;)V" } : MethodName) ({ cls := "DuneMaps$Dusk", name := "search", desc := "(LDuneMaps$Sand;LDuneMaps$Sand;LDuneMaps$Sand;)V" } : MethodName)) ∈ cG := inG (i := 522) (by decide +kernel) rfl
theorem w_523 : (Cond.code ({ cls := "DuneMaps$Dusk", name := "search", desc := "(LDuneMaps$Sand;LDuneMaps$Sand;LDuneMaps$Sand;)V" } : MethodName) prog_2_method_2_code (5 : Nat) (Option.none : Option FieldType)) ∈ cG := inG (i := 523) (by decide +kernel) rfl
theorem w_524 : (Cond.methodLink "DuneMaps$Dusk" (18 : Nat) ({ cls := "DuneMaps$Sand", name := "copyHeights", desc := "(LDuneMaps$Sand;)V" } : MethodName)) ∈ cG := inG (i := 524) (by decide +kernel) rfl
theorem w_525 : (Cond.methodLink "DuneMaps$Dusk" (28 : Nat) ({ cls := "DuneMaps$Dusk", name := "tryWalk", desc := "(ILDuneMaps$Sand;LDuneMaps$Sand;)V" } : MethodName)) ∈ cG := inG (i := 525) (by decide +kernel) rfl
theorem w_526 : (Cond.privateMethod ({ cls := "DuneMaps$Dusk", name := "tryWalk", desc := "(ILDuneMaps$Sand;LDuneMaps$Sand;)V" } : MethodName)) ∈ lw_tbl := inT (i := 526) (by decide +kernel)
theorem w_527 : (Cond.instanceMethod ({ cls := "DuneMaps$Dusk", name := "tryWalk", desc := "(ILDuneMaps$Sand;LDuneMaps$Sand;)V" } : MethodName)) ∈ cG := inG (i := 527) (by decide +kernel) rfl
theorem w_528 : (Cond.code ({ cls := "DuneMaps$Dusk", name := "tryWalk", desc := "(ILDuneMaps$Sand;LDuneMaps$Sand;)V" } : MethodName) prog_2_method_3_code (8 : Nat) (Option.none : Option FieldType)) ∈ cG := inG (i := 528) (by decide +kernel) rfl
theorem w_529 : (Cond.methodLinkNest "DuneMaps$Dusk" (32 : Nat) ({ cls := "DuneMaps", name := "beside", desc := "(II)I" } : MethodName) "DuneMaps") ∈ lw_tbl := inT (i := 529) (by decide +kernel)
theorem w_530 : (Cond.methodLink "DuneMaps$Dusk" (36 : Nat) ({ cls := "DuneMaps$Sand", name := "tread", desc := "(II)I" } : MethodName)) ∈ cG := inG (i := 530) (by decide +kernel) rfl
theorem w_531 : (Cond.methodLink "DuneMaps$Dusk" (39 : Nat) ({ cls := "DuneMaps$Sand", name := "isAsHighAs", desc := "(LDuneMaps$Sand;)Z" } : MethodName)) ∈ cG := inG (i := 531) (by decide +kernel) rfl
theorem w_532 : (Cond.instanceMethod ({ cls := "DuneMaps$Sand", name := "isAsHighAs", desc := "(LDuneMaps$Sand;)Z" } : MethodName)) ∈ cG := inG (i := 532) (by decide +kernel) rfl
theorem w_533 : (Cond.selects "DuneMaps$Sand" ({ cls := "DuneMaps$Sand", name := "isAsHighAs", desc := "(LDuneMaps$Sand;)Z" } : MethodName) ({ cls := "DuneMaps$Sand", name := "isAsHighAs", desc := "(LDuneMaps$Sand;)Z" } : MethodName)) ∈ cG := inG (i := 533) (by decide +kernel) rfl
theorem w_534 : (Cond.code ({ cls := "DuneMaps$Sand", name := "isAsHighAs", desc := "(LDuneMaps$Sand;)Z" } : MethodName) prog_7_method_6_code (3 : Nat) (Option.some FieldType.boolean)) ∈ cG := inG (i := 534) (by decide +kernel) rfl
theorem w_535 : (Cond.methodLink "DuneMapsLaw" (87 : Nat) ({ cls := "DuneMaps", name := "moons", desc := "(III)I" } : MethodName)) ∈ cG := inG (i := 535) (by decide +kernel) rfl
theorem w_536 : (Cond.instanceMethod ({ cls := "DuneMaps", name := "moons", desc := "(III)I" } : MethodName)) ∈ cG := inG (i := 536) (by decide +kernel) rfl
theorem w_537 : (Cond.selects "DuneMaps" ({ cls := "DuneMaps", name := "moons", desc := "(III)I" } : MethodName) ({ cls := "DuneMaps", name := "moons", desc := "(III)I" } : MethodName)) ∈ cG := inG (i := 537) (by decide +kernel) rfl
theorem w_538 : (Cond.code ({ cls := "DuneMaps", name := "moons", desc := "(III)I" } : MethodName) prog_1_method_19_code (8 : Nat) (Option.some FieldType.int)) ∈ cG := inG (i := 538) (by decide +kernel) rfl
theorem w_539 : (Cond.methodLink "DuneMaps" (208 : Nat) ({ cls := "DuneMaps$Sand", name := "copyFrom", desc := "(LDuneMaps$Sand;)V" } : MethodName)) ∈ cG := inG (i := 539) (by decide +kernel) rfl
theorem w_540 : (Cond.methodLink "DuneMaps" (211 : Nat) ({ cls := "DuneMaps", name := "nextSeed", desc := "(I)I" } : MethodName)) ∈ cG := inG (i := 540) (by decide +kernel) rfl
theorem w_541 : (Cond.static ({ cls := "DuneMaps", name := "nextSeed", desc := "(I)I" } : MethodName)) ∈ cG := inG (i := 541) (by decide +kernel) rfl
theorem w_542 : (Cond.code ({ cls := "DuneMaps", name := "nextSeed", desc := "(I)I" } : MethodName) prog_1_method_33_code (1 : Nat) (Option.some FieldType.int)) ∈ cG := inG (i := 542) (by decide +kernel) rfl
theorem w_543 : (Cond.constant "DuneMaps" (275 : Nat) (1103515245 : Int32)) ∈ cG := inG (i := 543) (by decide +kernel) rfl
theorem w_544 : (Cond.constant "DuneMaps" (276 : Nat) (2147483647 : Int32)) ∈ cG := inG (i := 544) (by decide +kernel) rfl
theorem w_545 : (Cond.methodLink "DuneMaps" (214 : Nat) ({ cls := "DuneMaps", name := "draw", desc := "(II)I" } : MethodName)) ∈ cG := inG (i := 545) (by decide +kernel) rfl
theorem w_546 : (Cond.static ({ cls := "DuneMaps", name := "draw", desc := "(II)I" } : MethodName)) ∈ cG := inG (i := 546) (by decide +kernel) rfl
theorem w_547 : (Cond.code ({ cls := "DuneMaps", name := "draw", desc := "(II)I" } : MethodName) prog_1_method_34_code (2 : Nat) (Option.some FieldType.int)) ∈ cG := inG (i := 547) (by decide +kernel) rfl
theorem w_548 : (Cond.methodLink "DuneMaps" (217 : Nat) ({ cls := "DuneMaps$Sand", name := "tread", desc := "(II)I" } : MethodName)) ∈ cG := inG (i := 548) (by decide +kernel) rfl
theorem w_549 : (Cond.methodLink "DuneMaps" (220 : Nat) ({ cls := "DuneMaps$Sand", name := "highest", desc := "()I" } : MethodName)) ∈ cG := inG (i := 549) (by decide +kernel) rfl
theorem w_550 : (Cond.instanceMethod ({ cls := "DuneMaps$Sand", name := "highest", desc := "()I" } : MethodName)) ∈ cG := inG (i := 550) (by decide +kernel) rfl
theorem w_551 : (Cond.selects "DuneMaps$Sand" ({ cls := "DuneMaps$Sand", name := "highest", desc := "()I" } : MethodName) ({ cls := "DuneMaps$Sand", name := "highest", desc := "()I" } : MethodName)) ∈ cG := inG (i := 551) (by decide +kernel) rfl
theorem w_552 : (Cond.code ({ cls := "DuneMaps$Sand", name := "highest", desc := "()I" } : MethodName) prog_7_method_8_code (3 : Nat) (Option.some FieldType.int)) ∈ cG := inG (i := 552) (by decide +kernel) rfl
theorem w_553 : (Cond.methodLink "DuneMaps$Sand" (23 : Nat) ({ cls := "java/lang/Math", name := "max", desc := "(II)I" } : MethodName)) ∈ cG := inG (i := 553) (by decide +kernel) rfl
theorem w_554 : (Cond.static ({ cls := "java/lang/Math", name := "max", desc := "(II)I" } : MethodName)) ∈ cG := inG (i := 554) (by decide +kernel) rfl
theorem w_555 : (Cond.code ({ cls := "java/lang/Math", name := "max", desc := "(II)I" } : MethodName) prog_12_method_65_code (2 : Nat) (Option.some FieldType.int)) ∈ cG := inG (i := 555) (by decide +kernel) rfl
theorem w_556 : (Cond.methodLink "DuneMapsLaw" (91 : Nat) ({ cls := "DuneMaps", name := "image", desc := "()I" } : MethodName)) ∈ cG := inG (i := 556) (by decide +kernel) rfl
theorem w_557 : (Cond.instanceMethod ({ cls := "DuneMaps", name := "image", desc := "()I" } : MethodName)) ∈ cG := inG (i := 557) (by decide +kernel) rfl
theorem w_558 : (Cond.selects "DuneMaps" ({ cls := "DuneMaps", name := "image", desc := "()I" } : MethodName) ({ cls := "DuneMaps", name := "image", desc := "()I" } : MethodName)) ∈ cG := inG (i := 558) (by decide +kernel) rfl
theorem w_559 : (Cond.code ({ cls := "DuneMaps", name := "image", desc := "()I" } : MethodName) prog_1_method_20_code (1 : Nat) (Option.some FieldType.int)) ∈ cG := inG (i := 559) (by decide +kernel) rfl
theorem w_560 : (Cond.methodLink "DuneMaps" (223 : Nat) ({ cls := "DuneMaps$Land", name := "copyFrom", desc := "(LDuneMaps$Land;)V" } : MethodName)) ∈ cG := inG (i := 560) (by decide +kernel) rfl
theorem w_561 : (Cond.instanceMethod ({ cls := "DuneMaps$Land", name := "copyFrom", desc := "(LDuneMaps$Land;)V" } : MethodName)) ∈ cG := inG (i := 561) (by decide +kernel) rfl
theorem w_562 : (Cond.selects "DuneMaps$Land" ({ cls := "DuneMaps$Land", name := "copyFrom", desc := "(LDuneMaps$Land;)V" } : MethodName) ({ cls := "DuneMaps$Land", name := "copyFrom", desc := "(LDuneMaps$Land;)V" } : MethodName)) ∈ cG := inG (i := 562) (by decide +kernel) rfl
theorem w_563 : (Cond.code ({ cls := "DuneMaps$Land", name := "copyFrom", desc := "(LDuneMaps$Land;)V" } : MethodName) prog_4_method_3_code (3 : Nat) (Option.none : Option FieldType)) ∈ cG := inG (i := 563) (by decide +kernel) rfl
theorem w_564 : (Cond.methodLink "DuneMaps$Land" (32 : Nat) ({ cls := "DuneMaps$Sand", name := "copyFrom", desc := "(LDuneMaps$Sand;)V" } : MethodName)) ∈ cG := inG (i := 564) (by decide +kernel) rfl
theorem w_565 : (Cond.methodLink "DuneMaps$Land" (36 : Nat) ({ cls := "DuneMaps$Walker", name := "copyFrom", desc := "(LDuneMaps$Walker;)V" } : MethodName)) ∈ cG := inG (i := 565) (by decide +kernel) rfl
theorem w_566 : (Cond.instanceMethod ({ cls := "DuneMaps$Walker", name := "copyFrom", desc := "(LDuneMaps$Walker;)V" } : MethodName)) ∈ cG := inG (i := 566) (by decide +kernel) rfl
theorem w_567 : (Cond.selects "DuneMaps$Walker" ({ cls := "DuneMaps$Walker", name := "copyFrom", desc := "(LDuneMaps$Walker;)V" } : MethodName) ({ cls := "DuneMaps$Walker", name := "copyFrom", desc := "(LDuneMaps$Walker;)V" } : MethodName)) ∈ cG := inG (i := 567) (by decide +kernel) rfl
theorem w_568 : (Cond.code ({ cls := "DuneMaps$Walker", name := "copyFrom", desc := "(LDuneMaps$Walker;)V" } : MethodName) prog_8_method_3_code (3 : Nat) (Option.none : Option FieldType)) ∈ cG := inG (i := 568) (by decide +kernel) rfl
theorem w_569 : (Cond.methodLink "DuneMapsLaw" (95 : Nat) ({ cls := "DuneMaps", name := "restore", desc := "()I" } : MethodName)) ∈ cG := inG (i := 569) (by decide +kernel) rfl
theorem w_570 : (Cond.instanceMethod ({ cls := "DuneMaps", name := "restore", desc := "()I" } : MethodName)) ∈ cG := inG (i := 570) (by decide +kernel) rfl
theorem w_571 : (Cond.selects "DuneMaps" ({ cls := "DuneMaps", name := "restore", desc := "()I" } : MethodName) ({ cls := "DuneMaps", name := "restore", desc := "()I" } : MethodName)) ∈ cG := inG (i := 571) (by decide +kernel) rfl
theorem w_572 : (Cond.code ({ cls := "DuneMaps", name := "restore", desc := "()I" } : MethodName) prog_1_method_21_code (1 : Nat) (Option.some FieldType.int)) ∈ cG := inG (i := 572) (by decide +kernel) rfl
theorem w_573 : (Cond.methodLink "DuneMapsLaw" (99 : Nat) ({ cls := "DuneMaps", name := "count", desc := "(I)I" } : MethodName)) ∈ cG := inG (i := 573) (by decide +kernel) rfl
theorem w_574 : (Cond.instanceMethod ({ cls := "DuneMaps", name := "count", desc := "(I)I" } : MethodName)) ∈ cG := inG (i := 574) (by decide +kernel) rfl
theorem w_575 : (Cond.selects "DuneMaps" ({ cls := "DuneMaps", name := "count", desc := "(I)I" } : MethodName) ({ cls := "DuneMaps", name := "count", desc := "(I)I" } : MethodName)) ∈ cG := inG (i := 575) (by decide +kernel) rfl
theorem w_576 : (Cond.code ({ cls := "DuneMaps", name := "count", desc := "(I)I" } : MethodName) prog_1_method_22_code (2 : Nat) (Option.some FieldType.int)) ∈ cG := inG (i := 576) (by decide +kernel) rfl
theorem w_577 : (Cond.methodLink "DuneMaps" (228 : Nat) ({ cls := "DuneMaps$Land", name := "maps", desc := "()I" } : MethodName)) ∈ cG := inG (i := 577) (by decide +kernel) rfl
theorem w_578 : (Cond.methodLink "DuneMaps" (231 : Nat) ({ cls := "DuneMaps$Land", name := "goodMaps", desc := "()I" } : MethodName)) ∈ cG := inG (i := 578) (by decide +kernel) rfl
theorem w_579 : (Cond.instanceMethod ({ cls := "DuneMaps$Land", name := "goodMaps", desc := "()I" } : MethodName)) ∈ cG := inG (i := 579) (by decide +kernel) rfl
theorem w_580 : (Cond.selects "DuneMaps$Land" ({ cls := "DuneMaps$Land", name := "goodMaps", desc := "()I" } : MethodName) ({ cls := "DuneMaps$Land", name := "goodMaps", desc := "()I" } : MethodName)) ∈ cG := inG (i := 580) (by decide +kernel) rfl
theorem w_581 : (Cond.code ({ cls := "DuneMaps$Land", name := "goodMaps", desc := "()I" } : MethodName) prog_4_method_8_code (3 : Nat) (Option.some FieldType.int)) ∈ cG := inG (i := 581) (by decide +kernel) rfl
theorem w_582 : (Cond.methodLink "DuneMaps$Land" (54 : Nat) ({ cls := "DuneMaps$Walker", name := "hasGoodMap", desc := "(LDuneMaps$Sand;)Z" } : MethodName)) ∈ cG := inG (i := 582) (by decide +kernel) rfl
theorem w_583 : (Cond.methodLink "DuneMaps" (234 : Nat) ({ cls := "DuneMaps$Land", name := "stepsGone", desc := "()I" } : MethodName)) ∈ cG := inG (i := 583) (by decide +kernel) rfl
theorem w_584 : (Cond.instanceMethod ({ cls := "DuneMaps$Land", name := "stepsGone", desc := "()I" } : MethodName)) ∈ cG := inG (i := 584) (by decide +kernel) rfl
theorem w_585 : (Cond.selects "DuneMaps$Land" ({ cls := "DuneMaps$Land", name := "stepsGone", desc := "()I" } : MethodName) ({ cls := "DuneMaps$Land", name := "stepsGone", desc := "()I" } : MethodName)) ∈ cG := inG (i := 585) (by decide +kernel) rfl
theorem w_586 : (Cond.code ({ cls := "DuneMaps$Land", name := "stepsGone", desc := "()I" } : MethodName) prog_4_method_9_code (3 : Nat) (Option.some FieldType.int)) ∈ cG := inG (i := 586) (by decide +kernel) rfl
theorem w_587 : (Cond.methodLink "DuneMaps" (236 : Nat) ({ cls := "DuneMaps$Sand", name := "crests", desc := "()I" } : MethodName)) ∈ cG := inG (i := 587) (by decide +kernel) rfl
theorem w_588 : (Cond.methodLink "DuneMaps" (239 : Nat) ({ cls := "java/lang/Integer", name := "bitCount", desc := "(I)I" } : MethodName)) ∈ cG := inG (i := 588) (by decide +kernel) rfl
theorem w_589 : (Cond.methodLink "DuneMapsLaw" (103 : Nat) ({ cls := "DuneMaps", name := "digest", desc := "()J" } : MethodName)) ∈ cG := inG (i := 589) (by decide +kernel) rfl
theorem w_590 : (Cond.instanceMethod ({ cls := "DuneMaps", name := "digest", desc := "()J" } : MethodName)) ∈ cG := inG (i := 590) (by decide +kernel) rfl
theorem w_591 : (Cond.selects "DuneMaps" ({ cls := "DuneMaps", name := "digest", desc := "()J" } : MethodName) ({ cls := "DuneMaps", name := "digest", desc := "()J" } : MethodName)) ∈ cG := inG (i := 591) (by decide +kernel) rfl
theorem w_592 : (Cond.code ({ cls := "DuneMaps", name := "digest", desc := "()J" } : MethodName) prog_1_method_23_code (5 : Nat) (Option.some FieldType.long)) ∈ cG := inG (i := 592) (by decide +kernel) rfl
theorem w_593 : (Cond.constantLong "DuneMaps" (244 : Nat) (881 : Int64)) ∈ cG := inG (i := 593) (by decide +kernel) rfl
theorem w_594 : (Cond.methodLink "DuneMaps" (246 : Nat) ({ cls := "DuneMaps", name := "withCells", desc := "(J)J" } : MethodName)) ∈ cG := inG (i := 594) (by decide +kernel) rfl
theorem w_595 : (Cond.privateMethod ({ cls := "DuneMaps", name := "withCells", desc := "(J)J" } : MethodName)) ∈ lw_tbl := inT (i := 595) (by decide +kernel)
theorem w_596 : (Cond.instanceMethod ({ cls := "DuneMaps", name := "withCells", desc := "(J)J" } : MethodName)) ∈ cG := inG (i := 596) (by decide +kernel) rfl
theorem w_597 : (Cond.code ({ cls := "DuneMaps", name := "withCells", desc := "(J)J" } : MethodName) prog_1_method_24_code (5 : Nat) (Option.some FieldType.long)) ∈ cG := inG (i := 597) (by decide +kernel) rfl
theorem w_598 : (Cond.methodLink "DuneMaps" (266 : Nat) ({ cls := "DuneMaps", name := "cell", desc := "(II)I" } : MethodName)) ∈ cG := inG (i := 598) (by decide +kernel) rfl
theorem w_599 : (Cond.methodLink "DuneMaps" (256 : Nat) ({ cls := "DuneMaps", name := "with", desc := "(JI)J" } : MethodName)) ∈ cG := inG (i := 599) (by decide +kernel) rfl
theorem w_600 : (Cond.static ({ cls := "DuneMaps", name := "with", desc := "(JI)J" } : MethodName)) ∈ cG := inG (i := 600) (by decide +kernel) rfl
theorem w_601 : (Cond.code ({ cls := "DuneMaps", name := "with", desc := "(JI)J" } : MethodName) prog_1_method_26_code (3 : Nat) (Option.some FieldType.long)) ∈ cG := inG (i := 601) (by decide +kernel) rfl
theorem w_602 : (Cond.constantLong "DuneMaps" (269 : Nat) (31 : Int64)) ∈ cG := inG (i := 602) (by decide +kernel) rfl
theorem w_603 : (Cond.methodLink "DuneMaps" (250 : Nat) ({ cls := "DuneMaps", name := "withOrder", desc := "(J)J" } : MethodName)) ∈ cG := inG (i := 603) (by decide +kernel) rfl
theorem w_604 : (Cond.privateMethod ({ cls := "DuneMaps", name := "withOrder", desc := "(J)J" } : MethodName)) ∈ lw_tbl := inT (i := 604) (by decide +kernel)
theorem w_605 : (Cond.instanceMethod ({ cls := "DuneMaps", name := "withOrder", desc := "(J)J" } : MethodName)) ∈ cG := inG (i := 605) (by decide +kernel) rfl
theorem w_606 : (Cond.code ({ cls := "DuneMaps", name := "withOrder", desc := "(J)J" } : MethodName) prog_1_method_25_code (4 : Nat) (Option.some FieldType.long)) ∈ cG := inG (i := 606) (by decide +kernel) rfl
theorem w_607 : (Cond.methodLink "DuneMaps" (253 : Nat) ({ cls := "DuneMaps", name := "about", desc := "(II)I" } : MethodName)) ∈ cG := inG (i := 607) (by decide +kernel) rfl
theorem w_608 : (Cond.methodLink "DuneMaps" (260 : Nat) ({ cls := "DuneMaps$Page", name := "codeAt", desc := "(I)I" } : MethodName)) ∈ cG := inG (i := 608) (by decide +kernel) rfl
theorem w_609 : (Cond.methodLink "DuneMaps" (263 : Nat) ({ cls := "DuneMaps", name := "count", desc := "(I)I" } : MethodName)) ∈ cG := inG (i := 609) (by decide +kernel) rfl
theorem w_610 : (Cond.classLink "DuneMapsLaw" (10 : Nat) "DuneMapsModel") ∈ cG := inG (i := 610) (by decide +kernel) rfl
theorem w_611 : (Cond.instantiable "DuneMapsModel" (26 : Nat)) ∈ cG := inG (i := 611) (by decide +kernel) rfl
theorem w_612 : (Cond.methodLink "DuneMapsLaw" (12 : Nat) ({ cls := "DuneMapsModel", name := "<init>", desc := "()V" } : MethodName)) ∈ cG := inG (i := 612) (by decide +kernel) rfl
theorem w_613 : (Cond.instanceMethod ({ cls := "DuneMapsModel", name := "<init>", desc := "()V" } : MethodName)) ∈ cG := inG (i := 613) (by decide +kernel) rfl
theorem w_614 : (Cond.code ({ cls := "DuneMapsModel", name := "<init>", desc := "()V" } : MethodName) prog_10_method_1_code (1 : Nat) (Option.none : Option FieldType)) ∈ cG := inG (i := 614) (by decide +kernel) rfl
theorem w_615 : (Cond.methodLink "DuneMapsModel" (1 : Nat) ({ cls := "java/lang/Object", name := "<init>", desc := "()V" } : MethodName)) ∈ cG := inG (i := 615) (by decide +kernel) rfl
theorem w_616 : (Cond.fieldLink "DuneMapsModel" (7 : Nat) "DuneMapsModel" "page" "[I") ∈ cG := inG (i := 616) (by decide +kernel) rfl
theorem w_617 : (Cond.fieldLink "DuneMapsModel" (56 : Nat) "DuneMapsModel" "pageMany" "I") ∈ cG := inG (i := 617) (by decide +kernel) rfl
theorem w_618 : (Cond.fieldLink "DuneMapsModel" (70 : Nat) "DuneMapsModel" "isThere" "Z") ∈ cG := inG (i := 618) (by decide +kernel) rfl
theorem w_619 : (Cond.fieldLink "DuneMapsModel" (67 : Nat) "DuneMapsModel" "windOn" "I") ∈ cG := inG (i := 619) (by decide +kernel) rfl
theorem w_620 : (Cond.fieldLink "DuneMapsModel" (74 : Nat) "DuneMapsModel" "nightsNow" "I") ∈ cG := inG (i := 620) (by decide +kernel) rfl
theorem w_621 : (Cond.fieldLink "DuneMapsModel" (83 : Nat) "DuneMapsModel" "dunesRead" "I") ∈ cG := inG (i := 621) (by decide +kernel) rfl
theorem w_622 : (Cond.fieldLink "DuneMapsModel" (13 : Nat) "DuneMapsModel" "heights" "[I") ∈ cG := inG (i := 622) (by decide +kernel) rfl
theorem w_623 : (Cond.fieldLink "DuneMapsModel" (80 : Nat) "DuneMapsModel" "isTold" "Z") ∈ cG := inG (i := 623) (by decide +kernel) rfl
theorem w_624 : (Cond.fieldLink "DuneMapsModel" (16 : Nat) "DuneMapsModel" "were" "[I") ∈ cG := inG (i := 624) (by decide +kernel) rfl
theorem w_625 : (Cond.fieldLink "DuneMapsModel" (77 : Nat) "DuneMapsModel" "walkers" "I") ∈ cG := inG (i := 625) (by decide +kernel) rfl
theorem w_626 : (Cond.fieldLink "DuneMapsModel" (19 : Nat) "DuneMapsModel" "rows" "[I") ∈ cG := inG (i := 626) (by decide +kernel) rfl
theorem w_627 : (Cond.fieldLink "DuneMapsModel" (22 : Nat) "DuneMapsModel" "maps" "[I") ∈ cG := inG (i := 627) (by decide +kernel) rfl
theorem w_628 : (Cond.fieldLink "DuneMapsModel" (25 : Nat) "DuneMapsModel" "then" "[I") ∈ cG := inG (i := 628) (by decide +kernel) rfl
theorem w_629 : (Cond.fieldLink "DuneMapsModel" (28 : Nat) "DuneMapsModel" "who" "[I") ∈ cG := inG (i := 629) (by decide +kernel) rfl
theorem w_630 : (Cond.fieldLink "DuneMapsModel" (152 : Nat) "DuneMapsModel" "whoMany" "I") ∈ cG := inG (i := 630) (by decide +kernel) rfl
theorem w_631 : (Cond.fieldLink "DuneMapsModel" (31 : Nat) "DuneMapsModel" "order" "[I") ∈ cG := inG (i := 631) (by decide +kernel) rfl
theorem w_632 : (Cond.fieldLink "DuneMapsModel" (34 : Nat) "DuneMapsModel" "bestOrder" "[I") ∈ cG := inG (i := 632) (by decide +kernel) rfl
theorem w_633 : (Cond.fieldLink "DuneMapsModel" (198 : Nat) "DuneMapsModel" "seedNow" "I") ∈ cG := inG (i := 633) (by decide +kernel) rfl
theorem w_634 : (Cond.fieldLink "DuneMapsModel" (46 : Nat) "DuneMapsModel" "keptDunes" "I") ∈ cG := inG (i := 634) (by decide +kernel) rfl
theorem w_635 : (Cond.fieldLink "DuneMapsModel" (213 : Nat) "DuneMapsModel" "keptWind" "I") ∈ cG := inG (i := 635) (by decide +kernel) rfl
theorem w_636 : (Cond.fieldLink "DuneMapsModel" (216 : Nat) "DuneMapsModel" "keptNights" "I") ∈ cG := inG (i := 636) (by decide +kernel) rfl
theorem w_637 : (Cond.fieldLink "DuneMapsModel" (219 : Nat) "DuneMapsModel" "keptWalkers" "I") ∈ cG := inG (i := 637) (by decide +kernel) rfl
theorem w_638 : (Cond.fieldLink "DuneMapsModel" (37 : Nat) "DuneMapsModel" "keptHeights" "[I") ∈ cG := inG (i := 638) (by decide +kernel) rfl
theorem w_639 : (Cond.fieldLink "DuneMapsModel" (40 : Nat) "DuneMapsModel" "keptRows" "[I") ∈ cG := inG (i := 639) (by decide +kernel) rfl
theorem w_640 : (Cond.fieldLink "DuneMapsModel" (43 : Nat) "DuneMapsModel" "keptMaps" "[I") ∈ cG := inG (i := 640) (by decide +kernel) rfl
theorem w_641 : (Cond.fieldLink "DuneMapsModel" (230 : Nat) "DuneMapsModel" "hash" "J") ∈ cG := inG (i := 641) (by decide +kernel) rfl
theorem w_642 : (Cond.laysFinal "DuneMapsModel" "DuneMapsModel" "page" "[I") ∈ cG := inG (i := 642) (by decide +kernel) rfl
theorem w_643 : (Cond.soleField "DuneMapsModel" "page") ∈ lw_tbl := inT (i := 643) (by decide +kernel)
theorem w_644 : (Cond.lays "DuneMapsModel" "DuneMapsModel" "pageMany" "I") ∈ cG := inG (i := 644) (by decide +kernel) rfl
theorem w_645 : (Cond.soleField "DuneMapsModel" "pageMany") ∈ lw_tbl := inT (i := 645) (by decide +kernel)
theorem w_646 : (Cond.lays "DuneMapsModel" "DuneMapsModel" "isThere" "Z") ∈ cG := inG (i := 646) (by decide +kernel) rfl
theorem w_647 : (Cond.soleField "DuneMapsModel" "isThere") ∈ lw_tbl := inT (i := 647) (by decide +kernel)
theorem w_648 : (Cond.lays "DuneMapsModel" "DuneMapsModel" "windOn" "I") ∈ cG := inG (i := 648) (by decide +kernel) rfl
theorem w_649 : (Cond.soleField "DuneMapsModel" "windOn") ∈ lw_tbl := inT (i := 649) (by decide +kernel)
theorem w_650 : (Cond.lays "DuneMapsModel" "DuneMapsModel" "nightsNow" "I") ∈ cG := inG (i := 650) (by decide +kernel) rfl
theorem w_651 : (Cond.soleField "DuneMapsModel" "nightsNow") ∈ lw_tbl := inT (i := 651) (by decide +kernel)
theorem w_652 : (Cond.lays "DuneMapsModel" "DuneMapsModel" "dunesRead" "I") ∈ cG := inG (i := 652) (by decide +kernel) rfl
theorem w_653 : (Cond.soleField "DuneMapsModel" "dunesRead") ∈ lw_tbl := inT (i := 653) (by decide +kernel)
theorem w_654 : (Cond.laysFinal "DuneMapsModel" "DuneMapsModel" "heights" "[I") ∈ cG := inG (i := 654) (by decide +kernel) rfl
theorem w_655 : (Cond.soleField "DuneMapsModel" "heights") ∈ lw_tbl := inT (i := 655) (by decide +kernel)
theorem w_656 : (Cond.lays "DuneMapsModel" "DuneMapsModel" "isTold" "Z") ∈ cG := inG (i := 656) (by decide +kernel) rfl
theorem w_657 : (Cond.soleField "DuneMapsModel" "isTold") ∈ lw_tbl := inT (i := 657) (by decide +kernel)
theorem w_658 : (Cond.laysFinal "DuneMapsModel" "DuneMapsModel" "were" "[I") ∈ cG := inG (i := 658) (by decide +kernel) rfl
theorem w_659 : (Cond.soleField "DuneMapsModel" "were") ∈ lw_tbl := inT (i := 659) (by decide +kernel)
theorem w_660 : (Cond.lays "DuneMapsModel" "DuneMapsModel" "walkers" "I") ∈ cG := inG (i := 660) (by decide +kernel) rfl
theorem w_661 : (Cond.soleField "DuneMapsModel" "walkers") ∈ lw_tbl := inT (i := 661) (by decide +kernel)
theorem w_662 : (Cond.laysFinal "DuneMapsModel" "DuneMapsModel" "rows" "[I") ∈ cG := inG (i := 662) (by decide +kernel) rfl
theorem w_663 : (Cond.soleField "DuneMapsModel" "rows") ∈ lw_tbl := inT (i := 663) (by decide +kernel)
theorem w_664 : (Cond.laysFinal "DuneMapsModel" "DuneMapsModel" "maps" "[I") ∈ cG := inG (i := 664) (by decide +kernel) rfl
theorem w_665 : (Cond.soleField "DuneMapsModel" "maps") ∈ lw_tbl := inT (i := 665) (by decide +kernel)
theorem w_666 : (Cond.laysFinal "DuneMapsModel" "DuneMapsModel" "then" "[I") ∈ cG := inG (i := 666) (by decide +kernel) rfl
theorem w_667 : (Cond.soleField "DuneMapsModel" "then") ∈ lw_tbl := inT (i := 667) (by decide +kernel)
theorem w_668 : (Cond.laysFinal "DuneMapsModel" "DuneMapsModel" "who" "[I") ∈ cG := inG (i := 668) (by decide +kernel) rfl
theorem w_669 : (Cond.soleField "DuneMapsModel" "who") ∈ lw_tbl := inT (i := 669) (by decide +kernel)
theorem w_670 : (Cond.lays "DuneMapsModel" "DuneMapsModel" "whoMany" "I") ∈ cG := inG (i := 670) (by decide +kernel) rfl
theorem w_671 : (Cond.soleField "DuneMapsModel" "whoMany") ∈ lw_tbl := inT (i := 671) (by decide +kernel)
theorem w_672 : (Cond.laysFinal "DuneMapsModel" "DuneMapsModel" "order" "[I") ∈ cG := inG (i := 672) (by decide +kernel) rfl
theorem w_673 : (Cond.soleField "DuneMapsModel" "order") ∈ lw_tbl := inT (i := 673) (by decide +kernel)
theorem w_674 : (Cond.laysFinal "DuneMapsModel" "DuneMapsModel" "bestOrder" "[I") ∈ cG := inG (i := 674) (by decide +kernel) rfl
theorem w_675 : (Cond.soleField "DuneMapsModel" "bestOrder") ∈ lw_tbl := inT (i := 675) (by decide +kernel)
theorem w_676 : (Cond.lays "DuneMapsModel" "DuneMapsModel" "seedNow" "I") ∈ cG := inG (i := 676) (by decide +kernel) rfl
theorem w_677 : (Cond.soleField "DuneMapsModel" "seedNow") ∈ lw_tbl := inT (i := 677) (by decide +kernel)
theorem w_678 : (Cond.lays "DuneMapsModel" "DuneMapsModel" "keptDunes" "I") ∈ cG := inG (i := 678) (by decide +kernel) rfl
theorem w_679 : (Cond.soleField "DuneMapsModel" "keptDunes") ∈ lw_tbl := inT (i := 679) (by decide +kernel)
theorem w_680 : (Cond.lays "DuneMapsModel" "DuneMapsModel" "keptWind" "I") ∈ cG := inG (i := 680) (by decide +kernel) rfl
theorem w_681 : (Cond.soleField "DuneMapsModel" "keptWind") ∈ lw_tbl := inT (i := 681) (by decide +kernel)
theorem w_682 : (Cond.lays "DuneMapsModel" "DuneMapsModel" "keptNights" "I") ∈ cG := inG (i := 682) (by decide +kernel) rfl
theorem w_683 : (Cond.soleField "DuneMapsModel" "keptNights") ∈ lw_tbl := inT (i := 683) (by decide +kernel)
theorem w_684 : (Cond.lays "DuneMapsModel" "DuneMapsModel" "keptWalkers" "I") ∈ cG := inG (i := 684) (by decide +kernel) rfl
theorem w_685 : (Cond.soleField "DuneMapsModel" "keptWalkers") ∈ lw_tbl := inT (i := 685) (by decide +kernel)
theorem w_686 : (Cond.laysFinal "DuneMapsModel" "DuneMapsModel" "keptHeights" "[I") ∈ cG := inG (i := 686) (by decide +kernel) rfl
theorem w_687 : (Cond.soleField "DuneMapsModel" "keptHeights") ∈ lw_tbl := inT (i := 687) (by decide +kernel)
theorem w_688 : (Cond.laysFinal "DuneMapsModel" "DuneMapsModel" "keptRows" "[I") ∈ cG := inG (i := 688) (by decide +kernel) rfl
theorem w_689 : (Cond.soleField "DuneMapsModel" "keptRows") ∈ lw_tbl := inT (i := 689) (by decide +kernel)
theorem w_690 : (Cond.laysFinal "DuneMapsModel" "DuneMapsModel" "keptMaps" "[I") ∈ cG := inG (i := 690) (by decide +kernel) rfl
theorem w_691 : (Cond.soleField "DuneMapsModel" "keptMaps") ∈ lw_tbl := inT (i := 691) (by decide +kernel)
theorem w_692 : (Cond.lays "DuneMapsModel" "DuneMapsModel" "hash" "J") ∈ cG := inG (i := 692) (by decide +kernel) rfl
theorem w_693 : (Cond.soleField "DuneMapsModel" "hash") ∈ lw_tbl := inT (i := 693) (by decide +kernel)
theorem w_694 : (Cond.superclass "DuneMapsModel" "java/lang/Object") ∈ lw_tbl := inT (i := 694) (by decide +kernel)
theorem w_695 : (Cond.methodLink "DuneMapsLaw" (17 : Nat) ({ cls := "DuneMapsModel", name := "letter", desc := "(I)I" } : MethodName)) ∈ cG := inG (i := 695) (by decide +kernel) rfl
theorem w_696 : (Cond.instanceMethod ({ cls := "DuneMapsModel", name := "letter", desc := "(I)I" } : MethodName)) ∈ cG := inG (i := 696) (by decide +kernel) rfl
theorem w_697 : (Cond.selects "DuneMapsModel" ({ cls := "DuneMapsModel", name := "letter", desc := "(I)I" } : MethodName) ({ cls := "DuneMapsModel", name := "letter", desc := "(I)I" } : MethodName)) ∈ cG := inG (i := 697) (by decide +kernel) rfl
theorem w_698 : (Cond.code ({ cls := "DuneMapsModel", name := "letter", desc := "(I)I" } : MethodName) prog_10_method_4_code (2 : Nat) (Option.some FieldType.int)) ∈ cG := inG (i := 698) (by decide +kernel) rfl
theorem w_699 : (Cond.constantLong "DuneMapsModel" (50 : Nat) (126 : Int64)) ∈ cG := inG (i := 699) (by decide +kernel) rfl
theorem w_700 : (Cond.methodLink "DuneMapsModel" (52 : Nat) ({ cls := "DuneMapsModel", name := "in", desc := "(JJJ)Z" } : MethodName)) ∈ cG := inG (i := 700) (by decide +kernel) rfl
theorem w_701 : (Cond.static ({ cls := "DuneMapsModel", name := "in", desc := "(JJJ)Z" } : MethodName)) ∈ cG := inG (i := 701) (by decide +kernel) rfl
theorem w_702 : (Cond.code ({ cls := "DuneMapsModel", name := "in", desc := "(JJJ)Z" } : MethodName) prog_10_method_2_code (6 : Nat) (Option.some FieldType.boolean)) ∈ cG := inG (i := 702) (by decide +kernel) rfl
theorem w_703 : (Cond.methodLink "DuneMapsLaw" (22 : Nat) ({ cls := "DuneMapsModel", name := "blank", desc := "()I" } : MethodName)) ∈ cG := inG (i := 703) (by decide +kernel) rfl
theorem w_704 : (Cond.instanceMethod ({ cls := "DuneMapsModel", name := "blank", desc := "()I" } : MethodName)) ∈ cG := inG (i := 704) (by decide +kernel) rfl
theorem w_705 : (Cond.selects "DuneMapsModel" ({ cls := "DuneMapsModel", name := "blank", desc := "()I" } : MethodName) ({ cls := "DuneMapsModel", name := "blank", desc := "()I" } : MethodName)) ∈ cG := inG (i := 705) (by decide +kernel) rfl
theorem w_706 : (Cond.code ({ cls := "DuneMapsModel", name := "blank", desc := "()I" } : MethodName) prog_10_method_5_code (2 : Nat) (Option.some FieldType.int)) ∈ cG := inG (i := 706) (by decide +kernel) rfl
theorem w_707 : (Cond.methodLink "DuneMapsLaw" (26 : Nat) ({ cls := "DuneMapsModel", name := "fault", desc := "(I)I" } : MethodName)) ∈ cG := inG (i := 707) (by decide +kernel) rfl
theorem w_708 : (Cond.instanceMethod ({ cls := "DuneMapsModel", name := "fault", desc := "(I)I" } : MethodName)) ∈ cG := inG (i := 708) (by decide +kernel) rfl
theorem w_709 : (Cond.selects "DuneMapsModel" ({ cls := "DuneMapsModel", name := "fault", desc := "(I)I" } : MethodName) ({ cls := "DuneMapsModel", name := "fault", desc := "(I)I" } : MethodName)) ∈ cG := inG (i := 709) (by decide +kernel) rfl
theorem w_710 : (Cond.code ({ cls := "DuneMapsModel", name := "fault", desc := "(I)I" } : MethodName) prog_10_method_7_code (2 : Nat) (Option.some FieldType.int)) ∈ cG := inG (i := 710) (by decide +kernel) rfl
theorem w_711 : (Cond.methodLink "DuneMapsModel" (63 : Nat) ({ cls := "DuneMapsModel", name := "faultOf", desc := "(I)I" } : MethodName)) ∈ cG := inG (i := 711) (by decide +kernel) rfl
theorem w_712 : (Cond.privateMethod ({ cls := "DuneMapsModel", name := "faultOf", desc := "(I)I" } : MethodName)) ∈ lw_tbl := inT (i := 712) (by decide +kernel)
theorem w_713 : (Cond.instanceMethod ({ cls := "DuneMapsModel", name := "faultOf", desc := "(I)I" } : MethodName)) ∈ cG := inG (i := 713) (by decide +kernel) rfl
theorem w_714 : (Cond.code ({ cls := "DuneMapsModel", name := "faultOf", desc := "(I)I" } : MethodName) prog_10_method_6_code (4 : Nat) (Option.some FieldType.int)) ∈ cG := inG (i := 714) (by decide +kernel) rfl
theorem w_715 : (Cond.constantLong "DuneMapsModel" (59 : Nat) (48 : Int64)) ∈ cG := inG (i := 715) (by decide +kernel) rfl
theorem w_716 : (Cond.constantLong "DuneMapsModel" (61 : Nat) (57 : Int64)) ∈ cG := inG (i := 716) (by decide +kernel) rfl
theorem w_717 : (Cond.methodLink "DuneMapsLaw" (30 : Nat) ({ cls := "DuneMapsModel", name := "dunes", desc := "()I" } : MethodName)) ∈ cG := inG (i := 717) (by decide +kernel) rfl
theorem w_718 : (Cond.instanceMethod ({ cls := "DuneMapsModel", name := "dunes", desc := "()I" } : MethodName)) ∈ cG := inG (i := 718) (by decide +kernel) rfl
theorem w_719 : (Cond.selects "DuneMapsModel" ({ cls := "DuneMapsModel", name := "dunes", desc := "()I" } : MethodName) ({ cls := "DuneMapsModel", name := "dunes", desc := "()I" } : MethodName)) ∈ cG := inG (i := 719) (by decide +kernel) rfl
theorem w_720 : (Cond.code ({ cls := "DuneMapsModel", name := "dunes", desc := "()I" } : MethodName) prog_10_method_9_code (2 : Nat) (Option.some FieldType.int)) ∈ cG := inG (i := 720) (by decide +kernel) rfl
theorem w_721 : (Cond.methodLink "DuneMapsModel" (86 : Nat) ({ cls := "DuneMapsModel", name := "sumOf", desc := "([I)I" } : MethodName)) ∈ cG := inG (i := 721) (by decide +kernel) rfl
theorem w_722 : (Cond.static ({ cls := "DuneMapsModel", name := "sumOf", desc := "([I)I" } : MethodName)) ∈ cG := inG (i := 722) (by decide +kernel) rfl
theorem w_723 : (Cond.code ({ cls := "DuneMapsModel", name := "sumOf", desc := "([I)I" } : MethodName) prog_10_method_8_code (3 : Nat) (Option.some FieldType.int)) ∈ cG := inG (i := 723) (by decide +kernel) rfl
theorem w_724 : (Cond.methodLink "DuneMapsLaw" (35 : Nat) ({ cls := "DuneMapsModel", name := "cell", desc := "(II)I" } : MethodName)) ∈ cG := inG (i := 724) (by decide +kernel) rfl
theorem w_725 : (Cond.instanceMethod ({ cls := "DuneMapsModel", name := "cell", desc := "(II)I" } : MethodName)) ∈ cG := inG (i := 725) (by decide +kernel) rfl
theorem w_726 : (Cond.selects "DuneMapsModel" ({ cls := "DuneMapsModel", name := "cell", desc := "(II)I" } : MethodName) ({ cls := "DuneMapsModel", name := "cell", desc := "(II)I" } : MethodName)) ∈ cG := inG (i := 726) (by decide +kernel) rfl
theorem w_727 : (Cond.code ({ cls := "DuneMapsModel", name := "cell", desc := "(II)I" } : MethodName) prog_10_method_16_code (3 : Nat) (Option.some FieldType.int)) ∈ cG := inG (i := 727) (by decide +kernel) rfl
theorem w_728 : (Cond.methodLink "DuneMapsModel" (99 : Nat) ({ cls := "DuneMapsModel", name := "isCell", desc := "(I)Z" } : MethodName)) ∈ cG := inG (i := 728) (by decide +kernel) rfl
theorem w_729 : (Cond.privateMethod ({ cls := "DuneMapsModel", name := "isCell", desc := "(I)Z" } : MethodName)) ∈ lw_tbl := inT (i := 729) (by decide +kernel)
theorem w_730 : (Cond.instanceMethod ({ cls := "DuneMapsModel", name := "isCell", desc := "(I)Z" } : MethodName)) ∈ cG := inG (i := 730) (by decide +kernel) rfl
theorem w_731 : (Cond.code ({ cls := "DuneMapsModel", name := "isCell", desc := "(I)Z" } : MethodName) prog_10_method_10_code (2 : Nat) (Option.some FieldType.boolean)) ∈ cG := inG (i := 731) (by decide +kernel) rfl
theorem w_732 : (Cond.constantLong "DuneMapsModel" (90 : Nat) (7 : Int64)) ∈ cG := inG (i := 732) (by decide +kernel) rfl
theorem w_733 : (Cond.methodLink "DuneMapsModel" (103 : Nat) ({ cls := "DuneMapsModel", name := "tellCell", desc := "(II)I" } : MethodName)) ∈ cG := inG (i := 733) (by decide +kernel) rfl
theorem w_734 : (Cond.privateMethod ({ cls := "DuneMapsModel", name := "tellCell", desc := "(II)I" } : MethodName)) ∈ lw_tbl := inT (i := 734) (by decide +kernel)
theorem w_735 : (Cond.instanceMethod ({ cls := "DuneMapsModel", name := "tellCell", desc := "(II)I" } : MethodName)) ∈ cG := inG (i := 735) (by decide +kernel) rfl
theorem w_736 : (Cond.code ({ cls := "DuneMapsModel", name := "tellCell", desc := "(II)I" } : MethodName) prog_10_method_15_code (3 : Nat) (Option.some FieldType.int)) ∈ cG := inG (i := 736) (by decide +kernel) rfl
theorem w_737 : (Cond.methodLink "DuneMapsModel" (92 : Nat) ({ cls := "DuneMapsModel", name := "shapeOf", desc := "([II)I" } : MethodName)) ∈ cG := inG (i := 737) (by decide +kernel) rfl
theorem w_738 : (Cond.static ({ cls := "DuneMapsModel", name := "shapeOf", desc := "([II)I" } : MethodName)) ∈ cG := inG (i := 738) (by decide +kernel) rfl
theorem w_739 : (Cond.code ({ cls := "DuneMapsModel", name := "shapeOf", desc := "([II)I" } : MethodName) prog_10_method_11_code (4 : Nat) (Option.some FieldType.int)) ∈ cG := inG (i := 739) (by decide +kernel) rfl
theorem w_740 : (Cond.methodLink "DuneMapsModel" (96 : Nat) ({ cls := "DuneMapsModel", name := "walkersAt", desc := "(I)I" } : MethodName)) ∈ cG := inG (i := 740) (by decide +kernel) rfl
theorem w_741 : (Cond.privateMethod ({ cls := "DuneMapsModel", name := "walkersAt", desc := "(I)I" } : MethodName)) ∈ lw_tbl := inT (i := 741) (by decide +kernel)
theorem w_742 : (Cond.instanceMethod ({ cls := "DuneMapsModel", name := "walkersAt", desc := "(I)I" } : MethodName)) ∈ cG := inG (i := 742) (by decide +kernel) rfl
theorem w_743 : (Cond.code ({ cls := "DuneMapsModel", name := "walkersAt", desc := "(I)I" } : MethodName) prog_10_method_14_code (4 : Nat) (Option.some FieldType.int)) ∈ cG := inG (i := 743) (by decide +kernel) rfl
theorem w_744 : (Cond.methodLink "DuneMapsLaw" (40 : Nat) ({ cls := "DuneMapsModel", name := "wind", desc := "(Z)I" } : MethodName)) ∈ cG := inG (i := 744) (by decide +kernel) rfl
theorem w_745 : (Cond.instanceMethod ({ cls := "DuneMapsModel", name := "wind", desc := "(Z)I" } : MethodName)) ∈ cG := inG (i := 745) (by decide +kernel) rfl
theorem w_746 : (Cond.selects "DuneMapsModel" ({ cls := "DuneMapsModel", name := "wind", desc := "(Z)I" } : MethodName) ({ cls := "DuneMapsModel", name := "wind", desc := "(Z)I" } : MethodName)) ∈ cG := inG (i := 746) (by decide +kernel) rfl
theorem w_747 : (Cond.code ({ cls := "DuneMapsModel", name := "wind", desc := "(Z)I" } : MethodName) prog_10_method_17_code (3 : Nat) (Option.some FieldType.int)) ∈ cG := inG (i := 747) (by decide +kernel) rfl
theorem w_748 : (Cond.methodLink "DuneMapsLaw" (44 : Nat) ({ cls := "DuneMapsModel", name := "night", desc := "()I" } : MethodName)) ∈ cG := inG (i := 748) (by decide +kernel) rfl
theorem w_749 : (Cond.instanceMethod ({ cls := "DuneMapsModel", name := "night", desc := "()I" } : MethodName)) ∈ cG := inG (i := 749) (by decide +kernel) rfl
theorem w_750 : (Cond.selects "DuneMapsModel" ({ cls := "DuneMapsModel", name := "night", desc := "()I" } : MethodName) ({ cls := "DuneMapsModel", name := "night", desc := "()I" } : MethodName)) ∈ cG := inG (i := 750) (by decide +kernel) rfl
theorem w_751 : (Cond.code ({ cls := "DuneMapsModel", name := "night", desc := "()I" } : MethodName) prog_10_method_21_code (1 : Nat) (Option.some FieldType.int)) ∈ cG := inG (i := 751) (by decide +kernel) rfl
theorem w_752 : (Cond.methodLink "DuneMapsModel" (116 : Nat) ({ cls := "DuneMapsModel", name := "nightOf", desc := "([I)I" } : MethodName)) ∈ cG := inG (i := 752) (by decide +kernel) rfl
theorem w_753 : (Cond.privateMethod ({ cls := "DuneMapsModel", name := "nightOf", desc := "([I)I" } : MethodName)) ∈ lw_tbl := inT (i := 753) (by decide +kernel)
theorem w_754 : (Cond.instanceMethod ({ cls := "DuneMapsModel", name := "nightOf", desc := "([I)I" } : MethodName)) ∈ cG := inG (i := 754) (by decide +kernel) rfl
theorem w_755 : (Cond.code ({ cls := "DuneMapsModel", name := "nightOf", desc := "([I)I" } : MethodName) prog_10_method_20_code (4 : Nat) (Option.some FieldType.int)) ∈ cG := inG (i := 755) (by decide +kernel) rfl
theorem w_756 : (Cond.methodLink "DuneMapsModel" (107 : Nat) ({ cls := "DuneMapsModel", name := "crests", desc := "([I)I" } : MethodName)) ∈ cG := inG (i := 756) (by decide +kernel) rfl
theorem w_757 : (Cond.privateMethod ({ cls := "DuneMapsModel", name := "crests", desc := "([I)I" } : MethodName)) ∈ lw_tbl := inT (i := 757) (by decide +kernel)
theorem w_758 : (Cond.instanceMethod ({ cls := "DuneMapsModel", name := "crests", desc := "([I)I" } : MethodName)) ∈ cG := inG (i := 758) (by decide +kernel) rfl
theorem w_759 : (Cond.code ({ cls := "DuneMapsModel", name := "crests", desc := "([I)I" } : MethodName) prog_10_method_18_code (4 : Nat) (Option.some FieldType.int)) ∈ cG := inG (i := 759) (by decide +kernel) rfl
theorem w_760 : (Cond.methodLink "DuneMapsModel" (110 : Nat) ({ cls := "DuneMapsModel", name := "leeOf", desc := "(I)I" } : MethodName)) ∈ cG := inG (i := 760) (by decide +kernel) rfl
theorem w_761 : (Cond.privateMethod ({ cls := "DuneMapsModel", name := "leeOf", desc := "(I)I" } : MethodName)) ∈ lw_tbl := inT (i := 761) (by decide +kernel)
theorem w_762 : (Cond.instanceMethod ({ cls := "DuneMapsModel", name := "leeOf", desc := "(I)I" } : MethodName)) ∈ cG := inG (i := 762) (by decide +kernel) rfl
theorem w_763 : (Cond.code ({ cls := "DuneMapsModel", name := "leeOf", desc := "(I)I" } : MethodName) prog_10_method_12_code (2 : Nat) (Option.some FieldType.int)) ∈ cG := inG (i := 763) (by decide +kernel) rfl
theorem w_764 : (Cond.methodLink "DuneMapsModel" (113 : Nat) ({ cls := "DuneMapsModel", name := "ones", desc := "(I)I" } : MethodName)) ∈ cG := inG (i := 764) (by decide +kernel) rfl
theorem w_765 : (Cond.static ({ cls := "DuneMapsModel", name := "ones", desc := "(I)I" } : MethodName)) ∈ cG := inG (i := 765) (by decide +kernel) rfl
theorem w_766 : (Cond.code ({ cls := "DuneMapsModel", name := "ones", desc := "(I)I" } : MethodName) prog_10_method_19_code (3 : Nat) (Option.some FieldType.int)) ∈ cG := inG (i := 766) (by decide +kernel) rfl
theorem w_767 : (Cond.methodLink "DuneMapsLaw" (48 : Nat) ({ cls := "DuneMapsModel", name := "walker", desc := "(II)I" } : MethodName)) ∈ cG := inG (i := 767) (by decide +kernel) rfl
theorem w_768 : (Cond.instanceMethod ({ cls := "DuneMapsModel", name := "walker", desc := "(II)I" } : MethodName)) ∈ cG := inG (i := 768) (by decide +kernel) rfl
theorem w_769 : (Cond.selects "DuneMapsModel" ({ cls := "DuneMapsModel", name := "walker", desc := "(II)I" } : MethodName) ({ cls := "DuneMapsModel", name := "walker", desc := "(II)I" } : MethodName)) ∈ cG := inG (i := 769) (by decide +kernel) rfl
theorem w_770 : (Cond.code ({ cls := "DuneMapsModel", name := "walker", desc := "(II)I" } : MethodName) prog_10_method_26_code (3 : Nat) (Option.some FieldType.int)) ∈ cG := inG (i := 770) (by decide +kernel) rfl
theorem w_771 : (Cond.constantLong "DuneMapsModel" (125 : Nat) (4 : Int64)) ∈ cG := inG (i := 771) (by decide +kernel) rfl
theorem w_772 : (Cond.methodLink "DuneMapsLaw" (52 : Nat) ({ cls := "DuneMapsModel", name := "about", desc := "(II)I" } : MethodName)) ∈ cG := inG (i := 772) (by decide +kernel) rfl
theorem w_773 : (Cond.instanceMethod ({ cls := "DuneMapsModel", name := "about", desc := "(II)I" } : MethodName)) ∈ cG := inG (i := 773) (by decide +kernel) rfl
theorem w_774 : (Cond.selects "DuneMapsModel" ({ cls := "DuneMapsModel", name := "about", desc := "(II)I" } : MethodName) ({ cls := "DuneMapsModel", name := "about", desc := "(II)I" } : MethodName)) ∈ cG := inG (i := 774) (by decide +kernel) rfl
theorem w_775 : (Cond.code ({ cls := "DuneMapsModel", name := "about", desc := "(II)I" } : MethodName) prog_10_method_30_code (3 : Nat) (Option.some FieldType.int)) ∈ cG := inG (i := 775) (by decide +kernel) rfl
theorem w_776 : (Cond.methodLink "DuneMapsModel" (137 : Nat) ({ cls := "DuneMapsModel", name := "isWalker", desc := "(I)Z" } : MethodName)) ∈ cG := inG (i := 776) (by decide +kernel) rfl
theorem w_777 : (Cond.privateMethod ({ cls := "DuneMapsModel", name := "isWalker", desc := "(I)Z" } : MethodName)) ∈ lw_tbl := inT (i := 777) (by decide +kernel)
theorem w_778 : (Cond.instanceMethod ({ cls := "DuneMapsModel", name := "isWalker", desc := "(I)Z" } : MethodName)) ∈ cG := inG (i := 778) (by decide +kernel) rfl
theorem w_779 : (Cond.code ({ cls := "DuneMapsModel", name := "isWalker", desc := "(I)Z" } : MethodName) prog_10_method_22_code (2 : Nat) (Option.some FieldType.boolean)) ∈ cG := inG (i := 779) (by decide +kernel) rfl
theorem w_780 : (Cond.methodLink "DuneMapsModel" (140 : Nat) ({ cls := "DuneMapsModel", name := "tell", desc := "(II)I" } : MethodName)) ∈ cG := inG (i := 780) (by decide +kernel) rfl
theorem w_781 : (Cond.privateMethod ({ cls := "DuneMapsModel", name := "tell", desc := "(II)I" } : MethodName)) ∈ lw_tbl := inT (i := 781) (by decide +kernel)
theorem w_782 : (Cond.instanceMethod ({ cls := "DuneMapsModel", name := "tell", desc := "(II)I" } : MethodName)) ∈ cG := inG (i := 782) (by decide +kernel) rfl
theorem w_783 : (Cond.code ({ cls := "DuneMapsModel", name := "tell", desc := "(II)I" } : MethodName) prog_10_method_29_code (3 : Nat) (Option.some FieldType.int)) ∈ cG := inG (i := 783) (by decide +kernel) rfl
theorem w_784 : (Cond.methodLink "DuneMapsModel" (122 : Nat) ({ cls := "DuneMapsModel", name := "weightOf", desc := "(I)I" } : MethodName)) ∈ cG := inG (i := 784) (by decide +kernel) rfl
theorem w_785 : (Cond.static ({ cls := "DuneMapsModel", name := "weightOf", desc := "(I)I" } : MethodName)) ∈ cG := inG (i := 785) (by decide +kernel) rfl
theorem w_786 : (Cond.code ({ cls := "DuneMapsModel", name := "weightOf", desc := "(I)I" } : MethodName) prog_10_method_23_code (1 : Nat) (Option.some FieldType.int)) ∈ cG := inG (i := 786) (by decide +kernel) rfl
theorem w_787 : (Cond.methodLink "DuneMapsModel" (127 : Nat) ({ cls := "DuneMapsModel", name := "hasMap", desc := "(I)Z" } : MethodName)) ∈ cG := inG (i := 787) (by decide +kernel) rfl
theorem w_788 : (Cond.privateMethod ({ cls := "DuneMapsModel", name := "hasMap", desc := "(I)Z" } : MethodName)) ∈ lw_tbl := inT (i := 788) (by decide +kernel)
theorem w_789 : (Cond.instanceMethod ({ cls := "DuneMapsModel", name := "hasMap", desc := "(I)Z" } : MethodName)) ∈ cG := inG (i := 789) (by decide +kernel) rfl
theorem w_790 : (Cond.code ({ cls := "DuneMapsModel", name := "hasMap", desc := "(I)Z" } : MethodName) prog_10_method_27_code (2 : Nat) (Option.some FieldType.boolean)) ∈ cG := inG (i := 790) (by decide +kernel) rfl
theorem w_791 : (Cond.methodLink "DuneMapsModel" (133 : Nat) ({ cls := "DuneMapsModel", name := "isGood", desc := "([II)Z" } : MethodName)) ∈ cG := inG (i := 791) (by decide +kernel) rfl
theorem w_792 : (Cond.privateMethod ({ cls := "DuneMapsModel", name := "isGood", desc := "([II)Z" } : MethodName)) ∈ lw_tbl := inT (i := 792) (by decide +kernel)
theorem w_793 : (Cond.instanceMethod ({ cls := "DuneMapsModel", name := "isGood", desc := "([II)Z" } : MethodName)) ∈ cG := inG (i := 793) (by decide +kernel) rfl
theorem w_794 : (Cond.code ({ cls := "DuneMapsModel", name := "isGood", desc := "([II)Z" } : MethodName) prog_10_method_28_code (6 : Nat) (Option.some FieldType.boolean)) ∈ cG := inG (i := 794) (by decide +kernel) rfl
theorem w_795 : (Cond.methodLink "DuneMapsModel" (130 : Nat) ({ cls := "DuneMapsModel", name := "stepTo", desc := "(II)I" } : MethodName)) ∈ cG := inG (i := 795) (by decide +kernel) rfl
theorem w_796 : (Cond.static ({ cls := "DuneMapsModel", name := "stepTo", desc := "(II)I" } : MethodName)) ∈ cG := inG (i := 796) (by decide +kernel) rfl
theorem w_797 : (Cond.code ({ cls := "DuneMapsModel", name := "stepTo", desc := "(II)I" } : MethodName) prog_10_method_25_code (2 : Nat) (Option.some FieldType.int)) ∈ cG := inG (i := 797) (by decide +kernel) rfl
theorem w_798 : (Cond.methodLink "DuneMapsLaw" (56 : Nat) ({ cls := "DuneMapsModel", name := "as", desc := "(II)I" } : MethodName)) ∈ cG := inG (i := 798) (by decide +kernel) rfl
theorem w_799 : (Cond.instanceMethod ({ cls := "DuneMapsModel", name := "as", desc := "(II)I" } : MethodName)) ∈ cG := inG (i := 799) (by decide +kernel) rfl
theorem w_800 : (Cond.selects "DuneMapsModel" ({ cls := "DuneMapsModel", name := "as", desc := "(II)I" } : MethodName) ({ cls := "DuneMapsModel", name := "as", desc := "(II)I" } : MethodName)) ∈ cG := inG (i := 800) (by decide +kernel) rfl
theorem w_801 : (Cond.code ({ cls := "DuneMapsModel", name := "as", desc := "(II)I" } : MethodName) prog_10_method_31_code (5 : Nat) (Option.some FieldType.int)) ∈ cG := inG (i := 801) (by decide +kernel) rfl
theorem w_802 : (Cond.methodLink "DuneMapsLaw" (60 : Nat) ({ cls := "DuneMapsModel", name := "step", desc := "(II)I" } : MethodName)) ∈ cG := inG (i := 802) (by decide +kernel) rfl
theorem w_803 : (Cond.instanceMethod ({ cls := "DuneMapsModel", name := "step", desc := "(II)I" } : MethodName)) ∈ cG := inG (i := 803) (by decide +kernel) rfl
theorem w_804 : (Cond.selects "DuneMapsModel" ({ cls := "DuneMapsModel", name := "step", desc := "(II)I" } : MethodName) ({ cls := "DuneMapsModel", name := "step", desc := "(II)I" } : MethodName)) ∈ cG := inG (i := 804) (by decide +kernel) rfl
theorem w_805 : (Cond.code ({ cls := "DuneMapsModel", name := "step", desc := "(II)I" } : MethodName) prog_10_method_33_code (3 : Nat) (Option.some FieldType.int)) ∈ cG := inG (i := 805) (by decide +kernel) rfl
theorem w_806 : (Cond.methodLink "DuneMapsModel" (147 : Nat) ({ cls := "DuneMapsModel", name := "steps", desc := "(II)I" } : MethodName)) ∈ cG := inG (i := 806) (by decide +kernel) rfl
theorem w_807 : (Cond.privateMethod ({ cls := "DuneMapsModel", name := "steps", desc := "(II)I" } : MethodName)) ∈ lw_tbl := inT (i := 807) (by decide +kernel)
theorem w_808 : (Cond.instanceMethod ({ cls := "DuneMapsModel", name := "steps", desc := "(II)I" } : MethodName)) ∈ cG := inG (i := 808) (by decide +kernel) rfl
theorem w_809 : (Cond.code ({ cls := "DuneMapsModel", name := "steps", desc := "(II)I" } : MethodName) prog_10_method_32_code (3 : Nat) (Option.some FieldType.int)) ∈ cG := inG (i := 809) (by decide +kernel) rfl
theorem w_810 : (Cond.methodLink "DuneMapsModel" (143 : Nat) ({ cls := "DuneMapsModel", name := "treads", desc := "([III)I" } : MethodName)) ∈ cG := inG (i := 810) (by decide +kernel) rfl
theorem w_811 : (Cond.privateMethod ({ cls := "DuneMapsModel", name := "treads", desc := "([III)I" } : MethodName)) ∈ lw_tbl := inT (i := 811) (by decide +kernel)
theorem w_812 : (Cond.instanceMethod ({ cls := "DuneMapsModel", name := "treads", desc := "([III)I" } : MethodName)) ∈ cG := inG (i := 812) (by decide +kernel) rfl
theorem w_813 : (Cond.code ({ cls := "DuneMapsModel", name := "treads", desc := "([III)I" } : MethodName) prog_10_method_24_code (11 : Nat) (Option.some FieldType.int)) ∈ cG := inG (i := 813) (by decide +kernel) rfl
theorem w_814 : (Cond.methodLink "DuneMapsModel" (119 : Nat) ({ cls := "DuneMapsModel", name := "luffOf", desc := "(I)I" } : MethodName)) ∈ cG := inG (i := 814) (by decide +kernel) rfl
theorem w_815 : (Cond.privateMethod ({ cls := "DuneMapsModel", name := "luffOf", desc := "(I)I" } : MethodName)) ∈ lw_tbl := inT (i := 815) (by decide +kernel)
theorem w_816 : (Cond.instanceMethod ({ cls := "DuneMapsModel", name := "luffOf", desc := "(I)I" } : MethodName)) ∈ cG := inG (i := 816) (by decide +kernel) rfl
theorem w_817 : (Cond.code ({ cls := "DuneMapsModel", name := "luffOf", desc := "(I)I" } : MethodName) prog_10_method_13_code (2 : Nat) (Option.some FieldType.int)) ∈ cG := inG (i := 817) (by decide +kernel) rfl
theorem w_818 : (Cond.methodLink "DuneMapsLaw" (65 : Nat) ({ cls := "DuneMapsModel", name := "map", desc := "(III)I" } : MethodName)) ∈ cG := inG (i := 818) (by decide +kernel) rfl
theorem w_819 : (Cond.instanceMethod ({ cls := "DuneMapsModel", name := "map", desc := "(III)I" } : MethodName)) ∈ cG := inG (i := 819) (by decide +kernel) rfl
theorem w_820 : (Cond.selects "DuneMapsModel" ({ cls := "DuneMapsModel", name := "map", desc := "(III)I" } : MethodName) ({ cls := "DuneMapsModel", name := "map", desc := "(III)I" } : MethodName)) ∈ cG := inG (i := 820) (by decide +kernel) rfl
theorem w_821 : (Cond.code ({ cls := "DuneMapsModel", name := "map", desc := "(III)I" } : MethodName) prog_10_method_34_code (7 : Nat) (Option.some FieldType.int)) ∈ cG := inG (i := 821) (by decide +kernel) rfl
theorem w_822 : (Cond.constantLong "DuneMapsModel" (150 : Nat) (8 : Int64)) ∈ cG := inG (i := 822) (by decide +kernel) rfl
theorem w_823 : (Cond.methodLink "DuneMapsLaw" (69 : Nat) ({ cls := "DuneMapsModel", name := "go", desc := "(I)I" } : MethodName)) ∈ cG := inG (i := 823) (by decide +kernel) rfl
theorem w_824 : (Cond.instanceMethod ({ cls := "DuneMapsModel", name := "go", desc := "(I)I" } : MethodName)) ∈ cG := inG (i := 824) (by decide +kernel) rfl
theorem w_825 : (Cond.selects "DuneMapsModel" ({ cls := "DuneMapsModel", name := "go", desc := "(I)I" } : MethodName) ({ cls := "DuneMapsModel", name := "go", desc := "(I)I" } : MethodName)) ∈ cG := inG (i := 825) (by decide +kernel) rfl
theorem w_826 : (Cond.code ({ cls := "DuneMapsModel", name := "go", desc := "(I)I" } : MethodName) prog_10_method_35_code (5 : Nat) (Option.some FieldType.int)) ∈ cG := inG (i := 826) (by decide +kernel) rfl
theorem w_827 : (Cond.methodLink "DuneMapsLaw" (73 : Nat) ({ cls := "DuneMapsModel", name := "order", desc := "(I)I" } : MethodName)) ∈ cG := inG (i := 827) (by decide +kernel) rfl
theorem w_828 : (Cond.instanceMethod ({ cls := "DuneMapsModel", name := "order", desc := "(I)I" } : MethodName)) ∈ cG := inG (i := 828) (by decide +kernel) rfl
theorem w_829 : (Cond.selects "DuneMapsModel" ({ cls := "DuneMapsModel", name := "order", desc := "(I)I" } : MethodName) ({ cls := "DuneMapsModel", name := "order", desc := "(I)I" } : MethodName)) ∈ cG := inG (i := 829) (by decide +kernel) rfl
theorem w_830 : (Cond.code ({ cls := "DuneMapsModel", name := "order", desc := "(I)I" } : MethodName) prog_10_method_41_code (2 : Nat) (Option.some FieldType.int)) ∈ cG := inG (i := 830) (by decide +kernel) rfl
theorem w_831 : (Cond.constantLong "DuneMapsModel" (173 : Nat) (10 : Int64)) ∈ cG := inG (i := 831) (by decide +kernel) rfl
theorem w_832 : (Cond.constantLong "DuneMapsModel" (175 : Nat) (13 : Int64)) ∈ cG := inG (i := 832) (by decide +kernel) rfl
theorem w_833 : (Cond.methodLink "DuneMapsModel" (177 : Nat) ({ cls := "DuneMapsModel", name := "tellOrder", desc := "(I)I" } : MethodName)) ∈ cG := inG (i := 833) (by decide +kernel) rfl
theorem w_834 : (Cond.privateMethod ({ cls := "DuneMapsModel", name := "tellOrder", desc := "(I)I" } : MethodName)) ∈ lw_tbl := inT (i := 834) (by decide +kernel)
theorem w_835 : (Cond.instanceMethod ({ cls := "DuneMapsModel", name := "tellOrder", desc := "(I)I" } : MethodName)) ∈ cG := inG (i := 835) (by decide +kernel) rfl
theorem w_836 : (Cond.code ({ cls := "DuneMapsModel", name := "tellOrder", desc := "(I)I" } : MethodName) prog_10_method_40_code (3 : Nat) (Option.some FieldType.int)) ∈ cG := inG (i := 836) (by decide +kernel) rfl
theorem w_837 : (Cond.methodLink "DuneMapsModel" (169 : Nat) ({ cls := "DuneMapsModel", name := "layOrder", desc := "()I" } : MethodName)) ∈ cG := inG (i := 837) (by decide +kernel) rfl
theorem w_838 : (Cond.privateMethod ({ cls := "DuneMapsModel", name := "layOrder", desc := "()I" } : MethodName)) ∈ lw_tbl := inT (i := 838) (by decide +kernel)
theorem w_839 : (Cond.instanceMethod ({ cls := "DuneMapsModel", name := "layOrder", desc := "()I" } : MethodName)) ∈ cG := inG (i := 839) (by decide +kernel) rfl
theorem w_840 : (Cond.code ({ cls := "DuneMapsModel", name := "layOrder", desc := "()I" } : MethodName) prog_10_method_39_code (6 : Nat) (Option.some FieldType.int)) ∈ cG := inG (i := 840) (by decide +kernel) rfl
theorem w_841 : (Cond.methodLink "DuneMapsModel" (155 : Nat) ({ cls := "DuneMapsModel", name := "layWho", desc := "()V" } : MethodName)) ∈ cG := inG (i := 841) (by decide +kernel) rfl
theorem w_842 : (Cond.privateMethod ({ cls := "DuneMapsModel", name := "layWho", desc := "()V" } : MethodName)) ∈ lw_tbl := inT (i := 842) (by decide +kernel)
theorem w_843 : (Cond.instanceMethod ({ cls := "DuneMapsModel", name := "layWho", desc := "()V" } : MethodName)) ∈ cG := inG (i := 843) (by decide +kernel) rfl
theorem w_844 : (Cond.code ({ cls := "DuneMapsModel", name := "layWho", desc := "()V" } : MethodName) prog_10_method_37_code (2 : Nat) (Option.none : Option FieldType)) ∈ cG := inG (i := 844) (by decide +kernel) rfl
theorem w_845 : (Cond.methodLink "DuneMapsModel" (158 : Nat) ({ cls := "DuneMapsModel", name := "isOrder", desc := "(I)Z" } : MethodName)) ∈ cG := inG (i := 845) (by decide +kernel) rfl
theorem w_846 : (Cond.privateMethod ({ cls := "DuneMapsModel", name := "isOrder", desc := "(I)Z" } : MethodName)) ∈ lw_tbl := inT (i := 846) (by decide +kernel)
theorem w_847 : (Cond.instanceMethod ({ cls := "DuneMapsModel", name := "isOrder", desc := "(I)Z" } : MethodName)) ∈ cG := inG (i := 847) (by decide +kernel) rfl
theorem w_848 : (Cond.code ({ cls := "DuneMapsModel", name := "isOrder", desc := "(I)Z" } : MethodName) prog_10_method_38_code (5 : Nat) (Option.some FieldType.boolean)) ∈ cG := inG (i := 848) (by decide +kernel) rfl
theorem w_849 : (Cond.methodLink "DuneMapsModel" (161 : Nat) ({ cls := "DuneMapsModel", name := "copy", desc := "([I[I)V" } : MethodName)) ∈ cG := inG (i := 849) (by decide +kernel) rfl
theorem w_850 : (Cond.static ({ cls := "DuneMapsModel", name := "copy", desc := "([I[I)V" } : MethodName)) ∈ cG := inG (i := 850) (by decide +kernel) rfl
theorem w_851 : (Cond.code ({ cls := "DuneMapsModel", name := "copy", desc := "([I[I)V" } : MethodName) prog_10_method_3_code (3 : Nat) (Option.none : Option FieldType)) ∈ cG := inG (i := 851) (by decide +kernel) rfl
theorem w_852 : (Cond.methodLink "DuneMapsModel" (165 : Nat) ({ cls := "DuneMapsModel", name := "goes", desc := "(I)V" } : MethodName)) ∈ cG := inG (i := 852) (by decide +kernel) rfl
theorem w_853 : (Cond.privateMethod ({ cls := "DuneMapsModel", name := "goes", desc := "(I)V" } : MethodName)) ∈ lw_tbl := inT (i := 853) (by decide +kernel)
theorem w_854 : (Cond.instanceMethod ({ cls := "DuneMapsModel", name := "goes", desc := "(I)V" } : MethodName)) ∈ cG := inG (i := 854) (by decide +kernel) rfl
theorem w_855 : (Cond.code ({ cls := "DuneMapsModel", name := "goes", desc := "(I)V" } : MethodName) prog_10_method_36_code (5 : Nat) (Option.none : Option FieldType)) ∈ cG := inG (i := 855) (by decide +kernel) rfl
theorem w_856 : (Cond.methodLink "DuneMapsLaw" (78 : Nat) ({ cls := "DuneMapsModel", name := "feet", desc := "(IIII)I" } : MethodName)) ∈ cG := inG (i := 856) (by decide +kernel) rfl
theorem w_857 : (Cond.instanceMethod ({ cls := "DuneMapsModel", name := "feet", desc := "(IIII)I" } : MethodName)) ∈ cG := inG (i := 857) (by decide +kernel) rfl
theorem w_858 : (Cond.selects "DuneMapsModel" ({ cls := "DuneMapsModel", name := "feet", desc := "(IIII)I" } : MethodName) ({ cls := "DuneMapsModel", name := "feet", desc := "(IIII)I" } : MethodName)) ∈ cG := inG (i := 858) (by decide +kernel) rfl
theorem w_859 : (Cond.code ({ cls := "DuneMapsModel", name := "feet", desc := "(IIII)I" } : MethodName) prog_10_method_44_code (5 : Nat) (Option.some FieldType.int)) ∈ cG := inG (i := 859) (by decide +kernel) rfl
theorem w_860 : (Cond.constantLong "DuneMapsModel" (184 : Nat) (9 : Int64)) ∈ cG := inG (i := 860) (by decide +kernel) rfl
theorem w_861 : (Cond.methodLink "DuneMapsModel" (186 : Nat) ({ cls := "DuneMapsModel", name := "feetOf", desc := "(IIII)I" } : MethodName)) ∈ cG := inG (i := 861) (by decide +kernel) rfl
theorem w_862 : (Cond.privateMethod ({ cls := "DuneMapsModel", name := "feetOf", desc := "(IIII)I" } : MethodName)) ∈ lw_tbl := inT (i := 862) (by decide +kernel)
theorem w_863 : (Cond.instanceMethod ({ cls := "DuneMapsModel", name := "feetOf", desc := "(IIII)I" } : MethodName)) ∈ cG := inG (i := 863) (by decide +kernel) rfl
theorem w_864 : (Cond.code ({ cls := "DuneMapsModel", name := "feetOf", desc := "(IIII)I" } : MethodName) prog_10_method_43_code (9 : Nat) (Option.some FieldType.int)) ∈ cG := inG (i := 864) (by decide +kernel) rfl
theorem w_865 : (Cond.methodLink "DuneMapsModel" (180 : Nat) ({ cls := "DuneMapsModel", name := "highBy", desc := "(IIII)I" } : MethodName)) ∈ cG := inG (i := 865) (by decide +kernel) rfl
theorem w_866 : (Cond.privateMethod ({ cls := "DuneMapsModel", name := "highBy", desc := "(IIII)I" } : MethodName)) ∈ lw_tbl := inT (i := 866) (by decide +kernel)
theorem w_867 : (Cond.instanceMethod ({ cls := "DuneMapsModel", name := "highBy", desc := "(IIII)I" } : MethodName)) ∈ cG := inG (i := 867) (by decide +kernel) rfl
theorem w_868 : (Cond.code ({ cls := "DuneMapsModel", name := "highBy", desc := "(IIII)I" } : MethodName) prog_10_method_42_code (8 : Nat) (Option.some FieldType.int)) ∈ cG := inG (i := 868) (by decide +kernel) rfl
theorem w_869 : (Cond.methodLink "DuneMapsLaw" (82 : Nat) ({ cls := "DuneMapsModel", name := "was", desc := "()I" } : MethodName)) ∈ cG := inG (i := 869) (by decide +kernel) rfl
theorem w_870 : (Cond.instanceMethod ({ cls := "DuneMapsModel", name := "was", desc := "()I" } : MethodName)) ∈ cG := inG (i := 870) (by decide +kernel) rfl
theorem w_871 : (Cond.selects "DuneMapsModel" ({ cls := "DuneMapsModel", name := "was", desc := "()I" } : MethodName) ({ cls := "DuneMapsModel", name := "was", desc := "()I" } : MethodName)) ∈ cG := inG (i := 871) (by decide +kernel) rfl
theorem w_872 : (Cond.code ({ cls := "DuneMapsModel", name := "was", desc := "()I" } : MethodName) prog_10_method_45_code (2 : Nat) (Option.some FieldType.int)) ∈ cG := inG (i := 872) (by decide +kernel) rfl
theorem w_873 : (Cond.methodLink "DuneMapsLaw" (86 : Nat) ({ cls := "DuneMapsModel", name := "who", desc := "(I)I" } : MethodName)) ∈ cG := inG (i := 873) (by decide +kernel) rfl
theorem w_874 : (Cond.instanceMethod ({ cls := "DuneMapsModel", name := "who", desc := "(I)I" } : MethodName)) ∈ cG := inG (i := 874) (by decide +kernel) rfl
theorem w_875 : (Cond.selects "DuneMapsModel" ({ cls := "DuneMapsModel", name := "who", desc := "(I)I" } : MethodName) ({ cls := "DuneMapsModel", name := "who", desc := "(I)I" } : MethodName)) ∈ cG := inG (i := 875) (by decide +kernel) rfl
theorem w_876 : (Cond.code ({ cls := "DuneMapsModel", name := "who", desc := "(I)I" } : MethodName) prog_10_method_48_code (2 : Nat) (Option.some FieldType.int)) ∈ cG := inG (i := 876) (by decide +kernel) rfl
theorem w_877 : (Cond.methodLink "DuneMapsModel" (193 : Nat) ({ cls := "DuneMapsModel", name := "whoOf", desc := "(I)I" } : MethodName)) ∈ cG := inG (i := 877) (by decide +kernel) rfl
theorem w_878 : (Cond.privateMethod ({ cls := "DuneMapsModel", name := "whoOf", desc := "(I)I" } : MethodName)) ∈ lw_tbl := inT (i := 878) (by decide +kernel)
theorem w_879 : (Cond.instanceMethod ({ cls := "DuneMapsModel", name := "whoOf", desc := "(I)I" } : MethodName)) ∈ cG := inG (i := 879) (by decide +kernel) rfl
theorem w_880 : (Cond.code ({ cls := "DuneMapsModel", name := "whoOf", desc := "(I)I" } : MethodName) prog_10_method_47_code (8 : Nat) (Option.some FieldType.int)) ∈ cG := inG (i := 880) (by decide +kernel) rfl
theorem w_881 : (Cond.methodLink "DuneMapsModel" (189 : Nat) ({ cls := "DuneMapsModel", name := "isAsNow", desc := "()Z" } : MethodName)) ∈ cG := inG (i := 881) (by decide +kernel) rfl
theorem w_882 : (Cond.privateMethod ({ cls := "DuneMapsModel", name := "isAsNow", desc := "()Z" } : MethodName)) ∈ lw_tbl := inT (i := 882) (by decide +kernel)
theorem w_883 : (Cond.instanceMethod ({ cls := "DuneMapsModel", name := "isAsNow", desc := "()Z" } : MethodName)) ∈ cG := inG (i := 883) (by decide +kernel) rfl
theorem w_884 : (Cond.code ({ cls := "DuneMapsModel", name := "isAsNow", desc := "()Z" } : MethodName) prog_10_method_46_code (3 : Nat) (Option.some FieldType.boolean)) ∈ cG := inG (i := 884) (by decide +kernel) rfl
theorem w_885 : (Cond.methodLink "DuneMapsLaw" (90 : Nat) ({ cls := "DuneMapsModel", name := "moons", desc := "(III)I" } : MethodName)) ∈ cG := inG (i := 885) (by decide +kernel) rfl
theorem w_886 : (Cond.instanceMethod ({ cls := "DuneMapsModel", name := "moons", desc := "(III)I" } : MethodName)) ∈ cG := inG (i := 886) (by decide +kernel) rfl
theorem w_887 : (Cond.selects "DuneMapsModel" ({ cls := "DuneMapsModel", name := "moons", desc := "(III)I" } : MethodName) ({ cls := "DuneMapsModel", name := "moons", desc := "(III)I" } : MethodName)) ∈ cG := inG (i := 887) (by decide +kernel) rfl
theorem w_888 : (Cond.code ({ cls := "DuneMapsModel", name := "moons", desc := "(III)I" } : MethodName) prog_10_method_50_code (8 : Nat) (Option.some FieldType.int)) ∈ cG := inG (i := 888) (by decide +kernel) rfl
theorem w_889 : (Cond.constantLong "DuneMapsModel" (206 : Nat) (60 : Int64)) ∈ cG := inG (i := 889) (by decide +kernel) rfl
theorem w_890 : (Cond.constantLong "DuneMapsModel" (208 : Nat) (2 : Int64)) ∈ cG := inG (i := 890) (by decide +kernel) rfl
theorem w_891 : (Cond.methodLink "DuneMapsModel" (210 : Nat) ({ cls := "DuneMapsModel", name := "draw", desc := "(I)I" } : MethodName)) ∈ cG := inG (i := 891) (by decide +kernel) rfl
theorem w_892 : (Cond.privateMethod ({ cls := "DuneMapsModel", name := "draw", desc := "(I)I" } : MethodName)) ∈ lw_tbl := inT (i := 892) (by decide +kernel)
theorem w_893 : (Cond.instanceMethod ({ cls := "DuneMapsModel", name := "draw", desc := "(I)I" } : MethodName)) ∈ cG := inG (i := 893) (by decide +kernel) rfl
theorem w_894 : (Cond.code ({ cls := "DuneMapsModel", name := "draw", desc := "(I)I" } : MethodName) prog_10_method_49_code (2 : Nat) (Option.some FieldType.int)) ∈ cG := inG (i := 894) (by decide +kernel) rfl
theorem w_895 : (Cond.constantLong "DuneMapsModel" (196 : Nat) (1103515245 : Int64)) ∈ cG := inG (i := 895) (by decide +kernel) rfl
theorem w_896 : (Cond.constantLong "DuneMapsModel" (201 : Nat) (12345 : Int64)) ∈ cG := inG (i := 896) (by decide +kernel) rfl
theorem w_897 : (Cond.constantLong "DuneMapsModel" (203 : Nat) (2147483647 : Int64)) ∈ cG := inG (i := 897) (by decide +kernel) rfl
theorem w_898 : (Cond.constant "DuneMapsModel" (205 : Nat) (65536 : Int32)) ∈ cG := inG (i := 898) (by decide +kernel) rfl
theorem w_899 : (Cond.methodLink "DuneMapsLaw" (94 : Nat) ({ cls := "DuneMapsModel", name := "image", desc := "()I" } : MethodName)) ∈ cG := inG (i := 899) (by decide +kernel) rfl
theorem w_900 : (Cond.instanceMethod ({ cls := "DuneMapsModel", name := "image", desc := "()I" } : MethodName)) ∈ cG := inG (i := 900) (by decide +kernel) rfl
theorem w_901 : (Cond.selects "DuneMapsModel" ({ cls := "DuneMapsModel", name := "image", desc := "()I" } : MethodName) ({ cls := "DuneMapsModel", name := "image", desc := "()I" } : MethodName)) ∈ cG := inG (i := 901) (by decide +kernel) rfl
theorem w_902 : (Cond.code ({ cls := "DuneMapsModel", name := "image", desc := "()I" } : MethodName) prog_10_method_51_code (1 : Nat) (Option.some FieldType.int)) ∈ cG := inG (i := 902) (by decide +kernel) rfl
theorem w_903 : (Cond.methodLink "DuneMapsLaw" (98 : Nat) ({ cls := "DuneMapsModel", name := "restore", desc := "()I" } : MethodName)) ∈ cG := inG (i := 903) (by decide +kernel) rfl
theorem w_904 : (Cond.instanceMethod ({ cls := "DuneMapsModel", name := "restore", desc := "()I" } : MethodName)) ∈ cG := inG (i := 904) (by decide +kernel) rfl
theorem w_905 : (Cond.selects "DuneMapsModel" ({ cls := "DuneMapsModel", name := "restore", desc := "()I" } : MethodName) ({ cls := "DuneMapsModel", name := "restore", desc := "()I" } : MethodName)) ∈ cG := inG (i := 905) (by decide +kernel) rfl
theorem w_906 : (Cond.code ({ cls := "DuneMapsModel", name := "restore", desc := "()I" } : MethodName) prog_10_method_52_code (1 : Nat) (Option.some FieldType.int)) ∈ cG := inG (i := 906) (by decide +kernel) rfl
theorem w_907 : (Cond.methodLink "DuneMapsLaw" (102 : Nat) ({ cls := "DuneMapsModel", name := "count", desc := "(I)I" } : MethodName)) ∈ cG := inG (i := 907) (by decide +kernel) rfl
theorem w_908 : (Cond.instanceMethod ({ cls := "DuneMapsModel", name := "count", desc := "(I)I" } : MethodName)) ∈ cG := inG (i := 908) (by decide +kernel) rfl
theorem w_909 : (Cond.selects "DuneMapsModel" ({ cls := "DuneMapsModel", name := "count", desc := "(I)I" } : MethodName) ({ cls := "DuneMapsModel", name := "count", desc := "(I)I" } : MethodName)) ∈ cG := inG (i := 909) (by decide +kernel) rfl
theorem w_910 : (Cond.code ({ cls := "DuneMapsModel", name := "count", desc := "(I)I" } : MethodName) prog_10_method_55_code (2 : Nat) (Option.some FieldType.int)) ∈ cG := inG (i := 910) (by decide +kernel) rfl
theorem w_911 : (Cond.methodLink "DuneMapsModel" (225 : Nat) ({ cls := "DuneMapsModel", name := "countOf", desc := "(I)I" } : MethodName)) ∈ cG := inG (i := 911) (by decide +kernel) rfl
theorem w_912 : (Cond.privateMethod ({ cls := "DuneMapsModel", name := "countOf", desc := "(I)I" } : MethodName)) ∈ lw_tbl := inT (i := 912) (by decide +kernel)
theorem w_913 : (Cond.instanceMethod ({ cls := "DuneMapsModel", name := "countOf", desc := "(I)I" } : MethodName)) ∈ cG := inG (i := 913) (by decide +kernel) rfl
theorem w_914 : (Cond.code ({ cls := "DuneMapsModel", name := "countOf", desc := "(I)I" } : MethodName) prog_10_method_54_code (2 : Nat) (Option.some FieldType.int)) ∈ cG := inG (i := 914) (by decide +kernel) rfl
theorem w_915 : (Cond.methodLink "DuneMapsModel" (222 : Nat) ({ cls := "DuneMapsModel", name := "sumBy", desc := "(I)I" } : MethodName)) ∈ cG := inG (i := 915) (by decide +kernel) rfl
theorem w_916 : (Cond.privateMethod ({ cls := "DuneMapsModel", name := "sumBy", desc := "(I)I" } : MethodName)) ∈ lw_tbl := inT (i := 916) (by decide +kernel)
theorem w_917 : (Cond.instanceMethod ({ cls := "DuneMapsModel", name := "sumBy", desc := "(I)I" } : MethodName)) ∈ cG := inG (i := 917) (by decide +kernel) rfl
theorem w_918 : (Cond.code ({ cls := "DuneMapsModel", name := "sumBy", desc := "(I)I" } : MethodName) prog_10_method_53_code (4 : Nat) (Option.some FieldType.int)) ∈ cG := inG (i := 918) (by decide +kernel) rfl
theorem w_919 : (Cond.methodLink "DuneMapsLaw" (107 : Nat) ({ cls := "DuneMapsModel", name := "digest", desc := "()J" } : MethodName)) ∈ cG := inG (i := 919) (by decide +kernel) rfl
theorem w_920 : (Cond.instanceMethod ({ cls := "DuneMapsModel", name := "digest", desc := "()J" } : MethodName)) ∈ cG := inG (i := 920) (by decide +kernel) rfl
theorem w_921 : (Cond.selects "DuneMapsModel" ({ cls := "DuneMapsModel", name := "digest", desc := "()J" } : MethodName) ({ cls := "DuneMapsModel", name := "digest", desc := "()J" } : MethodName)) ∈ cG := inG (i := 921) (by decide +kernel) rfl
theorem w_922 : (Cond.code ({ cls := "DuneMapsModel", name := "digest", desc := "()J" } : MethodName) prog_10_method_58_code (3 : Nat) (Option.some FieldType.long)) ∈ cG := inG (i := 922) (by decide +kernel) rfl
theorem w_923 : (Cond.constantLong "DuneMapsModel" (238 : Nat) (881 : Int64)) ∈ cG := inG (i := 923) (by decide +kernel) rfl
theorem w_924 : (Cond.methodLink "DuneMapsModel" (240 : Nat) ({ cls := "DuneMapsModel", name := "sayDunes", desc := "()V" } : MethodName)) ∈ cG := inG (i := 924) (by decide +kernel) rfl
theorem w_925 : (Cond.privateMethod ({ cls := "DuneMapsModel", name := "sayDunes", desc := "()V" } : MethodName)) ∈ lw_tbl := inT (i := 925) (by decide +kernel)
theorem w_926 : (Cond.instanceMethod ({ cls := "DuneMapsModel", name := "sayDunes", desc := "()V" } : MethodName)) ∈ cG := inG (i := 926) (by decide +kernel) rfl
theorem w_927 : (Cond.code ({ cls := "DuneMapsModel", name := "sayDunes", desc := "()V" } : MethodName) prog_10_method_57_code (3 : Nat) (Option.none : Option FieldType)) ∈ cG := inG (i := 927) (by decide +kernel) rfl
theorem w_928 : (Cond.methodLink "DuneMapsModel" (234 : Nat) ({ cls := "DuneMapsModel", name := "say", desc := "(J)V" } : MethodName)) ∈ cG := inG (i := 928) (by decide +kernel) rfl
theorem w_929 : (Cond.privateMethod ({ cls := "DuneMapsModel", name := "say", desc := "(J)V" } : MethodName)) ∈ lw_tbl := inT (i := 929) (by decide +kernel)
theorem w_930 : (Cond.instanceMethod ({ cls := "DuneMapsModel", name := "say", desc := "(J)V" } : MethodName)) ∈ cG := inG (i := 930) (by decide +kernel) rfl
theorem w_931 : (Cond.code ({ cls := "DuneMapsModel", name := "say", desc := "(J)V" } : MethodName) prog_10_method_56_code (3 : Nat) (Option.none : Option FieldType)) ∈ cG := inG (i := 931) (by decide +kernel) rfl
theorem w_932 : (Cond.constantLong "DuneMapsModel" (228 : Nat) (31 : Int64)) ∈ cG := inG (i := 932) (by decide +kernel) rfl
end
section
theorem inX0G : ∀ w ∈ u_ws RX0 TX0 2, w ∈ cG := by
  intro w hw
  obtain ⟨k, hk, rfl⟩ := List.mem_map.mp hw
  have hk := List.mem_range.mp hk
  match k, hk with
  | 0, _ => exact w_217
  | 1, _ => exact w_219
theorem nwX0 {g : gG} (j : Nat) (hj : j < 2) : defaultValue (tyX0 j) = vp_V (([.int 0, .int 0] : List Value).map (rn g)) j := by
  match j, hj with
  | 0, _ => rfl
  | 1, _ => rfl
theorem inX1G : ∀ w ∈ u_ws RX1 TX1 7, w ∈ cG := by
  intro w hw
  obtain ⟨k, hk, rfl⟩ := List.mem_map.mp hw
  have hk := List.mem_range.mp hk
  match k, hk with
  | 0, _ => exact w_192
  | 1, _ => exact w_194
  | 2, _ => exact w_196
  | 3, _ => exact w_198
  | 4, _ => exact w_200
  | 5, _ => exact w_202
  | 6, _ => exact w_204
theorem nwX1 {g : gG} (j : Nat) (hj : j < 7) : defaultValue (tyX1 j) = vp_V (([.null, .int 0, .int 0, .int 0, .int 0, .int 0, .int 0] : List Value).map (rn g)) j := by
  match j, hj with
  | 0, _ => rfl
  | 1, _ => rfl
  | 2, _ => rfl
  | 3, _ => rfl
  | 4, _ => rfl
  | 5, _ => rfl
  | 6, _ => rfl
theorem inX2G : ∀ w ∈ u_ws RX2 TX2 4, w ∈ cG := by
  intro w hw
  obtain ⟨k, hk, rfl⟩ := List.mem_map.mp hw
  have hk := List.mem_range.mp hk
  match k, hk with
  | 0, _ => exact w_138
  | 1, _ => exact w_140
  | 2, _ => exact w_142
  | 3, _ => exact w_144
theorem nwX2 {g : gG} (j : Nat) (hj : j < 4) : defaultValue (tyX2 j) = vp_V (([.null, .null, .int 0, .int 0] : List Value).map (rn g)) j := by
  match j, hj with
  | 0, _ => rfl
  | 1, _ => rfl
  | 2, _ => rfl
  | 3, _ => rfl
theorem inX3G : ∀ w ∈ u_ws RX3 TX3 5, w ∈ cG := by
  intro w hw
  obtain ⟨k, hk, rfl⟩ := List.mem_map.mp hw
  have hk := List.mem_range.mp hk
  match k, hk with
  | 0, _ => exact w_164
  | 1, _ => exact w_166
  | 2, _ => exact w_168
  | 3, _ => exact w_170
  | 4, _ => exact w_172
theorem nwX3 {g : gG} (j : Nat) (hj : j < 5) : defaultValue (tyX3 j) = vp_V (([.null, .null, .null, .int 0, .int 0] : List Value).map (rn g)) j := by
  match j, hj with
  | 0, _ => rfl
  | 1, _ => rfl
  | 2, _ => rfl
  | 3, _ => rfl
  | 4, _ => rfl
theorem inX4G : ∀ w ∈ u_ws RX4 TX4 2, w ∈ cG := by
  intro w hw
  obtain ⟨k, hk, rfl⟩ := List.mem_map.mp hw
  have hk := List.mem_range.mp hk
  match k, hk with
  | 0, _ => exact w_67
  | 1, _ => exact w_69
theorem nwX4 {g : gG} (j : Nat) (hj : j < 2) : defaultValue (tyX4 j) = vp_V (([.null, .int 0] : List Value).map (rn g)) j := by
  match j, hj with
  | 0, _ => rfl
  | 1, _ => rfl
theorem inX5G : ∀ w ∈ u_ws RX5 TX5 2, w ∈ cG := by
  intro w hw
  obtain ⟨k, hk, rfl⟩ := List.mem_map.mp hw
  have hk := List.mem_range.mp hk
  match k, hk with
  | 0, _ => exact w_89
  | 1, _ => exact w_91
theorem nwX5 {g : gG} (j : Nat) (hj : j < 2) : defaultValue (tyX5 j) = vp_V (([.null, .int 0] : List Value).map (rn g)) j := by
  match j, hj with
  | 0, _ => rfl
  | 1, _ => rfl
theorem inX6G : ∀ w ∈ u_ws RX6 TX6 6, w ∈ cG := by
  intro w hw
  obtain ⟨k, hk, rfl⟩ := List.mem_map.mp hw
  have hk := List.mem_range.mp hk
  match k, hk with
  | 0, _ => exact w_116
  | 1, _ => exact w_118
  | 2, _ => exact w_120
  | 3, _ => exact w_122
  | 4, _ => exact w_124
  | 5, _ => exact w_126
theorem nwX6 {g : gG} (j : Nat) (hj : j < 6) : defaultValue (tyX6 j) = vp_V (([.null, .int 0, .int 0, .int 0, .int 0, .int 0] : List Value).map (rn g)) j := by
  match j, hj with
  | 0, _ => rfl
  | 1, _ => rfl
  | 2, _ => rfl
  | 3, _ => rfl
  | 4, _ => rfl
  | 5, _ => rfl
theorem inX7G : ∀ w ∈ u_ws RX7 TX7 12, w ∈ cG := by
  intro w hw
  obtain ⟨k, hk, rfl⟩ := List.mem_map.mp hw
  have hk := List.mem_range.mp hk
  match k, hk with
  | 0, _ => exact w_234
  | 1, _ => exact w_236
  | 2, _ => exact w_238
  | 3, _ => exact w_240
  | 4, _ => exact w_242
  | 5, _ => exact w_244
  | 6, _ => exact w_246
  | 7, _ => exact w_248
  | 8, _ => exact w_250
  | 9, _ => exact w_252
  | 10, _ => exact w_254
  | 11, _ => exact w_256
theorem nwX7 {g : gG} (j : Nat) (hj : j < 12) : defaultValue (tyX7 j) = vp_V (([.null, .null, .null, .null, .null, .null, .null, .null, .int 0, .int 0, .int 0, .int 0] : List Value).map (rn g)) j := by
  match j, hj with
  | 0, _ => rfl
  | 1, _ => rfl
  | 2, _ => rfl
  | 3, _ => rfl
  | 4, _ => rfl
  | 5, _ => rfl
  | 6, _ => rfl
  | 7, _ => rfl
  | 8, _ => rfl
  | 9, _ => rfl
  | 10, _ => rfl
  | 11, _ => rfl
theorem inX8G : ∀ w ∈ u_ws RX8 TX8 26, w ∈ cG := by
  intro w hw
  obtain ⟨k, hk, rfl⟩ := List.mem_map.mp hw
  have hk := List.mem_range.mp hk
  match k, hk with
  | 0, _ => exact w_642
  | 1, _ => exact w_644
  | 2, _ => exact w_646
  | 3, _ => exact w_648
  | 4, _ => exact w_650
  | 5, _ => exact w_652
  | 6, _ => exact w_654
  | 7, _ => exact w_656
  | 8, _ => exact w_658
  | 9, _ => exact w_660
  | 10, _ => exact w_662
  | 11, _ => exact w_664
  | 12, _ => exact w_666
  | 13, _ => exact w_668
  | 14, _ => exact w_670
  | 15, _ => exact w_672
  | 16, _ => exact w_674
  | 17, _ => exact w_676
  | 18, _ => exact w_678
  | 19, _ => exact w_680
  | 20, _ => exact w_682
  | 21, _ => exact w_684
  | 22, _ => exact w_686
  | 23, _ => exact w_688
  | 24, _ => exact w_690
  | 25, _ => exact w_692
  | k + 26, h => exact absurd h (by omega)
theorem nwX8 {g : gG} (j : Nat) (hj : j < 26) : defaultValue (tyX8 j) = vp_V (([.null, .int 0, .int 0, .int 0, .int 0, .int 0, .null, .int 0, .null, .int 0, .null, .null, .null, .null, .int 0, .null, .null, .int 0, .int 0, .int 0, .int 0, .int 0, .null, .null, .null, .long 0] : List Value).map (rn g)) j := by
  match j, hj with
  | 0, _ => rfl
  | 1, _ => rfl
  | 2, _ => rfl
  | 3, _ => rfl
  | 4, _ => rfl
  | 5, _ => rfl
  | 6, _ => rfl
  | 7, _ => rfl
  | 8, _ => rfl
  | 9, _ => rfl
  | 10, _ => rfl
  | 11, _ => rfl
  | 12, _ => rfl
  | 13, _ => rfl
  | 14, _ => rfl
  | 15, _ => rfl
  | 16, _ => rfl
  | 17, _ => rfl
  | 18, _ => rfl
  | 19, _ => rfl
  | 20, _ => rfl
  | 21, _ => rfl
  | 22, _ => rfl
  | 23, _ => rfl
  | 24, _ => rfl
  | 25, _ => rfl
  | k + 26, h => exact absurd h (by omega)
theorem tsw_ok {ps : List (Int32 × Nat)} {offs : Array Int} {pc : Nat} {lo : Int} (h : (List.range ps.length).all (fun i => match offs[i]? with | some off => decide ((pc : Int) + off = ((ps.getD i (0, 0)).2 : Int)) && decide ((ps.getD i (0, 0)).1 = Int32.ofInt (lo + i)) | none => false) = true) : ∀ i, i < ps.length → ∃ off : Int, offs[i]? = some off ∧ (pc : Int) + off = ((ps.getD i (0, 0)).2 : Int) ∧ (ps.getD i (0, 0)).1 = Int32.ofInt (lo + i) := by
  intro i hi
  have h1 := List.all_eq_true.mp h i (List.mem_range.mpr hi)
  split at h1
  · next off ho =>
    simp only [Bool.and_eq_true, decide_eq_true_eq] at h1
    exact ⟨off, ho, h1.1, h1.2⟩
  · cases h1
def mTab : List (MethodName × sI) := [
  (⟨"DuneMaps$Dusk", "<init>", "()V"⟩, prog_2_method_1_code, "DuneMaps$Dusk", 1, none, true),
  (⟨"DuneMaps$Dusk", "search", "(LDuneMaps$Sand;LDuneMaps$Sand;LDuneMaps$Sand;)V"⟩, prog_2_method_2_code, "DuneMaps$Dusk", 5, none, false),
  (⟨"DuneMaps$Dusk", "tryWalk", "(ILDuneMaps$Sand;LDuneMaps$Sand;)V"⟩, prog_2_method_3_code, "DuneMaps$Dusk", 8, none, false),
  (⟨"DuneMaps$Footing", "<init>", "()V"⟩, prog_3_method_1_code, "DuneMaps$Footing", 2, none, true),
  (⟨"DuneMaps$Footing", "search", "(LDuneMaps$Sand;LDuneMaps$Walker;II)V"⟩, prog_3_method_2_code, "DuneMaps$Footing", 5, none, false),
  (⟨"DuneMaps$Footing", "tryFrom", "(III)V"⟩, prog_3_method_3_code, "DuneMaps$Footing", 6, none, false),
  (⟨"DuneMaps$Land", "<init>", "()V"⟩, prog_4_method_1_code, "DuneMaps$Land", 2, none, true),
  (⟨"DuneMaps$Land", "empty", "()V"⟩, prog_4_method_2_code, "DuneMaps$Land", 1, none, false),
  (⟨"DuneMaps$Land", "copyFrom", "(LDuneMaps$Land;)V"⟩, prog_4_method_3_code, "DuneMaps$Land", 3, none, false),
  (⟨"DuneMaps$Land", "named", "(I)LDuneMaps$Walker;"⟩, prog_4_method_4_code, "DuneMaps$Land", 3, some (.object "DuneMaps$Walker"), false),
  (⟨"DuneMaps$Land", "arrive", "(II)I"⟩, prog_4_method_5_code, "DuneMaps$Land", 3, some .int, false),
  (⟨"DuneMaps$Land", "walkersAt", "(I)I"⟩, prog_4_method_6_code, "DuneMaps$Land", 4, some .int, false),
  (⟨"DuneMaps$Land", "maps", "()I"⟩, prog_4_method_7_code, "DuneMaps$Land", 3, some .int, false),
  (⟨"DuneMaps$Land", "goodMaps", "()I"⟩, prog_4_method_8_code, "DuneMaps$Land", 3, some .int, false),
  (⟨"DuneMaps$Land", "stepsGone", "()I"⟩, prog_4_method_9_code, "DuneMaps$Land", 3, some .int, false),
  (⟨"DuneMaps$Ordering", "<init>", "()V"⟩, prog_5_method_1_code, "DuneMaps$Ordering", 2, none, true),
  (⟨"DuneMaps$Ordering", "goerAt", "(I)I"⟩, prog_5_method_2_code, "DuneMaps$Ordering", 2, some .int, false),
  (⟨"DuneMaps$Ordering", "search", "(LDuneMaps$Land;)V"⟩, prog_5_method_3_code, "DuneMaps$Ordering", 2, none, false),
  (⟨"DuneMaps$Ordering", "tryTurn", "(LDuneMaps$Land;III)V"⟩, prog_5_method_4_code, "DuneMaps$Ordering", 8, none, false),
  (⟨"DuneMaps$Ordering", "keep", "(I)V"⟩, prog_5_method_5_code, "DuneMaps$Ordering", 3, none, false),
  (⟨"DuneMaps$Page", "<init>", "()V"⟩, prog_6_method_1_code, "DuneMaps$Page", 1, none, true),
  (⟨"DuneMaps$Page", "append", "(I)Z"⟩, prog_6_method_2_code, "DuneMaps$Page", 2, some .boolean, false),
  (⟨"DuneMaps$Page", "codeAt", "(I)I"⟩, prog_6_method_3_code, "DuneMaps$Page", 2, some .int, false),
  (⟨"DuneMaps$Page", "firstFault", "(I)I"⟩, prog_6_method_4_code, "DuneMaps$Page", 3, some .int, false),
  (⟨"DuneMaps$Page", "isWhole", "(I)Z"⟩, prog_6_method_5_code, "DuneMaps$Page", 3, some .boolean, false),
  (⟨"DuneMaps$Page", "readHeights", "(LDuneMaps$Sand;)V"⟩, prog_6_method_6_code, "DuneMaps$Page", 3, none, false),
  (⟨"DuneMaps$Page", "tellsWindOn", "()Z"⟩, prog_6_method_7_code, "DuneMaps$Page", 1, some .boolean, false),
  (⟨"DuneMaps$Page", "fits", "(III)Z"⟩, prog_6_method_8_code, "DuneMaps$Page", 3, some .boolean, false),
  (⟨"DuneMaps$Sand", "<init>", "()V"⟩, prog_7_method_1_code, "DuneMaps$Sand", 1, none, true),
  (⟨"DuneMaps$Sand", "heightAt", "(I)I"⟩, prog_7_method_2_code, "DuneMaps$Sand", 2, some .int, false),
  (⟨"DuneMaps$Sand", "setHeight", "(II)V"⟩, prog_7_method_3_code, "DuneMaps$Sand", 3, none, false),
  (⟨"DuneMaps$Sand", "copyFrom", "(LDuneMaps$Sand;)V"⟩, prog_7_method_4_code, "DuneMaps$Sand", 2, none, false),
  (⟨"DuneMaps$Sand", "copyHeights", "(LDuneMaps$Sand;)V"⟩, prog_7_method_5_code, "DuneMaps$Sand", 3, none, false),
  (⟨"DuneMaps$Sand", "isAsHighAs", "(LDuneMaps$Sand;)Z"⟩, prog_7_method_6_code, "DuneMaps$Sand", 3, some .boolean, false),
  (⟨"DuneMaps$Sand", "sum", "()I"⟩, prog_7_method_7_code, "DuneMaps$Sand", 3, some .int, false),
  (⟨"DuneMaps$Sand", "highest", "()I"⟩, prog_7_method_8_code, "DuneMaps$Sand", 3, some .int, false),
  (⟨"DuneMaps$Sand", "shapeAt", "(I)I"⟩, prog_7_method_9_code, "DuneMaps$Sand", 5, some .int, false),
  (⟨"DuneMaps$Sand", "crests", "()I"⟩, prog_7_method_10_code, "DuneMaps$Sand", 3, some .int, false),
  (⟨"DuneMaps$Sand", "passNight", "()I"⟩, prog_7_method_11_code, "DuneMaps$Sand", 3, some .int, false),
  (⟨"DuneMaps$Sand", "tread", "(II)I"⟩, prog_7_method_12_code, "DuneMaps$Sand", 6, some .int, false),
  (⟨"DuneMaps$Sand", "moveSand", "(III)I"⟩, prog_7_method_13_code, "DuneMaps$Sand", 5, some .int, false),
  (⟨"DuneMaps$Sand", "leeOf", "(I)I"⟩, prog_7_method_14_code, "DuneMaps$Sand", 2, some .int, false),
  (⟨"DuneMaps$Sand", "luffOf", "(I)I"⟩, prog_7_method_15_code, "DuneMaps$Sand", 2, some .int, false),
  (⟨"DuneMaps$Walker", "<init>", "()V"⟩, prog_8_method_1_code, "DuneMaps$Walker", 1, none, true),
  (⟨"DuneMaps$Walker", "arrive", "(II)V"⟩, prog_8_method_2_code, "DuneMaps$Walker", 3, none, false),
  (⟨"DuneMaps$Walker", "copyFrom", "(LDuneMaps$Walker;)V"⟩, prog_8_method_3_code, "DuneMaps$Walker", 3, none, false),
  (⟨"DuneMaps$Walker", "hasMap", "()Z"⟩, prog_8_method_4_code, "DuneMaps$Walker", 1, some .boolean, false),
  (⟨"DuneMaps$Walker", "drawMap", "(LDuneMaps$Sand;II)I"⟩, prog_8_method_5_code, "DuneMaps$Walker", 7, some .int, false),
  (⟨"DuneMaps$Walker", "hasGoodMap", "(LDuneMaps$Sand;)Z"⟩, prog_8_method_6_code, "DuneMaps$Walker", 4, some .boolean, false),
  (⟨"DuneMaps$Walker", "stepOn", "(LDuneMaps$Sand;I)I"⟩, prog_8_method_7_code, "DuneMaps$Walker", 3, some .int, false),
  (⟨"DuneMaps$Walker", "goByMap", "(LDuneMaps$Sand;)V"⟩, prog_8_method_8_code, "DuneMaps$Walker", 3, none, false),
  (⟨"DuneMaps$Walker", "wouldGo", "(LDuneMaps$Sand;)V"⟩, prog_8_method_9_code, "DuneMaps$Walker", 4, none, false),
  (⟨"DuneMaps", "<init>", "()V"⟩, prog_1_method_1_code, "DuneMaps", 1, none, true),
  (⟨"DuneMaps", "letter", "(I)I"⟩, prog_1_method_2_code, "DuneMaps", 2, some .int, false),
  (⟨"DuneMaps", "blank", "()I"⟩, prog_1_method_3_code, "DuneMaps", 2, some .int, false),
  (⟨"DuneMaps", "fault", "(I)I"⟩, prog_1_method_4_code, "DuneMaps", 2, some .int, false),
  (⟨"DuneMaps", "dunes", "()I"⟩, prog_1_method_5_code, "DuneMaps", 1, some .int, false),
  (⟨"DuneMaps", "cell", "(II)I"⟩, prog_1_method_6_code, "DuneMaps", 3, some .int, false),
  (⟨"DuneMaps", "wind", "(Z)I"⟩, prog_1_method_7_code, "DuneMaps", 3, some .int, false),
  (⟨"DuneMaps", "night", "()I"⟩, prog_1_method_8_code, "DuneMaps", 1, some .int, false),
  (⟨"DuneMaps", "walker", "(II)I"⟩, prog_1_method_9_code, "DuneMaps", 3, some .int, false),
  (⟨"DuneMaps", "about", "(II)I"⟩, prog_1_method_10_code, "DuneMaps", 4, some .int, false),
  (⟨"DuneMaps", "as", "(II)I"⟩, prog_1_method_11_code, "DuneMaps", 5, some .int, false),
  (⟨"DuneMaps", "step", "(II)I"⟩, prog_1_method_12_code, "DuneMaps", 4, some .int, false),
  (⟨"DuneMaps", "map", "(III)I"⟩, prog_1_method_13_code, "DuneMaps", 5, some .int, false),
  (⟨"DuneMaps", "go", "(I)I"⟩, prog_1_method_14_code, "DuneMaps", 4, some .int, false),
  (⟨"DuneMaps", "order", "(I)I"⟩, prog_1_method_15_code, "DuneMaps", 3, some .int, false),
  (⟨"DuneMaps", "feet", "(IIII)I"⟩, prog_1_method_16_code, "DuneMaps", 6, some .int, false),
  (⟨"DuneMaps", "was", "()I"⟩, prog_1_method_17_code, "DuneMaps", 1, some .int, false),
  (⟨"DuneMaps", "who", "(I)I"⟩, prog_1_method_18_code, "DuneMaps", 2, some .int, false),
  (⟨"DuneMaps", "moons", "(III)I"⟩, prog_1_method_19_code, "DuneMaps", 8, some .int, false),
  (⟨"DuneMaps", "image", "()I"⟩, prog_1_method_20_code, "DuneMaps", 1, some .int, false),
  (⟨"DuneMaps", "restore", "()I"⟩, prog_1_method_21_code, "DuneMaps", 1, some .int, false),
  (⟨"DuneMaps", "count", "(I)I"⟩, prog_1_method_22_code, "DuneMaps", 2, some .int, false),
  (⟨"DuneMaps", "digest", "()J"⟩, prog_1_method_23_code, "DuneMaps", 5, some .long, false),
  (⟨"DuneMaps", "withCells", "(J)J"⟩, prog_1_method_24_code, "DuneMaps", 5, some .long, false),
  (⟨"DuneMaps", "withOrder", "(J)J"⟩, prog_1_method_25_code, "DuneMaps", 4, some .long, false),
  (⟨"DuneMaps", "with", "(JI)J"⟩, prog_1_method_26_code, "DuneMaps", 3, some .long, false),
  (⟨"DuneMaps", "isCell", "(I)Z"⟩, prog_1_method_27_code, "DuneMaps", 2, some .boolean, false),
  (⟨"DuneMaps", "isKind", "(I)Z"⟩, prog_1_method_28_code, "DuneMaps", 1, some .boolean, false),
  (⟨"DuneMaps", "isWay", "(I)Z"⟩, prog_1_method_29_code, "DuneMaps", 1, some .boolean, false),
  (⟨"DuneMaps", "asNumber", "(Z)I"⟩, prog_1_method_30_code, "DuneMaps", 1, some .int, false),
  (⟨"DuneMaps", "weightOf", "(I)I"⟩, prog_1_method_31_code, "DuneMaps", 1, some .int, false),
  (⟨"DuneMaps", "beside", "(II)I"⟩, prog_1_method_32_code, "DuneMaps", 2, some .int, false),
  (⟨"DuneMaps", "nextSeed", "(I)I"⟩, prog_1_method_33_code, "DuneMaps", 1, some .int, false),
  (⟨"DuneMaps", "draw", "(II)I"⟩, prog_1_method_34_code, "DuneMaps", 2, some .int, false),
  (⟨"DuneMapsModel", "<init>", "()V"⟩, prog_10_method_1_code, "DuneMapsModel", 1, none, true),
  (⟨"DuneMapsModel", "in", "(JJJ)Z"⟩, prog_10_method_2_code, "DuneMapsModel", 6, some .boolean, false),
  (⟨"DuneMapsModel", "copy", "([I[I)V"⟩, prog_10_method_3_code, "DuneMapsModel", 3, none, false),
  (⟨"DuneMapsModel", "letter", "(I)I"⟩, prog_10_method_4_code, "DuneMapsModel", 2, some .int, false),
  (⟨"DuneMapsModel", "blank", "()I"⟩, prog_10_method_5_code, "DuneMapsModel", 2, some .int, false),
  (⟨"DuneMapsModel", "faultOf", "(I)I"⟩, prog_10_method_6_code, "DuneMapsModel", 4, some .int, false),
  (⟨"DuneMapsModel", "fault", "(I)I"⟩, prog_10_method_7_code, "DuneMapsModel", 2, some .int, false),
  (⟨"DuneMapsModel", "sumOf", "([I)I"⟩, prog_10_method_8_code, "DuneMapsModel", 3, some .int, false),
  (⟨"DuneMapsModel", "dunes", "()I"⟩, prog_10_method_9_code, "DuneMapsModel", 2, some .int, false),
  (⟨"DuneMapsModel", "isCell", "(I)Z"⟩, prog_10_method_10_code, "DuneMapsModel", 2, some .boolean, false),
  (⟨"DuneMapsModel", "shapeOf", "([II)I"⟩, prog_10_method_11_code, "DuneMapsModel", 4, some .int, false),
  (⟨"DuneMapsModel", "leeOf", "(I)I"⟩, prog_10_method_12_code, "DuneMapsModel", 2, some .int, false),
  (⟨"DuneMapsModel", "luffOf", "(I)I"⟩, prog_10_method_13_code, "DuneMapsModel", 2, some .int, false),
  (⟨"DuneMapsModel", "walkersAt", "(I)I"⟩, prog_10_method_14_code, "DuneMapsModel", 4, some .int, false),
  (⟨"DuneMapsModel", "tellCell", "(II)I"⟩, prog_10_method_15_code, "DuneMapsModel", 3, some .int, false),
  (⟨"DuneMapsModel", "cell", "(II)I"⟩, prog_10_method_16_code, "DuneMapsModel", 3, some .int, false),
  (⟨"DuneMapsModel", "wind", "(Z)I"⟩, prog_10_method_17_code, "DuneMapsModel", 3, some .int, false),
  (⟨"DuneMapsModel", "crests", "([I)I"⟩, prog_10_method_18_code, "DuneMapsModel", 4, some .int, false),
  (⟨"DuneMapsModel", "ones", "(I)I"⟩, prog_10_method_19_code, "DuneMapsModel", 3, some .int, false),
  (⟨"DuneMapsModel", "nightOf", "([I)I"⟩, prog_10_method_20_code, "DuneMapsModel", 4, some .int, false),
  (⟨"DuneMapsModel", "night", "()I"⟩, prog_10_method_21_code, "DuneMapsModel", 1, some .int, false),
  (⟨"DuneMapsModel", "isWalker", "(I)Z"⟩, prog_10_method_22_code, "DuneMapsModel", 2, some .boolean, false),
  (⟨"DuneMapsModel", "weightOf", "(I)I"⟩, prog_10_method_23_code, "DuneMapsModel", 1, some .int, false),
  (⟨"DuneMapsModel", "treads", "([III)I"⟩, prog_10_method_24_code, "DuneMapsModel", 11, some .int, false),
  (⟨"DuneMapsModel", "stepTo", "(II)I"⟩, prog_10_method_25_code, "DuneMapsModel", 2, some .int, false),
  (⟨"DuneMapsModel", "walker", "(II)I"⟩, prog_10_method_26_code, "DuneMapsModel", 3, some .int, false),
  (⟨"DuneMapsModel", "hasMap", "(I)Z"⟩, prog_10_method_27_code, "DuneMapsModel", 2, some .boolean, false),
  (⟨"DuneMapsModel", "isGood", "([II)Z"⟩, prog_10_method_28_code, "DuneMapsModel", 6, some .boolean, false),
  (⟨"DuneMapsModel", "tell", "(II)I"⟩, prog_10_method_29_code, "DuneMapsModel", 3, some .int, false),
  (⟨"DuneMapsModel", "about", "(II)I"⟩, prog_10_method_30_code, "DuneMapsModel", 3, some .int, false),
  (⟨"DuneMapsModel", "as", "(II)I"⟩, prog_10_method_31_code, "DuneMapsModel", 5, some .int, false),
  (⟨"DuneMapsModel", "steps", "(II)I"⟩, prog_10_method_32_code, "DuneMapsModel", 3, some .int, false),
  (⟨"DuneMapsModel", "step", "(II)I"⟩, prog_10_method_33_code, "DuneMapsModel", 3, some .int, false),
  (⟨"DuneMapsModel", "map", "(III)I"⟩, prog_10_method_34_code, "DuneMapsModel", 7, some .int, false),
  (⟨"DuneMapsModel", "go", "(I)I"⟩, prog_10_method_35_code, "DuneMapsModel", 5, some .int, false),
  (⟨"DuneMapsModel", "goes", "(I)V"⟩, prog_10_method_36_code, "DuneMapsModel", 5, none, false),
  (⟨"DuneMapsModel", "layWho", "()V"⟩, prog_10_method_37_code, "DuneMapsModel", 2, none, false),
  (⟨"DuneMapsModel", "isOrder", "(I)Z"⟩, prog_10_method_38_code, "DuneMapsModel", 5, some .boolean, false),
  (⟨"DuneMapsModel", "layOrder", "()I"⟩, prog_10_method_39_code, "DuneMapsModel", 6, some .int, false),
  (⟨"DuneMapsModel", "tellOrder", "(I)I"⟩, prog_10_method_40_code, "DuneMapsModel", 3, some .int, false),
  (⟨"DuneMapsModel", "order", "(I)I"⟩, prog_10_method_41_code, "DuneMapsModel", 2, some .int, false),
  (⟨"DuneMapsModel", "highBy", "(IIII)I"⟩, prog_10_method_42_code, "DuneMapsModel", 8, some .int, false),
  (⟨"DuneMapsModel", "feetOf", "(IIII)I"⟩, prog_10_method_43_code, "DuneMapsModel", 9, some .int, false),
  (⟨"DuneMapsModel", "feet", "(IIII)I"⟩, prog_10_method_44_code, "DuneMapsModel", 5, some .int, false),
  (⟨"DuneMapsModel", "was", "()I"⟩, prog_10_method_45_code, "DuneMapsModel", 2, some .int, false),
  (⟨"DuneMapsModel", "isAsNow", "()Z"⟩, prog_10_method_46_code, "DuneMapsModel", 3, some .boolean, false),
  (⟨"DuneMapsModel", "whoOf", "(I)I"⟩, prog_10_method_47_code, "DuneMapsModel", 8, some .int, false),
  (⟨"DuneMapsModel", "who", "(I)I"⟩, prog_10_method_48_code, "DuneMapsModel", 2, some .int, false),
  (⟨"DuneMapsModel", "draw", "(I)I"⟩, prog_10_method_49_code, "DuneMapsModel", 2, some .int, false),
  (⟨"DuneMapsModel", "moons", "(III)I"⟩, prog_10_method_50_code, "DuneMapsModel", 8, some .int, false),
  (⟨"DuneMapsModel", "image", "()I"⟩, prog_10_method_51_code, "DuneMapsModel", 1, some .int, false),
  (⟨"DuneMapsModel", "restore", "()I"⟩, prog_10_method_52_code, "DuneMapsModel", 1, some .int, false),
  (⟨"DuneMapsModel", "sumBy", "(I)I"⟩, prog_10_method_53_code, "DuneMapsModel", 4, some .int, false),
  (⟨"DuneMapsModel", "countOf", "(I)I"⟩, prog_10_method_54_code, "DuneMapsModel", 2, some .int, false),
  (⟨"DuneMapsModel", "count", "(I)I"⟩, prog_10_method_55_code, "DuneMapsModel", 2, some .int, false),
  (⟨"DuneMapsModel", "say", "(J)V"⟩, prog_10_method_56_code, "DuneMapsModel", 3, none, false),
  (⟨"DuneMapsModel", "sayDunes", "()V"⟩, prog_10_method_57_code, "DuneMapsModel", 3, none, false),
  (⟨"DuneMapsModel", "digest", "()J"⟩, prog_10_method_58_code, "DuneMapsModel", 3, some .long, false),
  (⟨"java/lang/Integer", "bitCount", "(I)I"⟩, prog_11_method_49_code, "java/lang/Integer", 1, some .int, false),
  (⟨"java/lang/Math", "max", "(II)I"⟩, prog_12_method_65_code, "java/lang/Math", 2, some .int, false),
  (⟨"java/lang/Math", "min", "(II)I"⟩, prog_12_method_69_code, "java/lang/Math", 2, some .int, false)]
def mNo : MethodName × sI := (⟨"DuneMaps", "", ""⟩, cX7_init, "DuneMaps", 0, none, false)
def mM : mI := fun y => mTab.getD y mNo
end
section
def tb_0 : List (Nat × pO) := [(0, o_al 0 1), (1, o_obj 4), (4, o_vret)]
set_option maxRecDepth 20000 in
theorem tk_0 : ∀ q ∈ tb_0, okA noS mM (prog_2_method_1_code, "DuneMaps$Dusk", 1, none, true) q.1 q.2 :=
  List.forall_mem_cons.mpr ⟨k_alN (i := 0) (by decide +kernel) rfl,
  List.forall_mem_cons.mpr ⟨k_obj w_212 w_56 w_57 (by decide +kernel),
  List.forall_mem_cons.mpr ⟨k_vret (by decide +kernel),
  fun _ h => absurd h List.not_mem_nil⟩⟩⟩
def tb_1 : List (Nat × pO) := [(0, o_al 0 1), (1, o_const (.int (0)) 2), (2, o_pf okI 0 0 5), (5, o_al 0 6), (6, o_const (.int (-1)) 7), (7, o_pf okI 0 1 10), (10, o_const (.int (0)) 11), (11, o_is 4 13), (13, o_il 4 15), (15, o_const (.int (80)) 17), (17, o_cmp (fun x y => y ≤ x) 47 20), (20, o_al 3 21), (21, o_al 1 22), (22, o_call (rcV 5) 32 2 25), (25, o_al 3 26), (26, o_al 2 27), (27, o_gf 5 1 30), (30, o_pf okZ 5 1 33), (33, o_al 0 34), (34, o_il 4 36), (36, o_al 2 37), (37, o_al 3 38), (38, o_call (rcV 0) 2 4 41), (41, o_inc 4 (1) 44), (44, o_goto 13), (47, o_vret)]
set_option maxRecDepth 20000 in
theorem tk_1 : ∀ q ∈ tb_1, okA noS mM (prog_2_method_2_code, "DuneMaps$Dusk", 5, none, false) q.1 q.2 :=
  List.forall_mem_cons.mpr ⟨k_alN (i := 0) (by decide +kernel) rfl,
  List.forall_mem_cons.mpr ⟨k_iconst (n := 0) (0) (by decide +kernel) (by decide),
  List.forall_mem_cons.mpr ⟨k_pf (j := 0) (T := TX0) tyX0 tyX0_ok nmX0 okI_fit rfl inX0G (by decide) rfl (by decide +kernel) w_213 (by decide +kernel),
  List.forall_mem_cons.mpr ⟨k_alN (i := 0) (by decide +kernel) rfl,
  List.forall_mem_cons.mpr ⟨k_iconst (n := -1) (-1) (by decide +kernel) (by decide),
  List.forall_mem_cons.mpr ⟨k_pf (j := 1) (T := TX0) tyX0 tyX0_ok nmX0 okI_fit rfl inX0G (by decide) rfl (by decide +kernel) w_215 (by decide +kernel),
  List.forall_mem_cons.mpr ⟨k_iconst (n := 0) (0) (by decide +kernel) (by decide),
  List.forall_mem_cons.mpr ⟨k_is (by decide +kernel),
  List.forall_mem_cons.mpr ⟨k_il (by decide +kernel),
  List.forall_mem_cons.mpr ⟨k_bipush (n := 80) (80) (by decide +kernel) (by decide),
  List.forall_mem_cons.mpr ⟨k_icmp_ge (off := 30) (by decide +kernel) (by decide),
  List.forall_mem_cons.mpr ⟨k_alN (i := 3) (by decide +kernel) rfl,
  List.forall_mem_cons.mpr ⟨k_alN (i := 1) (by decide +kernel) rfl,
  List.forall_mem_cons.mpr ⟨k_callV (y := 32) (n := 1) (ci := 5) rfl w_524 w_473 w_474 w_42 w_475 (by decide +kernel) (by decide) (by decide +kernel),
  List.forall_mem_cons.mpr ⟨k_alN (i := 3) (by decide +kernel) rfl,
  List.forall_mem_cons.mpr ⟨k_alN (i := 2) (by decide +kernel) rfl,
  List.forall_mem_cons.mpr ⟨k_gf (j := 1) (T := TX5) rfl inX5G (by decide) w_86 (by decide +kernel),
  List.forall_mem_cons.mpr ⟨k_pf (j := 1) (T := TX5) tyX5 tyX5_ok nmX5 okZ_fit rfl inX5G (by decide) rfl (by decide +kernel) w_86 (by decide +kernel),
  List.forall_mem_cons.mpr ⟨k_alN (i := 0) (by decide +kernel) rfl,
  List.forall_mem_cons.mpr ⟨k_il (by decide +kernel),
  List.forall_mem_cons.mpr ⟨k_alN (i := 2) (by decide +kernel) rfl,
  List.forall_mem_cons.mpr ⟨k_alN (i := 3) (by decide +kernel) rfl,
  List.forall_mem_cons.mpr ⟨k_callV (y := 2) (n := 3) (ci := 0) rfl w_525 w_527 w_7 w_46 w_528 (by decide +kernel) (by decide) (by decide +kernel),
  List.forall_mem_cons.mpr ⟨k_inc (n := 1) (1) (by decide +kernel) (by decide),
  List.forall_mem_cons.mpr ⟨k_goto (off := -31) (by decide +kernel) (by decide),
  List.forall_mem_cons.mpr ⟨k_vret (by decide +kernel),
  fun _ h => absurd h List.not_mem_nil⟩⟩⟩⟩⟩⟩⟩⟩⟩⟩⟩⟩⟩⟩⟩⟩⟩⟩⟩⟩⟩⟩⟩⟩⟩⟩
def tb_2 : List (Nat × pO) := [(0, o_il 1 1), (1, o_const (.int (1)) 2), (2, o_bin (fun x y => x &&& y) 3), (3, o_is 4 5), (5, o_il 1 6), (6, o_const (.int (1)) 7), (7, o_bin (fun x y => x >>> (y &&& 31)) 8), (8, o_const (.int (7)) 10), (10, o_bin (fun x y => x &&& y) 11), (11, o_is 5 13), (13, o_il 1 14), (14, o_const (.int (4)) 15), (15, o_bin (fun x y => x >>> (y &&& 31)) 16), (16, o_is 6 18), (18, o_const (.int (0)) 19), (19, o_is 7 21), (21, o_il 7 23), (23, o_const (.int (8)) 25), (25, o_cmp (fun x y => y ≤ x) 96 28), (28, o_il 5 30), (30, o_il 4 32), (32, o_call rc0 83 2 35), (35, o_is 5 37), (37, o_al 3 38), (38, o_il 5 40), (40, o_il 6 42), (42, o_call (rcV 5) 39 3 45), (45, o_pop 46), (46, o_al 3 47), (47, o_al 2 48), (48, o_call (rcV 5) 33 2 51), (51, o_if (fun x => x = 0) 90 54), (54, o_al 0 55), (55, o_dup 56), (56, o_gf 0 0 59), (59, o_const (.int (1)) 60), (60, o_bin (fun x y => x + y) 61), (61, o_pf okI 0 0 64), (64, o_al 0 65), (65, o_al 0 66), (66, o_gf 0 1 69), (69, o_const (.int (-1)) 70), (70, o_cmp (fun x y => ¬ x = y) 83 73), (73, o_il 1 74), (74, o_const (.int (8)) 76), (76, o_bin (fun x y => x * y) 77), (77, o_il 7 79), (79, o_bin (fun x y => x + y) 80), (80, o_goto 87), (83, o_al 0 84), (84, o_gf 0 1 87), (87, o_pf okI 0 1 90), (90, o_inc 7 (1) 93), (93, o_goto 21), (96, o_vret)]
set_option maxRecDepth 20000 in
theorem tk_2 : ∀ q ∈ tb_2, okA noS mM (prog_2_method_3_code, "DuneMaps$Dusk", 8, none, false) q.1 q.2 :=
  List.forall_mem_cons.mpr ⟨k_ilN (i := 1) (by decide +kernel) rfl,
  List.forall_mem_cons.mpr ⟨k_iconst (n := 1) (1) (by decide +kernel) (by decide),
  List.forall_mem_cons.mpr ⟨k_iand (by decide +kernel),
  List.forall_mem_cons.mpr ⟨k_is (by decide +kernel),
  List.forall_mem_cons.mpr ⟨k_ilN (i := 1) (by decide +kernel) rfl,
  List.forall_mem_cons.mpr ⟨k_iconst (n := 1) (1) (by decide +kernel) (by decide),
  List.forall_mem_cons.mpr ⟨k_ishr (by decide +kernel),
  List.forall_mem_cons.mpr ⟨k_bipush (n := 7) (7) (by decide +kernel) (by decide),
  List.forall_mem_cons.mpr ⟨k_iand (by decide +kernel),
  List.forall_mem_cons.mpr ⟨k_is (by decide +kernel),
  List.forall_mem_cons.mpr ⟨k_ilN (i := 1) (by decide +kernel) rfl,
  List.forall_mem_cons.mpr ⟨k_iconst (n := 4) (4) (by decide +kernel) (by decide),
  List.forall_mem_cons.mpr ⟨k_ishr (by decide +kernel),
  List.forall_mem_cons.mpr ⟨k_is (by decide +kernel),
  List.forall_mem_cons.mpr ⟨k_iconst (n := 0) (0) (by decide +kernel) (by decide),
  List.forall_mem_cons.mpr ⟨k_is (by decide +kernel),
  List.forall_mem_cons.mpr ⟨k_il (by decide +kernel),
  List.forall_mem_cons.mpr ⟨k_bipush (n := 8) (8) (by decide +kernel) (by decide),
  List.forall_mem_cons.mpr ⟨k_icmp_ge (off := 71) (by decide +kernel) (by decide),
  List.forall_mem_cons.mpr ⟨k_il (by decide +kernel),
  List.forall_mem_cons.mpr ⟨k_il (by decide +kernel),
  List.forall_mem_cons.mpr ⟨k_callSN (idx := 32) (y := 83) (n := 2) (host := "DuneMaps") (by decide +kernel) w_410 w_39 w_411 (by decide +kernel) (by decide) (by decide +kernel),
  List.forall_mem_cons.mpr ⟨k_is (by decide +kernel),
  List.forall_mem_cons.mpr ⟨k_alN (i := 3) (by decide +kernel) rfl,
  List.forall_mem_cons.mpr ⟨k_il (by decide +kernel),
  List.forall_mem_cons.mpr ⟨k_il (by decide +kernel),
  List.forall_mem_cons.mpr ⟨k_callV (y := 39) (n := 2) (ci := 5) rfl w_530 w_430 w_431 w_42 w_432 (by decide +kernel) (by decide) (by decide +kernel),
  List.forall_mem_cons.mpr ⟨k_pop (by decide +kernel),
  List.forall_mem_cons.mpr ⟨k_alN (i := 3) (by decide +kernel) rfl,
  List.forall_mem_cons.mpr ⟨k_alN (i := 2) (by decide +kernel) rfl,
  List.forall_mem_cons.mpr ⟨k_callV (y := 33) (n := 1) (ci := 5) rfl w_531 w_532 w_533 w_42 w_534 (by decide +kernel) (by decide) (by decide +kernel),
  List.forall_mem_cons.mpr ⟨k_if_eq (off := 39) (by decide +kernel) (by decide),
  List.forall_mem_cons.mpr ⟨k_alN (i := 0) (by decide +kernel) rfl,
  List.forall_mem_cons.mpr ⟨k_dup (by decide +kernel),
  List.forall_mem_cons.mpr ⟨k_gf (j := 0) (T := TX0) rfl inX0G (by decide) w_213 (by decide +kernel),
  List.forall_mem_cons.mpr ⟨k_iconst (n := 1) (1) (by decide +kernel) (by decide),
  List.forall_mem_cons.mpr ⟨k_iadd (by decide +kernel),
  List.forall_mem_cons.mpr ⟨k_pf (j := 0) (T := TX0) tyX0 tyX0_ok nmX0 okI_fit rfl inX0G (by decide) rfl (by decide +kernel) w_213 (by decide +kernel),
  List.forall_mem_cons.mpr ⟨k_alN (i := 0) (by decide +kernel) rfl,
  List.forall_mem_cons.mpr ⟨k_alN (i := 0) (by decide +kernel) rfl,
  List.forall_mem_cons.mpr ⟨k_gf (j := 1) (T := TX0) rfl inX0G (by decide) w_215 (by decide +kernel),
  List.forall_mem_cons.mpr ⟨k_iconst (n := -1) (-1) (by decide +kernel) (by decide),
  List.forall_mem_cons.mpr ⟨k_icmp_ne (off := 13) (by decide +kernel) (by decide),
  List.forall_mem_cons.mpr ⟨k_ilN (i := 1) (by decide +kernel) rfl,
  List.forall_mem_cons.mpr ⟨k_bipush (n := 8) (8) (by decide +kernel) (by decide),
  List.forall_mem_cons.mpr ⟨k_imul (by decide +kernel),
  List.forall_mem_cons.mpr ⟨k_il (by decide +kernel),
  List.forall_mem_cons.mpr ⟨k_iadd (by decide +kernel),
  List.forall_mem_cons.mpr ⟨k_goto (off := 7) (by decide +kernel) (by decide),
  List.forall_mem_cons.mpr ⟨k_alN (i := 0) (by decide +kernel) rfl,
  List.forall_mem_cons.mpr ⟨k_gf (j := 1) (T := TX0) rfl inX0G (by decide) w_215 (by decide +kernel),
  List.forall_mem_cons.mpr ⟨k_pf (j := 1) (T := TX0) tyX0 tyX0_ok nmX0 okI_fit rfl inX0G (by decide) rfl (by decide +kernel) w_215 (by decide +kernel),
  List.forall_mem_cons.mpr ⟨k_inc (n := 1) (1) (by decide +kernel) (by decide),
  List.forall_mem_cons.mpr ⟨k_goto (off := -72) (by decide +kernel) (by decide),
  List.forall_mem_cons.mpr ⟨k_vret (by decide +kernel),
  fun _ h => absurd h List.not_mem_nil⟩⟩⟩⟩⟩⟩⟩⟩⟩⟩⟩⟩⟩⟩⟩⟩⟩⟩⟩⟩⟩⟩⟩⟩⟩⟩⟩⟩⟩⟩⟩⟩⟩⟩⟩⟩⟩⟩⟩⟩⟩⟩⟩⟩⟩⟩⟩⟩⟩⟩⟩⟩⟩⟩⟩
def tb_3 : List (Nat × pO) := [(0, o_al 0 1), (1, o_obj 4), (4, o_al 0 5), (5, o_const (.int (9)) 7), (7, o_anew 0 10), (10, o_pf okR 1 0 13), (13, o_const (.int (0)) 14), (14, o_is 1 15), (15, o_il 1 16), (16, o_const (.int (8)) 18), (18, o_cmp (fun x y => y < x) 40 21), (21, o_al 0 22), (22, o_gf 1 0 25), (25, o_il 1 26), (26, o_new 5 [.null, .int 0] 29), (29, o_dup 30), (30, o_call rcI 28 1 33), (33, o_ast 0 5 34), (34, o_inc 1 (1) 37), (37, o_goto 15), (40, o_vret)]
set_option maxRecDepth 20000 in
theorem tk_3 : ∀ q ∈ tb_3, okA noS mM (prog_3_method_1_code, "DuneMaps$Footing", 2, none, true) q.1 q.2 :=
  List.forall_mem_cons.mpr ⟨k_alN (i := 0) (by decide +kernel) rfl,
  List.forall_mem_cons.mpr ⟨k_obj w_180 w_56 w_57 (by decide +kernel),
  List.forall_mem_cons.mpr ⟨k_alN (i := 0) (by decide +kernel) rfl,
  List.forall_mem_cons.mpr ⟨k_bipush (n := 9) (9) (by decide +kernel) (by decide),
  List.forall_mem_cons.mpr ⟨k_anew 1 (fun _ => rfl) (fun _ _ q => q.2.2.1) w_181 (by decide +kernel),
  List.forall_mem_cons.mpr ⟨k_pfF (j := 0) (T := TX1) tyX1 tyX1_ok nmX1 (okR_fitA (.object "DuneMaps$Sand")) rfl inX1G (by decide) rfl rfl (by decide +kernel) w_183 (by decide +kernel),
  List.forall_mem_cons.mpr ⟨k_iconst (n := 0) (0) (by decide +kernel) (by decide),
  List.forall_mem_cons.mpr ⟨k_isN (i := 1) (by decide +kernel) rfl,
  List.forall_mem_cons.mpr ⟨k_ilN (i := 1) (by decide +kernel) rfl,
  List.forall_mem_cons.mpr ⟨k_bipush (n := 8) (8) (by decide +kernel) (by decide),
  List.forall_mem_cons.mpr ⟨k_icmp_gt (off := 22) (by decide +kernel) (by decide),
  List.forall_mem_cons.mpr ⟨k_alN (i := 0) (by decide +kernel) rfl,
  List.forall_mem_cons.mpr ⟨k_gf (j := 0) (T := TX1) rfl inX1G (by decide) w_183 (by decide +kernel),
  List.forall_mem_cons.mpr ⟨k_ilN (i := 1) (by decide +kernel) rfl,
  List.forall_mem_cons.mpr ⟨k_new (T := TX5) tyX5 [.null, .int 0] tyX5_ok rfl inX5G w_181 w_80 w_42 rfl (fun _ => nwX5) (by decide +kernel),
  List.forall_mem_cons.mpr ⟨k_dup (by decide +kernel),
  List.forall_mem_cons.mpr ⟨k_callIN (idx := 17) (y := 28) (n := 0) (host := "DuneMaps") (by decide +kernel) w_82 w_42 rfl w_83 rfl (by decide +kernel) (by decide) (by decide +kernel),
  List.forall_mem_cons.mpr ⟨k_ast (r := (RX5, TX5, 2)) 1 (fun _ => rfl) rfl (by decide +kernel),
  List.forall_mem_cons.mpr ⟨k_inc (n := 1) (1) (by decide +kernel) (by decide),
  List.forall_mem_cons.mpr ⟨k_goto (off := -22) (by decide +kernel) (by decide),
  List.forall_mem_cons.mpr ⟨k_vret (by decide +kernel),
  fun _ h => absurd h List.not_mem_nil⟩⟩⟩⟩⟩⟩⟩⟩⟩⟩⟩⟩⟩⟩⟩⟩⟩⟩⟩⟩⟩
def tb_4 : List (Nat × pO) := [(0, o_al 0 1), (1, o_al 2 2), (2, o_gf 6 1 5), (5, o_pf okI 1 1 8), (8, o_al 0 9), (9, o_il 3 10), (10, o_pf okI 1 2 13), (13, o_al 0 14), (14, o_il 4 16), (16, o_pf okI 1 3 19), (19, o_al 0 20), (20, o_const (.int (8)) 22), (22, o_pf okI 1 4 25), (25, o_al 0 26), (26, o_const (.int (-1)) 27), (27, o_pf okI 1 5 30), (30, o_al 0 31), (31, o_const (.int (-1)) 32), (32, o_pf okI 1 6 35), (35, o_al 0 36), (36, o_gf 1 0 39), (39, o_const (.int (0)) 40), (40, o_aa 41), (41, o_al 1 42), (42, o_call (rcV 5) 31 2 45), (45, o_al 0 46), (46, o_al 2 47), (47, o_gf 6 2 50), (50, o_const (.int (0)) 51), (51, o_const (.int (0)) 52), (52, o_call (rcV 1) 5 4 55), (55, o_vret)]
set_option maxRecDepth 20000 in
theorem tk_4 : ∀ q ∈ tb_4, okA noS mM (prog_3_method_2_code, "DuneMaps$Footing", 5, none, false) q.1 q.2 :=
  List.forall_mem_cons.mpr ⟨k_alN (i := 0) (by decide +kernel) rfl,
  List.forall_mem_cons.mpr ⟨k_alN (i := 2) (by decide +kernel) rfl,
  List.forall_mem_cons.mpr ⟨k_gf (j := 1) (T := TX6) rfl inX6G (by decide) w_103 (by decide +kernel),
  List.forall_mem_cons.mpr ⟨k_pf (j := 1) (T := TX1) tyX1 tyX1_ok nmX1 okI_fit rfl inX1G (by decide) rfl (by decide +kernel) w_184 (by decide +kernel),
  List.forall_mem_cons.mpr ⟨k_alN (i := 0) (by decide +kernel) rfl,
  List.forall_mem_cons.mpr ⟨k_ilN (i := 3) (by decide +kernel) rfl,
  List.forall_mem_cons.mpr ⟨k_pf (j := 2) (T := TX1) tyX1 tyX1_ok nmX1 okI_fit rfl inX1G (by decide) rfl (by decide +kernel) w_185 (by decide +kernel),
  List.forall_mem_cons.mpr ⟨k_alN (i := 0) (by decide +kernel) rfl,
  List.forall_mem_cons.mpr ⟨k_il (by decide +kernel),
  List.forall_mem_cons.mpr ⟨k_pf (j := 3) (T := TX1) tyX1 tyX1_ok nmX1 okI_fit rfl inX1G (by decide) rfl (by decide +kernel) w_186 (by decide +kernel),
  List.forall_mem_cons.mpr ⟨k_alN (i := 0) (by decide +kernel) rfl,
  List.forall_mem_cons.mpr ⟨k_bipush (n := 8) (8) (by decide +kernel) (by decide),
  List.forall_mem_cons.mpr ⟨k_pf (j := 4) (T := TX1) tyX1 tyX1_ok nmX1 okI_fit rfl inX1G (by decide) rfl (by decide +kernel) w_187 (by decide +kernel),
  List.forall_mem_cons.mpr ⟨k_alN (i := 0) (by decide +kernel) rfl,
  List.forall_mem_cons.mpr ⟨k_iconst (n := -1) (-1) (by decide +kernel) (by decide),
  List.forall_mem_cons.mpr ⟨k_pf (j := 5) (T := TX1) tyX1 tyX1_ok nmX1 okI_fit rfl inX1G (by decide) rfl (by decide +kernel) w_188 (by decide +kernel),
  List.forall_mem_cons.mpr ⟨k_alN (i := 0) (by decide +kernel) rfl,
  List.forall_mem_cons.mpr ⟨k_iconst (n := -1) (-1) (by decide +kernel) (by decide),
  List.forall_mem_cons.mpr ⟨k_pf (j := 6) (T := TX1) tyX1 tyX1_ok nmX1 okI_fit rfl inX1G (by decide) rfl (by decide +kernel) w_190 (by decide +kernel),
  List.forall_mem_cons.mpr ⟨k_alN (i := 0) (by decide +kernel) rfl,
  List.forall_mem_cons.mpr ⟨k_gf (j := 0) (T := TX1) rfl inX1G (by decide) w_183 (by decide +kernel),
  List.forall_mem_cons.mpr ⟨k_iconst (n := 0) (0) (by decide +kernel) (by decide),
  List.forall_mem_cons.mpr ⟨k_aa (by decide +kernel),
  List.forall_mem_cons.mpr ⟨k_alN (i := 1) (by decide +kernel) rfl,
  List.forall_mem_cons.mpr ⟨k_callV (y := 31) (n := 1) (ci := 5) rfl w_504 w_469 w_470 w_42 w_471 (by decide +kernel) (by decide) (by decide +kernel),
  List.forall_mem_cons.mpr ⟨k_alN (i := 0) (by decide +kernel) rfl,
  List.forall_mem_cons.mpr ⟨k_alN (i := 2) (by decide +kernel) rfl,
  List.forall_mem_cons.mpr ⟨k_gf (j := 2) (T := TX6) rfl inX6G (by decide) w_106 (by decide +kernel),
  List.forall_mem_cons.mpr ⟨k_iconst (n := 0) (0) (by decide +kernel) (by decide),
  List.forall_mem_cons.mpr ⟨k_iconst (n := 0) (0) (by decide +kernel) (by decide),
  List.forall_mem_cons.mpr ⟨k_callV (y := 5) (n := 3) (ci := 1) rfl w_505 w_507 w_6 w_45 w_508 (by decide +kernel) (by decide) (by decide +kernel),
  List.forall_mem_cons.mpr ⟨k_vret (by decide +kernel),
  fun _ h => absurd h List.not_mem_nil⟩⟩⟩⟩⟩⟩⟩⟩⟩⟩⟩⟩⟩⟩⟩⟩⟩⟩⟩⟩⟩⟩⟩⟩⟩⟩⟩⟩⟩⟩⟩⟩
def tb_5 : List (Nat × pO) := [(0, o_il 2 1), (1, o_if (fun x => x < 0) 18 4), (4, o_il 2 5), (5, o_al 0 6), (6, o_gf 1 4 9), (9, o_cmp (fun x y => y < x) 18 12), (12, o_il 2 13), (13, o_const (.int (8)) 15), (15, o_cmp (fun x y => x ≤ y) 19 18), (18, o_vret), (19, o_al 0 20), (20, o_gf 1 0 23), (23, o_il 2 24), (24, o_aa 25), (25, o_al 0 26), (26, o_gf 1 2 29), (29, o_call (rcV 5) 29 2 32), (32, o_al 0 33), (33, o_gf 1 3 36), (36, o_cmp (fun x y => y < x) 57 39), (39, o_al 0 40), (40, o_il 2 41), (41, o_pf okI 1 5 44), (44, o_al 0 45), (45, o_il 3 46), (46, o_pf okI 1 6 49), (49, o_al 0 50), (50, o_il 2 51), (51, o_const (.int (1)) 52), (52, o_bin (fun x y => x - y) 53), (53, o_pf okI 1 4 56), (56, o_vret), (57, o_const (.int (0)) 58), (58, o_is 4 60), (60, o_il 4 62), (62, o_const (.int (1)) 63), (63, o_cmp (fun x y => y < x) 144 66), (66, o_il 2 67), (67, o_al 0 68), (68, o_gf 1 4 71), (71, o_cmp (fun x y => y ≤ x) 138 74), (74, o_il 2 75), (75, o_const (.int (8)) 77), (77, o_cmp (fun x y => y ≤ x) 138 80), (80, o_il 1 81), (81, o_il 4 83), (83, o_call rc0 83 2 86), (86, o_is 5 88), (88, o_al 0 89), (89, o_gf 1 0 92), (92, o_il 2 93), (93, o_const (.int (1)) 94), (94, o_bin (fun x y => x + y) 95), (95, o_aa 96), (96, o_al 0 97), (97, o_gf 1 0 100), (100, o_il 2 101), (101, o_aa 102), (102, o_call (rcV 5) 31 2 105), (105, o_al 0 106), (106, o_gf 1 0 109), (109, o_il 2 110), (110, o_const (.int (1)) 111), (111, o_bin (fun x y => x + y) 112), (112, o_aa 113), (113, o_il 5 115), (115, o_al 0 116), (116, o_gf 1 1 119), (119, o_call (rcV 5) 39 3 122), (122, o_pop 123), (123, o_al 0 124), (124, o_il 5 126), (126, o_il 2 127), (127, o_const (.int (1)) 128), (128, o_bin (fun x y => x + y) 129), (129, o_il 3 130), (130, o_il 4 132), (132, o_il 2 133), (133, o_bin (fun x y => x <<< (y &&& 31)) 134), (134, o_bin (fun x y => x ||| y) 135), (135, o_call (rcV 1) 5 4 138), (138, o_inc 4 (1) 141), (141, o_goto 60), (144, o_vret)]
set_option maxRecDepth 20000 in
theorem tk_5 : ∀ q ∈ tb_5, okA noS mM (prog_3_method_3_code, "DuneMaps$Footing", 6, none, false) q.1 q.2 :=
  List.forall_mem_cons.mpr ⟨k_ilN (i := 2) (by decide +kernel) rfl,
  List.forall_mem_cons.mpr ⟨k_if_lt (off := 17) (by decide +kernel) (by decide),
  List.forall_mem_cons.mpr ⟨k_ilN (i := 2) (by decide +kernel) rfl,
  List.forall_mem_cons.mpr ⟨k_alN (i := 0) (by decide +kernel) rfl,
  List.forall_mem_cons.mpr ⟨k_gf (j := 4) (T := TX1) rfl inX1G (by decide) w_187 (by decide +kernel),
  List.forall_mem_cons.mpr ⟨k_icmp_gt (off := 9) (by decide +kernel) (by decide),
  List.forall_mem_cons.mpr ⟨k_ilN (i := 2) (by decide +kernel) rfl,
  List.forall_mem_cons.mpr ⟨k_bipush (n := 8) (8) (by decide +kernel) (by decide),
  List.forall_mem_cons.mpr ⟨k_icmp_le (off := 4) (by decide +kernel) (by decide),
  List.forall_mem_cons.mpr ⟨k_vret (by decide +kernel),
  List.forall_mem_cons.mpr ⟨k_alN (i := 0) (by decide +kernel) rfl,
  List.forall_mem_cons.mpr ⟨k_gf (j := 0) (T := TX1) rfl inX1G (by decide) w_183 (by decide +kernel),
  List.forall_mem_cons.mpr ⟨k_ilN (i := 2) (by decide +kernel) rfl,
  List.forall_mem_cons.mpr ⟨k_aa (by decide +kernel),
  List.forall_mem_cons.mpr ⟨k_alN (i := 0) (by decide +kernel) rfl,
  List.forall_mem_cons.mpr ⟨k_gf (j := 2) (T := TX1) rfl inX1G (by decide) w_185 (by decide +kernel),
  List.forall_mem_cons.mpr ⟨k_callV (y := 29) (n := 1) (ci := 5) rfl w_509 w_324 w_325 w_42 w_326 (by decide +kernel) (by decide) (by decide +kernel),
  List.forall_mem_cons.mpr ⟨k_alN (i := 0) (by decide +kernel) rfl,
  List.forall_mem_cons.mpr ⟨k_gf (j := 3) (T := TX1) rfl inX1G (by decide) w_186 (by decide +kernel),
  List.forall_mem_cons.mpr ⟨k_icmp_gt (off := 21) (by decide +kernel) (by decide),
  List.forall_mem_cons.mpr ⟨k_alN (i := 0) (by decide +kernel) rfl,
  List.forall_mem_cons.mpr ⟨k_ilN (i := 2) (by decide +kernel) rfl,
  List.forall_mem_cons.mpr ⟨k_pf (j := 5) (T := TX1) tyX1 tyX1_ok nmX1 okI_fit rfl inX1G (by decide) rfl (by decide +kernel) w_188 (by decide +kernel),
  List.forall_mem_cons.mpr ⟨k_alN (i := 0) (by decide +kernel) rfl,
  List.forall_mem_cons.mpr ⟨k_ilN (i := 3) (by decide +kernel) rfl,
  List.forall_mem_cons.mpr ⟨k_pf (j := 6) (T := TX1) tyX1 tyX1_ok nmX1 okI_fit rfl inX1G (by decide) rfl (by decide +kernel) w_190 (by decide +kernel),
  List.forall_mem_cons.mpr ⟨k_alN (i := 0) (by decide +kernel) rfl,
  List.forall_mem_cons.mpr ⟨k_ilN (i := 2) (by decide +kernel) rfl,
  List.forall_mem_cons.mpr ⟨k_iconst (n := 1) (1) (by decide +kernel) (by decide),
  List.forall_mem_cons.mpr ⟨k_isub (by decide +kernel),
  List.forall_mem_cons.mpr ⟨k_pf (j := 4) (T := TX1) tyX1 tyX1_ok nmX1 okI_fit rfl inX1G (by decide) rfl (by decide +kernel) w_187 (by decide +kernel),
  List.forall_mem_cons.mpr ⟨k_vret (by decide +kernel),
  List.forall_mem_cons.mpr ⟨k_iconst (n := 0) (0) (by decide +kernel) (by decide),
  List.forall_mem_cons.mpr ⟨k_is (by decide +kernel),
  List.forall_mem_cons.mpr ⟨k_il (by decide +kernel),
  List.forall_mem_cons.mpr ⟨k_iconst (n := 1) (1) (by decide +kernel) (by decide),
  List.forall_mem_cons.mpr ⟨k_icmp_gt (off := 81) (by decide +kernel) (by decide),
  List.forall_mem_cons.mpr ⟨k_ilN (i := 2) (by decide +kernel) rfl,
  List.forall_mem_cons.mpr ⟨k_alN (i := 0) (by decide +kernel) rfl,
  List.forall_mem_cons.mpr ⟨k_gf (j := 4) (T := TX1) rfl inX1G (by decide) w_187 (by decide +kernel),
  List.forall_mem_cons.mpr ⟨k_icmp_ge (off := 67) (by decide +kernel) (by decide),
  List.forall_mem_cons.mpr ⟨k_ilN (i := 2) (by decide +kernel) rfl,
  List.forall_mem_cons.mpr ⟨k_bipush (n := 8) (8) (by decide +kernel) (by decide),
  List.forall_mem_cons.mpr ⟨k_icmp_ge (off := 61) (by decide +kernel) (by decide),
  List.forall_mem_cons.mpr ⟨k_ilN (i := 1) (by decide +kernel) rfl,
  List.forall_mem_cons.mpr ⟨k_il (by decide +kernel),
  List.forall_mem_cons.mpr ⟨k_callSN (idx := 55) (y := 83) (n := 2) (host := "DuneMaps") (by decide +kernel) w_410 w_39 w_411 (by decide +kernel) (by decide) (by decide +kernel),
  List.forall_mem_cons.mpr ⟨k_is (by decide +kernel),
  List.forall_mem_cons.mpr ⟨k_alN (i := 0) (by decide +kernel) rfl,
  List.forall_mem_cons.mpr ⟨k_gf (j := 0) (T := TX1) rfl inX1G (by decide) w_183 (by decide +kernel),
  List.forall_mem_cons.mpr ⟨k_ilN (i := 2) (by decide +kernel) rfl,
  List.forall_mem_cons.mpr ⟨k_iconst (n := 1) (1) (by decide +kernel) (by decide),
  List.forall_mem_cons.mpr ⟨k_iadd (by decide +kernel),
  List.forall_mem_cons.mpr ⟨k_aa (by decide +kernel),
  List.forall_mem_cons.mpr ⟨k_alN (i := 0) (by decide +kernel) rfl,
  List.forall_mem_cons.mpr ⟨k_gf (j := 0) (T := TX1) rfl inX1G (by decide) w_183 (by decide +kernel),
  List.forall_mem_cons.mpr ⟨k_ilN (i := 2) (by decide +kernel) rfl,
  List.forall_mem_cons.mpr ⟨k_aa (by decide +kernel),
  List.forall_mem_cons.mpr ⟨k_callV (y := 31) (n := 1) (ci := 5) rfl w_504 w_469 w_470 w_42 w_471 (by decide +kernel) (by decide) (by decide +kernel),
  List.forall_mem_cons.mpr ⟨k_alN (i := 0) (by decide +kernel) rfl,
  List.forall_mem_cons.mpr ⟨k_gf (j := 0) (T := TX1) rfl inX1G (by decide) w_183 (by decide +kernel),
  List.forall_mem_cons.mpr ⟨k_ilN (i := 2) (by decide +kernel) rfl,
  List.forall_mem_cons.mpr ⟨k_iconst (n := 1) (1) (by decide +kernel) (by decide),
  List.forall_mem_cons.mpr ⟨k_iadd (by decide +kernel),
  List.forall_mem_cons.mpr ⟨k_aa (by decide +kernel),
  List.forall_mem_cons.mpr ⟨k_il (by decide +kernel),
  List.forall_mem_cons.mpr ⟨k_alN (i := 0) (by decide +kernel) rfl,
  List.forall_mem_cons.mpr ⟨k_gf (j := 1) (T := TX1) rfl inX1G (by decide) w_184 (by decide +kernel),
  List.forall_mem_cons.mpr ⟨k_callV (y := 39) (n := 2) (ci := 5) rfl w_511 w_430 w_431 w_42 w_432 (by decide +kernel) (by decide) (by decide +kernel),
  List.forall_mem_cons.mpr ⟨k_pop (by decide +kernel),
  List.forall_mem_cons.mpr ⟨k_alN (i := 0) (by decide +kernel) rfl,
  List.forall_mem_cons.mpr ⟨k_il (by decide +kernel),
  List.forall_mem_cons.mpr ⟨k_ilN (i := 2) (by decide +kernel) rfl,
  List.forall_mem_cons.mpr ⟨k_iconst (n := 1) (1) (by decide +kernel) (by decide),
  List.forall_mem_cons.mpr ⟨k_iadd (by decide +kernel),
  List.forall_mem_cons.mpr ⟨k_ilN (i := 3) (by decide +kernel) rfl,
  List.forall_mem_cons.mpr ⟨k_il (by decide +kernel),
  List.forall_mem_cons.mpr ⟨k_ilN (i := 2) (by decide +kernel) rfl,
  List.forall_mem_cons.mpr ⟨k_ishl (by decide +kernel),
  List.forall_mem_cons.mpr ⟨k_ior (by decide +kernel),
  List.forall_mem_cons.mpr ⟨k_callV (y := 5) (n := 3) (ci := 1) rfl w_505 w_507 w_6 w_45 w_508 (by decide +kernel) (by decide) (by decide +kernel),
  List.forall_mem_cons.mpr ⟨k_inc (n := 1) (1) (by decide +kernel) (by decide),
  List.forall_mem_cons.mpr ⟨k_goto (off := -81) (by decide +kernel) (by decide),
  List.forall_mem_cons.mpr ⟨k_vret (by decide +kernel),
  fun _ h => absurd h List.not_mem_nil⟩⟩⟩⟩⟩⟩⟩⟩⟩⟩⟩⟩⟩⟩⟩⟩⟩⟩⟩⟩⟩⟩⟩⟩⟩⟩⟩⟩⟩⟩⟩⟩⟩⟩⟩⟩⟩⟩⟩⟩⟩⟩⟩⟩⟩⟩⟩⟩⟩⟩⟩⟩⟩⟩⟩⟩⟩⟩⟩⟩⟩⟩⟩⟩⟩⟩⟩⟩⟩⟩⟩⟩⟩⟩⟩⟩⟩⟩⟩⟩⟩⟩⟩⟩
def tb_6 : List (Nat × pO) := [(0, o_al 0 1), (1, o_obj 4), (4, o_al 0 5), (5, o_new 5 [.null, .int 0] 8), (8, o_dup 9), (9, o_call rcI 28 1 12), (12, o_pf okR 2 0 15), (15, o_al 0 16), (16, o_const (.int (4)) 17), (17, o_anew 1 20), (20, o_pf okR 2 1 23), (23, o_const (.int (0)) 24), (24, o_is 1 25), (25, o_il 1 26), (26, o_const (.int (4)) 27), (27, o_cmp (fun x y => y ≤ x) 49 30), (30, o_al 0 31), (31, o_gf 2 1 34), (34, o_il 1 35), (35, o_new 6 [.null, .int 0, .int 0, .int 0, .int 0, .int 0] 38), (38, o_dup 39), (39, o_call rcI 43 1 42), (42, o_ast 1 6 43), (43, o_inc 1 (1) 46), (46, o_goto 25), (49, o_vret)]
set_option maxRecDepth 20000 in
theorem tk_6 : ∀ q ∈ tb_6, okA noS mM (prog_4_method_1_code, "DuneMaps$Land", 2, none, true) q.1 q.2 :=
  List.forall_mem_cons.mpr ⟨k_alN (i := 0) (by decide +kernel) rfl,
  List.forall_mem_cons.mpr ⟨k_obj w_78 w_56 w_57 (by decide +kernel),
  List.forall_mem_cons.mpr ⟨k_alN (i := 0) (by decide +kernel) rfl,
  List.forall_mem_cons.mpr ⟨k_new (T := TX5) tyX5 [.null, .int 0] tyX5_ok rfl inX5G w_79 w_80 w_42 rfl (fun _ => nwX5) (by decide +kernel),
  List.forall_mem_cons.mpr ⟨k_dup (by decide +kernel),
  List.forall_mem_cons.mpr ⟨k_callIN (idx := 11) (y := 28) (n := 0) (host := "DuneMaps") (by decide +kernel) w_82 w_42 rfl w_83 rfl (by decide +kernel) (by decide) (by decide +kernel),
  List.forall_mem_cons.mpr ⟨k_pfF (j := 0) (T := TX2) tyX2 tyX2_ok nmX2 (okR_fitO "DuneMaps$Sand") rfl inX2G (by decide) rfl rfl (by decide +kernel) w_129 (by decide +kernel),
  List.forall_mem_cons.mpr ⟨k_alN (i := 0) (by decide +kernel) rfl,
  List.forall_mem_cons.mpr ⟨k_iconst (n := 4) (4) (by decide +kernel) (by decide),
  List.forall_mem_cons.mpr ⟨k_anew 2 (fun _ => rfl) (fun _ _ q => q.2.2.2) w_94 (by decide +kernel),
  List.forall_mem_cons.mpr ⟨k_pfF (j := 1) (T := TX2) tyX2 tyX2_ok nmX2 (okR_fitA (.object "DuneMaps$Walker")) rfl inX2G (by decide) rfl rfl (by decide +kernel) w_132 (by decide +kernel),
  List.forall_mem_cons.mpr ⟨k_iconst (n := 0) (0) (by decide +kernel) (by decide),
  List.forall_mem_cons.mpr ⟨k_isN (i := 1) (by decide +kernel) rfl,
  List.forall_mem_cons.mpr ⟨k_ilN (i := 1) (by decide +kernel) rfl,
  List.forall_mem_cons.mpr ⟨k_iconst (n := 4) (4) (by decide +kernel) (by decide),
  List.forall_mem_cons.mpr ⟨k_icmp_ge (off := 22) (by decide +kernel) (by decide),
  List.forall_mem_cons.mpr ⟨k_alN (i := 0) (by decide +kernel) rfl,
  List.forall_mem_cons.mpr ⟨k_gf (j := 1) (T := TX2) rfl inX2G (by decide) w_132 (by decide +kernel),
  List.forall_mem_cons.mpr ⟨k_ilN (i := 1) (by decide +kernel) rfl,
  List.forall_mem_cons.mpr ⟨k_new (T := TX6) tyX6 [.null, .int 0, .int 0, .int 0, .int 0, .int 0] tyX6_ok rfl inX6G w_94 w_96 w_43 rfl (fun _ => nwX6) (by decide +kernel),
  List.forall_mem_cons.mpr ⟨k_dup (by decide +kernel),
  List.forall_mem_cons.mpr ⟨k_callIN (idx := 24) (y := 43) (n := 0) (host := "DuneMaps") (by decide +kernel) w_98 w_43 rfl w_99 rfl (by decide +kernel) (by decide) (by decide +kernel),
  List.forall_mem_cons.mpr ⟨k_ast (r := (RX6, TX6, 6)) 2 (fun _ => rfl) rfl (by decide +kernel),
  List.forall_mem_cons.mpr ⟨k_inc (n := 1) (1) (by decide +kernel) (by decide),
  List.forall_mem_cons.mpr ⟨k_goto (off := -21) (by decide +kernel) (by decide),
  List.forall_mem_cons.mpr ⟨k_vret (by decide +kernel),
  fun _ h => absurd h List.not_mem_nil⟩⟩⟩⟩⟩⟩⟩⟩⟩⟩⟩⟩⟩⟩⟩⟩⟩⟩⟩⟩⟩⟩⟩⟩⟩⟩
def tb_7 : List (Nat × pO) := [(0, o_al 0 1), (1, o_const (.int (0)) 2), (2, o_pf okI 2 2 5), (5, o_al 0 6), (6, o_const (.int (0)) 7), (7, o_pf okI 2 3 10), (10, o_vret)]
set_option maxRecDepth 20000 in
theorem tk_7 : ∀ q ∈ tb_7, okA noS mM (prog_4_method_2_code, "DuneMaps$Land", 1, none, false) q.1 q.2 :=
  List.forall_mem_cons.mpr ⟨k_alN (i := 0) (by decide +kernel) rfl,
  List.forall_mem_cons.mpr ⟨k_iconst (n := 0) (0) (by decide +kernel) (by decide),
  List.forall_mem_cons.mpr ⟨k_pf (j := 2) (T := TX2) tyX2 tyX2_ok nmX2 okI_fit rfl inX2G (by decide) rfl (by decide +kernel) w_133 (by decide +kernel),
  List.forall_mem_cons.mpr ⟨k_alN (i := 0) (by decide +kernel) rfl,
  List.forall_mem_cons.mpr ⟨k_iconst (n := 0) (0) (by decide +kernel) (by decide),
  List.forall_mem_cons.mpr ⟨k_pf (j := 3) (T := TX2) tyX2 tyX2_ok nmX2 okI_fit rfl inX2G (by decide) rfl (by decide +kernel) w_136 (by decide +kernel),
  List.forall_mem_cons.mpr ⟨k_vret (by decide +kernel),
  fun _ h => absurd h List.not_mem_nil⟩⟩⟩⟩⟩⟩⟩
def tb_8 : List (Nat × pO) := [(0, o_al 0 1), (1, o_gf 2 0 4), (4, o_al 1 5), (5, o_gf 2 0 8), (8, o_call (rcV 5) 31 2 11), (11, o_al 0 12), (12, o_al 1 13), (13, o_gf 2 2 16), (16, o_pf okI 2 2 19), (19, o_al 0 20), (20, o_al 1 21), (21, o_gf 2 3 24), (24, o_pf okI 2 3 27), (27, o_const (.int (0)) 28), (28, o_is 2 29), (29, o_il 2 30), (30, o_const (.int (4)) 31), (31, o_cmp (fun x y => y ≤ x) 55 34), (34, o_al 0 35), (35, o_gf 2 1 38), (38, o_il 2 39), (39, o_aa 40), (40, o_al 1 41), (41, o_gf 2 1 44), (44, o_il 2 45), (45, o_aa 46), (46, o_call (rcV 6) 45 2 49), (49, o_inc 2 (1) 52), (52, o_goto 29), (55, o_vret)]
set_option maxRecDepth 20000 in
theorem tk_8 : ∀ q ∈ tb_8, okA noS mM (prog_4_method_3_code, "DuneMaps$Land", 3, none, false) q.1 q.2 :=
  List.forall_mem_cons.mpr ⟨k_alN (i := 0) (by decide +kernel) rfl,
  List.forall_mem_cons.mpr ⟨k_gf (j := 0) (T := TX2) rfl inX2G (by decide) w_129 (by decide +kernel),
  List.forall_mem_cons.mpr ⟨k_alN (i := 1) (by decide +kernel) rfl,
  List.forall_mem_cons.mpr ⟨k_gf (j := 0) (T := TX2) rfl inX2G (by decide) w_129 (by decide +kernel),
  List.forall_mem_cons.mpr ⟨k_callV (y := 31) (n := 1) (ci := 5) rfl w_564 w_469 w_470 w_42 w_471 (by decide +kernel) (by decide) (by decide +kernel),
  List.forall_mem_cons.mpr ⟨k_alN (i := 0) (by decide +kernel) rfl,
  List.forall_mem_cons.mpr ⟨k_alN (i := 1) (by decide +kernel) rfl,
  List.forall_mem_cons.mpr ⟨k_gf (j := 2) (T := TX2) rfl inX2G (by decide) w_133 (by decide +kernel),
  List.forall_mem_cons.mpr ⟨k_pf (j := 2) (T := TX2) tyX2 tyX2_ok nmX2 okI_fit rfl inX2G (by decide) rfl (by decide +kernel) w_133 (by decide +kernel),
  List.forall_mem_cons.mpr ⟨k_alN (i := 0) (by decide +kernel) rfl,
  List.forall_mem_cons.mpr ⟨k_alN (i := 1) (by decide +kernel) rfl,
  List.forall_mem_cons.mpr ⟨k_gf (j := 3) (T := TX2) rfl inX2G (by decide) w_136 (by decide +kernel),
  List.forall_mem_cons.mpr ⟨k_pf (j := 3) (T := TX2) tyX2 tyX2_ok nmX2 okI_fit rfl inX2G (by decide) rfl (by decide +kernel) w_136 (by decide +kernel),
  List.forall_mem_cons.mpr ⟨k_iconst (n := 0) (0) (by decide +kernel) (by decide),
  List.forall_mem_cons.mpr ⟨k_isN (i := 2) (by decide +kernel) rfl,
  List.forall_mem_cons.mpr ⟨k_ilN (i := 2) (by decide +kernel) rfl,
  List.forall_mem_cons.mpr ⟨k_iconst (n := 4) (4) (by decide +kernel) (by decide),
  List.forall_mem_cons.mpr ⟨k_icmp_ge (off := 24) (by decide +kernel) (by decide),
  List.forall_mem_cons.mpr ⟨k_alN (i := 0) (by decide +kernel) rfl,
  List.forall_mem_cons.mpr ⟨k_gf (j := 1) (T := TX2) rfl inX2G (by decide) w_132 (by decide +kernel),
  List.forall_mem_cons.mpr ⟨k_ilN (i := 2) (by decide +kernel) rfl,
  List.forall_mem_cons.mpr ⟨k_aa (by decide +kernel),
  List.forall_mem_cons.mpr ⟨k_alN (i := 1) (by decide +kernel) rfl,
  List.forall_mem_cons.mpr ⟨k_gf (j := 1) (T := TX2) rfl inX2G (by decide) w_132 (by decide +kernel),
  List.forall_mem_cons.mpr ⟨k_ilN (i := 2) (by decide +kernel) rfl,
  List.forall_mem_cons.mpr ⟨k_aa (by decide +kernel),
  List.forall_mem_cons.mpr ⟨k_callV (y := 45) (n := 1) (ci := 6) rfl w_565 w_566 w_567 w_43 w_568 (by decide +kernel) (by decide) (by decide +kernel),
  List.forall_mem_cons.mpr ⟨k_inc (n := 1) (1) (by decide +kernel) (by decide),
  List.forall_mem_cons.mpr ⟨k_goto (off := -23) (by decide +kernel) (by decide),
  List.forall_mem_cons.mpr ⟨k_vret (by decide +kernel),
  fun _ h => absurd h List.not_mem_nil⟩⟩⟩⟩⟩⟩⟩⟩⟩⟩⟩⟩⟩⟩⟩⟩⟩⟩⟩⟩⟩⟩⟩⟩⟩⟩⟩⟩⟩⟩
def tb_9 : List (Nat × pO) := [(0, o_il 1 1), (1, o_if (fun x => x < 0) 21 4), (4, o_il 1 5), (5, o_al 0 6), (6, o_gf 2 2 9), (9, o_cmp (fun x y => y ≤ x) 21 12), (12, o_il 1 13), (13, o_const (.int (4)) 14), (14, o_cmp (fun x y => y ≤ x) 21 17), (17, o_const (.int (1)) 18), (18, o_goto 22), (21, o_const (.int (0)) 22), (22, o_is 2 23), (23, o_il 2 24), (24, o_if (fun x => x = 0) 36 27), (27, o_al 0 28), (28, o_gf 2 1 31), (31, o_il 1 32), (32, o_aa 33), (33, o_goto 37), (36, o_const .null 37), (37, o_aret)]
set_option maxRecDepth 20000 in
theorem tk_9 : ∀ q ∈ tb_9, okA noS mM (prog_4_method_4_code, "DuneMaps$Land", 3, some (.object "DuneMaps$Walker"), false) q.1 q.2 :=
  List.forall_mem_cons.mpr ⟨k_ilN (i := 1) (by decide +kernel) rfl,
  List.forall_mem_cons.mpr ⟨k_if_lt (off := 20) (by decide +kernel) (by decide),
  List.forall_mem_cons.mpr ⟨k_ilN (i := 1) (by decide +kernel) rfl,
  List.forall_mem_cons.mpr ⟨k_alN (i := 0) (by decide +kernel) rfl,
  List.forall_mem_cons.mpr ⟨k_gf (j := 2) (T := TX2) rfl inX2G (by decide) w_133 (by decide +kernel),
  List.forall_mem_cons.mpr ⟨k_icmp_ge (off := 12) (by decide +kernel) (by decide),
  List.forall_mem_cons.mpr ⟨k_ilN (i := 1) (by decide +kernel) rfl,
  List.forall_mem_cons.mpr ⟨k_iconst (n := 4) (4) (by decide +kernel) (by decide),
  List.forall_mem_cons.mpr ⟨k_icmp_ge (off := 7) (by decide +kernel) (by decide),
  List.forall_mem_cons.mpr ⟨k_iconst (n := 1) (1) (by decide +kernel) (by decide),
  List.forall_mem_cons.mpr ⟨k_goto (off := 4) (by decide +kernel) (by decide),
  List.forall_mem_cons.mpr ⟨k_iconst (n := 0) (0) (by decide +kernel) (by decide),
  List.forall_mem_cons.mpr ⟨k_isN (i := 2) (by decide +kernel) rfl,
  List.forall_mem_cons.mpr ⟨k_ilN (i := 2) (by decide +kernel) rfl,
  List.forall_mem_cons.mpr ⟨k_if_eq (off := 12) (by decide +kernel) (by decide),
  List.forall_mem_cons.mpr ⟨k_alN (i := 0) (by decide +kernel) rfl,
  List.forall_mem_cons.mpr ⟨k_gf (j := 1) (T := TX2) rfl inX2G (by decide) w_132 (by decide +kernel),
  List.forall_mem_cons.mpr ⟨k_ilN (i := 1) (by decide +kernel) rfl,
  List.forall_mem_cons.mpr ⟨k_aa (by decide +kernel),
  List.forall_mem_cons.mpr ⟨k_goto (off := 4) (by decide +kernel) (by decide),
  List.forall_mem_cons.mpr ⟨k_null (by decide +kernel),
  List.forall_mem_cons.mpr ⟨k_aret (by decide +kernel),
  fun _ h => absurd h List.not_mem_nil⟩⟩⟩⟩⟩⟩⟩⟩⟩⟩⟩⟩⟩⟩⟩⟩⟩⟩⟩⟩⟩⟩
def tb_10 : List (Nat × pO) := [(0, o_al 0 1), (1, o_gf 2 2 4), (4, o_if (fun x => x < 0) 15 7), (7, o_al 0 8), (8, o_gf 2 2 11), (11, o_const (.int (4)) 12), (12, o_cmp (fun x y => x < y) 18 15), (15, o_const (.int (-104)) 17), (17, o_iret), (18, o_al 0 19), (19, o_gf 2 1 22), (22, o_al 0 23), (23, o_gf 2 2 26), (26, o_aa 27), (27, o_il 1 28), (28, o_il 2 29), (29, o_call (rcV 6) 44 3 32), (32, o_al 0 33), (33, o_dup 34), (34, o_gf 2 2 37), (37, o_const (.int (1)) 38), (38, o_bin (fun x y => x + y) 39), (39, o_pf okI 2 2 42), (42, o_al 0 43), (43, o_gf 2 2 46), (46, o_const (.int (1)) 47), (47, o_bin (fun x y => x - y) 48), (48, o_iret)]
set_option maxRecDepth 20000 in
theorem tk_10 : ∀ q ∈ tb_10, okA noS mM (prog_4_method_5_code, "DuneMaps$Land", 3, some .int, false) q.1 q.2 :=
  List.forall_mem_cons.mpr ⟨k_alN (i := 0) (by decide +kernel) rfl,
  List.forall_mem_cons.mpr ⟨k_gf (j := 2) (T := TX2) rfl inX2G (by decide) w_133 (by decide +kernel),
  List.forall_mem_cons.mpr ⟨k_if_lt (off := 11) (by decide +kernel) (by decide),
  List.forall_mem_cons.mpr ⟨k_alN (i := 0) (by decide +kernel) rfl,
  List.forall_mem_cons.mpr ⟨k_gf (j := 2) (T := TX2) rfl inX2G (by decide) w_133 (by decide +kernel),
  List.forall_mem_cons.mpr ⟨k_iconst (n := 4) (4) (by decide +kernel) (by decide),
  List.forall_mem_cons.mpr ⟨k_icmp_lt (off := 6) (by decide +kernel) (by decide),
  List.forall_mem_cons.mpr ⟨k_bipush (n := -104) (-104) (by decide +kernel) (by decide),
  List.forall_mem_cons.mpr ⟨k_iret (by decide +kernel),
  List.forall_mem_cons.mpr ⟨k_alN (i := 0) (by decide +kernel) rfl,
  List.forall_mem_cons.mpr ⟨k_gf (j := 1) (T := TX2) rfl inX2G (by decide) w_132 (by decide +kernel),
  List.forall_mem_cons.mpr ⟨k_alN (i := 0) (by decide +kernel) rfl,
  List.forall_mem_cons.mpr ⟨k_gf (j := 2) (T := TX2) rfl inX2G (by decide) w_133 (by decide +kernel),
  List.forall_mem_cons.mpr ⟨k_aa (by decide +kernel),
  List.forall_mem_cons.mpr ⟨k_ilN (i := 1) (by decide +kernel) rfl,
  List.forall_mem_cons.mpr ⟨k_ilN (i := 2) (by decide +kernel) rfl,
  List.forall_mem_cons.mpr ⟨k_callV (y := 44) (n := 2) (ci := 6) rfl w_384 w_385 w_386 w_43 w_387 (by decide +kernel) (by decide) (by decide +kernel),
  List.forall_mem_cons.mpr ⟨k_alN (i := 0) (by decide +kernel) rfl,
  List.forall_mem_cons.mpr ⟨k_dup (by decide +kernel),
  List.forall_mem_cons.mpr ⟨k_gf (j := 2) (T := TX2) rfl inX2G (by decide) w_133 (by decide +kernel),
  List.forall_mem_cons.mpr ⟨k_iconst (n := 1) (1) (by decide +kernel) (by decide),
  List.forall_mem_cons.mpr ⟨k_iadd (by decide +kernel),
  List.forall_mem_cons.mpr ⟨k_pf (j := 2) (T := TX2) tyX2 tyX2_ok nmX2 okI_fit rfl inX2G (by decide) rfl (by decide +kernel) w_133 (by decide +kernel),
  List.forall_mem_cons.mpr ⟨k_alN (i := 0) (by decide +kernel) rfl,
  List.forall_mem_cons.mpr ⟨k_gf (j := 2) (T := TX2) rfl inX2G (by decide) w_133 (by decide +kernel),
  List.forall_mem_cons.mpr ⟨k_iconst (n := 1) (1) (by decide +kernel) (by decide),
  List.forall_mem_cons.mpr ⟨k_isub (by decide +kernel),
  List.forall_mem_cons.mpr ⟨k_iret (by decide +kernel),
  fun _ h => absurd h List.not_mem_nil⟩⟩⟩⟩⟩⟩⟩⟩⟩⟩⟩⟩⟩⟩⟩⟩⟩⟩⟩⟩⟩⟩⟩⟩⟩⟩⟩⟩
def tb_11 : List (Nat × pO) := [(0, o_const (.int (0)) 1), (1, o_is 2 2), (2, o_const (.int (0)) 3), (3, o_is 3 4), (4, o_il 3 5), (5, o_al 0 6), (6, o_gf 2 2 9), (9, o_cmp (fun x y => y ≤ x) 47 12), (12, o_il 3 13), (13, o_const (.int (4)) 14), (14, o_cmp (fun x y => y ≤ x) 47 17), (17, o_il 2 18), (18, o_al 0 19), (19, o_gf 2 1 22), (22, o_il 3 23), (23, o_aa 24), (24, o_gf 6 2 27), (27, o_il 1 28), (28, o_cmp (fun x y => ¬ x = y) 35 31), (31, o_const (.int (1)) 32), (32, o_goto 36), (35, o_const (.int (0)) 36), (36, o_call rc0 81 1 39), (39, o_bin (fun x y => x + y) 40), (40, o_is 2 41), (41, o_inc 3 (1) 44), (44, o_goto 4), (47, o_il 2 48), (48, o_iret)]
set_option maxRecDepth 20000 in
theorem tk_11 : ∀ q ∈ tb_11, okA noS mM (prog_4_method_6_code, "DuneMaps$Land", 4, some .int, false) q.1 q.2 :=
  List.forall_mem_cons.mpr ⟨k_iconst (n := 0) (0) (by decide +kernel) (by decide),
  List.forall_mem_cons.mpr ⟨k_isN (i := 2) (by decide +kernel) rfl,
  List.forall_mem_cons.mpr ⟨k_iconst (n := 0) (0) (by decide +kernel) (by decide),
  List.forall_mem_cons.mpr ⟨k_isN (i := 3) (by decide +kernel) rfl,
  List.forall_mem_cons.mpr ⟨k_ilN (i := 3) (by decide +kernel) rfl,
  List.forall_mem_cons.mpr ⟨k_alN (i := 0) (by decide +kernel) rfl,
  List.forall_mem_cons.mpr ⟨k_gf (j := 2) (T := TX2) rfl inX2G (by decide) w_133 (by decide +kernel),
  List.forall_mem_cons.mpr ⟨k_icmp_ge (off := 38) (by decide +kernel) (by decide),
  List.forall_mem_cons.mpr ⟨k_ilN (i := 3) (by decide +kernel) rfl,
  List.forall_mem_cons.mpr ⟨k_iconst (n := 4) (4) (by decide +kernel) (by decide),
  List.forall_mem_cons.mpr ⟨k_icmp_ge (off := 33) (by decide +kernel) (by decide),
  List.forall_mem_cons.mpr ⟨k_ilN (i := 2) (by decide +kernel) rfl,
  List.forall_mem_cons.mpr ⟨k_alN (i := 0) (by decide +kernel) rfl,
  List.forall_mem_cons.mpr ⟨k_gf (j := 1) (T := TX2) rfl inX2G (by decide) w_132 (by decide +kernel),
  List.forall_mem_cons.mpr ⟨k_ilN (i := 3) (by decide +kernel) rfl,
  List.forall_mem_cons.mpr ⟨k_aa (by decide +kernel),
  List.forall_mem_cons.mpr ⟨k_gf (j := 2) (T := TX6) rfl inX6G (by decide) w_107 (by decide +kernel),
  List.forall_mem_cons.mpr ⟨k_ilN (i := 1) (by decide +kernel) rfl,
  List.forall_mem_cons.mpr ⟨k_icmp_ne (off := 7) (by decide +kernel) (by decide),
  List.forall_mem_cons.mpr ⟨k_iconst (n := 1) (1) (by decide +kernel) (by decide),
  List.forall_mem_cons.mpr ⟨k_goto (off := 4) (by decide +kernel) (by decide),
  List.forall_mem_cons.mpr ⟨k_iconst (n := 0) (0) (by decide +kernel) (by decide),
  List.forall_mem_cons.mpr ⟨k_callSN (idx := 46) (y := 81) (n := 1) (host := "DuneMaps") (by decide +kernel) w_336 w_39 w_337 (by decide +kernel) (by decide) (by decide +kernel),
  List.forall_mem_cons.mpr ⟨k_iadd (by decide +kernel),
  List.forall_mem_cons.mpr ⟨k_isN (i := 2) (by decide +kernel) rfl,
  List.forall_mem_cons.mpr ⟨k_inc (n := 1) (1) (by decide +kernel) (by decide),
  List.forall_mem_cons.mpr ⟨k_goto (off := -40) (by decide +kernel) (by decide),
  List.forall_mem_cons.mpr ⟨k_ilN (i := 2) (by decide +kernel) rfl,
  List.forall_mem_cons.mpr ⟨k_iret (by decide +kernel),
  fun _ h => absurd h List.not_mem_nil⟩⟩⟩⟩⟩⟩⟩⟩⟩⟩⟩⟩⟩⟩⟩⟩⟩⟩⟩⟩⟩⟩⟩⟩⟩⟩⟩⟩⟩
def tb_12 : List (Nat × pO) := [(0, o_const (.int (0)) 1), (1, o_is 1 2), (2, o_const (.int (0)) 3), (3, o_is 2 4), (4, o_il 2 5), (5, o_al 0 6), (6, o_gf 2 2 9), (9, o_cmp (fun x y => y ≤ x) 38 12), (12, o_il 2 13), (13, o_const (.int (4)) 14), (14, o_cmp (fun x y => y ≤ x) 38 17), (17, o_il 1 18), (18, o_al 0 19), (19, o_gf 2 1 22), (22, o_il 2 23), (23, o_aa 24), (24, o_call (rcV 6) 46 1 27), (27, o_call rc0 81 1 30), (30, o_bin (fun x y => x + y) 31), (31, o_is 1 32), (32, o_inc 2 (1) 35), (35, o_goto 4), (38, o_il 1 39), (39, o_iret)]
set_option maxRecDepth 20000 in
theorem tk_12 : ∀ q ∈ tb_12, okA noS mM (prog_4_method_7_code, "DuneMaps$Land", 3, some .int, false) q.1 q.2 :=
  List.forall_mem_cons.mpr ⟨k_iconst (n := 0) (0) (by decide +kernel) (by decide),
  List.forall_mem_cons.mpr ⟨k_isN (i := 1) (by decide +kernel) rfl,
  List.forall_mem_cons.mpr ⟨k_iconst (n := 0) (0) (by decide +kernel) (by decide),
  List.forall_mem_cons.mpr ⟨k_isN (i := 2) (by decide +kernel) rfl,
  List.forall_mem_cons.mpr ⟨k_ilN (i := 2) (by decide +kernel) rfl,
  List.forall_mem_cons.mpr ⟨k_alN (i := 0) (by decide +kernel) rfl,
  List.forall_mem_cons.mpr ⟨k_gf (j := 2) (T := TX2) rfl inX2G (by decide) w_133 (by decide +kernel),
  List.forall_mem_cons.mpr ⟨k_icmp_ge (off := 29) (by decide +kernel) (by decide),
  List.forall_mem_cons.mpr ⟨k_ilN (i := 2) (by decide +kernel) rfl,
  List.forall_mem_cons.mpr ⟨k_iconst (n := 4) (4) (by decide +kernel) (by decide),
  List.forall_mem_cons.mpr ⟨k_icmp_ge (off := 24) (by decide +kernel) (by decide),
  List.forall_mem_cons.mpr ⟨k_ilN (i := 1) (by decide +kernel) rfl,
  List.forall_mem_cons.mpr ⟨k_alN (i := 0) (by decide +kernel) rfl,
  List.forall_mem_cons.mpr ⟨k_gf (j := 1) (T := TX2) rfl inX2G (by decide) w_132 (by decide +kernel),
  List.forall_mem_cons.mpr ⟨k_ilN (i := 2) (by decide +kernel) rfl,
  List.forall_mem_cons.mpr ⟨k_aa (by decide +kernel),
  List.forall_mem_cons.mpr ⟨k_callV (y := 46) (n := 0) (ci := 6) rfl w_467 w_402 w_403 w_43 w_404 (by decide +kernel) (by decide) (by decide +kernel),
  List.forall_mem_cons.mpr ⟨k_callSN (idx := 46) (y := 81) (n := 1) (host := "DuneMaps") (by decide +kernel) w_336 w_39 w_337 (by decide +kernel) (by decide) (by decide +kernel),
  List.forall_mem_cons.mpr ⟨k_iadd (by decide +kernel),
  List.forall_mem_cons.mpr ⟨k_isN (i := 1) (by decide +kernel) rfl,
  List.forall_mem_cons.mpr ⟨k_inc (n := 1) (1) (by decide +kernel) (by decide),
  List.forall_mem_cons.mpr ⟨k_goto (off := -31) (by decide +kernel) (by decide),
  List.forall_mem_cons.mpr ⟨k_ilN (i := 1) (by decide +kernel) rfl,
  List.forall_mem_cons.mpr ⟨k_iret (by decide +kernel),
  fun _ h => absurd h List.not_mem_nil⟩⟩⟩⟩⟩⟩⟩⟩⟩⟩⟩⟩⟩⟩⟩⟩⟩⟩⟩⟩⟩⟩⟩⟩
def tb_13 : List (Nat × pO) := [(0, o_const (.int (0)) 1), (1, o_is 1 2), (2, o_const (.int (0)) 3), (3, o_is 2 4), (4, o_il 2 5), (5, o_al 0 6), (6, o_gf 2 2 9), (9, o_cmp (fun x y => y ≤ x) 42 12), (12, o_il 2 13), (13, o_const (.int (4)) 14), (14, o_cmp (fun x y => y ≤ x) 42 17), (17, o_il 1 18), (18, o_al 0 19), (19, o_gf 2 1 22), (22, o_il 2 23), (23, o_aa 24), (24, o_al 0 25), (25, o_gf 2 0 28), (28, o_call (rcV 6) 48 2 31), (31, o_call rc0 81 1 34), (34, o_bin (fun x y => x + y) 35), (35, o_is 1 36), (36, o_inc 2 (1) 39), (39, o_goto 4), (42, o_il 1 43), (43, o_iret)]
set_option maxRecDepth 20000 in
theorem tk_13 : ∀ q ∈ tb_13, okA noS mM (prog_4_method_8_code, "DuneMaps$Land", 3, some .int, false) q.1 q.2 :=
  List.forall_mem_cons.mpr ⟨k_iconst (n := 0) (0) (by decide +kernel) (by decide),
  List.forall_mem_cons.mpr ⟨k_isN (i := 1) (by decide +kernel) rfl,
  List.forall_mem_cons.mpr ⟨k_iconst (n := 0) (0) (by decide +kernel) (by decide),
  List.forall_mem_cons.mpr ⟨k_isN (i := 2) (by decide +kernel) rfl,
  List.forall_mem_cons.mpr ⟨k_ilN (i := 2) (by decide +kernel) rfl,
  List.forall_mem_cons.mpr ⟨k_alN (i := 0) (by decide +kernel) rfl,
  List.forall_mem_cons.mpr ⟨k_gf (j := 2) (T := TX2) rfl inX2G (by decide) w_133 (by decide +kernel),
  List.forall_mem_cons.mpr ⟨k_icmp_ge (off := 33) (by decide +kernel) (by decide),
  List.forall_mem_cons.mpr ⟨k_ilN (i := 2) (by decide +kernel) rfl,
  List.forall_mem_cons.mpr ⟨k_iconst (n := 4) (4) (by decide +kernel) (by decide),
  List.forall_mem_cons.mpr ⟨k_icmp_ge (off := 28) (by decide +kernel) (by decide),
  List.forall_mem_cons.mpr ⟨k_ilN (i := 1) (by decide +kernel) rfl,
  List.forall_mem_cons.mpr ⟨k_alN (i := 0) (by decide +kernel) rfl,
  List.forall_mem_cons.mpr ⟨k_gf (j := 1) (T := TX2) rfl inX2G (by decide) w_132 (by decide +kernel),
  List.forall_mem_cons.mpr ⟨k_ilN (i := 2) (by decide +kernel) rfl,
  List.forall_mem_cons.mpr ⟨k_aa (by decide +kernel),
  List.forall_mem_cons.mpr ⟨k_alN (i := 0) (by decide +kernel) rfl,
  List.forall_mem_cons.mpr ⟨k_gf (j := 0) (T := TX2) rfl inX2G (by decide) w_129 (by decide +kernel),
  List.forall_mem_cons.mpr ⟨k_callV (y := 48) (n := 1) (ci := 6) rfl w_582 w_406 w_407 w_43 w_408 (by decide +kernel) (by decide) (by decide +kernel),
  List.forall_mem_cons.mpr ⟨k_callSN (idx := 46) (y := 81) (n := 1) (host := "DuneMaps") (by decide +kernel) w_336 w_39 w_337 (by decide +kernel) (by decide) (by decide +kernel),
  List.forall_mem_cons.mpr ⟨k_iadd (by decide +kernel),
  List.forall_mem_cons.mpr ⟨k_isN (i := 1) (by decide +kernel) rfl,
  List.forall_mem_cons.mpr ⟨k_inc (n := 1) (1) (by decide +kernel) (by decide),
  List.forall_mem_cons.mpr ⟨k_goto (off := -35) (by decide +kernel) (by decide),
  List.forall_mem_cons.mpr ⟨k_ilN (i := 1) (by decide +kernel) rfl,
  List.forall_mem_cons.mpr ⟨k_iret (by decide +kernel),
  fun _ h => absurd h List.not_mem_nil⟩⟩⟩⟩⟩⟩⟩⟩⟩⟩⟩⟩⟩⟩⟩⟩⟩⟩⟩⟩⟩⟩⟩⟩⟩⟩
def tb_14 : List (Nat × pO) := [(0, o_const (.int (0)) 1), (1, o_is 1 2), (2, o_const (.int (0)) 3), (3, o_is 2 4), (4, o_il 2 5), (5, o_al 0 6), (6, o_gf 2 2 9), (9, o_cmp (fun x y => y ≤ x) 35 12), (12, o_il 2 13), (13, o_const (.int (4)) 14), (14, o_cmp (fun x y => y ≤ x) 35 17), (17, o_il 1 18), (18, o_al 0 19), (19, o_gf 2 1 22), (22, o_il 2 23), (23, o_aa 24), (24, o_gf 6 3 27), (27, o_bin (fun x y => x + y) 28), (28, o_is 1 29), (29, o_inc 2 (1) 32), (32, o_goto 4), (35, o_il 1 36), (36, o_iret)]
set_option maxRecDepth 20000 in
theorem tk_14 : ∀ q ∈ tb_14, okA noS mM (prog_4_method_9_code, "DuneMaps$Land", 3, some .int, false) q.1 q.2 :=
  List.forall_mem_cons.mpr ⟨k_iconst (n := 0) (0) (by decide +kernel) (by decide),
  List.forall_mem_cons.mpr ⟨k_isN (i := 1) (by decide +kernel) rfl,
  List.forall_mem_cons.mpr ⟨k_iconst (n := 0) (0) (by decide +kernel) (by decide),
  List.forall_mem_cons.mpr ⟨k_isN (i := 2) (by decide +kernel) rfl,
  List.forall_mem_cons.mpr ⟨k_ilN (i := 2) (by decide +kernel) rfl,
  List.forall_mem_cons.mpr ⟨k_alN (i := 0) (by decide +kernel) rfl,
  List.forall_mem_cons.mpr ⟨k_gf (j := 2) (T := TX2) rfl inX2G (by decide) w_133 (by decide +kernel),
  List.forall_mem_cons.mpr ⟨k_icmp_ge (off := 26) (by decide +kernel) (by decide),
  List.forall_mem_cons.mpr ⟨k_ilN (i := 2) (by decide +kernel) rfl,
  List.forall_mem_cons.mpr ⟨k_iconst (n := 4) (4) (by decide +kernel) (by decide),
  List.forall_mem_cons.mpr ⟨k_icmp_ge (off := 21) (by decide +kernel) (by decide),
  List.forall_mem_cons.mpr ⟨k_ilN (i := 1) (by decide +kernel) rfl,
  List.forall_mem_cons.mpr ⟨k_alN (i := 0) (by decide +kernel) rfl,
  List.forall_mem_cons.mpr ⟨k_gf (j := 1) (T := TX2) rfl inX2G (by decide) w_132 (by decide +kernel),
  List.forall_mem_cons.mpr ⟨k_ilN (i := 2) (by decide +kernel) rfl,
  List.forall_mem_cons.mpr ⟨k_aa (by decide +kernel),
  List.forall_mem_cons.mpr ⟨k_gf (j := 3) (T := TX6) rfl inX6G (by decide) w_110 (by decide +kernel),
  List.forall_mem_cons.mpr ⟨k_iadd (by decide +kernel),
  List.forall_mem_cons.mpr ⟨k_isN (i := 1) (by decide +kernel) rfl,
  List.forall_mem_cons.mpr ⟨k_inc (n := 1) (1) (by decide +kernel) (by decide),
  List.forall_mem_cons.mpr ⟨k_goto (off := -28) (by decide +kernel) (by decide),
  List.forall_mem_cons.mpr ⟨k_ilN (i := 1) (by decide +kernel) rfl,
  List.forall_mem_cons.mpr ⟨k_iret (by decide +kernel),
  fun _ h => absurd h List.not_mem_nil⟩⟩⟩⟩⟩⟩⟩⟩⟩⟩⟩⟩⟩⟩⟩⟩⟩⟩⟩⟩⟩⟩⟩
def tb_15 : List (Nat × pO) := [(0, o_al 0 1), (1, o_obj 4), (4, o_al 0 5), (5, o_const (.int (5)) 6), (6, o_anew 0 9), (9, o_pf okR 3 0 12), (12, o_al 0 13), (13, o_const (.int (4)) 14), (14, o_newa 16), (16, o_pf okR 3 1 19), (19, o_al 0 20), (20, o_const (.int (4)) 21), (21, o_newa 23), (23, o_pf okR 3 2 26), (26, o_const (.int (0)) 27), (27, o_is 1 28), (28, o_il 1 29), (29, o_const (.int (4)) 30), (30, o_cmp (fun x y => y < x) 52 33), (33, o_al 0 34), (34, o_gf 3 0 37), (37, o_il 1 38), (38, o_new 5 [.null, .int 0] 41), (41, o_dup 42), (42, o_call rcI 28 1 45), (45, o_ast 0 5 46), (46, o_inc 1 (1) 49), (49, o_goto 28), (52, o_vret)]
set_option maxRecDepth 20000 in
theorem tk_15 : ∀ q ∈ tb_15, okA noS mM (prog_5_method_1_code, "DuneMaps$Ordering", 2, none, true) q.1 q.2 :=
  List.forall_mem_cons.mpr ⟨k_alN (i := 0) (by decide +kernel) rfl,
  List.forall_mem_cons.mpr ⟨k_obj w_154 w_56 w_57 (by decide +kernel),
  List.forall_mem_cons.mpr ⟨k_alN (i := 0) (by decide +kernel) rfl,
  List.forall_mem_cons.mpr ⟨k_iconst (n := 5) (5) (by decide +kernel) (by decide),
  List.forall_mem_cons.mpr ⟨k_anew 1 (fun _ => rfl) (fun _ _ q => q.2.2.1) w_155 (by decide +kernel),
  List.forall_mem_cons.mpr ⟨k_pfF (j := 0) (T := TX3) tyX3 tyX3_ok nmX3 (okR_fitA (.object "DuneMaps$Sand")) rfl inX3G (by decide) rfl rfl (by decide +kernel) w_158 (by decide +kernel),
  List.forall_mem_cons.mpr ⟨k_alN (i := 0) (by decide +kernel) rfl,
  List.forall_mem_cons.mpr ⟨k_iconst (n := 4) (4) (by decide +kernel) (by decide),
  List.forall_mem_cons.mpr ⟨k_newa w_72 (by decide +kernel),
  List.forall_mem_cons.mpr ⟨k_pfF (j := 1) (T := TX3) tyX3 tyX3_ok nmX3 (okR_fitA .int) rfl inX3G (by decide) rfl rfl (by decide +kernel) w_159 (by decide +kernel),
  List.forall_mem_cons.mpr ⟨k_alN (i := 0) (by decide +kernel) rfl,
  List.forall_mem_cons.mpr ⟨k_iconst (n := 4) (4) (by decide +kernel) (by decide),
  List.forall_mem_cons.mpr ⟨k_newa w_72 (by decide +kernel),
  List.forall_mem_cons.mpr ⟨k_pfF (j := 2) (T := TX3) tyX3 tyX3_ok nmX3 (okR_fitA .int) rfl inX3G (by decide) rfl rfl (by decide +kernel) w_160 (by decide +kernel),
  List.forall_mem_cons.mpr ⟨k_iconst (n := 0) (0) (by decide +kernel) (by decide),
  List.forall_mem_cons.mpr ⟨k_isN (i := 1) (by decide +kernel) rfl,
  List.forall_mem_cons.mpr ⟨k_ilN (i := 1) (by decide +kernel) rfl,
  List.forall_mem_cons.mpr ⟨k_iconst (n := 4) (4) (by decide +kernel) (by decide),
  List.forall_mem_cons.mpr ⟨k_icmp_gt (off := 22) (by decide +kernel) (by decide),
  List.forall_mem_cons.mpr ⟨k_alN (i := 0) (by decide +kernel) rfl,
  List.forall_mem_cons.mpr ⟨k_gf (j := 0) (T := TX3) rfl inX3G (by decide) w_158 (by decide +kernel),
  List.forall_mem_cons.mpr ⟨k_ilN (i := 1) (by decide +kernel) rfl,
  List.forall_mem_cons.mpr ⟨k_new (T := TX5) tyX5 [.null, .int 0] tyX5_ok rfl inX5G w_155 w_80 w_42 rfl (fun _ => nwX5) (by decide +kernel),
  List.forall_mem_cons.mpr ⟨k_dup (by decide +kernel),
  List.forall_mem_cons.mpr ⟨k_callIN (idx := 24) (y := 28) (n := 0) (host := "DuneMaps") (by decide +kernel) w_82 w_42 rfl w_83 rfl (by decide +kernel) (by decide) (by decide +kernel),
  List.forall_mem_cons.mpr ⟨k_ast (r := (RX5, TX5, 2)) 1 (fun _ => rfl) rfl (by decide +kernel),
  List.forall_mem_cons.mpr ⟨k_inc (n := 1) (1) (by decide +kernel) (by decide),
  List.forall_mem_cons.mpr ⟨k_goto (off := -21) (by decide +kernel) (by decide),
  List.forall_mem_cons.mpr ⟨k_vret (by decide +kernel),
  fun _ h => absurd h List.not_mem_nil⟩⟩⟩⟩⟩⟩⟩⟩⟩⟩⟩⟩⟩⟩⟩⟩⟩⟩⟩⟩⟩⟩⟩⟩⟩⟩⟩⟩⟩
def tb_16 : List (Nat × pO) := [(0, o_il 1 1), (1, o_if (fun x => x < 0) 21 4), (4, o_il 1 5), (5, o_al 0 6), (6, o_gf 3 3 9), (9, o_cmp (fun x y => y ≤ x) 21 12), (12, o_il 1 13), (13, o_al 0 14), (14, o_gf 3 2 17), (17, o_len 18), (18, o_cmp (fun x y => x < y) 25 21), (21, o_const (.int (-1)) 22), (22, o_goto 31), (25, o_al 0 26), (26, o_gf 3 2 29), (29, o_il 1 30), (30, o_ia 31), (31, o_iret)]
set_option maxRecDepth 20000 in
theorem tk_16 : ∀ q ∈ tb_16, okA noS mM (prog_5_method_2_code, "DuneMaps$Ordering", 2, some .int, false) q.1 q.2 :=
  List.forall_mem_cons.mpr ⟨k_ilN (i := 1) (by decide +kernel) rfl,
  List.forall_mem_cons.mpr ⟨k_if_lt (off := 20) (by decide +kernel) (by decide),
  List.forall_mem_cons.mpr ⟨k_ilN (i := 1) (by decide +kernel) rfl,
  List.forall_mem_cons.mpr ⟨k_alN (i := 0) (by decide +kernel) rfl,
  List.forall_mem_cons.mpr ⟨k_gf (j := 3) (T := TX3) rfl inX3G (by decide) w_161 (by decide +kernel),
  List.forall_mem_cons.mpr ⟨k_icmp_ge (off := 12) (by decide +kernel) (by decide),
  List.forall_mem_cons.mpr ⟨k_ilN (i := 1) (by decide +kernel) rfl,
  List.forall_mem_cons.mpr ⟨k_alN (i := 0) (by decide +kernel) rfl,
  List.forall_mem_cons.mpr ⟨k_gf (j := 2) (T := TX3) rfl inX3G (by decide) w_160 (by decide +kernel),
  List.forall_mem_cons.mpr ⟨k_len (by decide +kernel),
  List.forall_mem_cons.mpr ⟨k_icmp_lt (off := 7) (by decide +kernel) (by decide),
  List.forall_mem_cons.mpr ⟨k_iconst (n := -1) (-1) (by decide +kernel) (by decide),
  List.forall_mem_cons.mpr ⟨k_goto (off := 9) (by decide +kernel) (by decide),
  List.forall_mem_cons.mpr ⟨k_alN (i := 0) (by decide +kernel) rfl,
  List.forall_mem_cons.mpr ⟨k_gf (j := 2) (T := TX3) rfl inX3G (by decide) w_160 (by decide +kernel),
  List.forall_mem_cons.mpr ⟨k_ilN (i := 1) (by decide +kernel) rfl,
  List.forall_mem_cons.mpr ⟨k_ia (by decide +kernel),
  List.forall_mem_cons.mpr ⟨k_iret (by decide +kernel),
  fun _ h => absurd h List.not_mem_nil⟩⟩⟩⟩⟩⟩⟩⟩⟩⟩⟩⟩⟩⟩⟩⟩⟩⟩
def tb_17 : List (Nat × pO) := [(0, o_al 0 1), (1, o_al 1 2), (2, o_call (rcV 2) 12 1 5), (5, o_pf okI 3 3 8), (8, o_al 0 9), (9, o_const (.int (-1)) 10), (10, o_pf okI 3 4 13), (13, o_al 0 14), (14, o_gf 3 0 17), (17, o_const (.int (0)) 18), (18, o_aa 19), (19, o_al 1 20), (20, o_gf 2 0 23), (23, o_call (rcV 5) 31 2 26), (26, o_al 0 27), (27, o_al 1 28), (28, o_const (.int (0)) 29), (29, o_const (.int (0)) 30), (30, o_const (.int (0)) 31), (31, o_call (rcV 3) 18 5 34), (34, o_vret)]
set_option maxRecDepth 20000 in
theorem tk_17 : ∀ q ∈ tb_17, okA noS mM (prog_5_method_3_code, "DuneMaps$Ordering", 2, none, false) q.1 q.2 :=
  List.forall_mem_cons.mpr ⟨k_alN (i := 0) (by decide +kernel) rfl,
  List.forall_mem_cons.mpr ⟨k_alN (i := 1) (by decide +kernel) rfl,
  List.forall_mem_cons.mpr ⟨k_callV (y := 12) (n := 0) (ci := 2) rfl w_463 w_464 w_465 w_41 w_466 (by decide +kernel) (by decide) (by decide +kernel),
  List.forall_mem_cons.mpr ⟨k_pf (j := 3) (T := TX3) tyX3 tyX3_ok nmX3 okI_fit rfl inX3G (by decide) rfl (by decide +kernel) w_161 (by decide +kernel),
  List.forall_mem_cons.mpr ⟨k_alN (i := 0) (by decide +kernel) rfl,
  List.forall_mem_cons.mpr ⟨k_iconst (n := -1) (-1) (by decide +kernel) (by decide),
  List.forall_mem_cons.mpr ⟨k_pf (j := 4) (T := TX3) tyX3 tyX3_ok nmX3 okI_fit rfl inX3G (by decide) rfl (by decide +kernel) w_162 (by decide +kernel),
  List.forall_mem_cons.mpr ⟨k_alN (i := 0) (by decide +kernel) rfl,
  List.forall_mem_cons.mpr ⟨k_gf (j := 0) (T := TX3) rfl inX3G (by decide) w_158 (by decide +kernel),
  List.forall_mem_cons.mpr ⟨k_iconst (n := 0) (0) (by decide +kernel) (by decide),
  List.forall_mem_cons.mpr ⟨k_aa (by decide +kernel),
  List.forall_mem_cons.mpr ⟨k_alN (i := 1) (by decide +kernel) rfl,
  List.forall_mem_cons.mpr ⟨k_gf (j := 0) (T := TX2) rfl inX2G (by decide) w_130 (by decide +kernel),
  List.forall_mem_cons.mpr ⟨k_callV (y := 31) (n := 1) (ci := 5) rfl w_468 w_469 w_470 w_42 w_471 (by decide +kernel) (by decide) (by decide +kernel),
  List.forall_mem_cons.mpr ⟨k_alN (i := 0) (by decide +kernel) rfl,
  List.forall_mem_cons.mpr ⟨k_alN (i := 1) (by decide +kernel) rfl,
  List.forall_mem_cons.mpr ⟨k_iconst (n := 0) (0) (by decide +kernel) (by decide),
  List.forall_mem_cons.mpr ⟨k_iconst (n := 0) (0) (by decide +kernel) (by decide),
  List.forall_mem_cons.mpr ⟨k_iconst (n := 0) (0) (by decide +kernel) (by decide),
  List.forall_mem_cons.mpr ⟨k_callV (y := 18) (n := 4) (ci := 3) rfl w_476 w_478 w_4 w_44 w_479 (by decide +kernel) (by decide) (by decide +kernel),
  List.forall_mem_cons.mpr ⟨k_vret (by decide +kernel),
  fun _ h => absurd h List.not_mem_nil⟩⟩⟩⟩⟩⟩⟩⟩⟩⟩⟩⟩⟩⟩⟩⟩⟩⟩⟩⟩⟩
def tb_18 : List (Nat × pO) := [(0, o_il 2 1), (1, o_if (fun x => x < 0) 20 4), (4, o_il 4 6), (6, o_al 0 7), (7, o_gf 3 3 10), (10, o_bin (fun x y => x + y) 11), (11, o_il 2 12), (12, o_bin (fun x y => x - y) 13), (13, o_al 0 14), (14, o_gf 3 4 17), (17, o_cmp (fun x y => y < x) 21 20), (20, o_vret), (21, o_il 2 22), (22, o_al 0 23), (23, o_gf 3 3 26), (26, o_cmp (fun x y => y ≤ x) 34 29), (29, o_il 2 30), (30, o_const (.int (4)) 31), (31, o_cmp (fun x y => x < y) 41 34), (34, o_al 0 35), (35, o_il 4 37), (37, o_call (rcV 3) 19 2 40), (40, o_vret), (41, o_const (.int (0)) 42), (42, o_is 5 44), (44, o_il 5 46), (46, o_al 1 47), (47, o_gf 2 2 50), (50, o_cmp (fun x y => y ≤ x) 162 53), (53, o_al 1 54), (54, o_il 5 56), (56, o_call (rcV 2) 9 2 59), (59, o_as 6 61), (61, o_al 6 63), (63, o_nul 156 66), (66, o_al 6 68), (68, o_call (rcV 6) 46 1 71), (71, o_if (fun x => x = 0) 156 74), (74, o_il 3 75), (75, o_il 5 77), (77, o_bin (fun x y => x >>> (y &&& 31)) 78), (78, o_const (.int (1)) 79), (79, o_bin (fun x y => x &&& y) 80), (80, o_if (fun x => ¬ x = 0) 156 83), (83, o_al 0 84), (84, o_gf 3 0 87), (87, o_il 2 88), (88, o_const (.int (1)) 89), (89, o_bin (fun x y => x + y) 90), (90, o_aa 91), (91, o_al 0 92), (92, o_gf 3 0 95), (95, o_il 2 96), (96, o_aa 97), (97, o_call (rcV 5) 31 2 100), (100, o_al 6 102), (102, o_al 0 103), (103, o_gf 3 0 106), (106, o_il 2 107), (107, o_aa 108), (108, o_call (rcV 6) 48 2 111), (111, o_call rc0 81 1 114), (114, o_is 7 116), (116, o_al 6 118), (118, o_al 0 119), (119, o_gf 3 0 122), (122, o_il 2 123), (123, o_const (.int (1)) 124), (124, o_bin (fun x y => x + y) 125), (125, o_aa 126), (126, o_call (rcV 6) 51 2 129), (129, o_al 0 130), (130, o_gf 3 1 133), (133, o_il 2 134), (134, o_il 5 136), (136, o_ist 137), (137, o_al 0 138), (138, o_al 1 139), (139, o_il 2 140), (140, o_const (.int (1)) 141), (141, o_bin (fun x y => x + y) 142), (142, o_il 3 143), (143, o_const (.int (1)) 144), (144, o_il 5 146), (146, o_bin (fun x y => x <<< (y &&& 31)) 147), (147, o_bin (fun x y => x ||| y) 148), (148, o_il 4 150), (150, o_il 7 152), (152, o_bin (fun x y => x + y) 153), (153, o_call (rcV 3) 18 5 156), (156, o_inc 5 (1) 159), (159, o_goto 44), (162, o_vret)]
set_option maxRecDepth 20000 in
theorem tk_18 : ∀ q ∈ tb_18, okA noS mM (prog_5_method_4_code, "DuneMaps$Ordering", 8, none, false) q.1 q.2 :=
  List.forall_mem_cons.mpr ⟨k_ilN (i := 2) (by decide +kernel) rfl,
  List.forall_mem_cons.mpr ⟨k_if_lt (off := 19) (by decide +kernel) (by decide),
  List.forall_mem_cons.mpr ⟨k_il (by decide +kernel),
  List.forall_mem_cons.mpr ⟨k_alN (i := 0) (by decide +kernel) rfl,
  List.forall_mem_cons.mpr ⟨k_gf (j := 3) (T := TX3) rfl inX3G (by decide) w_161 (by decide +kernel),
  List.forall_mem_cons.mpr ⟨k_iadd (by decide +kernel),
  List.forall_mem_cons.mpr ⟨k_ilN (i := 2) (by decide +kernel) rfl,
  List.forall_mem_cons.mpr ⟨k_isub (by decide +kernel),
  List.forall_mem_cons.mpr ⟨k_alN (i := 0) (by decide +kernel) rfl,
  List.forall_mem_cons.mpr ⟨k_gf (j := 4) (T := TX3) rfl inX3G (by decide) w_162 (by decide +kernel),
  List.forall_mem_cons.mpr ⟨k_icmp_gt (off := 4) (by decide +kernel) (by decide),
  List.forall_mem_cons.mpr ⟨k_vret (by decide +kernel),
  List.forall_mem_cons.mpr ⟨k_ilN (i := 2) (by decide +kernel) rfl,
  List.forall_mem_cons.mpr ⟨k_alN (i := 0) (by decide +kernel) rfl,
  List.forall_mem_cons.mpr ⟨k_gf (j := 3) (T := TX3) rfl inX3G (by decide) w_161 (by decide +kernel),
  List.forall_mem_cons.mpr ⟨k_icmp_ge (off := 8) (by decide +kernel) (by decide),
  List.forall_mem_cons.mpr ⟨k_ilN (i := 2) (by decide +kernel) rfl,
  List.forall_mem_cons.mpr ⟨k_iconst (n := 4) (4) (by decide +kernel) (by decide),
  List.forall_mem_cons.mpr ⟨k_icmp_lt (off := 10) (by decide +kernel) (by decide),
  List.forall_mem_cons.mpr ⟨k_alN (i := 0) (by decide +kernel) rfl,
  List.forall_mem_cons.mpr ⟨k_il (by decide +kernel),
  List.forall_mem_cons.mpr ⟨k_callV (y := 19) (n := 1) (ci := 3) rfl w_480 w_482 w_5 w_44 w_483 (by decide +kernel) (by decide) (by decide +kernel),
  List.forall_mem_cons.mpr ⟨k_vret (by decide +kernel),
  List.forall_mem_cons.mpr ⟨k_iconst (n := 0) (0) (by decide +kernel) (by decide),
  List.forall_mem_cons.mpr ⟨k_is (by decide +kernel),
  List.forall_mem_cons.mpr ⟨k_il (by decide +kernel),
  List.forall_mem_cons.mpr ⟨k_alN (i := 1) (by decide +kernel) rfl,
  List.forall_mem_cons.mpr ⟨k_gf (j := 2) (T := TX2) rfl inX2G (by decide) w_134 (by decide +kernel),
  List.forall_mem_cons.mpr ⟨k_icmp_ge (off := 112) (by decide +kernel) (by decide),
  List.forall_mem_cons.mpr ⟨k_alN (i := 1) (by decide +kernel) rfl,
  List.forall_mem_cons.mpr ⟨k_il (by decide +kernel),
  List.forall_mem_cons.mpr ⟨k_callV (y := 9) (n := 1) (ci := 2) rfl w_484 w_393 w_394 w_41 w_395 (by decide +kernel) (by decide) (by decide +kernel),
  List.forall_mem_cons.mpr ⟨k_as (by decide +kernel),
  List.forall_mem_cons.mpr ⟨k_al (by decide +kernel),
  List.forall_mem_cons.mpr ⟨k_ifnull (off := 93) (by decide +kernel) (by decide),
  List.forall_mem_cons.mpr ⟨k_al (by decide +kernel),
  List.forall_mem_cons.mpr ⟨k_callV (y := 46) (n := 0) (ci := 6) rfl w_485 w_402 w_403 w_43 w_404 (by decide +kernel) (by decide) (by decide +kernel),
  List.forall_mem_cons.mpr ⟨k_if_eq (off := 85) (by decide +kernel) (by decide),
  List.forall_mem_cons.mpr ⟨k_ilN (i := 3) (by decide +kernel) rfl,
  List.forall_mem_cons.mpr ⟨k_il (by decide +kernel),
  List.forall_mem_cons.mpr ⟨k_ishr (by decide +kernel),
  List.forall_mem_cons.mpr ⟨k_iconst (n := 1) (1) (by decide +kernel) (by decide),
  List.forall_mem_cons.mpr ⟨k_iand (by decide +kernel),
  List.forall_mem_cons.mpr ⟨k_if_ne (off := 76) (by decide +kernel) (by decide),
  List.forall_mem_cons.mpr ⟨k_alN (i := 0) (by decide +kernel) rfl,
  List.forall_mem_cons.mpr ⟨k_gf (j := 0) (T := TX3) rfl inX3G (by decide) w_158 (by decide +kernel),
  List.forall_mem_cons.mpr ⟨k_ilN (i := 2) (by decide +kernel) rfl,
  List.forall_mem_cons.mpr ⟨k_iconst (n := 1) (1) (by decide +kernel) (by decide),
  List.forall_mem_cons.mpr ⟨k_iadd (by decide +kernel),
  List.forall_mem_cons.mpr ⟨k_aa (by decide +kernel),
  List.forall_mem_cons.mpr ⟨k_alN (i := 0) (by decide +kernel) rfl,
  List.forall_mem_cons.mpr ⟨k_gf (j := 0) (T := TX3) rfl inX3G (by decide) w_158 (by decide +kernel),
  List.forall_mem_cons.mpr ⟨k_ilN (i := 2) (by decide +kernel) rfl,
  List.forall_mem_cons.mpr ⟨k_aa (by decide +kernel),
  List.forall_mem_cons.mpr ⟨k_callV (y := 31) (n := 1) (ci := 5) rfl w_468 w_469 w_470 w_42 w_471 (by decide +kernel) (by decide) (by decide +kernel),
  List.forall_mem_cons.mpr ⟨k_al (by decide +kernel),
  List.forall_mem_cons.mpr ⟨k_alN (i := 0) (by decide +kernel) rfl,
  List.forall_mem_cons.mpr ⟨k_gf (j := 0) (T := TX3) rfl inX3G (by decide) w_158 (by decide +kernel),
  List.forall_mem_cons.mpr ⟨k_ilN (i := 2) (by decide +kernel) rfl,
  List.forall_mem_cons.mpr ⟨k_aa (by decide +kernel),
  List.forall_mem_cons.mpr ⟨k_callV (y := 48) (n := 1) (ci := 6) rfl w_486 w_406 w_407 w_43 w_408 (by decide +kernel) (by decide) (by decide +kernel),
  List.forall_mem_cons.mpr ⟨k_callSN (idx := 71) (y := 81) (n := 1) (host := "DuneMaps") (by decide +kernel) w_336 w_39 w_337 (by decide +kernel) (by decide) (by decide +kernel),
  List.forall_mem_cons.mpr ⟨k_is (by decide +kernel),
  List.forall_mem_cons.mpr ⟨k_al (by decide +kernel),
  List.forall_mem_cons.mpr ⟨k_alN (i := 0) (by decide +kernel) rfl,
  List.forall_mem_cons.mpr ⟨k_gf (j := 0) (T := TX3) rfl inX3G (by decide) w_158 (by decide +kernel),
  List.forall_mem_cons.mpr ⟨k_ilN (i := 2) (by decide +kernel) rfl,
  List.forall_mem_cons.mpr ⟨k_iconst (n := 1) (1) (by decide +kernel) (by decide),
  List.forall_mem_cons.mpr ⟨k_iadd (by decide +kernel),
  List.forall_mem_cons.mpr ⟨k_aa (by decide +kernel),
  List.forall_mem_cons.mpr ⟨k_callV (y := 51) (n := 1) (ci := 6) rfl w_488 w_489 w_490 w_43 w_491 (by decide +kernel) (by decide) (by decide +kernel),
  List.forall_mem_cons.mpr ⟨k_alN (i := 0) (by decide +kernel) rfl,
  List.forall_mem_cons.mpr ⟨k_gf (j := 1) (T := TX3) rfl inX3G (by decide) w_159 (by decide +kernel),
  List.forall_mem_cons.mpr ⟨k_ilN (i := 2) (by decide +kernel) rfl,
  List.forall_mem_cons.mpr ⟨k_il (by decide +kernel),
  List.forall_mem_cons.mpr ⟨k_ist (by decide +kernel),
  List.forall_mem_cons.mpr ⟨k_alN (i := 0) (by decide +kernel) rfl,
  List.forall_mem_cons.mpr ⟨k_alN (i := 1) (by decide +kernel) rfl,
  List.forall_mem_cons.mpr ⟨k_ilN (i := 2) (by decide +kernel) rfl,
  List.forall_mem_cons.mpr ⟨k_iconst (n := 1) (1) (by decide +kernel) (by decide),
  List.forall_mem_cons.mpr ⟨k_iadd (by decide +kernel),
  List.forall_mem_cons.mpr ⟨k_ilN (i := 3) (by decide +kernel) rfl,
  List.forall_mem_cons.mpr ⟨k_iconst (n := 1) (1) (by decide +kernel) (by decide),
  List.forall_mem_cons.mpr ⟨k_il (by decide +kernel),
  List.forall_mem_cons.mpr ⟨k_ishl (by decide +kernel),
  List.forall_mem_cons.mpr ⟨k_ior (by decide +kernel),
  List.forall_mem_cons.mpr ⟨k_il (by decide +kernel),
  List.forall_mem_cons.mpr ⟨k_il (by decide +kernel),
  List.forall_mem_cons.mpr ⟨k_iadd (by decide +kernel),
  List.forall_mem_cons.mpr ⟨k_callV (y := 18) (n := 4) (ci := 3) rfl w_476 w_478 w_4 w_44 w_479 (by decide +kernel) (by decide) (by decide +kernel),
  List.forall_mem_cons.mpr ⟨k_inc (n := 1) (1) (by decide +kernel) (by decide),
  List.forall_mem_cons.mpr ⟨k_goto (off := -115) (by decide +kernel) (by decide),
  List.forall_mem_cons.mpr ⟨k_vret (by decide +kernel),
  fun _ h => absurd h List.not_mem_nil⟩⟩⟩⟩⟩⟩⟩⟩⟩⟩⟩⟩⟩⟩⟩⟩⟩⟩⟩⟩⟩⟩⟩⟩⟩⟩⟩⟩⟩⟩⟩⟩⟩⟩⟩⟩⟩⟩⟩⟩⟩⟩⟩⟩⟩⟩⟩⟩⟩⟩⟩⟩⟩⟩⟩⟩⟩⟩⟩⟩⟩⟩⟩⟩⟩⟩⟩⟩⟩⟩⟩⟩⟩⟩⟩⟩⟩⟩⟩⟩⟩⟩⟩⟩⟩⟩⟩⟩⟩⟩⟩⟩⟩
def tb_19 : List (Nat × pO) := [(0, o_al 0 1), (1, o_il 1 2), (2, o_pf okI 3 4 5), (5, o_const (.int (0)) 6), (6, o_is 2 7), (7, o_il 2 8), (8, o_const (.int (4)) 9), (9, o_cmp (fun x y => y ≤ x) 30 12), (12, o_al 0 13), (13, o_gf 3 2 16), (16, o_il 2 17), (17, o_al 0 18), (18, o_gf 3 1 21), (21, o_il 2 22), (22, o_ia 23), (23, o_ist 24), (24, o_inc 2 (1) 27), (27, o_goto 7), (30, o_vret)]
set_option maxRecDepth 20000 in
theorem tk_19 : ∀ q ∈ tb_19, okA noS mM (prog_5_method_5_code, "DuneMaps$Ordering", 3, none, false) q.1 q.2 :=
  List.forall_mem_cons.mpr ⟨k_alN (i := 0) (by decide +kernel) rfl,
  List.forall_mem_cons.mpr ⟨k_ilN (i := 1) (by decide +kernel) rfl,
  List.forall_mem_cons.mpr ⟨k_pf (j := 4) (T := TX3) tyX3 tyX3_ok nmX3 okI_fit rfl inX3G (by decide) rfl (by decide +kernel) w_162 (by decide +kernel),
  List.forall_mem_cons.mpr ⟨k_iconst (n := 0) (0) (by decide +kernel) (by decide),
  List.forall_mem_cons.mpr ⟨k_isN (i := 2) (by decide +kernel) rfl,
  List.forall_mem_cons.mpr ⟨k_ilN (i := 2) (by decide +kernel) rfl,
  List.forall_mem_cons.mpr ⟨k_iconst (n := 4) (4) (by decide +kernel) (by decide),
  List.forall_mem_cons.mpr ⟨k_icmp_ge (off := 21) (by decide +kernel) (by decide),
  List.forall_mem_cons.mpr ⟨k_alN (i := 0) (by decide +kernel) rfl,
  List.forall_mem_cons.mpr ⟨k_gf (j := 2) (T := TX3) rfl inX3G (by decide) w_160 (by decide +kernel),
  List.forall_mem_cons.mpr ⟨k_ilN (i := 2) (by decide +kernel) rfl,
  List.forall_mem_cons.mpr ⟨k_alN (i := 0) (by decide +kernel) rfl,
  List.forall_mem_cons.mpr ⟨k_gf (j := 1) (T := TX3) rfl inX3G (by decide) w_159 (by decide +kernel),
  List.forall_mem_cons.mpr ⟨k_ilN (i := 2) (by decide +kernel) rfl,
  List.forall_mem_cons.mpr ⟨k_ia (by decide +kernel),
  List.forall_mem_cons.mpr ⟨k_ist (by decide +kernel),
  List.forall_mem_cons.mpr ⟨k_inc (n := 1) (1) (by decide +kernel) (by decide),
  List.forall_mem_cons.mpr ⟨k_goto (off := -20) (by decide +kernel) (by decide),
  List.forall_mem_cons.mpr ⟨k_vret (by decide +kernel),
  fun _ h => absurd h List.not_mem_nil⟩⟩⟩⟩⟩⟩⟩⟩⟩⟩⟩⟩⟩⟩⟩⟩⟩⟩⟩
def tb_20 : List (Nat × pO) := [(0, o_al 0 1), (1, o_obj 4), (4, o_al 0 5), (5, o_const (.int (12)) 7), (7, o_newa 9), (9, o_pf okR 4 0 12), (12, o_vret)]
set_option maxRecDepth 20000 in
theorem tk_20 : ∀ q ∈ tb_20, okA noS mM (prog_6_method_1_code, "DuneMaps$Page", 1, none, true) q.1 q.2 :=
  List.forall_mem_cons.mpr ⟨k_alN (i := 0) (by decide +kernel) rfl,
  List.forall_mem_cons.mpr ⟨k_obj w_63 w_56 w_57 (by decide +kernel),
  List.forall_mem_cons.mpr ⟨k_alN (i := 0) (by decide +kernel) rfl,
  List.forall_mem_cons.mpr ⟨k_bipush (n := 12) (12) (by decide +kernel) (by decide),
  List.forall_mem_cons.mpr ⟨k_newa w_72 (by decide +kernel),
  List.forall_mem_cons.mpr ⟨k_pfF (j := 0) (T := TX4) tyX4 tyX4_ok nmX4 (okR_fitA .int) rfl inX4G (by decide) rfl rfl (by decide +kernel) w_64 (by decide +kernel),
  List.forall_mem_cons.mpr ⟨k_vret (by decide +kernel),
  fun _ h => absurd h List.not_mem_nil⟩⟩⟩⟩⟩⟩⟩
def tb_21 : List (Nat × pO) := [(0, o_al 0 1), (1, o_gf 4 1 4), (4, o_if (fun x => x < 0) 19 7), (7, o_al 0 8), (8, o_gf 4 1 11), (11, o_al 0 12), (12, o_gf 4 0 15), (15, o_len 16), (16, o_cmp (fun x y => x < y) 21 19), (19, o_const (.int (0)) 20), (20, o_zret), (21, o_al 0 22), (22, o_gf 4 0 25), (25, o_al 0 26), (26, o_gf 4 1 29), (29, o_il 1 30), (30, o_ist 31), (31, o_al 0 32), (32, o_dup 33), (33, o_gf 4 1 36), (36, o_const (.int (1)) 37), (37, o_bin (fun x y => x + y) 38), (38, o_pf okI 4 1 41), (41, o_const (.int (1)) 42), (42, o_zret)]
set_option maxRecDepth 20000 in
theorem tk_21 : ∀ q ∈ tb_21, okA noS mM (prog_6_method_2_code, "DuneMaps$Page", 2, some .boolean, false) q.1 q.2 :=
  List.forall_mem_cons.mpr ⟨k_alN (i := 0) (by decide +kernel) rfl,
  List.forall_mem_cons.mpr ⟨k_gf (j := 1) (T := TX4) rfl inX4G (by decide) w_65 (by decide +kernel),
  List.forall_mem_cons.mpr ⟨k_if_lt (off := 15) (by decide +kernel) (by decide),
  List.forall_mem_cons.mpr ⟨k_alN (i := 0) (by decide +kernel) rfl,
  List.forall_mem_cons.mpr ⟨k_gf (j := 1) (T := TX4) rfl inX4G (by decide) w_65 (by decide +kernel),
  List.forall_mem_cons.mpr ⟨k_alN (i := 0) (by decide +kernel) rfl,
  List.forall_mem_cons.mpr ⟨k_gf (j := 0) (T := TX4) rfl inX4G (by decide) w_64 (by decide +kernel),
  List.forall_mem_cons.mpr ⟨k_len (by decide +kernel),
  List.forall_mem_cons.mpr ⟨k_icmp_lt (off := 5) (by decide +kernel) (by decide),
  List.forall_mem_cons.mpr ⟨k_iconst (n := 0) (0) (by decide +kernel) (by decide),
  List.forall_mem_cons.mpr ⟨k_zret (by decide +kernel),
  List.forall_mem_cons.mpr ⟨k_alN (i := 0) (by decide +kernel) rfl,
  List.forall_mem_cons.mpr ⟨k_gf (j := 0) (T := TX4) rfl inX4G (by decide) w_64 (by decide +kernel),
  List.forall_mem_cons.mpr ⟨k_alN (i := 0) (by decide +kernel) rfl,
  List.forall_mem_cons.mpr ⟨k_gf (j := 1) (T := TX4) rfl inX4G (by decide) w_65 (by decide +kernel),
  List.forall_mem_cons.mpr ⟨k_ilN (i := 1) (by decide +kernel) rfl,
  List.forall_mem_cons.mpr ⟨k_ist (by decide +kernel),
  List.forall_mem_cons.mpr ⟨k_alN (i := 0) (by decide +kernel) rfl,
  List.forall_mem_cons.mpr ⟨k_dup (by decide +kernel),
  List.forall_mem_cons.mpr ⟨k_gf (j := 1) (T := TX4) rfl inX4G (by decide) w_65 (by decide +kernel),
  List.forall_mem_cons.mpr ⟨k_iconst (n := 1) (1) (by decide +kernel) (by decide),
  List.forall_mem_cons.mpr ⟨k_iadd (by decide +kernel),
  List.forall_mem_cons.mpr ⟨k_pf (j := 1) (T := TX4) tyX4 tyX4_ok nmX4 okI_fit rfl inX4G (by decide) rfl (by decide +kernel) w_65 (by decide +kernel),
  List.forall_mem_cons.mpr ⟨k_iconst (n := 1) (1) (by decide +kernel) (by decide),
  List.forall_mem_cons.mpr ⟨k_zret (by decide +kernel),
  fun _ h => absurd h List.not_mem_nil⟩⟩⟩⟩⟩⟩⟩⟩⟩⟩⟩⟩⟩⟩⟩⟩⟩⟩⟩⟩⟩⟩⟩⟩⟩
end
section
def tb_22 : List (Nat × pO) := [(0, o_il 1 1), (1, o_if (fun x => x < 0) 13 4), (4, o_il 1 5), (5, o_al 0 6), (6, o_gf 4 0 9), (9, o_len 10), (10, o_cmp (fun x y => x < y) 17 13), (13, o_const (.int (0)) 14), (14, o_goto 23), (17, o_al 0 18), (18, o_gf 4 0 21), (21, o_il 1 22), (22, o_ia 23), (23, o_iret)]
set_option maxRecDepth 20000 in
theorem tk_22 : ∀ q ∈ tb_22, okA noS mM (prog_6_method_3_code, "DuneMaps$Page", 2, some .int, false) q.1 q.2 :=
  List.forall_mem_cons.mpr ⟨k_ilN (i := 1) (by decide +kernel) rfl,
  List.forall_mem_cons.mpr ⟨k_if_lt (off := 12) (by decide +kernel) (by decide),
  List.forall_mem_cons.mpr ⟨k_ilN (i := 1) (by decide +kernel) rfl,
  List.forall_mem_cons.mpr ⟨k_alN (i := 0) (by decide +kernel) rfl,
  List.forall_mem_cons.mpr ⟨k_gf (j := 0) (T := TX4) rfl inX4G (by decide) w_64 (by decide +kernel),
  List.forall_mem_cons.mpr ⟨k_len (by decide +kernel),
  List.forall_mem_cons.mpr ⟨k_icmp_lt (off := 7) (by decide +kernel) (by decide),
  List.forall_mem_cons.mpr ⟨k_iconst (n := 0) (0) (by decide +kernel) (by decide),
  List.forall_mem_cons.mpr ⟨k_goto (off := 9) (by decide +kernel) (by decide),
  List.forall_mem_cons.mpr ⟨k_alN (i := 0) (by decide +kernel) rfl,
  List.forall_mem_cons.mpr ⟨k_gf (j := 0) (T := TX4) rfl inX4G (by decide) w_64 (by decide +kernel),
  List.forall_mem_cons.mpr ⟨k_ilN (i := 1) (by decide +kernel) rfl,
  List.forall_mem_cons.mpr ⟨k_ia (by decide +kernel),
  List.forall_mem_cons.mpr ⟨k_iret (by decide +kernel),
  fun _ h => absurd h List.not_mem_nil⟩⟩⟩⟩⟩⟩⟩⟩⟩⟩⟩⟩⟩⟩
def tb_23 : List (Nat × pO) := [(0, o_const (.int (0)) 1), (1, o_is 2 2), (2, o_il 2 3), (3, o_al 0 4), (4, o_gf 4 1 7), (7, o_cmp (fun x y => y ≤ x) 31 10), (10, o_al 0 11), (11, o_il 2 12), (12, o_call (rcV 4) 22 2 15), (15, o_il 2 16), (16, o_il 1 17), (17, o_call rc0 27 3 20), (20, o_if (fun x => ¬ x = 0) 25 23), (23, o_il 2 24), (24, o_iret), (25, o_inc 2 (1) 28), (28, o_goto 2), (31, o_al 0 32), (32, o_gf 4 1 35), (35, o_iret)]
set_option maxRecDepth 20000 in
theorem tk_23 : ∀ q ∈ tb_23, okA noS mM (prog_6_method_4_code, "DuneMaps$Page", 3, some .int, false) q.1 q.2 :=
  List.forall_mem_cons.mpr ⟨k_iconst (n := 0) (0) (by decide +kernel) (by decide),
  List.forall_mem_cons.mpr ⟨k_isN (i := 2) (by decide +kernel) rfl,
  List.forall_mem_cons.mpr ⟨k_ilN (i := 2) (by decide +kernel) rfl,
  List.forall_mem_cons.mpr ⟨k_alN (i := 0) (by decide +kernel) rfl,
  List.forall_mem_cons.mpr ⟨k_gf (j := 1) (T := TX4) rfl inX4G (by decide) w_65 (by decide +kernel),
  List.forall_mem_cons.mpr ⟨k_icmp_ge (off := 24) (by decide +kernel) (by decide),
  List.forall_mem_cons.mpr ⟨k_alN (i := 0) (by decide +kernel) rfl,
  List.forall_mem_cons.mpr ⟨k_ilN (i := 2) (by decide +kernel) rfl,
  List.forall_mem_cons.mpr ⟨k_callV (y := 22) (n := 1) (ci := 4) rfl w_279 w_280 w_281 w_40 w_282 (by decide +kernel) (by decide) (by decide +kernel),
  List.forall_mem_cons.mpr ⟨k_ilN (i := 2) (by decide +kernel) rfl,
  List.forall_mem_cons.mpr ⟨k_ilN (i := 1) (by decide +kernel) rfl,
  List.forall_mem_cons.mpr ⟨k_callS (y := 27) (n := 3) w_283 w_284 w_40 w_285 (by decide +kernel) (by decide) (by decide +kernel),
  List.forall_mem_cons.mpr ⟨k_if_ne (off := 5) (by decide +kernel) (by decide),
  List.forall_mem_cons.mpr ⟨k_ilN (i := 2) (by decide +kernel) rfl,
  List.forall_mem_cons.mpr ⟨k_iret (by decide +kernel),
  List.forall_mem_cons.mpr ⟨k_inc (n := 1) (1) (by decide +kernel) (by decide),
  List.forall_mem_cons.mpr ⟨k_goto (off := -26) (by decide +kernel) (by decide),
  List.forall_mem_cons.mpr ⟨k_alN (i := 0) (by decide +kernel) rfl,
  List.forall_mem_cons.mpr ⟨k_gf (j := 1) (T := TX4) rfl inX4G (by decide) w_65 (by decide +kernel),
  List.forall_mem_cons.mpr ⟨k_iret (by decide +kernel),
  fun _ h => absurd h List.not_mem_nil⟩⟩⟩⟩⟩⟩⟩⟩⟩⟩⟩⟩⟩⟩⟩⟩⟩⟩⟩⟩
def tb_24 : List (Nat × pO) := [(0, o_il 1 1), (1, o_if (fun x => ¬ x = 0) 9 4), (4, o_const (.int (9)) 6), (6, o_goto 11), (9, o_const (.int (8)) 11), (11, o_is 2 12), (12, o_al 0 13), (13, o_gf 4 1 16), (16, o_il 2 17), (17, o_cmp (fun x y => ¬ x = y) 33 20), (20, o_al 0 21), (21, o_il 1 22), (22, o_call (rcV 4) 23 2 25), (25, o_il 2 26), (26, o_cmp (fun x y => ¬ x = y) 33 29), (29, o_const (.int (1)) 30), (30, o_goto 34), (33, o_const (.int (0)) 34), (34, o_zret)]
set_option maxRecDepth 20000 in
theorem tk_24 : ∀ q ∈ tb_24, okA noS mM (prog_6_method_5_code, "DuneMaps$Page", 3, some .boolean, false) q.1 q.2 :=
  List.forall_mem_cons.mpr ⟨k_ilN (i := 1) (by decide +kernel) rfl,
  List.forall_mem_cons.mpr ⟨k_if_ne (off := 8) (by decide +kernel) (by decide),
  List.forall_mem_cons.mpr ⟨k_bipush (n := 9) (9) (by decide +kernel) (by decide),
  List.forall_mem_cons.mpr ⟨k_goto (off := 5) (by decide +kernel) (by decide),
  List.forall_mem_cons.mpr ⟨k_bipush (n := 8) (8) (by decide +kernel) (by decide),
  List.forall_mem_cons.mpr ⟨k_isN (i := 2) (by decide +kernel) rfl,
  List.forall_mem_cons.mpr ⟨k_alN (i := 0) (by decide +kernel) rfl,
  List.forall_mem_cons.mpr ⟨k_gf (j := 1) (T := TX4) rfl inX4G (by decide) w_65 (by decide +kernel),
  List.forall_mem_cons.mpr ⟨k_ilN (i := 2) (by decide +kernel) rfl,
  List.forall_mem_cons.mpr ⟨k_icmp_ne (off := 16) (by decide +kernel) (by decide),
  List.forall_mem_cons.mpr ⟨k_alN (i := 0) (by decide +kernel) rfl,
  List.forall_mem_cons.mpr ⟨k_ilN (i := 1) (by decide +kernel) rfl,
  List.forall_mem_cons.mpr ⟨k_callV (y := 23) (n := 1) (ci := 4) rfl w_294 w_276 w_277 w_40 w_278 (by decide +kernel) (by decide) (by decide +kernel),
  List.forall_mem_cons.mpr ⟨k_ilN (i := 2) (by decide +kernel) rfl,
  List.forall_mem_cons.mpr ⟨k_icmp_ne (off := 7) (by decide +kernel) (by decide),
  List.forall_mem_cons.mpr ⟨k_iconst (n := 1) (1) (by decide +kernel) (by decide),
  List.forall_mem_cons.mpr ⟨k_goto (off := 4) (by decide +kernel) (by decide),
  List.forall_mem_cons.mpr ⟨k_iconst (n := 0) (0) (by decide +kernel) (by decide),
  List.forall_mem_cons.mpr ⟨k_zret (by decide +kernel),
  fun _ h => absurd h List.not_mem_nil⟩⟩⟩⟩⟩⟩⟩⟩⟩⟩⟩⟩⟩⟩⟩⟩⟩⟩⟩
def tb_25 : List (Nat × pO) := [(0, o_const (.int (0)) 1), (1, o_is 2 2), (2, o_il 2 3), (3, o_const (.int (8)) 5), (5, o_cmp (fun x y => y ≤ x) 27 8), (8, o_al 1 9), (9, o_il 2 10), (10, o_al 0 11), (11, o_il 2 12), (12, o_call (rcV 4) 22 2 15), (15, o_const (.int (48)) 17), (17, o_bin (fun x y => x - y) 18), (18, o_call (rcV 5) 30 3 21), (21, o_inc 2 (1) 24), (24, o_goto 2), (27, o_vret)]
set_option maxRecDepth 20000 in
theorem tk_25 : ∀ q ∈ tb_25, okA noS mM (prog_6_method_6_code, "DuneMaps$Page", 3, none, false) q.1 q.2 :=
  List.forall_mem_cons.mpr ⟨k_iconst (n := 0) (0) (by decide +kernel) (by decide),
  List.forall_mem_cons.mpr ⟨k_isN (i := 2) (by decide +kernel) rfl,
  List.forall_mem_cons.mpr ⟨k_ilN (i := 2) (by decide +kernel) rfl,
  List.forall_mem_cons.mpr ⟨k_bipush (n := 8) (8) (by decide +kernel) (by decide),
  List.forall_mem_cons.mpr ⟨k_icmp_ge (off := 22) (by decide +kernel) (by decide),
  List.forall_mem_cons.mpr ⟨k_alN (i := 1) (by decide +kernel) rfl,
  List.forall_mem_cons.mpr ⟨k_ilN (i := 2) (by decide +kernel) rfl,
  List.forall_mem_cons.mpr ⟨k_alN (i := 0) (by decide +kernel) rfl,
  List.forall_mem_cons.mpr ⟨k_ilN (i := 2) (by decide +kernel) rfl,
  List.forall_mem_cons.mpr ⟨k_callV (y := 22) (n := 1) (ci := 4) rfl w_279 w_280 w_281 w_40 w_282 (by decide +kernel) (by decide) (by decide +kernel),
  List.forall_mem_cons.mpr ⟨k_bipush (n := 48) (48) (by decide +kernel) (by decide),
  List.forall_mem_cons.mpr ⟨k_isub (by decide +kernel),
  List.forall_mem_cons.mpr ⟨k_callV (y := 30) (n := 2) (ci := 5) rfl w_303 w_304 w_305 w_42 w_306 (by decide +kernel) (by decide) (by decide +kernel),
  List.forall_mem_cons.mpr ⟨k_inc (n := 1) (1) (by decide +kernel) (by decide),
  List.forall_mem_cons.mpr ⟨k_goto (off := -22) (by decide +kernel) (by decide),
  List.forall_mem_cons.mpr ⟨k_vret (by decide +kernel),
  fun _ h => absurd h List.not_mem_nil⟩⟩⟩⟩⟩⟩⟩⟩⟩⟩⟩⟩⟩⟩⟩⟩
def tb_26 : List (Nat × pO) := [(0, o_al 0 1), (1, o_const (.int (8)) 3), (3, o_call (rcV 4) 22 2 6), (6, o_const (.int (62)) 8), (8, o_cmp (fun x y => ¬ x = y) 15 11), (11, o_const (.int (1)) 12), (12, o_goto 16), (15, o_const (.int (0)) 16), (16, o_zret)]
set_option maxRecDepth 20000 in
theorem tk_26 : ∀ q ∈ tb_26, okA noS mM (prog_6_method_7_code, "DuneMaps$Page", 1, some .boolean, false) q.1 q.2 :=
  List.forall_mem_cons.mpr ⟨k_alN (i := 0) (by decide +kernel) rfl,
  List.forall_mem_cons.mpr ⟨k_bipush (n := 8) (8) (by decide +kernel) (by decide),
  List.forall_mem_cons.mpr ⟨k_callV (y := 22) (n := 1) (ci := 4) rfl w_279 w_280 w_281 w_40 w_282 (by decide +kernel) (by decide) (by decide +kernel),
  List.forall_mem_cons.mpr ⟨k_bipush (n := 62) (62) (by decide +kernel) (by decide),
  List.forall_mem_cons.mpr ⟨k_icmp_ne (off := 7) (by decide +kernel) (by decide),
  List.forall_mem_cons.mpr ⟨k_iconst (n := 1) (1) (by decide +kernel) (by decide),
  List.forall_mem_cons.mpr ⟨k_goto (off := 4) (by decide +kernel) (by decide),
  List.forall_mem_cons.mpr ⟨k_iconst (n := 0) (0) (by decide +kernel) (by decide),
  List.forall_mem_cons.mpr ⟨k_zret (by decide +kernel),
  fun _ h => absurd h List.not_mem_nil⟩⟩⟩⟩⟩⟩⟩⟩⟩
def tb_27 : List (Nat × pO) := [(0, o_il 1 1), (1, o_const (.int (8)) 3), (3, o_cmp (fun x y => y ≤ x) 24 6), (6, o_il 0 7), (7, o_const (.int (48)) 9), (9, o_cmp (fun x y => x < y) 22 12), (12, o_il 0 13), (13, o_const (.int (57)) 15), (15, o_cmp (fun x y => y < x) 22 18), (18, o_const (.int (1)) 19), (19, o_goto 23), (22, o_const (.int (0)) 23), (23, o_zret), (24, o_il 1 25), (25, o_const (.int (8)) 27), (27, o_cmp (fun x y => ¬ x = y) 50 30), (30, o_il 2 31), (31, o_if (fun x => ¬ x = 0) 50 34), (34, o_il 0 35), (35, o_const (.int (62)) 37), (37, o_cmp (fun x y => x = y) 46 40), (40, o_il 0 41), (41, o_const (.int (60)) 43), (43, o_cmp (fun x y => ¬ x = y) 50 46), (46, o_const (.int (1)) 47), (47, o_goto 51), (50, o_const (.int (0)) 51), (51, o_zret)]
set_option maxRecDepth 20000 in
theorem tk_27 : ∀ q ∈ tb_27, okA noS mM (prog_6_method_8_code, "DuneMaps$Page", 3, some .boolean, false) q.1 q.2 :=
  List.forall_mem_cons.mpr ⟨k_ilN (i := 1) (by decide +kernel) rfl,
  List.forall_mem_cons.mpr ⟨k_bipush (n := 8) (8) (by decide +kernel) (by decide),
  List.forall_mem_cons.mpr ⟨k_icmp_ge (off := 21) (by decide +kernel) (by decide),
  List.forall_mem_cons.mpr ⟨k_ilN (i := 0) (by decide +kernel) rfl,
  List.forall_mem_cons.mpr ⟨k_bipush (n := 48) (48) (by decide +kernel) (by decide),
  List.forall_mem_cons.mpr ⟨k_icmp_lt (off := 13) (by decide +kernel) (by decide),
  List.forall_mem_cons.mpr ⟨k_ilN (i := 0) (by decide +kernel) rfl,
  List.forall_mem_cons.mpr ⟨k_bipush (n := 57) (57) (by decide +kernel) (by decide),
  List.forall_mem_cons.mpr ⟨k_icmp_gt (off := 7) (by decide +kernel) (by decide),
  List.forall_mem_cons.mpr ⟨k_iconst (n := 1) (1) (by decide +kernel) (by decide),
  List.forall_mem_cons.mpr ⟨k_goto (off := 4) (by decide +kernel) (by decide),
  List.forall_mem_cons.mpr ⟨k_iconst (n := 0) (0) (by decide +kernel) (by decide),
  List.forall_mem_cons.mpr ⟨k_zret (by decide +kernel),
  List.forall_mem_cons.mpr ⟨k_ilN (i := 1) (by decide +kernel) rfl,
  List.forall_mem_cons.mpr ⟨k_bipush (n := 8) (8) (by decide +kernel) (by decide),
  List.forall_mem_cons.mpr ⟨k_icmp_ne (off := 23) (by decide +kernel) (by decide),
  List.forall_mem_cons.mpr ⟨k_ilN (i := 2) (by decide +kernel) rfl,
  List.forall_mem_cons.mpr ⟨k_if_ne (off := 19) (by decide +kernel) (by decide),
  List.forall_mem_cons.mpr ⟨k_ilN (i := 0) (by decide +kernel) rfl,
  List.forall_mem_cons.mpr ⟨k_bipush (n := 62) (62) (by decide +kernel) (by decide),
  List.forall_mem_cons.mpr ⟨k_icmp_eq (off := 9) (by decide +kernel) (by decide),
  List.forall_mem_cons.mpr ⟨k_ilN (i := 0) (by decide +kernel) rfl,
  List.forall_mem_cons.mpr ⟨k_bipush (n := 60) (60) (by decide +kernel) (by decide),
  List.forall_mem_cons.mpr ⟨k_icmp_ne (off := 7) (by decide +kernel) (by decide),
  List.forall_mem_cons.mpr ⟨k_iconst (n := 1) (1) (by decide +kernel) (by decide),
  List.forall_mem_cons.mpr ⟨k_goto (off := 4) (by decide +kernel) (by decide),
  List.forall_mem_cons.mpr ⟨k_iconst (n := 0) (0) (by decide +kernel) (by decide),
  List.forall_mem_cons.mpr ⟨k_zret (by decide +kernel),
  fun _ h => absurd h List.not_mem_nil⟩⟩⟩⟩⟩⟩⟩⟩⟩⟩⟩⟩⟩⟩⟩⟩⟩⟩⟩⟩⟩⟩⟩⟩⟩⟩⟩⟩
def tb_28 : List (Nat × pO) := [(0, o_al 0 1), (1, o_obj 4), (4, o_al 0 5), (5, o_const (.int (8)) 7), (7, o_newa 9), (9, o_pf okR 5 0 12), (12, o_vret)]
set_option maxRecDepth 20000 in
theorem tk_28 : ∀ q ∈ tb_28, okA noS mM (prog_7_method_1_code, "DuneMaps$Sand", 1, none, true) q.1 q.2 :=
  List.forall_mem_cons.mpr ⟨k_alN (i := 0) (by decide +kernel) rfl,
  List.forall_mem_cons.mpr ⟨k_obj w_84 w_56 w_57 (by decide +kernel),
  List.forall_mem_cons.mpr ⟨k_alN (i := 0) (by decide +kernel) rfl,
  List.forall_mem_cons.mpr ⟨k_bipush (n := 8) (8) (by decide +kernel) (by decide),
  List.forall_mem_cons.mpr ⟨k_newa w_72 (by decide +kernel),
  List.forall_mem_cons.mpr ⟨k_pfF (j := 0) (T := TX5) tyX5 tyX5_ok nmX5 (okR_fitA .int) rfl inX5G (by decide) rfl rfl (by decide +kernel) w_85 (by decide +kernel),
  List.forall_mem_cons.mpr ⟨k_vret (by decide +kernel),
  fun _ h => absurd h List.not_mem_nil⟩⟩⟩⟩⟩⟩⟩
def tb_29 : List (Nat × pO) := [(0, o_al 0 1), (1, o_gf 5 0 4), (4, o_il 1 5), (5, o_const (.int (7)) 7), (7, o_bin (fun x y => x &&& y) 8), (8, o_ia 9), (9, o_iret)]
set_option maxRecDepth 20000 in
theorem tk_29 : ∀ q ∈ tb_29, okA noS mM (prog_7_method_2_code, "DuneMaps$Sand", 2, some .int, false) q.1 q.2 :=
  List.forall_mem_cons.mpr ⟨k_alN (i := 0) (by decide +kernel) rfl,
  List.forall_mem_cons.mpr ⟨k_gf (j := 0) (T := TX5) rfl inX5G (by decide) w_85 (by decide +kernel),
  List.forall_mem_cons.mpr ⟨k_ilN (i := 1) (by decide +kernel) rfl,
  List.forall_mem_cons.mpr ⟨k_bipush (n := 7) (7) (by decide +kernel) (by decide),
  List.forall_mem_cons.mpr ⟨k_iand (by decide +kernel),
  List.forall_mem_cons.mpr ⟨k_ia (by decide +kernel),
  List.forall_mem_cons.mpr ⟨k_iret (by decide +kernel),
  fun _ h => absurd h List.not_mem_nil⟩⟩⟩⟩⟩⟩⟩
def tb_30 : List (Nat × pO) := [(0, o_al 0 1), (1, o_gf 5 0 4), (4, o_il 1 5), (5, o_const (.int (7)) 7), (7, o_bin (fun x y => x &&& y) 8), (8, o_il 2 9), (9, o_ist 10), (10, o_vret)]
set_option maxRecDepth 20000 in
theorem tk_30 : ∀ q ∈ tb_30, okA noS mM (prog_7_method_3_code, "DuneMaps$Sand", 3, none, false) q.1 q.2 :=
  List.forall_mem_cons.mpr ⟨k_alN (i := 0) (by decide +kernel) rfl,
  List.forall_mem_cons.mpr ⟨k_gf (j := 0) (T := TX5) rfl inX5G (by decide) w_85 (by decide +kernel),
  List.forall_mem_cons.mpr ⟨k_ilN (i := 1) (by decide +kernel) rfl,
  List.forall_mem_cons.mpr ⟨k_bipush (n := 7) (7) (by decide +kernel) (by decide),
  List.forall_mem_cons.mpr ⟨k_iand (by decide +kernel),
  List.forall_mem_cons.mpr ⟨k_ilN (i := 2) (by decide +kernel) rfl,
  List.forall_mem_cons.mpr ⟨k_ist (by decide +kernel),
  List.forall_mem_cons.mpr ⟨k_vret (by decide +kernel),
  fun _ h => absurd h List.not_mem_nil⟩⟩⟩⟩⟩⟩⟩⟩
def tb_31 : List (Nat × pO) := [(0, o_al 0 1), (1, o_al 1 2), (2, o_call (rcV 5) 32 2 5), (5, o_al 0 6), (6, o_al 1 7), (7, o_gf 5 1 10), (10, o_pf okZ 5 1 13), (13, o_vret)]
set_option maxRecDepth 20000 in
theorem tk_31 : ∀ q ∈ tb_31, okA noS mM (prog_7_method_4_code, "DuneMaps$Sand", 2, none, false) q.1 q.2 :=
  List.forall_mem_cons.mpr ⟨k_alN (i := 0) (by decide +kernel) rfl,
  List.forall_mem_cons.mpr ⟨k_alN (i := 1) (by decide +kernel) rfl,
  List.forall_mem_cons.mpr ⟨k_callV (y := 32) (n := 1) (ci := 5) rfl w_472 w_473 w_474 w_42 w_475 (by decide +kernel) (by decide) (by decide +kernel),
  List.forall_mem_cons.mpr ⟨k_alN (i := 0) (by decide +kernel) rfl,
  List.forall_mem_cons.mpr ⟨k_alN (i := 1) (by decide +kernel) rfl,
  List.forall_mem_cons.mpr ⟨k_gf (j := 1) (T := TX5) rfl inX5G (by decide) w_87 (by decide +kernel),
  List.forall_mem_cons.mpr ⟨k_pf (j := 1) (T := TX5) tyX5 tyX5_ok nmX5 okZ_fit rfl inX5G (by decide) rfl (by decide +kernel) w_87 (by decide +kernel),
  List.forall_mem_cons.mpr ⟨k_vret (by decide +kernel),
  fun _ h => absurd h List.not_mem_nil⟩⟩⟩⟩⟩⟩⟩⟩
def tb_32 : List (Nat × pO) := [(0, o_const (.int (0)) 1), (1, o_is 2 2), (2, o_il 2 3), (3, o_const (.int (8)) 5), (5, o_cmp (fun x y => y ≤ x) 26 8), (8, o_al 0 9), (9, o_gf 5 0 12), (12, o_il 2 13), (13, o_al 1 14), (14, o_gf 5 0 17), (17, o_il 2 18), (18, o_ia 19), (19, o_ist 20), (20, o_inc 2 (1) 23), (23, o_goto 2), (26, o_vret)]
set_option maxRecDepth 20000 in
theorem tk_32 : ∀ q ∈ tb_32, okA noS mM (prog_7_method_5_code, "DuneMaps$Sand", 3, none, false) q.1 q.2 :=
  List.forall_mem_cons.mpr ⟨k_iconst (n := 0) (0) (by decide +kernel) (by decide),
  List.forall_mem_cons.mpr ⟨k_isN (i := 2) (by decide +kernel) rfl,
  List.forall_mem_cons.mpr ⟨k_ilN (i := 2) (by decide +kernel) rfl,
  List.forall_mem_cons.mpr ⟨k_bipush (n := 8) (8) (by decide +kernel) (by decide),
  List.forall_mem_cons.mpr ⟨k_icmp_ge (off := 21) (by decide +kernel) (by decide),
  List.forall_mem_cons.mpr ⟨k_alN (i := 0) (by decide +kernel) rfl,
  List.forall_mem_cons.mpr ⟨k_gf (j := 0) (T := TX5) rfl inX5G (by decide) w_85 (by decide +kernel),
  List.forall_mem_cons.mpr ⟨k_ilN (i := 2) (by decide +kernel) rfl,
  List.forall_mem_cons.mpr ⟨k_alN (i := 1) (by decide +kernel) rfl,
  List.forall_mem_cons.mpr ⟨k_gf (j := 0) (T := TX5) rfl inX5G (by decide) w_85 (by decide +kernel),
  List.forall_mem_cons.mpr ⟨k_ilN (i := 2) (by decide +kernel) rfl,
  List.forall_mem_cons.mpr ⟨k_ia (by decide +kernel),
  List.forall_mem_cons.mpr ⟨k_ist (by decide +kernel),
  List.forall_mem_cons.mpr ⟨k_inc (n := 1) (1) (by decide +kernel) (by decide),
  List.forall_mem_cons.mpr ⟨k_goto (off := -21) (by decide +kernel) (by decide),
  List.forall_mem_cons.mpr ⟨k_vret (by decide +kernel),
  fun _ h => absurd h List.not_mem_nil⟩⟩⟩⟩⟩⟩⟩⟩⟩⟩⟩⟩⟩⟩⟩⟩
def tb_33 : List (Nat × pO) := [(0, o_const (.int (0)) 1), (1, o_is 2 2), (2, o_il 2 3), (3, o_const (.int (8)) 5), (5, o_cmp (fun x y => y ≤ x) 31 8), (8, o_al 0 9), (9, o_gf 5 0 12), (12, o_il 2 13), (13, o_ia 14), (14, o_al 1 15), (15, o_gf 5 0 18), (18, o_il 2 19), (19, o_ia 20), (20, o_cmp (fun x y => x = y) 25 23), (23, o_const (.int (0)) 24), (24, o_zret), (25, o_inc 2 (1) 28), (28, o_goto 2), (31, o_const (.int (1)) 32), (32, o_zret)]
set_option maxRecDepth 20000 in
theorem tk_33 : ∀ q ∈ tb_33, okA noS mM (prog_7_method_6_code, "DuneMaps$Sand", 3, some .boolean, false) q.1 q.2 :=
  List.forall_mem_cons.mpr ⟨k_iconst (n := 0) (0) (by decide +kernel) (by decide),
  List.forall_mem_cons.mpr ⟨k_isN (i := 2) (by decide +kernel) rfl,
  List.forall_mem_cons.mpr ⟨k_ilN (i := 2) (by decide +kernel) rfl,
  List.forall_mem_cons.mpr ⟨k_bipush (n := 8) (8) (by decide +kernel) (by decide),
  List.forall_mem_cons.mpr ⟨k_icmp_ge (off := 26) (by decide +kernel) (by decide),
  List.forall_mem_cons.mpr ⟨k_alN (i := 0) (by decide +kernel) rfl,
  List.forall_mem_cons.mpr ⟨k_gf (j := 0) (T := TX5) rfl inX5G (by decide) w_85 (by decide +kernel),
  List.forall_mem_cons.mpr ⟨k_ilN (i := 2) (by decide +kernel) rfl,
  List.forall_mem_cons.mpr ⟨k_ia (by decide +kernel),
  List.forall_mem_cons.mpr ⟨k_alN (i := 1) (by decide +kernel) rfl,
  List.forall_mem_cons.mpr ⟨k_gf (j := 0) (T := TX5) rfl inX5G (by decide) w_85 (by decide +kernel),
  List.forall_mem_cons.mpr ⟨k_ilN (i := 2) (by decide +kernel) rfl,
  List.forall_mem_cons.mpr ⟨k_ia (by decide +kernel),
  List.forall_mem_cons.mpr ⟨k_icmp_eq (off := 5) (by decide +kernel) (by decide),
  List.forall_mem_cons.mpr ⟨k_iconst (n := 0) (0) (by decide +kernel) (by decide),
  List.forall_mem_cons.mpr ⟨k_zret (by decide +kernel),
  List.forall_mem_cons.mpr ⟨k_inc (n := 1) (1) (by decide +kernel) (by decide),
  List.forall_mem_cons.mpr ⟨k_goto (off := -26) (by decide +kernel) (by decide),
  List.forall_mem_cons.mpr ⟨k_iconst (n := 1) (1) (by decide +kernel) (by decide),
  List.forall_mem_cons.mpr ⟨k_zret (by decide +kernel),
  fun _ h => absurd h List.not_mem_nil⟩⟩⟩⟩⟩⟩⟩⟩⟩⟩⟩⟩⟩⟩⟩⟩⟩⟩⟩⟩
def tb_34 : List (Nat × pO) := [(0, o_const (.int (0)) 1), (1, o_is 1 2), (2, o_const (.int (0)) 3), (3, o_is 2 4), (4, o_il 2 5), (5, o_const (.int (8)) 7), (7, o_cmp (fun x y => y ≤ x) 25 10), (10, o_il 1 11), (11, o_al 0 12), (12, o_gf 5 0 15), (15, o_il 2 16), (16, o_ia 17), (17, o_bin (fun x y => x + y) 18), (18, o_is 1 19), (19, o_inc 2 (1) 22), (22, o_goto 4), (25, o_il 1 26), (26, o_iret)]
set_option maxRecDepth 20000 in
theorem tk_34 : ∀ q ∈ tb_34, okA noS mM (prog_7_method_7_code, "DuneMaps$Sand", 3, some .int, false) q.1 q.2 :=
  List.forall_mem_cons.mpr ⟨k_iconst (n := 0) (0) (by decide +kernel) (by decide),
  List.forall_mem_cons.mpr ⟨k_isN (i := 1) (by decide +kernel) rfl,
  List.forall_mem_cons.mpr ⟨k_iconst (n := 0) (0) (by decide +kernel) (by decide),
  List.forall_mem_cons.mpr ⟨k_isN (i := 2) (by decide +kernel) rfl,
  List.forall_mem_cons.mpr ⟨k_ilN (i := 2) (by decide +kernel) rfl,
  List.forall_mem_cons.mpr ⟨k_bipush (n := 8) (8) (by decide +kernel) (by decide),
  List.forall_mem_cons.mpr ⟨k_icmp_ge (off := 18) (by decide +kernel) (by decide),
  List.forall_mem_cons.mpr ⟨k_ilN (i := 1) (by decide +kernel) rfl,
  List.forall_mem_cons.mpr ⟨k_alN (i := 0) (by decide +kernel) rfl,
  List.forall_mem_cons.mpr ⟨k_gf (j := 0) (T := TX5) rfl inX5G (by decide) w_85 (by decide +kernel),
  List.forall_mem_cons.mpr ⟨k_ilN (i := 2) (by decide +kernel) rfl,
  List.forall_mem_cons.mpr ⟨k_ia (by decide +kernel),
  List.forall_mem_cons.mpr ⟨k_iadd (by decide +kernel),
  List.forall_mem_cons.mpr ⟨k_isN (i := 1) (by decide +kernel) rfl,
  List.forall_mem_cons.mpr ⟨k_inc (n := 1) (1) (by decide +kernel) (by decide),
  List.forall_mem_cons.mpr ⟨k_goto (off := -18) (by decide +kernel) (by decide),
  List.forall_mem_cons.mpr ⟨k_ilN (i := 1) (by decide +kernel) rfl,
  List.forall_mem_cons.mpr ⟨k_iret (by decide +kernel),
  fun _ h => absurd h List.not_mem_nil⟩⟩⟩⟩⟩⟩⟩⟩⟩⟩⟩⟩⟩⟩⟩⟩⟩⟩
def tb_35 : List (Nat × pO) := [(0, o_const (.int (0)) 1), (1, o_is 1 2), (2, o_const (.int (0)) 3), (3, o_is 2 4), (4, o_il 2 5), (5, o_const (.int (8)) 7), (7, o_cmp (fun x y => y ≤ x) 27 10), (10, o_il 1 11), (11, o_al 0 12), (12, o_gf 5 0 15), (15, o_il 2 16), (16, o_ia 17), (17, o_call rc0 145 2 20), (20, o_is 1 21), (21, o_inc 2 (1) 24), (24, o_goto 4), (27, o_il 1 28), (28, o_iret)]
set_option maxRecDepth 20000 in
theorem tk_35 : ∀ q ∈ tb_35, okA noS mM (prog_7_method_8_code, "DuneMaps$Sand", 3, some .int, false) q.1 q.2 :=
  List.forall_mem_cons.mpr ⟨k_iconst (n := 0) (0) (by decide +kernel) (by decide),
  List.forall_mem_cons.mpr ⟨k_isN (i := 1) (by decide +kernel) rfl,
  List.forall_mem_cons.mpr ⟨k_iconst (n := 0) (0) (by decide +kernel) (by decide),
  List.forall_mem_cons.mpr ⟨k_isN (i := 2) (by decide +kernel) rfl,
  List.forall_mem_cons.mpr ⟨k_ilN (i := 2) (by decide +kernel) rfl,
  List.forall_mem_cons.mpr ⟨k_bipush (n := 8) (8) (by decide +kernel) (by decide),
  List.forall_mem_cons.mpr ⟨k_icmp_ge (off := 20) (by decide +kernel) (by decide),
  List.forall_mem_cons.mpr ⟨k_ilN (i := 1) (by decide +kernel) rfl,
  List.forall_mem_cons.mpr ⟨k_alN (i := 0) (by decide +kernel) rfl,
  List.forall_mem_cons.mpr ⟨k_gf (j := 0) (T := TX5) rfl inX5G (by decide) w_85 (by decide +kernel),
  List.forall_mem_cons.mpr ⟨k_ilN (i := 2) (by decide +kernel) rfl,
  List.forall_mem_cons.mpr ⟨k_ia (by decide +kernel),
  List.forall_mem_cons.mpr ⟨k_callS (y := 145) (n := 2) w_553 w_554 w_48 w_555 (by decide +kernel) (by decide) (by decide +kernel),
  List.forall_mem_cons.mpr ⟨k_isN (i := 1) (by decide +kernel) rfl,
  List.forall_mem_cons.mpr ⟨k_inc (n := 1) (1) (by decide +kernel) (by decide),
  List.forall_mem_cons.mpr ⟨k_goto (off := -20) (by decide +kernel) (by decide),
  List.forall_mem_cons.mpr ⟨k_ilN (i := 1) (by decide +kernel) rfl,
  List.forall_mem_cons.mpr ⟨k_iret (by decide +kernel),
  fun _ h => absurd h List.not_mem_nil⟩⟩⟩⟩⟩⟩⟩⟩⟩⟩⟩⟩⟩⟩⟩⟩⟩⟩
def tb_36 : List (Nat × pO) := [(0, o_al 0 1), (1, o_gf 5 0 4), (4, o_il 1 5), (5, o_const (.int (7)) 7), (7, o_bin (fun x y => x &&& y) 8), (8, o_ia 9), (9, o_is 2 10), (10, o_al 0 11), (11, o_gf 5 0 14), (14, o_il 1 15), (15, o_const (.int (1)) 16), (16, o_bin (fun x y => x - y) 17), (17, o_const (.int (7)) 19), (19, o_bin (fun x y => x &&& y) 20), (20, o_ia 21), (21, o_is 3 22), (22, o_al 0 23), (23, o_gf 5 0 26), (26, o_il 1 27), (27, o_const (.int (1)) 28), (28, o_bin (fun x y => x + y) 29), (29, o_const (.int (7)) 31), (31, o_bin (fun x y => x &&& y) 32), (32, o_ia 33), (33, o_is 4 35), (35, o_il 2 36), (36, o_il 3 37), (37, o_cmp (fun x y => x ≤ y) 48 40), (40, o_il 2 41), (41, o_il 4 43), (43, o_cmp (fun x y => x ≤ y) 48 46), (46, o_const (.int (1)) 47), (47, o_iret), (48, o_il 2 49), (49, o_il 3 50), (50, o_cmp (fun x y => y ≤ x) 63 53), (53, o_il 2 54), (54, o_il 4 56), (56, o_cmp (fun x y => y ≤ x) 63 59), (59, o_const (.int (2)) 60), (60, o_goto 64), (63, o_const (.int (0)) 64), (64, o_iret)]
set_option maxRecDepth 20000 in
theorem tk_36 : ∀ q ∈ tb_36, okA noS mM (prog_7_method_9_code, "DuneMaps$Sand", 5, some .int, false) q.1 q.2 :=
  List.forall_mem_cons.mpr ⟨k_alN (i := 0) (by decide +kernel) rfl,
  List.forall_mem_cons.mpr ⟨k_gf (j := 0) (T := TX5) rfl inX5G (by decide) w_85 (by decide +kernel),
  List.forall_mem_cons.mpr ⟨k_ilN (i := 1) (by decide +kernel) rfl,
  List.forall_mem_cons.mpr ⟨k_bipush (n := 7) (7) (by decide +kernel) (by decide),
  List.forall_mem_cons.mpr ⟨k_iand (by decide +kernel),
  List.forall_mem_cons.mpr ⟨k_ia (by decide +kernel),
  List.forall_mem_cons.mpr ⟨k_isN (i := 2) (by decide +kernel) rfl,
  List.forall_mem_cons.mpr ⟨k_alN (i := 0) (by decide +kernel) rfl,
  List.forall_mem_cons.mpr ⟨k_gf (j := 0) (T := TX5) rfl inX5G (by decide) w_85 (by decide +kernel),
  List.forall_mem_cons.mpr ⟨k_ilN (i := 1) (by decide +kernel) rfl,
  List.forall_mem_cons.mpr ⟨k_iconst (n := 1) (1) (by decide +kernel) (by decide),
  List.forall_mem_cons.mpr ⟨k_isub (by decide +kernel),
  List.forall_mem_cons.mpr ⟨k_bipush (n := 7) (7) (by decide +kernel) (by decide),
  List.forall_mem_cons.mpr ⟨k_iand (by decide +kernel),
  List.forall_mem_cons.mpr ⟨k_ia (by decide +kernel),
  List.forall_mem_cons.mpr ⟨k_isN (i := 3) (by decide +kernel) rfl,
  List.forall_mem_cons.mpr ⟨k_alN (i := 0) (by decide +kernel) rfl,
  List.forall_mem_cons.mpr ⟨k_gf (j := 0) (T := TX5) rfl inX5G (by decide) w_85 (by decide +kernel),
  List.forall_mem_cons.mpr ⟨k_ilN (i := 1) (by decide +kernel) rfl,
  List.forall_mem_cons.mpr ⟨k_iconst (n := 1) (1) (by decide +kernel) (by decide),
  List.forall_mem_cons.mpr ⟨k_iadd (by decide +kernel),
  List.forall_mem_cons.mpr ⟨k_bipush (n := 7) (7) (by decide +kernel) (by decide),
  List.forall_mem_cons.mpr ⟨k_iand (by decide +kernel),
  List.forall_mem_cons.mpr ⟨k_ia (by decide +kernel),
  List.forall_mem_cons.mpr ⟨k_is (by decide +kernel),
  List.forall_mem_cons.mpr ⟨k_ilN (i := 2) (by decide +kernel) rfl,
  List.forall_mem_cons.mpr ⟨k_ilN (i := 3) (by decide +kernel) rfl,
  List.forall_mem_cons.mpr ⟨k_icmp_le (off := 11) (by decide +kernel) (by decide),
  List.forall_mem_cons.mpr ⟨k_ilN (i := 2) (by decide +kernel) rfl,
  List.forall_mem_cons.mpr ⟨k_il (by decide +kernel),
  List.forall_mem_cons.mpr ⟨k_icmp_le (off := 5) (by decide +kernel) (by decide),
  List.forall_mem_cons.mpr ⟨k_iconst (n := 1) (1) (by decide +kernel) (by decide),
  List.forall_mem_cons.mpr ⟨k_iret (by decide +kernel),
  List.forall_mem_cons.mpr ⟨k_ilN (i := 2) (by decide +kernel) rfl,
  List.forall_mem_cons.mpr ⟨k_ilN (i := 3) (by decide +kernel) rfl,
  List.forall_mem_cons.mpr ⟨k_icmp_ge (off := 13) (by decide +kernel) (by decide),
  List.forall_mem_cons.mpr ⟨k_ilN (i := 2) (by decide +kernel) rfl,
  List.forall_mem_cons.mpr ⟨k_il (by decide +kernel),
  List.forall_mem_cons.mpr ⟨k_icmp_ge (off := 7) (by decide +kernel) (by decide),
  List.forall_mem_cons.mpr ⟨k_iconst (n := 2) (2) (by decide +kernel) (by decide),
  List.forall_mem_cons.mpr ⟨k_goto (off := 4) (by decide +kernel) (by decide),
  List.forall_mem_cons.mpr ⟨k_iconst (n := 0) (0) (by decide +kernel) (by decide),
  List.forall_mem_cons.mpr ⟨k_iret (by decide +kernel),
  fun _ h => absurd h List.not_mem_nil⟩⟩⟩⟩⟩⟩⟩⟩⟩⟩⟩⟩⟩⟩⟩⟩⟩⟩⟩⟩⟩⟩⟩⟩⟩⟩⟩⟩⟩⟩⟩⟩⟩⟩⟩⟩⟩⟩⟩⟩⟩⟩⟩
def tb_37 : List (Nat × pO) := [(0, o_const (.int (0)) 1), (1, o_is 1 2), (2, o_const (.int (0)) 3), (3, o_is 2 4), (4, o_il 2 5), (5, o_const (.int (8)) 7), (7, o_cmp (fun x y => y ≤ x) 31 10), (10, o_al 0 11), (11, o_il 2 12), (12, o_call (rcV 5) 36 2 15), (15, o_const (.int (1)) 16), (16, o_cmp (fun x y => ¬ x = y) 25 19), (19, o_il 1 20), (20, o_const (.int (1)) 21), (21, o_il 2 22), (22, o_bin (fun x y => x <<< (y &&& 31)) 23), (23, o_bin (fun x y => x ||| y) 24), (24, o_is 1 25), (25, o_inc 2 (1) 28), (28, o_goto 4), (31, o_il 1 32), (32, o_iret)]
set_option maxRecDepth 20000 in
theorem tk_37 : ∀ q ∈ tb_37, okA noS mM (prog_7_method_10_code, "DuneMaps$Sand", 3, some .int, false) q.1 q.2 :=
  List.forall_mem_cons.mpr ⟨k_iconst (n := 0) (0) (by decide +kernel) (by decide),
  List.forall_mem_cons.mpr ⟨k_isN (i := 1) (by decide +kernel) rfl,
  List.forall_mem_cons.mpr ⟨k_iconst (n := 0) (0) (by decide +kernel) (by decide),
  List.forall_mem_cons.mpr ⟨k_isN (i := 2) (by decide +kernel) rfl,
  List.forall_mem_cons.mpr ⟨k_ilN (i := 2) (by decide +kernel) rfl,
  List.forall_mem_cons.mpr ⟨k_bipush (n := 8) (8) (by decide +kernel) (by decide),
  List.forall_mem_cons.mpr ⟨k_icmp_ge (off := 24) (by decide +kernel) (by decide),
  List.forall_mem_cons.mpr ⟨k_alN (i := 0) (by decide +kernel) rfl,
  List.forall_mem_cons.mpr ⟨k_ilN (i := 2) (by decide +kernel) rfl,
  List.forall_mem_cons.mpr ⟨k_callV (y := 36) (n := 1) (ci := 5) rfl w_355 w_328 w_329 w_42 w_330 (by decide +kernel) (by decide) (by decide +kernel),
  List.forall_mem_cons.mpr ⟨k_iconst (n := 1) (1) (by decide +kernel) (by decide),
  List.forall_mem_cons.mpr ⟨k_icmp_ne (off := 9) (by decide +kernel) (by decide),
  List.forall_mem_cons.mpr ⟨k_ilN (i := 1) (by decide +kernel) rfl,
  List.forall_mem_cons.mpr ⟨k_iconst (n := 1) (1) (by decide +kernel) (by decide),
  List.forall_mem_cons.mpr ⟨k_ilN (i := 2) (by decide +kernel) rfl,
  List.forall_mem_cons.mpr ⟨k_ishl (by decide +kernel),
  List.forall_mem_cons.mpr ⟨k_ior (by decide +kernel),
  List.forall_mem_cons.mpr ⟨k_isN (i := 1) (by decide +kernel) rfl,
  List.forall_mem_cons.mpr ⟨k_inc (n := 1) (1) (by decide +kernel) (by decide),
  List.forall_mem_cons.mpr ⟨k_goto (off := -24) (by decide +kernel) (by decide),
  List.forall_mem_cons.mpr ⟨k_ilN (i := 1) (by decide +kernel) rfl,
  List.forall_mem_cons.mpr ⟨k_iret (by decide +kernel),
  fun _ h => absurd h List.not_mem_nil⟩⟩⟩⟩⟩⟩⟩⟩⟩⟩⟩⟩⟩⟩⟩⟩⟩⟩⟩⟩⟩⟩
def tb_38 : List (Nat × pO) := [(0, o_al 0 1), (1, o_call (rcV 5) 37 1 4), (4, o_is 1 5), (5, o_const (.int (0)) 6), (6, o_is 2 7), (7, o_il 2 8), (8, o_const (.int (8)) 10), (10, o_cmp (fun x y => y ≤ x) 40 13), (13, o_il 1 14), (14, o_il 2 15), (15, o_bin (fun x y => x >>> (y &&& 31)) 16), (16, o_const (.int (1)) 17), (17, o_bin (fun x y => x &&& y) 18), (18, o_const (.int (1)) 19), (19, o_cmp (fun x y => ¬ x = y) 34 22), (22, o_al 0 23), (23, o_il 2 24), (24, o_al 0 25), (25, o_il 2 26), (26, o_call (rcV 5) 41 2 29), (29, o_const (.int (1)) 30), (30, o_call (rcV 5) 40 4 33), (33, o_pop 34), (34, o_inc 2 (1) 37), (37, o_goto 7), (40, o_il 1 41), (41, o_call rc0 144 1 44), (44, o_iret)]
set_option maxRecDepth 20000 in
theorem tk_38 : ∀ q ∈ tb_38, okA noS mM (prog_7_method_11_code, "DuneMaps$Sand", 3, some .int, false) q.1 q.2 :=
  List.forall_mem_cons.mpr ⟨k_alN (i := 0) (by decide +kernel) rfl,
  List.forall_mem_cons.mpr ⟨k_callV (y := 37) (n := 0) (ci := 5) rfl w_351 w_352 w_353 w_42 w_354 (by decide +kernel) (by decide) (by decide +kernel),
  List.forall_mem_cons.mpr ⟨k_isN (i := 1) (by decide +kernel) rfl,
  List.forall_mem_cons.mpr ⟨k_iconst (n := 0) (0) (by decide +kernel) (by decide),
  List.forall_mem_cons.mpr ⟨k_isN (i := 2) (by decide +kernel) rfl,
  List.forall_mem_cons.mpr ⟨k_ilN (i := 2) (by decide +kernel) rfl,
  List.forall_mem_cons.mpr ⟨k_bipush (n := 8) (8) (by decide +kernel) (by decide),
  List.forall_mem_cons.mpr ⟨k_icmp_ge (off := 30) (by decide +kernel) (by decide),
  List.forall_mem_cons.mpr ⟨k_ilN (i := 1) (by decide +kernel) rfl,
  List.forall_mem_cons.mpr ⟨k_ilN (i := 2) (by decide +kernel) rfl,
  List.forall_mem_cons.mpr ⟨k_ishr (by decide +kernel),
  List.forall_mem_cons.mpr ⟨k_iconst (n := 1) (1) (by decide +kernel) (by decide),
  List.forall_mem_cons.mpr ⟨k_iand (by decide +kernel),
  List.forall_mem_cons.mpr ⟨k_iconst (n := 1) (1) (by decide +kernel) (by decide),
  List.forall_mem_cons.mpr ⟨k_icmp_ne (off := 15) (by decide +kernel) (by decide),
  List.forall_mem_cons.mpr ⟨k_alN (i := 0) (by decide +kernel) rfl,
  List.forall_mem_cons.mpr ⟨k_ilN (i := 2) (by decide +kernel) rfl,
  List.forall_mem_cons.mpr ⟨k_alN (i := 0) (by decide +kernel) rfl,
  List.forall_mem_cons.mpr ⟨k_ilN (i := 2) (by decide +kernel) rfl,
  List.forall_mem_cons.mpr ⟨k_callV (y := 41) (n := 1) (ci := 5) rfl w_356 w_358 w_1 w_42 w_359 (by decide +kernel) (by decide) (by decide +kernel),
  List.forall_mem_cons.mpr ⟨k_iconst (n := 1) (1) (by decide +kernel) (by decide),
  List.forall_mem_cons.mpr ⟨k_callV (y := 40) (n := 3) (ci := 5) rfl w_360 w_362 w_2 w_42 w_363 (by decide +kernel) (by decide) (by decide +kernel),
  List.forall_mem_cons.mpr ⟨k_pop (by decide +kernel),
  List.forall_mem_cons.mpr ⟨k_inc (n := 1) (1) (by decide +kernel) (by decide),
  List.forall_mem_cons.mpr ⟨k_goto (off := -30) (by decide +kernel) (by decide),
  List.forall_mem_cons.mpr ⟨k_ilN (i := 1) (by decide +kernel) rfl,
  List.forall_mem_cons.mpr ⟨k_callS (y := 144) (n := 1) w_367 w_368 w_49 w_369 (by decide +kernel) (by decide) (by decide +kernel),
  List.forall_mem_cons.mpr ⟨k_iret (by decide +kernel),
  fun _ h => absurd h List.not_mem_nil⟩⟩⟩⟩⟩⟩⟩⟩⟩⟩⟩⟩⟩⟩⟩⟩⟩⟩⟩⟩⟩⟩⟩⟩⟩⟩⟩⟩
def tb_39 : List (Nat × pO) := [(0, o_al 0 1), (1, o_il 1 2), (2, o_call (rcV 5) 36 2 5), (5, o_is 3 6), (6, o_il 3 7), (7, o_if (fun x => ¬ x = 0) 12 10), (10, o_const (.int (0)) 11), (11, o_iret), (12, o_il 3 13), (13, o_const (.int (1)) 14), (14, o_cmp (fun x y => ¬ x = y) 21 17), (17, o_const (.int (1)) 18), (18, o_goto 22), (21, o_const (.int (0)) 22), (22, o_il 2 23), (23, o_const (.int (3)) 24), (24, o_cmp (fun x y => ¬ x = y) 31 27), (27, o_const (.int (1)) 28), (28, o_goto 32), (31, o_const (.int (0)) 32), (32, o_cmp (fun x y => x = y) 39 35), (35, o_const (.int (1)) 36), (36, o_goto 40), (39, o_const (.int (0)) 40), (40, o_is 4 42), (42, o_il 4 44), (44, o_if (fun x => x = 0) 55 47), (47, o_al 0 48), (48, o_il 1 49), (49, o_call (rcV 5) 41 2 52), (52, o_goto 60), (55, o_al 0 56), (56, o_il 1 57), (57, o_call (rcV 5) 42 2 60), (60, o_is 5 62), (62, o_il 3 63), (63, o_const (.int (1)) 64), (64, o_cmp (fun x y => ¬ x = y) 79 67), (67, o_al 0 68), (68, o_il 1 69), (69, o_il 5 71), (71, o_il 2 72), (72, o_call rc0 82 1 75), (75, o_call (rcV 5) 40 4 78), (78, o_iret), (79, o_al 0 80), (80, o_il 5 82), (82, o_il 1 83), (83, o_il 2 84), (84, o_call rc0 82 1 87), (87, o_call (rcV 5) 40 4 90), (90, o_iret)]
set_option maxRecDepth 20000 in
theorem tk_39 : ∀ q ∈ tb_39, okA noS mM (prog_7_method_12_code, "DuneMaps$Sand", 6, some .int, false) q.1 q.2 :=
  List.forall_mem_cons.mpr ⟨k_alN (i := 0) (by decide +kernel) rfl,
  List.forall_mem_cons.mpr ⟨k_ilN (i := 1) (by decide +kernel) rfl,
  List.forall_mem_cons.mpr ⟨k_callV (y := 36) (n := 1) (ci := 5) rfl w_355 w_328 w_329 w_42 w_330 (by decide +kernel) (by decide) (by decide +kernel),
  List.forall_mem_cons.mpr ⟨k_isN (i := 3) (by decide +kernel) rfl,
  List.forall_mem_cons.mpr ⟨k_ilN (i := 3) (by decide +kernel) rfl,
  List.forall_mem_cons.mpr ⟨k_if_ne (off := 5) (by decide +kernel) (by decide),
  List.forall_mem_cons.mpr ⟨k_iconst (n := 0) (0) (by decide +kernel) (by decide),
  List.forall_mem_cons.mpr ⟨k_iret (by decide +kernel),
  List.forall_mem_cons.mpr ⟨k_ilN (i := 3) (by decide +kernel) rfl,
  List.forall_mem_cons.mpr ⟨k_iconst (n := 1) (1) (by decide +kernel) (by decide),
  List.forall_mem_cons.mpr ⟨k_icmp_ne (off := 7) (by decide +kernel) (by decide),
  List.forall_mem_cons.mpr ⟨k_iconst (n := 1) (1) (by decide +kernel) (by decide),
  List.forall_mem_cons.mpr ⟨k_goto (off := 4) (by decide +kernel) (by decide),
  List.forall_mem_cons.mpr ⟨k_iconst (n := 0) (0) (by decide +kernel) (by decide),
  List.forall_mem_cons.mpr ⟨k_ilN (i := 2) (by decide +kernel) rfl,
  List.forall_mem_cons.mpr ⟨k_iconst (n := 3) (3) (by decide +kernel) (by decide),
  List.forall_mem_cons.mpr ⟨k_icmp_ne (off := 7) (by decide +kernel) (by decide),
  List.forall_mem_cons.mpr ⟨k_iconst (n := 1) (1) (by decide +kernel) (by decide),
  List.forall_mem_cons.mpr ⟨k_goto (off := 4) (by decide +kernel) (by decide),
  List.forall_mem_cons.mpr ⟨k_iconst (n := 0) (0) (by decide +kernel) (by decide),
  List.forall_mem_cons.mpr ⟨k_icmp_eq (off := 7) (by decide +kernel) (by decide),
  List.forall_mem_cons.mpr ⟨k_iconst (n := 1) (1) (by decide +kernel) (by decide),
  List.forall_mem_cons.mpr ⟨k_goto (off := 4) (by decide +kernel) (by decide),
  List.forall_mem_cons.mpr ⟨k_iconst (n := 0) (0) (by decide +kernel) (by decide),
  List.forall_mem_cons.mpr ⟨k_is (by decide +kernel),
  List.forall_mem_cons.mpr ⟨k_il (by decide +kernel),
  List.forall_mem_cons.mpr ⟨k_if_eq (off := 11) (by decide +kernel) (by decide),
  List.forall_mem_cons.mpr ⟨k_alN (i := 0) (by decide +kernel) rfl,
  List.forall_mem_cons.mpr ⟨k_ilN (i := 1) (by decide +kernel) rfl,
  List.forall_mem_cons.mpr ⟨k_callV (y := 41) (n := 1) (ci := 5) rfl w_356 w_358 w_1 w_42 w_359 (by decide +kernel) (by decide) (by decide +kernel),
  List.forall_mem_cons.mpr ⟨k_goto (off := 8) (by decide +kernel) (by decide),
  List.forall_mem_cons.mpr ⟨k_alN (i := 0) (by decide +kernel) rfl,
  List.forall_mem_cons.mpr ⟨k_ilN (i := 1) (by decide +kernel) rfl,
  List.forall_mem_cons.mpr ⟨k_callV (y := 42) (n := 1) (ci := 5) rfl w_433 w_435 w_3 w_42 w_436 (by decide +kernel) (by decide) (by decide +kernel),
  List.forall_mem_cons.mpr ⟨k_is (by decide +kernel),
  List.forall_mem_cons.mpr ⟨k_ilN (i := 3) (by decide +kernel) rfl,
  List.forall_mem_cons.mpr ⟨k_iconst (n := 1) (1) (by decide +kernel) (by decide),
  List.forall_mem_cons.mpr ⟨k_icmp_ne (off := 15) (by decide +kernel) (by decide),
  List.forall_mem_cons.mpr ⟨k_alN (i := 0) (by decide +kernel) rfl,
  List.forall_mem_cons.mpr ⟨k_ilN (i := 1) (by decide +kernel) rfl,
  List.forall_mem_cons.mpr ⟨k_il (by decide +kernel),
  List.forall_mem_cons.mpr ⟨k_ilN (i := 2) (by decide +kernel) rfl,
  List.forall_mem_cons.mpr ⟨k_callSN (idx := 52) (y := 82) (n := 1) (host := "DuneMaps") (by decide +kernel) w_397 w_39 w_398 (by decide +kernel) (by decide) (by decide +kernel),
  List.forall_mem_cons.mpr ⟨k_callV (y := 40) (n := 3) (ci := 5) rfl w_360 w_362 w_2 w_42 w_363 (by decide +kernel) (by decide) (by decide +kernel),
  List.forall_mem_cons.mpr ⟨k_iret (by decide +kernel),
  List.forall_mem_cons.mpr ⟨k_alN (i := 0) (by decide +kernel) rfl,
  List.forall_mem_cons.mpr ⟨k_il (by decide +kernel),
  List.forall_mem_cons.mpr ⟨k_ilN (i := 1) (by decide +kernel) rfl,
  List.forall_mem_cons.mpr ⟨k_ilN (i := 2) (by decide +kernel) rfl,
  List.forall_mem_cons.mpr ⟨k_callSN (idx := 52) (y := 82) (n := 1) (host := "DuneMaps") (by decide +kernel) w_397 w_39 w_398 (by decide +kernel) (by decide) (by decide +kernel),
  List.forall_mem_cons.mpr ⟨k_callV (y := 40) (n := 3) (ci := 5) rfl w_360 w_362 w_2 w_42 w_363 (by decide +kernel) (by decide) (by decide +kernel),
  List.forall_mem_cons.mpr ⟨k_iret (by decide +kernel),
  fun _ h => absurd h List.not_mem_nil⟩⟩⟩⟩⟩⟩⟩⟩⟩⟩⟩⟩⟩⟩⟩⟩⟩⟩⟩⟩⟩⟩⟩⟩⟩⟩⟩⟩⟩⟩⟩⟩⟩⟩⟩⟩⟩⟩⟩⟩⟩⟩⟩⟩⟩⟩⟩⟩⟩⟩⟩⟩
def tb_40 : List (Nat × pO) := [(0, o_il 3 1), (1, o_al 0 2), (2, o_gf 5 0 5), (5, o_il 1 6), (6, o_const (.int (7)) 8), (8, o_bin (fun x y => x &&& y) 9), (9, o_ia 10), (10, o_call rc0 146 2 13), (13, o_is 4 15), (15, o_al 0 16), (16, o_gf 5 0 19), (19, o_il 1 20), (20, o_const (.int (7)) 22), (22, o_bin (fun x y => x &&& y) 23), (23, o_dup2 24), (24, o_ia 25), (25, o_il 4 27), (27, o_bin (fun x y => x - y) 28), (28, o_ist 29), (29, o_al 0 30), (30, o_gf 5 0 33), (33, o_il 2 34), (34, o_const (.int (7)) 36), (36, o_bin (fun x y => x &&& y) 37), (37, o_dup2 38), (38, o_ia 39), (39, o_il 4 41), (41, o_bin (fun x y => x + y) 42), (42, o_ist 43), (43, o_il 4 45), (45, o_iret)]
set_option maxRecDepth 20000 in
theorem tk_40 : ∀ q ∈ tb_40, okA noS mM (prog_7_method_13_code, "DuneMaps$Sand", 5, some .int, false) q.1 q.2 :=
  List.forall_mem_cons.mpr ⟨k_ilN (i := 3) (by decide +kernel) rfl,
  List.forall_mem_cons.mpr ⟨k_alN (i := 0) (by decide +kernel) rfl,
  List.forall_mem_cons.mpr ⟨k_gf (j := 0) (T := TX5) rfl inX5G (by decide) w_85 (by decide +kernel),
  List.forall_mem_cons.mpr ⟨k_ilN (i := 1) (by decide +kernel) rfl,
  List.forall_mem_cons.mpr ⟨k_bipush (n := 7) (7) (by decide +kernel) (by decide),
  List.forall_mem_cons.mpr ⟨k_iand (by decide +kernel),
  List.forall_mem_cons.mpr ⟨k_ia (by decide +kernel),
  List.forall_mem_cons.mpr ⟨k_callS (y := 146) (n := 2) w_364 w_365 w_48 w_366 (by decide +kernel) (by decide) (by decide +kernel),
  List.forall_mem_cons.mpr ⟨k_is (by decide +kernel),
  List.forall_mem_cons.mpr ⟨k_alN (i := 0) (by decide +kernel) rfl,
  List.forall_mem_cons.mpr ⟨k_gf (j := 0) (T := TX5) rfl inX5G (by decide) w_85 (by decide +kernel),
  List.forall_mem_cons.mpr ⟨k_ilN (i := 1) (by decide +kernel) rfl,
  List.forall_mem_cons.mpr ⟨k_bipush (n := 7) (7) (by decide +kernel) (by decide),
  List.forall_mem_cons.mpr ⟨k_iand (by decide +kernel),
  List.forall_mem_cons.mpr ⟨k_dup2 (by decide +kernel),
  List.forall_mem_cons.mpr ⟨k_ia (by decide +kernel),
  List.forall_mem_cons.mpr ⟨k_il (by decide +kernel),
  List.forall_mem_cons.mpr ⟨k_isub (by decide +kernel),
  List.forall_mem_cons.mpr ⟨k_ist (by decide +kernel),
  List.forall_mem_cons.mpr ⟨k_alN (i := 0) (by decide +kernel) rfl,
  List.forall_mem_cons.mpr ⟨k_gf (j := 0) (T := TX5) rfl inX5G (by decide) w_85 (by decide +kernel),
  List.forall_mem_cons.mpr ⟨k_ilN (i := 2) (by decide +kernel) rfl,
  List.forall_mem_cons.mpr ⟨k_bipush (n := 7) (7) (by decide +kernel) (by decide),
  List.forall_mem_cons.mpr ⟨k_iand (by decide +kernel),
  List.forall_mem_cons.mpr ⟨k_dup2 (by decide +kernel),
  List.forall_mem_cons.mpr ⟨k_ia (by decide +kernel),
  List.forall_mem_cons.mpr ⟨k_il (by decide +kernel),
  List.forall_mem_cons.mpr ⟨k_iadd (by decide +kernel),
  List.forall_mem_cons.mpr ⟨k_ist (by decide +kernel),
  List.forall_mem_cons.mpr ⟨k_il (by decide +kernel),
  List.forall_mem_cons.mpr ⟨k_iret (by decide +kernel),
  fun _ h => absurd h List.not_mem_nil⟩⟩⟩⟩⟩⟩⟩⟩⟩⟩⟩⟩⟩⟩⟩⟩⟩⟩⟩⟩⟩⟩⟩⟩⟩⟩⟩⟩⟩⟩⟩
def tb_41 : List (Nat × pO) := [(0, o_al 0 1), (1, o_gf 5 1 4), (4, o_if (fun x => x = 0) 13 7), (7, o_il 1 8), (8, o_const (.int (1)) 9), (9, o_bin (fun x y => x + y) 10), (10, o_goto 16), (13, o_il 1 14), (14, o_const (.int (1)) 15), (15, o_bin (fun x y => x - y) 16), (16, o_const (.int (7)) 18), (18, o_bin (fun x y => x &&& y) 19), (19, o_iret)]
set_option maxRecDepth 20000 in
theorem tk_41 : ∀ q ∈ tb_41, okA noS mM (prog_7_method_14_code, "DuneMaps$Sand", 2, some .int, false) q.1 q.2 :=
  List.forall_mem_cons.mpr ⟨k_alN (i := 0) (by decide +kernel) rfl,
  List.forall_mem_cons.mpr ⟨k_gf (j := 1) (T := TX5) rfl inX5G (by decide) w_87 (by decide +kernel),
  List.forall_mem_cons.mpr ⟨k_if_eq (off := 9) (by decide +kernel) (by decide),
  List.forall_mem_cons.mpr ⟨k_ilN (i := 1) (by decide +kernel) rfl,
  List.forall_mem_cons.mpr ⟨k_iconst (n := 1) (1) (by decide +kernel) (by decide),
  List.forall_mem_cons.mpr ⟨k_iadd (by decide +kernel),
  List.forall_mem_cons.mpr ⟨k_goto (off := 6) (by decide +kernel) (by decide),
  List.forall_mem_cons.mpr ⟨k_ilN (i := 1) (by decide +kernel) rfl,
  List.forall_mem_cons.mpr ⟨k_iconst (n := 1) (1) (by decide +kernel) (by decide),
  List.forall_mem_cons.mpr ⟨k_isub (by decide +kernel),
  List.forall_mem_cons.mpr ⟨k_bipush (n := 7) (7) (by decide +kernel) (by decide),
  List.forall_mem_cons.mpr ⟨k_iand (by decide +kernel),
  List.forall_mem_cons.mpr ⟨k_iret (by decide +kernel),
  fun _ h => absurd h List.not_mem_nil⟩⟩⟩⟩⟩⟩⟩⟩⟩⟩⟩⟩⟩
def tb_42 : List (Nat × pO) := [(0, o_al 0 1), (1, o_gf 5 1 4), (4, o_if (fun x => x = 0) 13 7), (7, o_il 1 8), (8, o_const (.int (1)) 9), (9, o_bin (fun x y => x - y) 10), (10, o_goto 16), (13, o_il 1 14), (14, o_const (.int (1)) 15), (15, o_bin (fun x y => x + y) 16), (16, o_const (.int (7)) 18), (18, o_bin (fun x y => x &&& y) 19), (19, o_iret)]
set_option maxRecDepth 20000 in
theorem tk_42 : ∀ q ∈ tb_42, okA noS mM (prog_7_method_15_code, "DuneMaps$Sand", 2, some .int, false) q.1 q.2 :=
  List.forall_mem_cons.mpr ⟨k_alN (i := 0) (by decide +kernel) rfl,
  List.forall_mem_cons.mpr ⟨k_gf (j := 1) (T := TX5) rfl inX5G (by decide) w_87 (by decide +kernel),
  List.forall_mem_cons.mpr ⟨k_if_eq (off := 9) (by decide +kernel) (by decide),
  List.forall_mem_cons.mpr ⟨k_ilN (i := 1) (by decide +kernel) rfl,
  List.forall_mem_cons.mpr ⟨k_iconst (n := 1) (1) (by decide +kernel) (by decide),
  List.forall_mem_cons.mpr ⟨k_isub (by decide +kernel),
  List.forall_mem_cons.mpr ⟨k_goto (off := 6) (by decide +kernel) (by decide),
  List.forall_mem_cons.mpr ⟨k_ilN (i := 1) (by decide +kernel) rfl,
  List.forall_mem_cons.mpr ⟨k_iconst (n := 1) (1) (by decide +kernel) (by decide),
  List.forall_mem_cons.mpr ⟨k_iadd (by decide +kernel),
  List.forall_mem_cons.mpr ⟨k_bipush (n := 7) (7) (by decide +kernel) (by decide),
  List.forall_mem_cons.mpr ⟨k_iand (by decide +kernel),
  List.forall_mem_cons.mpr ⟨k_iret (by decide +kernel),
  fun _ h => absurd h List.not_mem_nil⟩⟩⟩⟩⟩⟩⟩⟩⟩⟩⟩⟩⟩
def tb_43 : List (Nat × pO) := [(0, o_al 0 1), (1, o_obj 4), (4, o_al 0 5), (5, o_const (.int (8)) 7), (7, o_newa 9), (9, o_pf okR 6 0 12), (12, o_vret)]
set_option maxRecDepth 20000 in
theorem tk_43 : ∀ q ∈ tb_43, okA noS mM (prog_8_method_1_code, "DuneMaps$Walker", 1, none, true) q.1 q.2 :=
  List.forall_mem_cons.mpr ⟨k_alN (i := 0) (by decide +kernel) rfl,
  List.forall_mem_cons.mpr ⟨k_obj w_100 w_56 w_57 (by decide +kernel),
  List.forall_mem_cons.mpr ⟨k_alN (i := 0) (by decide +kernel) rfl,
  List.forall_mem_cons.mpr ⟨k_bipush (n := 8) (8) (by decide +kernel) (by decide),
  List.forall_mem_cons.mpr ⟨k_newa w_72 (by decide +kernel),
  List.forall_mem_cons.mpr ⟨k_pfF (j := 0) (T := TX6) tyX6 tyX6_ok nmX6 (okR_fitA .int) rfl inX6G (by decide) rfl rfl (by decide +kernel) w_101 (by decide +kernel),
  List.forall_mem_cons.mpr ⟨k_vret (by decide +kernel),
  fun _ h => absurd h List.not_mem_nil⟩⟩⟩⟩⟩⟩⟩
def tb_44 : List (Nat × pO) := [(0, o_al 0 1), (1, o_il 1 2), (2, o_pf okI 6 1 5), (5, o_al 0 6), (6, o_il 2 7), (7, o_pf okI 6 2 10), (10, o_al 0 11), (11, o_const (.int (0)) 12), (12, o_pf okI 6 3 15), (15, o_al 0 16), (16, o_const (.int (0)) 17), (17, o_pf okI 6 4 20), (20, o_al 0 21), (21, o_const (.int (0)) 22), (22, o_pf okI 6 5 25), (25, o_vret)]
set_option maxRecDepth 20000 in
theorem tk_44 : ∀ q ∈ tb_44, okA noS mM (prog_8_method_2_code, "DuneMaps$Walker", 3, none, false) q.1 q.2 :=
  List.forall_mem_cons.mpr ⟨k_alN (i := 0) (by decide +kernel) rfl,
  List.forall_mem_cons.mpr ⟨k_ilN (i := 1) (by decide +kernel) rfl,
  List.forall_mem_cons.mpr ⟨k_pf (j := 1) (T := TX6) tyX6 tyX6_ok nmX6 okI_fit rfl inX6G (by decide) rfl (by decide +kernel) w_102 (by decide +kernel),
  List.forall_mem_cons.mpr ⟨k_alN (i := 0) (by decide +kernel) rfl,
  List.forall_mem_cons.mpr ⟨k_ilN (i := 2) (by decide +kernel) rfl,
  List.forall_mem_cons.mpr ⟨k_pf (j := 2) (T := TX6) tyX6 tyX6_ok nmX6 okI_fit rfl inX6G (by decide) rfl (by decide +kernel) w_105 (by decide +kernel),
  List.forall_mem_cons.mpr ⟨k_alN (i := 0) (by decide +kernel) rfl,
  List.forall_mem_cons.mpr ⟨k_iconst (n := 0) (0) (by decide +kernel) (by decide),
  List.forall_mem_cons.mpr ⟨k_pf (j := 3) (T := TX6) tyX6 tyX6_ok nmX6 okI_fit rfl inX6G (by decide) rfl (by decide +kernel) w_109 (by decide +kernel),
  List.forall_mem_cons.mpr ⟨k_alN (i := 0) (by decide +kernel) rfl,
  List.forall_mem_cons.mpr ⟨k_iconst (n := 0) (0) (by decide +kernel) (by decide),
  List.forall_mem_cons.mpr ⟨k_pf (j := 4) (T := TX6) tyX6 tyX6_ok nmX6 okI_fit rfl inX6G (by decide) rfl (by decide +kernel) w_112 (by decide +kernel),
  List.forall_mem_cons.mpr ⟨k_alN (i := 0) (by decide +kernel) rfl,
  List.forall_mem_cons.mpr ⟨k_iconst (n := 0) (0) (by decide +kernel) (by decide),
  List.forall_mem_cons.mpr ⟨k_pf (j := 5) (T := TX6) tyX6 tyX6_ok nmX6 okI_fit rfl inX6G (by decide) rfl (by decide +kernel) w_114 (by decide +kernel),
  List.forall_mem_cons.mpr ⟨k_vret (by decide +kernel),
  fun _ h => absurd h List.not_mem_nil⟩⟩⟩⟩⟩⟩⟩⟩⟩⟩⟩⟩⟩⟩⟩⟩
def tb_45 : List (Nat × pO) := [(0, o_al 0 1), (1, o_al 1 2), (2, o_gf 6 1 5), (5, o_pf okI 6 1 8), (8, o_al 0 9), (9, o_al 1 10), (10, o_gf 6 2 13), (13, o_pf okI 6 2 16), (16, o_al 0 17), (17, o_al 1 18), (18, o_gf 6 3 21), (21, o_pf okI 6 3 24), (24, o_al 0 25), (25, o_al 1 26), (26, o_gf 6 4 29), (29, o_pf okI 6 4 32), (32, o_al 0 33), (33, o_al 1 34), (34, o_gf 6 5 37), (37, o_pf okI 6 5 40), (40, o_const (.int (0)) 41), (41, o_is 2 42), (42, o_il 2 43), (43, o_const (.int (8)) 45), (45, o_cmp (fun x y => y ≤ x) 66 48), (48, o_al 0 49), (49, o_gf 6 0 52), (52, o_il 2 53), (53, o_al 1 54), (54, o_gf 6 0 57), (57, o_il 2 58), (58, o_ia 59), (59, o_ist 60), (60, o_inc 2 (1) 63), (63, o_goto 42), (66, o_vret)]
set_option maxRecDepth 20000 in
theorem tk_45 : ∀ q ∈ tb_45, okA noS mM (prog_8_method_3_code, "DuneMaps$Walker", 3, none, false) q.1 q.2 :=
  List.forall_mem_cons.mpr ⟨k_alN (i := 0) (by decide +kernel) rfl,
  List.forall_mem_cons.mpr ⟨k_alN (i := 1) (by decide +kernel) rfl,
  List.forall_mem_cons.mpr ⟨k_gf (j := 1) (T := TX6) rfl inX6G (by decide) w_102 (by decide +kernel),
  List.forall_mem_cons.mpr ⟨k_pf (j := 1) (T := TX6) tyX6 tyX6_ok nmX6 okI_fit rfl inX6G (by decide) rfl (by decide +kernel) w_102 (by decide +kernel),
  List.forall_mem_cons.mpr ⟨k_alN (i := 0) (by decide +kernel) rfl,
  List.forall_mem_cons.mpr ⟨k_alN (i := 1) (by decide +kernel) rfl,
  List.forall_mem_cons.mpr ⟨k_gf (j := 2) (T := TX6) rfl inX6G (by decide) w_105 (by decide +kernel),
  List.forall_mem_cons.mpr ⟨k_pf (j := 2) (T := TX6) tyX6 tyX6_ok nmX6 okI_fit rfl inX6G (by decide) rfl (by decide +kernel) w_105 (by decide +kernel),
  List.forall_mem_cons.mpr ⟨k_alN (i := 0) (by decide +kernel) rfl,
  List.forall_mem_cons.mpr ⟨k_alN (i := 1) (by decide +kernel) rfl,
  List.forall_mem_cons.mpr ⟨k_gf (j := 3) (T := TX6) rfl inX6G (by decide) w_109 (by decide +kernel),
  List.forall_mem_cons.mpr ⟨k_pf (j := 3) (T := TX6) tyX6 tyX6_ok nmX6 okI_fit rfl inX6G (by decide) rfl (by decide +kernel) w_109 (by decide +kernel),
  List.forall_mem_cons.mpr ⟨k_alN (i := 0) (by decide +kernel) rfl,
  List.forall_mem_cons.mpr ⟨k_alN (i := 1) (by decide +kernel) rfl,
  List.forall_mem_cons.mpr ⟨k_gf (j := 4) (T := TX6) rfl inX6G (by decide) w_112 (by decide +kernel),
  List.forall_mem_cons.mpr ⟨k_pf (j := 4) (T := TX6) tyX6 tyX6_ok nmX6 okI_fit rfl inX6G (by decide) rfl (by decide +kernel) w_112 (by decide +kernel),
  List.forall_mem_cons.mpr ⟨k_alN (i := 0) (by decide +kernel) rfl,
  List.forall_mem_cons.mpr ⟨k_alN (i := 1) (by decide +kernel) rfl,
  List.forall_mem_cons.mpr ⟨k_gf (j := 5) (T := TX6) rfl inX6G (by decide) w_114 (by decide +kernel),
  List.forall_mem_cons.mpr ⟨k_pf (j := 5) (T := TX6) tyX6 tyX6_ok nmX6 okI_fit rfl inX6G (by decide) rfl (by decide +kernel) w_114 (by decide +kernel),
  List.forall_mem_cons.mpr ⟨k_iconst (n := 0) (0) (by decide +kernel) (by decide),
  List.forall_mem_cons.mpr ⟨k_isN (i := 2) (by decide +kernel) rfl,
  List.forall_mem_cons.mpr ⟨k_ilN (i := 2) (by decide +kernel) rfl,
  List.forall_mem_cons.mpr ⟨k_bipush (n := 8) (8) (by decide +kernel) (by decide),
  List.forall_mem_cons.mpr ⟨k_icmp_ge (off := 21) (by decide +kernel) (by decide),
  List.forall_mem_cons.mpr ⟨k_alN (i := 0) (by decide +kernel) rfl,
  List.forall_mem_cons.mpr ⟨k_gf (j := 0) (T := TX6) rfl inX6G (by decide) w_101 (by decide +kernel),
  List.forall_mem_cons.mpr ⟨k_ilN (i := 2) (by decide +kernel) rfl,
  List.forall_mem_cons.mpr ⟨k_alN (i := 1) (by decide +kernel) rfl,
  List.forall_mem_cons.mpr ⟨k_gf (j := 0) (T := TX6) rfl inX6G (by decide) w_101 (by decide +kernel),
  List.forall_mem_cons.mpr ⟨k_ilN (i := 2) (by decide +kernel) rfl,
  List.forall_mem_cons.mpr ⟨k_ia (by decide +kernel),
  List.forall_mem_cons.mpr ⟨k_ist (by decide +kernel),
  List.forall_mem_cons.mpr ⟨k_inc (n := 1) (1) (by decide +kernel) (by decide),
  List.forall_mem_cons.mpr ⟨k_goto (off := -21) (by decide +kernel) (by decide),
  List.forall_mem_cons.mpr ⟨k_vret (by decide +kernel),
  fun _ h => absurd h List.not_mem_nil⟩⟩⟩⟩⟩⟩⟩⟩⟩⟩⟩⟩⟩⟩⟩⟩⟩⟩⟩⟩⟩⟩⟩⟩⟩⟩⟩⟩⟩⟩⟩⟩⟩⟩⟩⟩
def tb_46 : List (Nat × pO) := [(0, o_al 0 1), (1, o_gf 6 5 4), (4, o_if (fun x => x ≤ 0) 11 7), (7, o_const (.int (1)) 8), (8, o_goto 12), (11, o_const (.int (0)) 12), (12, o_zret)]
set_option maxRecDepth 20000 in
theorem tk_46 : ∀ q ∈ tb_46, okA noS mM (prog_8_method_4_code, "DuneMaps$Walker", 1, some .boolean, false) q.1 q.2 :=
  List.forall_mem_cons.mpr ⟨k_alN (i := 0) (by decide +kernel) rfl,
  List.forall_mem_cons.mpr ⟨k_gf (j := 5) (T := TX6) rfl inX6G (by decide) w_114 (by decide +kernel),
  List.forall_mem_cons.mpr ⟨k_if_le (off := 7) (by decide +kernel) (by decide),
  List.forall_mem_cons.mpr ⟨k_iconst (n := 1) (1) (by decide +kernel) (by decide),
  List.forall_mem_cons.mpr ⟨k_goto (off := 4) (by decide +kernel) (by decide),
  List.forall_mem_cons.mpr ⟨k_iconst (n := 0) (0) (by decide +kernel) (by decide),
  List.forall_mem_cons.mpr ⟨k_zret (by decide +kernel),
  fun _ h => absurd h List.not_mem_nil⟩⟩⟩⟩⟩⟩⟩
def tb_47 : List (Nat × pO) := [(0, o_al 0 1), (1, o_il 2 2), (2, o_pf okI 6 4 5), (5, o_al 0 6), (6, o_il 3 7), (7, o_pf okI 6 5 10), (10, o_const (.int (0)) 11), (11, o_is 4 13), (13, o_al 0 14), (14, o_gf 6 2 17), (17, o_is 5 19), (19, o_const (.int (0)) 20), (20, o_is 6 22), (22, o_il 6 24), (24, o_il 3 25), (25, o_cmp (fun x y => y ≤ x) 74 28), (28, o_il 6 30), (30, o_const (.int (8)) 32), (32, o_cmp (fun x y => y ≤ x) 74 35), (35, o_il 5 37), (37, o_il 2 38), (38, o_call rc0 83 2 41), (41, o_is 5 43), (43, o_al 0 44), (44, o_gf 6 0 47), (47, o_il 6 49), (49, o_al 1 50), (50, o_il 5 52), (52, o_call (rcV 5) 29 2 55), (55, o_ist 56), (56, o_il 4 58), (58, o_al 0 59), (59, o_gf 6 0 62), (62, o_il 6 64), (64, o_ia 65), (65, o_bin (fun x y => x + y) 66), (66, o_is 4 68), (68, o_inc 6 (1) 71), (71, o_goto 22), (74, o_il 4 76), (76, o_iret)]
set_option maxRecDepth 20000 in
theorem tk_47 : ∀ q ∈ tb_47, okA noS mM (prog_8_method_5_code, "DuneMaps$Walker", 7, some .int, false) q.1 q.2 :=
  List.forall_mem_cons.mpr ⟨k_alN (i := 0) (by decide +kernel) rfl,
  List.forall_mem_cons.mpr ⟨k_ilN (i := 2) (by decide +kernel) rfl,
  List.forall_mem_cons.mpr ⟨k_pf (j := 4) (T := TX6) tyX6 tyX6_ok nmX6 okI_fit rfl inX6G (by decide) rfl (by decide +kernel) w_112 (by decide +kernel),
  List.forall_mem_cons.mpr ⟨k_alN (i := 0) (by decide +kernel) rfl,
  List.forall_mem_cons.mpr ⟨k_ilN (i := 3) (by decide +kernel) rfl,
  List.forall_mem_cons.mpr ⟨k_pf (j := 5) (T := TX6) tyX6 tyX6_ok nmX6 okI_fit rfl inX6G (by decide) rfl (by decide +kernel) w_114 (by decide +kernel),
  List.forall_mem_cons.mpr ⟨k_iconst (n := 0) (0) (by decide +kernel) (by decide),
  List.forall_mem_cons.mpr ⟨k_is (by decide +kernel),
  List.forall_mem_cons.mpr ⟨k_alN (i := 0) (by decide +kernel) rfl,
  List.forall_mem_cons.mpr ⟨k_gf (j := 2) (T := TX6) rfl inX6G (by decide) w_105 (by decide +kernel),
  List.forall_mem_cons.mpr ⟨k_is (by decide +kernel),
  List.forall_mem_cons.mpr ⟨k_iconst (n := 0) (0) (by decide +kernel) (by decide),
  List.forall_mem_cons.mpr ⟨k_is (by decide +kernel),
  List.forall_mem_cons.mpr ⟨k_il (by decide +kernel),
  List.forall_mem_cons.mpr ⟨k_ilN (i := 3) (by decide +kernel) rfl,
  List.forall_mem_cons.mpr ⟨k_icmp_ge (off := 49) (by decide +kernel) (by decide),
  List.forall_mem_cons.mpr ⟨k_il (by decide +kernel),
  List.forall_mem_cons.mpr ⟨k_bipush (n := 8) (8) (by decide +kernel) (by decide),
  List.forall_mem_cons.mpr ⟨k_icmp_ge (off := 42) (by decide +kernel) (by decide),
  List.forall_mem_cons.mpr ⟨k_il (by decide +kernel),
  List.forall_mem_cons.mpr ⟨k_ilN (i := 2) (by decide +kernel) rfl,
  List.forall_mem_cons.mpr ⟨k_callSN (idx := 31) (y := 83) (n := 2) (host := "DuneMaps") (by decide +kernel) w_410 w_39 w_411 (by decide +kernel) (by decide) (by decide +kernel),
  List.forall_mem_cons.mpr ⟨k_is (by decide +kernel),
  List.forall_mem_cons.mpr ⟨k_alN (i := 0) (by decide +kernel) rfl,
  List.forall_mem_cons.mpr ⟨k_gf (j := 0) (T := TX6) rfl inX6G (by decide) w_101 (by decide +kernel),
  List.forall_mem_cons.mpr ⟨k_il (by decide +kernel),
  List.forall_mem_cons.mpr ⟨k_alN (i := 1) (by decide +kernel) rfl,
  List.forall_mem_cons.mpr ⟨k_il (by decide +kernel),
  List.forall_mem_cons.mpr ⟨k_callV (y := 29) (n := 1) (ci := 5) rfl w_412 w_324 w_325 w_42 w_326 (by decide +kernel) (by decide) (by decide +kernel),
  List.forall_mem_cons.mpr ⟨k_ist (by decide +kernel),
  List.forall_mem_cons.mpr ⟨k_il (by decide +kernel),
  List.forall_mem_cons.mpr ⟨k_alN (i := 0) (by decide +kernel) rfl,
  List.forall_mem_cons.mpr ⟨k_gf (j := 0) (T := TX6) rfl inX6G (by decide) w_101 (by decide +kernel),
  List.forall_mem_cons.mpr ⟨k_il (by decide +kernel),
  List.forall_mem_cons.mpr ⟨k_ia (by decide +kernel),
  List.forall_mem_cons.mpr ⟨k_iadd (by decide +kernel),
  List.forall_mem_cons.mpr ⟨k_is (by decide +kernel),
  List.forall_mem_cons.mpr ⟨k_inc (n := 1) (1) (by decide +kernel) (by decide),
  List.forall_mem_cons.mpr ⟨k_goto (off := -49) (by decide +kernel) (by decide),
  List.forall_mem_cons.mpr ⟨k_il (by decide +kernel),
  List.forall_mem_cons.mpr ⟨k_iret (by decide +kernel),
  fun _ h => absurd h List.not_mem_nil⟩⟩⟩⟩⟩⟩⟩⟩⟩⟩⟩⟩⟩⟩⟩⟩⟩⟩⟩⟩⟩⟩⟩⟩⟩⟩⟩⟩⟩⟩⟩⟩⟩⟩⟩⟩⟩⟩⟩⟩⟩
def tb_48 : List (Nat × pO) := [(0, o_al 0 1), (1, o_gf 6 2 4), (4, o_is 2 5), (5, o_const (.int (0)) 6), (6, o_is 3 7), (7, o_il 3 8), (8, o_al 0 9), (9, o_gf 6 5 12), (12, o_cmp (fun x y => y ≤ x) 52 15), (15, o_il 3 16), (16, o_const (.int (8)) 18), (18, o_cmp (fun x y => y ≤ x) 52 21), (21, o_il 2 22), (22, o_al 0 23), (23, o_gf 6 4 26), (26, o_call rc0 83 2 29), (29, o_is 2 30), (30, o_al 0 31), (31, o_gf 6 0 34), (34, o_il 3 35), (35, o_ia 36), (36, o_al 1 37), (37, o_il 2 38), (38, o_call (rcV 5) 29 2 41), (41, o_cmp (fun x y => x = y) 46 44), (44, o_const (.int (0)) 45), (45, o_zret), (46, o_inc 3 (1) 49), (49, o_goto 7), (52, o_al 0 53), (53, o_call (rcV 6) 46 1 56), (56, o_zret)]
set_option maxRecDepth 20000 in
theorem tk_48 : ∀ q ∈ tb_48, okA noS mM (prog_8_method_6_code, "DuneMaps$Walker", 4, some .boolean, false) q.1 q.2 :=
  List.forall_mem_cons.mpr ⟨k_alN (i := 0) (by decide +kernel) rfl,
  List.forall_mem_cons.mpr ⟨k_gf (j := 2) (T := TX6) rfl inX6G (by decide) w_105 (by decide +kernel),
  List.forall_mem_cons.mpr ⟨k_isN (i := 2) (by decide +kernel) rfl,
  List.forall_mem_cons.mpr ⟨k_iconst (n := 0) (0) (by decide +kernel) (by decide),
  List.forall_mem_cons.mpr ⟨k_isN (i := 3) (by decide +kernel) rfl,
  List.forall_mem_cons.mpr ⟨k_ilN (i := 3) (by decide +kernel) rfl,
  List.forall_mem_cons.mpr ⟨k_alN (i := 0) (by decide +kernel) rfl,
  List.forall_mem_cons.mpr ⟨k_gf (j := 5) (T := TX6) rfl inX6G (by decide) w_114 (by decide +kernel),
  List.forall_mem_cons.mpr ⟨k_icmp_ge (off := 40) (by decide +kernel) (by decide),
  List.forall_mem_cons.mpr ⟨k_ilN (i := 3) (by decide +kernel) rfl,
  List.forall_mem_cons.mpr ⟨k_bipush (n := 8) (8) (by decide +kernel) (by decide),
  List.forall_mem_cons.mpr ⟨k_icmp_ge (off := 34) (by decide +kernel) (by decide),
  List.forall_mem_cons.mpr ⟨k_ilN (i := 2) (by decide +kernel) rfl,
  List.forall_mem_cons.mpr ⟨k_alN (i := 0) (by decide +kernel) rfl,
  List.forall_mem_cons.mpr ⟨k_gf (j := 4) (T := TX6) rfl inX6G (by decide) w_112 (by decide +kernel),
  List.forall_mem_cons.mpr ⟨k_callSN (idx := 31) (y := 83) (n := 2) (host := "DuneMaps") (by decide +kernel) w_410 w_39 w_411 (by decide +kernel) (by decide) (by decide +kernel),
  List.forall_mem_cons.mpr ⟨k_isN (i := 2) (by decide +kernel) rfl,
  List.forall_mem_cons.mpr ⟨k_alN (i := 0) (by decide +kernel) rfl,
  List.forall_mem_cons.mpr ⟨k_gf (j := 0) (T := TX6) rfl inX6G (by decide) w_101 (by decide +kernel),
  List.forall_mem_cons.mpr ⟨k_ilN (i := 3) (by decide +kernel) rfl,
  List.forall_mem_cons.mpr ⟨k_ia (by decide +kernel),
  List.forall_mem_cons.mpr ⟨k_alN (i := 1) (by decide +kernel) rfl,
  List.forall_mem_cons.mpr ⟨k_ilN (i := 2) (by decide +kernel) rfl,
  List.forall_mem_cons.mpr ⟨k_callV (y := 29) (n := 1) (ci := 5) rfl w_412 w_324 w_325 w_42 w_326 (by decide +kernel) (by decide) (by decide +kernel),
  List.forall_mem_cons.mpr ⟨k_icmp_eq (off := 5) (by decide +kernel) (by decide),
  List.forall_mem_cons.mpr ⟨k_iconst (n := 0) (0) (by decide +kernel) (by decide),
  List.forall_mem_cons.mpr ⟨k_zret (by decide +kernel),
  List.forall_mem_cons.mpr ⟨k_inc (n := 1) (1) (by decide +kernel) (by decide),
  List.forall_mem_cons.mpr ⟨k_goto (off := -42) (by decide +kernel) (by decide),
  List.forall_mem_cons.mpr ⟨k_alN (i := 0) (by decide +kernel) rfl,
  List.forall_mem_cons.mpr ⟨k_callV (y := 46) (n := 0) (ci := 6) rfl w_413 w_402 w_403 w_43 w_404 (by decide +kernel) (by decide) (by decide +kernel),
  List.forall_mem_cons.mpr ⟨k_zret (by decide +kernel),
  fun _ h => absurd h List.not_mem_nil⟩⟩⟩⟩⟩⟩⟩⟩⟩⟩⟩⟩⟩⟩⟩⟩⟩⟩⟩⟩⟩⟩⟩⟩⟩⟩⟩⟩⟩⟩⟩⟩
def tb_49 : List (Nat × pO) := [(0, o_al 0 1), (1, o_al 0 2), (2, o_gf 6 2 5), (5, o_il 2 6), (6, o_call rc0 83 2 9), (9, o_pf okI 6 2 12), (12, o_al 0 13), (13, o_dup 14), (14, o_gf 6 3 17), (17, o_const (.int (1)) 18), (18, o_bin (fun x y => x + y) 19), (19, o_pf okI 6 3 22), (22, o_al 1 23), (23, o_al 0 24), (24, o_gf 6 2 27), (27, o_al 0 28), (28, o_gf 6 1 31), (31, o_call (rcV 5) 39 3 34), (34, o_iret)]
set_option maxRecDepth 20000 in
theorem tk_49 : ∀ q ∈ tb_49, okA noS mM (prog_8_method_7_code, "DuneMaps$Walker", 3, some .int, false) q.1 q.2 :=
  List.forall_mem_cons.mpr ⟨k_alN (i := 0) (by decide +kernel) rfl,
  List.forall_mem_cons.mpr ⟨k_alN (i := 0) (by decide +kernel) rfl,
  List.forall_mem_cons.mpr ⟨k_gf (j := 2) (T := TX6) rfl inX6G (by decide) w_105 (by decide +kernel),
  List.forall_mem_cons.mpr ⟨k_ilN (i := 2) (by decide +kernel) rfl,
  List.forall_mem_cons.mpr ⟨k_callSN (idx := 31) (y := 83) (n := 2) (host := "DuneMaps") (by decide +kernel) w_410 w_39 w_411 (by decide +kernel) (by decide) (by decide +kernel),
  List.forall_mem_cons.mpr ⟨k_pf (j := 2) (T := TX6) tyX6 tyX6_ok nmX6 okI_fit rfl inX6G (by decide) rfl (by decide +kernel) w_105 (by decide +kernel),
  List.forall_mem_cons.mpr ⟨k_alN (i := 0) (by decide +kernel) rfl,
  List.forall_mem_cons.mpr ⟨k_dup (by decide +kernel),
  List.forall_mem_cons.mpr ⟨k_gf (j := 3) (T := TX6) rfl inX6G (by decide) w_109 (by decide +kernel),
  List.forall_mem_cons.mpr ⟨k_iconst (n := 1) (1) (by decide +kernel) (by decide),
  List.forall_mem_cons.mpr ⟨k_iadd (by decide +kernel),
  List.forall_mem_cons.mpr ⟨k_pf (j := 3) (T := TX6) tyX6 tyX6_ok nmX6 okI_fit rfl inX6G (by decide) rfl (by decide +kernel) w_109 (by decide +kernel),
  List.forall_mem_cons.mpr ⟨k_alN (i := 1) (by decide +kernel) rfl,
  List.forall_mem_cons.mpr ⟨k_alN (i := 0) (by decide +kernel) rfl,
  List.forall_mem_cons.mpr ⟨k_gf (j := 2) (T := TX6) rfl inX6G (by decide) w_105 (by decide +kernel),
  List.forall_mem_cons.mpr ⟨k_alN (i := 0) (by decide +kernel) rfl,
  List.forall_mem_cons.mpr ⟨k_gf (j := 1) (T := TX6) rfl inX6G (by decide) w_102 (by decide +kernel),
  List.forall_mem_cons.mpr ⟨k_callV (y := 39) (n := 2) (ci := 5) rfl w_429 w_430 w_431 w_42 w_432 (by decide +kernel) (by decide) (by decide +kernel),
  List.forall_mem_cons.mpr ⟨k_iret (by decide +kernel),
  fun _ h => absurd h List.not_mem_nil⟩⟩⟩⟩⟩⟩⟩⟩⟩⟩⟩⟩⟩⟩⟩⟩⟩⟩⟩
def tb_50 : List (Nat × pO) := [(0, o_const (.int (0)) 1), (1, o_is 2 2), (2, o_il 2 3), (3, o_al 0 4), (4, o_gf 6 5 7), (7, o_cmp (fun x y => y ≤ x) 26 10), (10, o_al 0 11), (11, o_al 1 12), (12, o_al 0 13), (13, o_gf 6 4 16), (16, o_call (rcV 6) 49 3 19), (19, o_pop 20), (20, o_inc 2 (1) 23), (23, o_goto 2), (26, o_al 0 27), (27, o_const (.int (0)) 28), (28, o_pf okI 6 5 31), (31, o_vret)]
set_option maxRecDepth 20000 in
theorem tk_50 : ∀ q ∈ tb_50, okA noS mM (prog_8_method_8_code, "DuneMaps$Walker", 3, none, false) q.1 q.2 :=
  List.forall_mem_cons.mpr ⟨k_iconst (n := 0) (0) (by decide +kernel) (by decide),
  List.forall_mem_cons.mpr ⟨k_isN (i := 2) (by decide +kernel) rfl,
  List.forall_mem_cons.mpr ⟨k_ilN (i := 2) (by decide +kernel) rfl,
  List.forall_mem_cons.mpr ⟨k_alN (i := 0) (by decide +kernel) rfl,
  List.forall_mem_cons.mpr ⟨k_gf (j := 5) (T := TX6) rfl inX6G (by decide) w_114 (by decide +kernel),
  List.forall_mem_cons.mpr ⟨k_icmp_ge (off := 19) (by decide +kernel) (by decide),
  List.forall_mem_cons.mpr ⟨k_alN (i := 0) (by decide +kernel) rfl,
  List.forall_mem_cons.mpr ⟨k_alN (i := 1) (by decide +kernel) rfl,
  List.forall_mem_cons.mpr ⟨k_alN (i := 0) (by decide +kernel) rfl,
  List.forall_mem_cons.mpr ⟨k_gf (j := 4) (T := TX6) rfl inX6G (by decide) w_112 (by decide +kernel),
  List.forall_mem_cons.mpr ⟨k_callV (y := 49) (n := 2) (ci := 6) rfl w_454 w_426 w_427 w_43 w_428 (by decide +kernel) (by decide) (by decide +kernel),
  List.forall_mem_cons.mpr ⟨k_pop (by decide +kernel),
  List.forall_mem_cons.mpr ⟨k_inc (n := 1) (1) (by decide +kernel) (by decide),
  List.forall_mem_cons.mpr ⟨k_goto (off := -21) (by decide +kernel) (by decide),
  List.forall_mem_cons.mpr ⟨k_alN (i := 0) (by decide +kernel) rfl,
  List.forall_mem_cons.mpr ⟨k_iconst (n := 0) (0) (by decide +kernel) (by decide),
  List.forall_mem_cons.mpr ⟨k_pf (j := 5) (T := TX6) tyX6 tyX6_ok nmX6 okI_fit rfl inX6G (by decide) rfl (by decide +kernel) w_114 (by decide +kernel),
  List.forall_mem_cons.mpr ⟨k_vret (by decide +kernel),
  fun _ h => absurd h List.not_mem_nil⟩⟩⟩⟩⟩⟩⟩⟩⟩⟩⟩⟩⟩⟩⟩⟩⟩⟩
def tb_51 : List (Nat × pO) := [(0, o_al 0 1), (1, o_gf 6 2 4), (4, o_is 2 5), (5, o_const (.int (0)) 6), (6, o_is 3 7), (7, o_il 3 8), (8, o_al 0 9), (9, o_gf 6 5 12), (12, o_cmp (fun x y => y ≤ x) 40 15), (15, o_il 2 16), (16, o_al 0 17), (17, o_gf 6 4 20), (20, o_call rc0 83 2 23), (23, o_is 2 24), (24, o_al 1 25), (25, o_il 2 26), (26, o_al 0 27), (27, o_gf 6 1 30), (30, o_call (rcV 5) 39 3 33), (33, o_pop 34), (34, o_inc 3 (1) 37), (37, o_goto 7), (40, o_vret)]
set_option maxRecDepth 20000 in
theorem tk_51 : ∀ q ∈ tb_51, okA noS mM (prog_8_method_9_code, "DuneMaps$Walker", 4, none, false) q.1 q.2 :=
  List.forall_mem_cons.mpr ⟨k_alN (i := 0) (by decide +kernel) rfl,
  List.forall_mem_cons.mpr ⟨k_gf (j := 2) (T := TX6) rfl inX6G (by decide) w_105 (by decide +kernel),
  List.forall_mem_cons.mpr ⟨k_isN (i := 2) (by decide +kernel) rfl,
  List.forall_mem_cons.mpr ⟨k_iconst (n := 0) (0) (by decide +kernel) (by decide),
  List.forall_mem_cons.mpr ⟨k_isN (i := 3) (by decide +kernel) rfl,
  List.forall_mem_cons.mpr ⟨k_ilN (i := 3) (by decide +kernel) rfl,
  List.forall_mem_cons.mpr ⟨k_alN (i := 0) (by decide +kernel) rfl,
  List.forall_mem_cons.mpr ⟨k_gf (j := 5) (T := TX6) rfl inX6G (by decide) w_114 (by decide +kernel),
  List.forall_mem_cons.mpr ⟨k_icmp_ge (off := 28) (by decide +kernel) (by decide),
  List.forall_mem_cons.mpr ⟨k_ilN (i := 2) (by decide +kernel) rfl,
  List.forall_mem_cons.mpr ⟨k_alN (i := 0) (by decide +kernel) rfl,
  List.forall_mem_cons.mpr ⟨k_gf (j := 4) (T := TX6) rfl inX6G (by decide) w_112 (by decide +kernel),
  List.forall_mem_cons.mpr ⟨k_callSN (idx := 31) (y := 83) (n := 2) (host := "DuneMaps") (by decide +kernel) w_410 w_39 w_411 (by decide +kernel) (by decide) (by decide +kernel),
  List.forall_mem_cons.mpr ⟨k_isN (i := 2) (by decide +kernel) rfl,
  List.forall_mem_cons.mpr ⟨k_alN (i := 1) (by decide +kernel) rfl,
  List.forall_mem_cons.mpr ⟨k_ilN (i := 2) (by decide +kernel) rfl,
  List.forall_mem_cons.mpr ⟨k_alN (i := 0) (by decide +kernel) rfl,
  List.forall_mem_cons.mpr ⟨k_gf (j := 1) (T := TX6) rfl inX6G (by decide) w_102 (by decide +kernel),
  List.forall_mem_cons.mpr ⟨k_callV (y := 39) (n := 2) (ci := 5) rfl w_429 w_430 w_431 w_42 w_432 (by decide +kernel) (by decide) (by decide +kernel),
  List.forall_mem_cons.mpr ⟨k_pop (by decide +kernel),
  List.forall_mem_cons.mpr ⟨k_inc (n := 1) (1) (by decide +kernel) (by decide),
  List.forall_mem_cons.mpr ⟨k_goto (off := -30) (by decide +kernel) (by decide),
  List.forall_mem_cons.mpr ⟨k_vret (by decide +kernel),
  fun _ h => absurd h List.not_mem_nil⟩⟩⟩⟩⟩⟩⟩⟩⟩⟩⟩⟩⟩⟩⟩⟩⟩⟩⟩⟩⟩⟩⟩
end
section
def tb_52 : List (Nat × pO) := [(0, o_al 0 1), (1, o_obj 4), (4, o_al 0 5), (5, o_new 4 [.null, .int 0] 8), (8, o_dup 9), (9, o_call rcI 20 1 12), (12, o_pf okR 7 0 15), (15, o_al 0 16), (16, o_new 2 [.null, .null, .int 0, .int 0] 19), (19, o_dup 20), (20, o_call rcI 6 1 23), (23, o_pf okR 7 1 26), (26, o_al 0 27), (27, o_new 2 [.null, .null, .int 0, .int 0] 30), (30, o_dup 31), (31, o_call rcI 6 1 34), (34, o_pf okR 7 2 37), (37, o_al 0 38), (38, o_new 5 [.null, .int 0] 41), (41, o_dup 42), (42, o_call rcI 28 1 45), (45, o_pf okR 7 3 48), (48, o_al 0 49), (49, o_new 5 [.null, .int 0] 52), (52, o_dup 53), (53, o_call rcI 28 1 56), (56, o_pf okR 7 4 59), (59, o_al 0 60), (60, o_new 3 [.null, .null, .null, .int 0, .int 0] 63), (63, o_dup 64), (64, o_call rcI 15 1 67), (67, o_pf okR 7 5 70), (70, o_al 0 71), (71, o_new 1 [.null, .int 0, .int 0, .int 0, .int 0, .int 0, .int 0] 74), (74, o_dup 75), (75, o_call rcI 3 1 78), (78, o_pf okR 7 6 81), (81, o_al 0 82), (82, o_new 0 [.int 0, .int 0] 85), (85, o_dup 86), (86, o_call rcI 0 1 89), (89, o_pf okR 7 7 92), (92, o_vret)]
set_option maxRecDepth 20000 in
theorem tk_52 : ∀ q ∈ tb_52, okA noS mM (prog_1_method_1_code, "DuneMaps", 1, none, true) q.1 q.2 :=
  List.forall_mem_cons.mpr ⟨k_alN (i := 0) (by decide +kernel) rfl,
  List.forall_mem_cons.mpr ⟨k_obj w_55 w_56 w_57 (by decide +kernel),
  List.forall_mem_cons.mpr ⟨k_alN (i := 0) (by decide +kernel) rfl,
  List.forall_mem_cons.mpr ⟨k_new (T := TX4) tyX4 [.null, .int 0] tyX4_ok rfl inX4G w_58 w_59 w_40 rfl (fun _ => nwX4) (by decide +kernel),
  List.forall_mem_cons.mpr ⟨k_dup (by decide +kernel),
  List.forall_mem_cons.mpr ⟨k_callIN (idx := 11) (y := 20) (n := 0) (host := "DuneMaps") (by decide +kernel) w_61 w_40 rfl w_62 rfl (by decide +kernel) (by decide) (by decide +kernel),
  List.forall_mem_cons.mpr ⟨k_pfF (j := 0) (T := TX7) tyX7 tyX7_ok nmX7 (okR_fitO "DuneMaps$Page") rfl inX7G (by decide) rfl rfl (by decide +kernel) w_222 (by decide +kernel),
  List.forall_mem_cons.mpr ⟨k_alN (i := 0) (by decide +kernel) rfl,
  List.forall_mem_cons.mpr ⟨k_new (T := TX2) tyX2 [.null, .null, .int 0, .int 0] tyX2_ok rfl inX2G w_73 w_74 w_41 rfl (fun _ => nwX2) (by decide +kernel),
  List.forall_mem_cons.mpr ⟨k_dup (by decide +kernel),
  List.forall_mem_cons.mpr ⟨k_callI (y := 6) (n := 0) w_75 w_76 w_41 rfl w_77 rfl (by decide +kernel) (by decide) (by decide +kernel),
  List.forall_mem_cons.mpr ⟨k_pfF (j := 1) (T := TX7) tyX7 tyX7_ok nmX7 (okR_fitO "DuneMaps$Land") rfl inX7G (by decide) rfl rfl (by decide +kernel) w_223 (by decide +kernel),
  List.forall_mem_cons.mpr ⟨k_alN (i := 0) (by decide +kernel) rfl,
  List.forall_mem_cons.mpr ⟨k_new (T := TX2) tyX2 [.null, .null, .int 0, .int 0] tyX2_ok rfl inX2G w_73 w_74 w_41 rfl (fun _ => nwX2) (by decide +kernel),
  List.forall_mem_cons.mpr ⟨k_dup (by decide +kernel),
  List.forall_mem_cons.mpr ⟨k_callI (y := 6) (n := 0) w_75 w_76 w_41 rfl w_77 rfl (by decide +kernel) (by decide) (by decide +kernel),
  List.forall_mem_cons.mpr ⟨k_pfF (j := 2) (T := TX7) tyX7 tyX7_ok nmX7 (okR_fitO "DuneMaps$Land") rfl inX7G (by decide) rfl rfl (by decide +kernel) w_224 (by decide +kernel),
  List.forall_mem_cons.mpr ⟨k_alN (i := 0) (by decide +kernel) rfl,
  List.forall_mem_cons.mpr ⟨k_new (T := TX5) tyX5 [.null, .int 0] tyX5_ok rfl inX5G w_147 w_80 w_42 rfl (fun _ => nwX5) (by decide +kernel),
  List.forall_mem_cons.mpr ⟨k_dup (by decide +kernel),
  List.forall_mem_cons.mpr ⟨k_callIN (idx := 28) (y := 28) (n := 0) (host := "DuneMaps") (by decide +kernel) w_82 w_42 rfl w_83 rfl (by decide +kernel) (by decide) (by decide +kernel),
  List.forall_mem_cons.mpr ⟨k_pfF (j := 3) (T := TX7) tyX7 tyX7_ok nmX7 (okR_fitO "DuneMaps$Sand") rfl inX7G (by decide) rfl rfl (by decide +kernel) w_225 (by decide +kernel),
  List.forall_mem_cons.mpr ⟨k_alN (i := 0) (by decide +kernel) rfl,
  List.forall_mem_cons.mpr ⟨k_new (T := TX5) tyX5 [.null, .int 0] tyX5_ok rfl inX5G w_147 w_80 w_42 rfl (fun _ => nwX5) (by decide +kernel),
  List.forall_mem_cons.mpr ⟨k_dup (by decide +kernel),
  List.forall_mem_cons.mpr ⟨k_callIN (idx := 28) (y := 28) (n := 0) (host := "DuneMaps") (by decide +kernel) w_82 w_42 rfl w_83 rfl (by decide +kernel) (by decide) (by decide +kernel),
  List.forall_mem_cons.mpr ⟨k_pfF (j := 4) (T := TX7) tyX7 tyX7_ok nmX7 (okR_fitO "DuneMaps$Sand") rfl inX7G (by decide) rfl rfl (by decide +kernel) w_226 (by decide +kernel),
  List.forall_mem_cons.mpr ⟨k_alN (i := 0) (by decide +kernel) rfl,
  List.forall_mem_cons.mpr ⟨k_new (T := TX3) tyX3 [.null, .null, .null, .int 0, .int 0] tyX3_ok rfl inX3G w_149 w_150 w_44 rfl (fun _ => nwX3) (by decide +kernel),
  List.forall_mem_cons.mpr ⟨k_dup (by decide +kernel),
  List.forall_mem_cons.mpr ⟨k_callI (y := 15) (n := 0) w_151 w_152 w_44 rfl w_153 rfl (by decide +kernel) (by decide) (by decide +kernel),
  List.forall_mem_cons.mpr ⟨k_pfF (j := 5) (T := TX7) tyX7 tyX7_ok nmX7 (okR_fitO "DuneMaps$Ordering") rfl inX7G (by decide) rfl rfl (by decide +kernel) w_227 (by decide +kernel),
  List.forall_mem_cons.mpr ⟨k_alN (i := 0) (by decide +kernel) rfl,
  List.forall_mem_cons.mpr ⟨k_new (T := TX1) tyX1 [.null, .int 0, .int 0, .int 0, .int 0, .int 0, .int 0] tyX1_ok rfl inX1G w_175 w_176 w_45 rfl (fun _ => nwX1) (by decide +kernel),
  List.forall_mem_cons.mpr ⟨k_dup (by decide +kernel),
  List.forall_mem_cons.mpr ⟨k_callI (y := 3) (n := 0) w_177 w_178 w_45 rfl w_179 rfl (by decide +kernel) (by decide) (by decide +kernel),
  List.forall_mem_cons.mpr ⟨k_pfF (j := 6) (T := TX7) tyX7 tyX7_ok nmX7 (okR_fitO "DuneMaps$Footing") rfl inX7G (by decide) rfl rfl (by decide +kernel) w_228 (by decide +kernel),
  List.forall_mem_cons.mpr ⟨k_alN (i := 0) (by decide +kernel) rfl,
  List.forall_mem_cons.mpr ⟨k_new (T := TX0) tyX0 [.int 0, .int 0] tyX0_ok rfl inX0G w_207 w_208 w_46 rfl (fun _ => nwX0) (by decide +kernel),
  List.forall_mem_cons.mpr ⟨k_dup (by decide +kernel),
  List.forall_mem_cons.mpr ⟨k_callIN (idx := 52) (y := 0) (n := 0) (host := "DuneMaps") (by decide +kernel) w_210 w_46 rfl w_211 rfl (by decide +kernel) (by decide) (by decide +kernel),
  List.forall_mem_cons.mpr ⟨k_pfF (j := 7) (T := TX7) tyX7 tyX7_ok nmX7 (okR_fitO "DuneMaps$Dusk") rfl inX7G (by decide) rfl rfl (by decide +kernel) w_229 (by decide +kernel),
  List.forall_mem_cons.mpr ⟨k_vret (by decide +kernel),
  fun _ h => absurd h List.not_mem_nil⟩⟩⟩⟩⟩⟩⟩⟩⟩⟩⟩⟩⟩⟩⟩⟩⟩⟩⟩⟩⟩⟩⟩⟩⟩⟩⟩⟩⟩⟩⟩⟩⟩⟩⟩⟩⟩⟩⟩⟩⟩⟩⟩
def tb_53 : List (Nat × pO) := [(0, o_il 1 1), (1, o_const (.int (1)) 2), (2, o_cmp (fun x y => x < y) 11 5), (5, o_il 1 6), (6, o_const (.int (126)) 8), (8, o_cmp (fun x y => x ≤ y) 14 11), (11, o_const (.int (-102)) 13), (13, o_iret), (14, o_al 0 15), (15, o_gf 7 0 18), (18, o_il 1 19), (19, o_call (rcV 4) 21 2 22), (22, o_if (fun x => x = 0) 35 25), (25, o_al 0 26), (26, o_gf 7 0 29), (29, o_gf 4 1 32), (32, o_goto 37), (35, o_const (.int (-104)) 37), (37, o_iret)]
set_option maxRecDepth 20000 in
theorem tk_53 : ∀ q ∈ tb_53, okA noS mM (prog_1_method_2_code, "DuneMaps", 2, some .int, false) q.1 q.2 :=
  List.forall_mem_cons.mpr ⟨k_ilN (i := 1) (by decide +kernel) rfl,
  List.forall_mem_cons.mpr ⟨k_iconst (n := 1) (1) (by decide +kernel) (by decide),
  List.forall_mem_cons.mpr ⟨k_icmp_lt (off := 9) (by decide +kernel) (by decide),
  List.forall_mem_cons.mpr ⟨k_ilN (i := 1) (by decide +kernel) rfl,
  List.forall_mem_cons.mpr ⟨k_bipush (n := 126) (126) (by decide +kernel) (by decide),
  List.forall_mem_cons.mpr ⟨k_icmp_le (off := 6) (by decide +kernel) (by decide),
  List.forall_mem_cons.mpr ⟨k_bipush (n := -102) (-102) (by decide +kernel) (by decide),
  List.forall_mem_cons.mpr ⟨k_iret (by decide +kernel),
  List.forall_mem_cons.mpr ⟨k_alN (i := 0) (by decide +kernel) rfl,
  List.forall_mem_cons.mpr ⟨k_gf (j := 0) (T := TX7) rfl inX7G (by decide) w_222 (by decide +kernel),
  List.forall_mem_cons.mpr ⟨k_ilN (i := 1) (by decide +kernel) rfl,
  List.forall_mem_cons.mpr ⟨k_callV (y := 21) (n := 1) (ci := 4) rfl w_263 w_264 w_265 w_40 w_266 (by decide +kernel) (by decide) (by decide +kernel),
  List.forall_mem_cons.mpr ⟨k_if_eq (off := 13) (by decide +kernel) (by decide),
  List.forall_mem_cons.mpr ⟨k_alN (i := 0) (by decide +kernel) rfl,
  List.forall_mem_cons.mpr ⟨k_gf (j := 0) (T := TX7) rfl inX7G (by decide) w_222 (by decide +kernel),
  List.forall_mem_cons.mpr ⟨k_gf (j := 1) (T := TX4) rfl inX4G (by decide) w_66 (by decide +kernel),
  List.forall_mem_cons.mpr ⟨k_goto (off := 5) (by decide +kernel) (by decide),
  List.forall_mem_cons.mpr ⟨k_bipush (n := -104) (-104) (by decide +kernel) (by decide),
  List.forall_mem_cons.mpr ⟨k_iret (by decide +kernel),
  fun _ h => absurd h List.not_mem_nil⟩⟩⟩⟩⟩⟩⟩⟩⟩⟩⟩⟩⟩⟩⟩⟩⟩⟩⟩
def tb_54 : List (Nat × pO) := [(0, o_al 0 1), (1, o_gf 7 0 4), (4, o_gf 4 1 7), (7, o_is 1 8), (8, o_al 0 9), (9, o_gf 7 0 12), (12, o_const (.int (0)) 13), (13, o_pf okI 4 1 16), (16, o_il 1 17), (17, o_iret)]
set_option maxRecDepth 20000 in
theorem tk_54 : ∀ q ∈ tb_54, okA noS mM (prog_1_method_3_code, "DuneMaps", 2, some .int, false) q.1 q.2 :=
  List.forall_mem_cons.mpr ⟨k_alN (i := 0) (by decide +kernel) rfl,
  List.forall_mem_cons.mpr ⟨k_gf (j := 0) (T := TX7) rfl inX7G (by decide) w_222 (by decide +kernel),
  List.forall_mem_cons.mpr ⟨k_gf (j := 1) (T := TX4) rfl inX4G (by decide) w_66 (by decide +kernel),
  List.forall_mem_cons.mpr ⟨k_isN (i := 1) (by decide +kernel) rfl,
  List.forall_mem_cons.mpr ⟨k_alN (i := 0) (by decide +kernel) rfl,
  List.forall_mem_cons.mpr ⟨k_gf (j := 0) (T := TX7) rfl inX7G (by decide) w_222 (by decide +kernel),
  List.forall_mem_cons.mpr ⟨k_iconst (n := 0) (0) (by decide +kernel) (by decide),
  List.forall_mem_cons.mpr ⟨k_pf (j := 1) (T := TX4) tyX4 tyX4_ok nmX4 okI_fit rfl inX4G (by decide) rfl (by decide +kernel) w_66 (by decide +kernel),
  List.forall_mem_cons.mpr ⟨k_ilN (i := 1) (by decide +kernel) rfl,
  List.forall_mem_cons.mpr ⟨k_iret (by decide +kernel),
  fun _ h => absurd h List.not_mem_nil⟩⟩⟩⟩⟩⟩⟩⟩⟩⟩
def tb_55 : List (Nat × pO) := [(0, o_il 1 1), (1, o_if (fun x => x = 0) 12 4), (4, o_il 1 5), (5, o_const (.int (1)) 6), (6, o_cmp (fun x y => x = y) 12 9), (9, o_const (.int (-102)) 11), (11, o_iret), (12, o_al 0 13), (13, o_gf 7 0 16), (16, o_il 1 17), (17, o_call (rcV 4) 23 2 20), (20, o_iret)]
set_option maxRecDepth 20000 in
theorem tk_55 : ∀ q ∈ tb_55, okA noS mM (prog_1_method_4_code, "DuneMaps", 2, some .int, false) q.1 q.2 :=
  List.forall_mem_cons.mpr ⟨k_ilN (i := 1) (by decide +kernel) rfl,
  List.forall_mem_cons.mpr ⟨k_if_eq (off := 11) (by decide +kernel) (by decide),
  List.forall_mem_cons.mpr ⟨k_ilN (i := 1) (by decide +kernel) rfl,
  List.forall_mem_cons.mpr ⟨k_iconst (n := 1) (1) (by decide +kernel) (by decide),
  List.forall_mem_cons.mpr ⟨k_icmp_eq (off := 6) (by decide +kernel) (by decide),
  List.forall_mem_cons.mpr ⟨k_bipush (n := -102) (-102) (by decide +kernel) (by decide),
  List.forall_mem_cons.mpr ⟨k_iret (by decide +kernel),
  List.forall_mem_cons.mpr ⟨k_alN (i := 0) (by decide +kernel) rfl,
  List.forall_mem_cons.mpr ⟨k_gf (j := 0) (T := TX7) rfl inX7G (by decide) w_222 (by decide +kernel),
  List.forall_mem_cons.mpr ⟨k_ilN (i := 1) (by decide +kernel) rfl,
  List.forall_mem_cons.mpr ⟨k_callV (y := 23) (n := 1) (ci := 4) rfl w_275 w_276 w_277 w_40 w_278 (by decide +kernel) (by decide) (by decide +kernel),
  List.forall_mem_cons.mpr ⟨k_iret (by decide +kernel),
  fun _ h => absurd h List.not_mem_nil⟩⟩⟩⟩⟩⟩⟩⟩⟩⟩⟩⟩
def tb_56 : List (Nat × pO) := [(0, o_al 0 1), (1, o_gf 7 0 4), (4, o_const (.int (0)) 5), (5, o_call (rcV 4) 24 2 8), (8, o_if (fun x => ¬ x = 0) 14 11), (11, o_const (.int (-103)) 13), (13, o_iret), (14, o_al 0 15), (15, o_gf 7 1 18), (18, o_call (rcV 2) 7 1 21), (21, o_al 0 22), (22, o_gf 7 0 25), (25, o_al 0 26), (26, o_gf 7 1 29), (29, o_gf 2 0 32), (32, o_call (rcV 4) 25 2 35), (35, o_al 0 36), (36, o_gf 7 1 39), (39, o_gf 2 0 42), (42, o_al 0 43), (43, o_gf 7 0 46), (46, o_call (rcV 4) 26 1 49), (49, o_pf okZ 5 1 52), (52, o_al 0 53), (53, o_gf 7 0 56), (56, o_const (.int (0)) 57), (57, o_pf okI 4 1 60), (60, o_al 0 61), (61, o_const (.int (1)) 62), (62, o_pf okZ 7 8 65), (65, o_al 0 66), (66, o_const (.int (0)) 67), (67, o_pf okZ 7 9 70), (70, o_al 0 71), (71, o_const (.int (0)) 72), (72, o_pf okZ 7 10 75), (75, o_al 0 76), (76, o_dup 77), (77, o_gf 7 11 80), (80, o_const (.int (1)) 81), (81, o_bin (fun x y => x + y) 82), (82, o_pf okI 7 11 85), (85, o_al 0 86), (86, o_gf 7 1 89), (89, o_gf 2 0 92), (92, o_call (rcV 5) 34 1 95), (95, o_iret)]
set_option maxRecDepth 20000 in
theorem tk_56 : ∀ q ∈ tb_56, okA noS mM (prog_1_method_5_code, "DuneMaps", 1, some .int, false) q.1 q.2 :=
  List.forall_mem_cons.mpr ⟨k_alN (i := 0) (by decide +kernel) rfl,
  List.forall_mem_cons.mpr ⟨k_gf (j := 0) (T := TX7) rfl inX7G (by decide) w_222 (by decide +kernel),
  List.forall_mem_cons.mpr ⟨k_iconst (n := 0) (0) (by decide +kernel) (by decide),
  List.forall_mem_cons.mpr ⟨k_callV (y := 24) (n := 1) (ci := 4) rfl w_290 w_291 w_292 w_40 w_293 (by decide +kernel) (by decide) (by decide +kernel),
  List.forall_mem_cons.mpr ⟨k_if_ne (off := 6) (by decide +kernel) (by decide),
  List.forall_mem_cons.mpr ⟨k_bipush (n := -103) (-103) (by decide +kernel) (by decide),
  List.forall_mem_cons.mpr ⟨k_iret (by decide +kernel),
  List.forall_mem_cons.mpr ⟨k_alN (i := 0) (by decide +kernel) rfl,
  List.forall_mem_cons.mpr ⟨k_gf (j := 1) (T := TX7) rfl inX7G (by decide) w_223 (by decide +kernel),
  List.forall_mem_cons.mpr ⟨k_callV (y := 7) (n := 0) (ci := 2) rfl w_295 w_296 w_297 w_41 w_298 (by decide +kernel) (by decide) (by decide +kernel),
  List.forall_mem_cons.mpr ⟨k_alN (i := 0) (by decide +kernel) rfl,
  List.forall_mem_cons.mpr ⟨k_gf (j := 0) (T := TX7) rfl inX7G (by decide) w_222 (by decide +kernel),
  List.forall_mem_cons.mpr ⟨k_alN (i := 0) (by decide +kernel) rfl,
  List.forall_mem_cons.mpr ⟨k_gf (j := 1) (T := TX7) rfl inX7G (by decide) w_223 (by decide +kernel),
  List.forall_mem_cons.mpr ⟨k_gf (j := 0) (T := TX2) rfl inX2G (by decide) w_131 (by decide +kernel),
  List.forall_mem_cons.mpr ⟨k_callV (y := 25) (n := 1) (ci := 4) rfl w_299 w_300 w_301 w_40 w_302 (by decide +kernel) (by decide) (by decide +kernel),
  List.forall_mem_cons.mpr ⟨k_alN (i := 0) (by decide +kernel) rfl,
  List.forall_mem_cons.mpr ⟨k_gf (j := 1) (T := TX7) rfl inX7G (by decide) w_223 (by decide +kernel),
  List.forall_mem_cons.mpr ⟨k_gf (j := 0) (T := TX2) rfl inX2G (by decide) w_131 (by decide +kernel),
  List.forall_mem_cons.mpr ⟨k_alN (i := 0) (by decide +kernel) rfl,
  List.forall_mem_cons.mpr ⟨k_gf (j := 0) (T := TX7) rfl inX7G (by decide) w_222 (by decide +kernel),
  List.forall_mem_cons.mpr ⟨k_callV (y := 26) (n := 0) (ci := 4) rfl w_307 w_308 w_309 w_40 w_310 (by decide +kernel) (by decide) (by decide +kernel),
  List.forall_mem_cons.mpr ⟨k_pf (j := 1) (T := TX5) tyX5 tyX5_ok nmX5 okZ_fit rfl inX5G (by decide) rfl (by decide +kernel) w_88 (by decide +kernel),
  List.forall_mem_cons.mpr ⟨k_alN (i := 0) (by decide +kernel) rfl,
  List.forall_mem_cons.mpr ⟨k_gf (j := 0) (T := TX7) rfl inX7G (by decide) w_222 (by decide +kernel),
  List.forall_mem_cons.mpr ⟨k_iconst (n := 0) (0) (by decide +kernel) (by decide),
  List.forall_mem_cons.mpr ⟨k_pf (j := 1) (T := TX4) tyX4 tyX4_ok nmX4 okI_fit rfl inX4G (by decide) rfl (by decide +kernel) w_66 (by decide +kernel),
  List.forall_mem_cons.mpr ⟨k_alN (i := 0) (by decide +kernel) rfl,
  List.forall_mem_cons.mpr ⟨k_iconst (n := 1) (1) (by decide +kernel) (by decide),
  List.forall_mem_cons.mpr ⟨k_pf (j := 8) (T := TX7) tyX7 tyX7_ok nmX7 okZ_fit rfl inX7G (by decide) rfl (by decide +kernel) w_230 (by decide +kernel),
  List.forall_mem_cons.mpr ⟨k_alN (i := 0) (by decide +kernel) rfl,
  List.forall_mem_cons.mpr ⟨k_iconst (n := 0) (0) (by decide +kernel) (by decide),
  List.forall_mem_cons.mpr ⟨k_pf (j := 9) (T := TX7) tyX7 tyX7_ok nmX7 okZ_fit rfl inX7G (by decide) rfl (by decide +kernel) w_231 (by decide +kernel),
  List.forall_mem_cons.mpr ⟨k_alN (i := 0) (by decide +kernel) rfl,
  List.forall_mem_cons.mpr ⟨k_iconst (n := 0) (0) (by decide +kernel) (by decide),
  List.forall_mem_cons.mpr ⟨k_pf (j := 10) (T := TX7) tyX7 tyX7_ok nmX7 okZ_fit rfl inX7G (by decide) rfl (by decide +kernel) w_232 (by decide +kernel),
  List.forall_mem_cons.mpr ⟨k_alN (i := 0) (by decide +kernel) rfl,
  List.forall_mem_cons.mpr ⟨k_dup (by decide +kernel),
  List.forall_mem_cons.mpr ⟨k_gf (j := 11) (T := TX7) rfl inX7G (by decide) w_233 (by decide +kernel),
  List.forall_mem_cons.mpr ⟨k_iconst (n := 1) (1) (by decide +kernel) (by decide),
  List.forall_mem_cons.mpr ⟨k_iadd (by decide +kernel),
  List.forall_mem_cons.mpr ⟨k_pf (j := 11) (T := TX7) tyX7 tyX7_ok nmX7 okI_fit rfl inX7G (by decide) rfl (by decide +kernel) w_233 (by decide +kernel),
  List.forall_mem_cons.mpr ⟨k_alN (i := 0) (by decide +kernel) rfl,
  List.forall_mem_cons.mpr ⟨k_gf (j := 1) (T := TX7) rfl inX7G (by decide) w_223 (by decide +kernel),
  List.forall_mem_cons.mpr ⟨k_gf (j := 0) (T := TX2) rfl inX2G (by decide) w_131 (by decide +kernel),
  List.forall_mem_cons.mpr ⟨k_callV (y := 34) (n := 0) (ci := 5) rfl w_311 w_312 w_313 w_42 w_314 (by decide +kernel) (by decide) (by decide +kernel),
  List.forall_mem_cons.mpr ⟨k_iret (by decide +kernel),
  fun _ h => absurd h List.not_mem_nil⟩⟩⟩⟩⟩⟩⟩⟩⟩⟩⟩⟩⟩⟩⟩⟩⟩⟩⟩⟩⟩⟩⟩⟩⟩⟩⟩⟩⟩⟩⟩⟩⟩⟩⟩⟩⟩⟩⟩⟩⟩⟩⟩⟩⟩⟩⟩
def tb_57 : List (Nat × pO) := [(0, o_al 0 1), (1, o_il 1 2), (2, o_call (rcV 7) 78 2 5), (5, o_if (fun x => ¬ x = 0) 11 8), (8, o_const (.int (-101)) 10), (10, o_iret), (11, o_il 2 12), (12, o_sw [(0, 40), (1, 52), (2, 64)] 73), (40, o_al 0 41), (41, o_gf 7 1 44), (44, o_gf 2 0 47), (47, o_il 1 48), (48, o_call (rcV 5) 29 2 51), (51, o_iret), (52, o_al 0 53), (53, o_gf 7 1 56), (56, o_gf 2 0 59), (59, o_il 1 60), (60, o_call (rcV 5) 36 2 63), (63, o_iret), (64, o_al 0 65), (65, o_gf 7 1 68), (68, o_il 1 69), (69, o_call (rcV 2) 11 2 72), (72, o_iret), (73, o_const (.int (-102)) 75), (75, o_iret)]
set_option maxRecDepth 20000 in
theorem tk_57 : ∀ q ∈ tb_57, okA noS mM (prog_1_method_6_code, "DuneMaps", 3, some .int, false) q.1 q.2 :=
  List.forall_mem_cons.mpr ⟨k_alN (i := 0) (by decide +kernel) rfl,
  List.forall_mem_cons.mpr ⟨k_ilN (i := 1) (by decide +kernel) rfl,
  List.forall_mem_cons.mpr ⟨k_callV (y := 78) (n := 1) (ci := 7) rfl w_319 w_321 w_0 w_39 w_322 (by decide +kernel) (by decide) (by decide +kernel),
  List.forall_mem_cons.mpr ⟨k_if_ne (off := 6) (by decide +kernel) (by decide),
  List.forall_mem_cons.mpr ⟨k_bipush (n := -101) (-101) (by decide +kernel) (by decide),
  List.forall_mem_cons.mpr ⟨k_iret (by decide +kernel),
  List.forall_mem_cons.mpr ⟨k_ilN (i := 2) (by decide +kernel) rfl,
  List.forall_mem_cons.mpr ⟨k_tsw (dflt := 61) (lo := 0) (hi := 2) (offs := #[28, 40, 52]) (len := 28) [(0, 40), (1, 52), (2, 64)] (by decide +kernel) (by decide) (by decide) (by decide) (tsw_ok (by decide +kernel)) (by decide),
  List.forall_mem_cons.mpr ⟨k_alN (i := 0) (by decide +kernel) rfl,
  List.forall_mem_cons.mpr ⟨k_gf (j := 1) (T := TX7) rfl inX7G (by decide) w_223 (by decide +kernel),
  List.forall_mem_cons.mpr ⟨k_gf (j := 0) (T := TX2) rfl inX2G (by decide) w_131 (by decide +kernel),
  List.forall_mem_cons.mpr ⟨k_ilN (i := 1) (by decide +kernel) rfl,
  List.forall_mem_cons.mpr ⟨k_callV (y := 29) (n := 1) (ci := 5) rfl w_323 w_324 w_325 w_42 w_326 (by decide +kernel) (by decide) (by decide +kernel),
  List.forall_mem_cons.mpr ⟨k_iret (by decide +kernel),
  List.forall_mem_cons.mpr ⟨k_alN (i := 0) (by decide +kernel) rfl,
  List.forall_mem_cons.mpr ⟨k_gf (j := 1) (T := TX7) rfl inX7G (by decide) w_223 (by decide +kernel),
  List.forall_mem_cons.mpr ⟨k_gf (j := 0) (T := TX2) rfl inX2G (by decide) w_131 (by decide +kernel),
  List.forall_mem_cons.mpr ⟨k_ilN (i := 1) (by decide +kernel) rfl,
  List.forall_mem_cons.mpr ⟨k_callV (y := 36) (n := 1) (ci := 5) rfl w_327 w_328 w_329 w_42 w_330 (by decide +kernel) (by decide) (by decide +kernel),
  List.forall_mem_cons.mpr ⟨k_iret (by decide +kernel),
  List.forall_mem_cons.mpr ⟨k_alN (i := 0) (by decide +kernel) rfl,
  List.forall_mem_cons.mpr ⟨k_gf (j := 1) (T := TX7) rfl inX7G (by decide) w_223 (by decide +kernel),
  List.forall_mem_cons.mpr ⟨k_ilN (i := 1) (by decide +kernel) rfl,
  List.forall_mem_cons.mpr ⟨k_callV (y := 11) (n := 1) (ci := 2) rfl w_331 w_332 w_333 w_41 w_334 (by decide +kernel) (by decide) (by decide +kernel),
  List.forall_mem_cons.mpr ⟨k_iret (by decide +kernel),
  List.forall_mem_cons.mpr ⟨k_bipush (n := -102) (-102) (by decide +kernel) (by decide),
  List.forall_mem_cons.mpr ⟨k_iret (by decide +kernel),
  fun _ h => absurd h List.not_mem_nil⟩⟩⟩⟩⟩⟩⟩⟩⟩⟩⟩⟩⟩⟩⟩⟩⟩⟩⟩⟩⟩⟩⟩⟩⟩⟩⟩
def tb_58 : List (Nat × pO) := [(0, o_al 0 1), (1, o_gf 7 8 4), (4, o_if (fun x => ¬ x = 0) 10 7), (7, o_const (.int (-103)) 9), (9, o_iret), (10, o_al 0 11), (11, o_gf 7 1 14), (14, o_gf 2 0 17), (17, o_gf 5 1 20), (20, o_call rc0 81 1 23), (23, o_is 2 24), (24, o_al 0 25), (25, o_gf 7 1 28), (28, o_gf 2 0 31), (31, o_il 1 32), (32, o_pf okZ 5 1 35), (35, o_il 2 36), (36, o_iret)]
set_option maxRecDepth 20000 in
theorem tk_58 : ∀ q ∈ tb_58, okA noS mM (prog_1_method_7_code, "DuneMaps", 3, some .int, false) q.1 q.2 :=
  List.forall_mem_cons.mpr ⟨k_alN (i := 0) (by decide +kernel) rfl,
  List.forall_mem_cons.mpr ⟨k_gf (j := 8) (T := TX7) rfl inX7G (by decide) w_230 (by decide +kernel),
  List.forall_mem_cons.mpr ⟨k_if_ne (off := 6) (by decide +kernel) (by decide),
  List.forall_mem_cons.mpr ⟨k_bipush (n := -103) (-103) (by decide +kernel) (by decide),
  List.forall_mem_cons.mpr ⟨k_iret (by decide +kernel),
  List.forall_mem_cons.mpr ⟨k_alN (i := 0) (by decide +kernel) rfl,
  List.forall_mem_cons.mpr ⟨k_gf (j := 1) (T := TX7) rfl inX7G (by decide) w_223 (by decide +kernel),
  List.forall_mem_cons.mpr ⟨k_gf (j := 0) (T := TX2) rfl inX2G (by decide) w_131 (by decide +kernel),
  List.forall_mem_cons.mpr ⟨k_gf (j := 1) (T := TX5) rfl inX5G (by decide) w_88 (by decide +kernel),
  List.forall_mem_cons.mpr ⟨k_callS (y := 81) (n := 1) w_342 w_336 w_39 w_337 (by decide +kernel) (by decide) (by decide +kernel),
  List.forall_mem_cons.mpr ⟨k_isN (i := 2) (by decide +kernel) rfl,
  List.forall_mem_cons.mpr ⟨k_alN (i := 0) (by decide +kernel) rfl,
  List.forall_mem_cons.mpr ⟨k_gf (j := 1) (T := TX7) rfl inX7G (by decide) w_223 (by decide +kernel),
  List.forall_mem_cons.mpr ⟨k_gf (j := 0) (T := TX2) rfl inX2G (by decide) w_131 (by decide +kernel),
  List.forall_mem_cons.mpr ⟨k_ilN (i := 1) (by decide +kernel) rfl,
  List.forall_mem_cons.mpr ⟨k_pf (j := 1) (T := TX5) tyX5 tyX5_ok nmX5 okZ_fit rfl inX5G (by decide) rfl (by decide +kernel) w_88 (by decide +kernel),
  List.forall_mem_cons.mpr ⟨k_ilN (i := 2) (by decide +kernel) rfl,
  List.forall_mem_cons.mpr ⟨k_iret (by decide +kernel),
  fun _ h => absurd h List.not_mem_nil⟩⟩⟩⟩⟩⟩⟩⟩⟩⟩⟩⟩⟩⟩⟩⟩⟩⟩
def tb_59 : List (Nat × pO) := [(0, o_al 0 1), (1, o_gf 7 8 4), (4, o_if (fun x => ¬ x = 0) 10 7), (7, o_const (.int (-103)) 9), (9, o_iret), (10, o_al 0 11), (11, o_gf 7 1 14), (14, o_dup 15), (15, o_gf 2 3 18), (18, o_const (.int (1)) 19), (19, o_bin (fun x y => x + y) 20), (20, o_pf okI 2 3 23), (23, o_al 0 24), (24, o_gf 7 1 27), (27, o_gf 2 0 30), (30, o_call (rcV 5) 38 1 33), (33, o_iret)]
set_option maxRecDepth 20000 in
theorem tk_59 : ∀ q ∈ tb_59, okA noS mM (prog_1_method_8_code, "DuneMaps", 1, some .int, false) q.1 q.2 :=
  List.forall_mem_cons.mpr ⟨k_alN (i := 0) (by decide +kernel) rfl,
  List.forall_mem_cons.mpr ⟨k_gf (j := 8) (T := TX7) rfl inX7G (by decide) w_230 (by decide +kernel),
  List.forall_mem_cons.mpr ⟨k_if_ne (off := 6) (by decide +kernel) (by decide),
  List.forall_mem_cons.mpr ⟨k_bipush (n := -103) (-103) (by decide +kernel) (by decide),
  List.forall_mem_cons.mpr ⟨k_iret (by decide +kernel),
  List.forall_mem_cons.mpr ⟨k_alN (i := 0) (by decide +kernel) rfl,
  List.forall_mem_cons.mpr ⟨k_gf (j := 1) (T := TX7) rfl inX7G (by decide) w_223 (by decide +kernel),
  List.forall_mem_cons.mpr ⟨k_dup (by decide +kernel),
  List.forall_mem_cons.mpr ⟨k_gf (j := 3) (T := TX2) rfl inX2G (by decide) w_137 (by decide +kernel),
  List.forall_mem_cons.mpr ⟨k_iconst (n := 1) (1) (by decide +kernel) (by decide),
  List.forall_mem_cons.mpr ⟨k_iadd (by decide +kernel),
  List.forall_mem_cons.mpr ⟨k_pf (j := 3) (T := TX2) tyX2 tyX2_ok nmX2 okI_fit rfl inX2G (by decide) rfl (by decide +kernel) w_137 (by decide +kernel),
  List.forall_mem_cons.mpr ⟨k_alN (i := 0) (by decide +kernel) rfl,
  List.forall_mem_cons.mpr ⟨k_gf (j := 1) (T := TX7) rfl inX7G (by decide) w_223 (by decide +kernel),
  List.forall_mem_cons.mpr ⟨k_gf (j := 0) (T := TX2) rfl inX2G (by decide) w_131 (by decide +kernel),
  List.forall_mem_cons.mpr ⟨k_callV (y := 38) (n := 0) (ci := 5) rfl w_347 w_348 w_349 w_42 w_350 (by decide +kernel) (by decide) (by decide +kernel),
  List.forall_mem_cons.mpr ⟨k_iret (by decide +kernel),
  fun _ h => absurd h List.not_mem_nil⟩⟩⟩⟩⟩⟩⟩⟩⟩⟩⟩⟩⟩⟩⟩⟩⟩
def tb_60 : List (Nat × pO) := [(0, o_il 1 1), (1, o_call rc0 79 1 4), (4, o_if (fun x => ¬ x = 0) 10 7), (7, o_const (.int (-102)) 9), (9, o_iret), (10, o_al 0 11), (11, o_il 2 12), (12, o_call (rcV 7) 78 2 15), (15, o_if (fun x => ¬ x = 0) 21 18), (18, o_const (.int (-101)) 20), (20, o_iret), (21, o_al 0 22), (22, o_gf 7 1 25), (25, o_il 1 26), (26, o_il 2 27), (27, o_call (rcV 2) 10 3 30), (30, o_iret)]
set_option maxRecDepth 20000 in
theorem tk_60 : ∀ q ∈ tb_60, okA noS mM (prog_1_method_9_code, "DuneMaps", 3, some .int, false) q.1 q.2 :=
  List.forall_mem_cons.mpr ⟨k_ilN (i := 1) (by decide +kernel) rfl,
  List.forall_mem_cons.mpr ⟨k_callS (y := 79) (n := 1) w_377 w_378 w_39 w_379 (by decide +kernel) (by decide) (by decide +kernel),
  List.forall_mem_cons.mpr ⟨k_if_ne (off := 6) (by decide +kernel) (by decide),
  List.forall_mem_cons.mpr ⟨k_bipush (n := -102) (-102) (by decide +kernel) (by decide),
  List.forall_mem_cons.mpr ⟨k_iret (by decide +kernel),
  List.forall_mem_cons.mpr ⟨k_alN (i := 0) (by decide +kernel) rfl,
  List.forall_mem_cons.mpr ⟨k_ilN (i := 2) (by decide +kernel) rfl,
  List.forall_mem_cons.mpr ⟨k_callV (y := 78) (n := 1) (ci := 7) rfl w_319 w_321 w_0 w_39 w_322 (by decide +kernel) (by decide) (by decide +kernel),
  List.forall_mem_cons.mpr ⟨k_if_ne (off := 6) (by decide +kernel) (by decide),
  List.forall_mem_cons.mpr ⟨k_bipush (n := -101) (-101) (by decide +kernel) (by decide),
  List.forall_mem_cons.mpr ⟨k_iret (by decide +kernel),
  List.forall_mem_cons.mpr ⟨k_alN (i := 0) (by decide +kernel) rfl,
  List.forall_mem_cons.mpr ⟨k_gf (j := 1) (T := TX7) rfl inX7G (by decide) w_223 (by decide +kernel),
  List.forall_mem_cons.mpr ⟨k_ilN (i := 1) (by decide +kernel) rfl,
  List.forall_mem_cons.mpr ⟨k_ilN (i := 2) (by decide +kernel) rfl,
  List.forall_mem_cons.mpr ⟨k_callV (y := 10) (n := 2) (ci := 2) rfl w_380 w_381 w_382 w_41 w_383 (by decide +kernel) (by decide) (by decide +kernel),
  List.forall_mem_cons.mpr ⟨k_iret (by decide +kernel),
  fun _ h => absurd h List.not_mem_nil⟩⟩⟩⟩⟩⟩⟩⟩⟩⟩⟩⟩⟩⟩⟩⟩⟩
def tb_61 : List (Nat × pO) := [(0, o_al 0 1), (1, o_gf 7 1 4), (4, o_il 1 5), (5, o_call (rcV 2) 9 2 8), (8, o_as 3 9), (9, o_al 3 10), (10, o_nnul 16 13), (13, o_const (.int (-101)) 15), (15, o_iret), (16, o_il 2 17), (17, o_sw [(0, 64), (1, 69), (2, 74), (3, 82), (4, 87), (5, 95), (6, 110), (7, 126)] 142), (64, o_al 3 65), (65, o_gf 6 1 68), (68, o_iret), (69, o_al 3 70), (70, o_gf 6 2 73), (73, o_iret), (74, o_al 3 75), (75, o_gf 6 1 78), (78, o_call rc0 82 1 81), (81, o_iret), (82, o_al 3 83), (83, o_gf 6 3 86), (86, o_iret), (87, o_al 3 88), (88, o_call (rcV 6) 46 1 91), (91, o_call rc0 81 1 94), (94, o_iret), (95, o_al 3 96), (96, o_al 0 97), (97, o_gf 7 1 100), (100, o_gf 2 0 103), (103, o_call (rcV 6) 48 2 106), (106, o_call rc0 81 1 109), (109, o_iret), (110, o_al 3 111), (111, o_call (rcV 6) 46 1 114), (114, o_if (fun x => x = 0) 124 117), (117, o_al 3 118), (118, o_gf 6 4 121), (121, o_goto 125), (124, o_const (.int (-1)) 125), (125, o_iret), (126, o_al 3 127), (127, o_call (rcV 6) 46 1 130), (130, o_if (fun x => x = 0) 140 133), (133, o_al 3 134), (134, o_gf 6 5 137), (137, o_goto 141), (140, o_const (.int (-1)) 141), (141, o_iret), (142, o_const (.int (-102)) 144), (144, o_iret)]
set_option maxRecDepth 20000 in
theorem tk_61 : ∀ q ∈ tb_61, okA noS mM (prog_1_method_10_code, "DuneMaps", 4, some .int, false) q.1 q.2 :=
  List.forall_mem_cons.mpr ⟨k_alN (i := 0) (by decide +kernel) rfl,
  List.forall_mem_cons.mpr ⟨k_gf (j := 1) (T := TX7) rfl inX7G (by decide) w_223 (by decide +kernel),
  List.forall_mem_cons.mpr ⟨k_ilN (i := 1) (by decide +kernel) rfl,
  List.forall_mem_cons.mpr ⟨k_callV (y := 9) (n := 1) (ci := 2) rfl w_392 w_393 w_394 w_41 w_395 (by decide +kernel) (by decide) (by decide +kernel),
  List.forall_mem_cons.mpr ⟨k_asN (i := 3) (by decide +kernel) rfl,
  List.forall_mem_cons.mpr ⟨k_alN (i := 3) (by decide +kernel) rfl,
  List.forall_mem_cons.mpr ⟨k_ifnonnull (off := 6) (by decide +kernel) (by decide),
  List.forall_mem_cons.mpr ⟨k_bipush (n := -101) (-101) (by decide +kernel) (by decide),
  List.forall_mem_cons.mpr ⟨k_iret (by decide +kernel),
  List.forall_mem_cons.mpr ⟨k_ilN (i := 2) (by decide +kernel) rfl,
  List.forall_mem_cons.mpr ⟨k_tsw (dflt := 125) (lo := 0) (hi := 7) (offs := #[47, 52, 57, 65, 70, 78, 93, 109]) (len := 47) [(0, 64), (1, 69), (2, 74), (3, 82), (4, 87), (5, 95), (6, 110), (7, 126)] (by decide +kernel) (by decide) (by decide) (by decide) (tsw_ok (by decide +kernel)) (by decide),
  List.forall_mem_cons.mpr ⟨k_alN (i := 3) (by decide +kernel) rfl,
  List.forall_mem_cons.mpr ⟨k_gf (j := 1) (T := TX6) rfl inX6G (by decide) w_104 (by decide +kernel),
  List.forall_mem_cons.mpr ⟨k_iret (by decide +kernel),
  List.forall_mem_cons.mpr ⟨k_alN (i := 3) (by decide +kernel) rfl,
  List.forall_mem_cons.mpr ⟨k_gf (j := 2) (T := TX6) rfl inX6G (by decide) w_108 (by decide +kernel),
  List.forall_mem_cons.mpr ⟨k_iret (by decide +kernel),
  List.forall_mem_cons.mpr ⟨k_alN (i := 3) (by decide +kernel) rfl,
  List.forall_mem_cons.mpr ⟨k_gf (j := 1) (T := TX6) rfl inX6G (by decide) w_104 (by decide +kernel),
  List.forall_mem_cons.mpr ⟨k_callS (y := 82) (n := 1) w_396 w_397 w_39 w_398 (by decide +kernel) (by decide) (by decide +kernel),
  List.forall_mem_cons.mpr ⟨k_iret (by decide +kernel),
  List.forall_mem_cons.mpr ⟨k_alN (i := 3) (by decide +kernel) rfl,
  List.forall_mem_cons.mpr ⟨k_gf (j := 3) (T := TX6) rfl inX6G (by decide) w_111 (by decide +kernel),
  List.forall_mem_cons.mpr ⟨k_iret (by decide +kernel),
  List.forall_mem_cons.mpr ⟨k_alN (i := 3) (by decide +kernel) rfl,
  List.forall_mem_cons.mpr ⟨k_callV (y := 46) (n := 0) (ci := 6) rfl w_401 w_402 w_403 w_43 w_404 (by decide +kernel) (by decide) (by decide +kernel),
  List.forall_mem_cons.mpr ⟨k_callS (y := 81) (n := 1) w_342 w_336 w_39 w_337 (by decide +kernel) (by decide) (by decide +kernel),
  List.forall_mem_cons.mpr ⟨k_iret (by decide +kernel),
  List.forall_mem_cons.mpr ⟨k_alN (i := 3) (by decide +kernel) rfl,
  List.forall_mem_cons.mpr ⟨k_alN (i := 0) (by decide +kernel) rfl,
  List.forall_mem_cons.mpr ⟨k_gf (j := 1) (T := TX7) rfl inX7G (by decide) w_223 (by decide +kernel),
  List.forall_mem_cons.mpr ⟨k_gf (j := 0) (T := TX2) rfl inX2G (by decide) w_131 (by decide +kernel),
  List.forall_mem_cons.mpr ⟨k_callV (y := 48) (n := 1) (ci := 6) rfl w_405 w_406 w_407 w_43 w_408 (by decide +kernel) (by decide) (by decide +kernel),
  List.forall_mem_cons.mpr ⟨k_callS (y := 81) (n := 1) w_342 w_336 w_39 w_337 (by decide +kernel) (by decide) (by decide +kernel),
  List.forall_mem_cons.mpr ⟨k_iret (by decide +kernel),
  List.forall_mem_cons.mpr ⟨k_alN (i := 3) (by decide +kernel) rfl,
  List.forall_mem_cons.mpr ⟨k_callV (y := 46) (n := 0) (ci := 6) rfl w_401 w_402 w_403 w_43 w_404 (by decide +kernel) (by decide) (by decide +kernel),
  List.forall_mem_cons.mpr ⟨k_if_eq (off := 10) (by decide +kernel) (by decide),
  List.forall_mem_cons.mpr ⟨k_alN (i := 3) (by decide +kernel) rfl,
  List.forall_mem_cons.mpr ⟨k_gf (j := 4) (T := TX6) rfl inX6G (by decide) w_113 (by decide +kernel),
  List.forall_mem_cons.mpr ⟨k_goto (off := 4) (by decide +kernel) (by decide),
  List.forall_mem_cons.mpr ⟨k_iconst (n := -1) (-1) (by decide +kernel) (by decide),
  List.forall_mem_cons.mpr ⟨k_iret (by decide +kernel),
  List.forall_mem_cons.mpr ⟨k_alN (i := 3) (by decide +kernel) rfl,
  List.forall_mem_cons.mpr ⟨k_callV (y := 46) (n := 0) (ci := 6) rfl w_401 w_402 w_403 w_43 w_404 (by decide +kernel) (by decide) (by decide +kernel),
  List.forall_mem_cons.mpr ⟨k_if_eq (off := 10) (by decide +kernel) (by decide),
  List.forall_mem_cons.mpr ⟨k_alN (i := 3) (by decide +kernel) rfl,
  List.forall_mem_cons.mpr ⟨k_gf (j := 5) (T := TX6) rfl inX6G (by decide) w_115 (by decide +kernel),
  List.forall_mem_cons.mpr ⟨k_goto (off := 4) (by decide +kernel) (by decide),
  List.forall_mem_cons.mpr ⟨k_iconst (n := -1) (-1) (by decide +kernel) (by decide),
  List.forall_mem_cons.mpr ⟨k_iret (by decide +kernel),
  List.forall_mem_cons.mpr ⟨k_bipush (n := -102) (-102) (by decide +kernel) (by decide),
  List.forall_mem_cons.mpr ⟨k_iret (by decide +kernel),
  fun _ h => absurd h List.not_mem_nil⟩⟩⟩⟩⟩⟩⟩⟩⟩⟩⟩⟩⟩⟩⟩⟩⟩⟩⟩⟩⟩⟩⟩⟩⟩⟩⟩⟩⟩⟩⟩⟩⟩⟩⟩⟩⟩⟩⟩⟩⟩⟩⟩⟩⟩⟩⟩⟩⟩⟩⟩⟩⟩
def tb_62 : List (Nat × pO) := [(0, o_al 0 1), (1, o_gf 7 1 4), (4, o_il 1 5), (5, o_call (rcV 2) 9 2 8), (8, o_as 3 9), (9, o_al 3 10), (10, o_nnul 16 13), (13, o_const (.int (-101)) 15), (15, o_iret), (16, o_il 2 17), (17, o_call rc0 79 1 20), (20, o_if (fun x => ¬ x = 0) 26 23), (23, o_const (.int (-102)) 25), (25, o_iret), (26, o_il 2 27), (27, o_if (fun x => x = 0) 51 30), (30, o_il 2 31), (31, o_al 3 32), (32, o_gf 6 1 35), (35, o_cmp (fun x y => x = y) 51 38), (38, o_il 2 39), (39, o_const (.int (1)) 40), (40, o_cmp (fun x y => ¬ x = y) 55 43), (43, o_al 3 44), (44, o_gf 6 1 47), (47, o_const (.int (4)) 48), (48, o_cmp (fun x y => ¬ x = y) 55 51), (51, o_const (.int (1)) 52), (52, o_goto 56), (55, o_const (.int (0)) 56), (56, o_is 4 58), (58, o_il 4 60), (60, o_if (fun x => x = 0) 67 63), (63, o_il 1 64), (64, o_goto 68), (67, o_const (.int (-1)) 68), (68, o_iret)]
set_option maxRecDepth 20000 in
theorem tk_62 : ∀ q ∈ tb_62, okA noS mM (prog_1_method_11_code, "DuneMaps", 5, some .int, false) q.1 q.2 :=
  List.forall_mem_cons.mpr ⟨k_alN (i := 0) (by decide +kernel) rfl,
  List.forall_mem_cons.mpr ⟨k_gf (j := 1) (T := TX7) rfl inX7G (by decide) w_223 (by decide +kernel),
  List.forall_mem_cons.mpr ⟨k_ilN (i := 1) (by decide +kernel) rfl,
  List.forall_mem_cons.mpr ⟨k_callV (y := 9) (n := 1) (ci := 2) rfl w_392 w_393 w_394 w_41 w_395 (by decide +kernel) (by decide) (by decide +kernel),
  List.forall_mem_cons.mpr ⟨k_asN (i := 3) (by decide +kernel) rfl,
  List.forall_mem_cons.mpr ⟨k_alN (i := 3) (by decide +kernel) rfl,
  List.forall_mem_cons.mpr ⟨k_ifnonnull (off := 6) (by decide +kernel) (by decide),
  List.forall_mem_cons.mpr ⟨k_bipush (n := -101) (-101) (by decide +kernel) (by decide),
  List.forall_mem_cons.mpr ⟨k_iret (by decide +kernel),
  List.forall_mem_cons.mpr ⟨k_ilN (i := 2) (by decide +kernel) rfl,
  List.forall_mem_cons.mpr ⟨k_callS (y := 79) (n := 1) w_377 w_378 w_39 w_379 (by decide +kernel) (by decide) (by decide +kernel),
  List.forall_mem_cons.mpr ⟨k_if_ne (off := 6) (by decide +kernel) (by decide),
  List.forall_mem_cons.mpr ⟨k_bipush (n := -102) (-102) (by decide +kernel) (by decide),
  List.forall_mem_cons.mpr ⟨k_iret (by decide +kernel),
  List.forall_mem_cons.mpr ⟨k_ilN (i := 2) (by decide +kernel) rfl,
  List.forall_mem_cons.mpr ⟨k_if_eq (off := 24) (by decide +kernel) (by decide),
  List.forall_mem_cons.mpr ⟨k_ilN (i := 2) (by decide +kernel) rfl,
  List.forall_mem_cons.mpr ⟨k_alN (i := 3) (by decide +kernel) rfl,
  List.forall_mem_cons.mpr ⟨k_gf (j := 1) (T := TX6) rfl inX6G (by decide) w_104 (by decide +kernel),
  List.forall_mem_cons.mpr ⟨k_icmp_eq (off := 16) (by decide +kernel) (by decide),
  List.forall_mem_cons.mpr ⟨k_ilN (i := 2) (by decide +kernel) rfl,
  List.forall_mem_cons.mpr ⟨k_iconst (n := 1) (1) (by decide +kernel) (by decide),
  List.forall_mem_cons.mpr ⟨k_icmp_ne (off := 15) (by decide +kernel) (by decide),
  List.forall_mem_cons.mpr ⟨k_alN (i := 3) (by decide +kernel) rfl,
  List.forall_mem_cons.mpr ⟨k_gf (j := 1) (T := TX6) rfl inX6G (by decide) w_104 (by decide +kernel),
  List.forall_mem_cons.mpr ⟨k_iconst (n := 4) (4) (by decide +kernel) (by decide),
  List.forall_mem_cons.mpr ⟨k_icmp_ne (off := 7) (by decide +kernel) (by decide),
  List.forall_mem_cons.mpr ⟨k_iconst (n := 1) (1) (by decide +kernel) (by decide),
  List.forall_mem_cons.mpr ⟨k_goto (off := 4) (by decide +kernel) (by decide),
  List.forall_mem_cons.mpr ⟨k_iconst (n := 0) (0) (by decide +kernel) (by decide),
  List.forall_mem_cons.mpr ⟨k_is (by decide +kernel),
  List.forall_mem_cons.mpr ⟨k_il (by decide +kernel),
  List.forall_mem_cons.mpr ⟨k_if_eq (off := 7) (by decide +kernel) (by decide),
  List.forall_mem_cons.mpr ⟨k_ilN (i := 1) (by decide +kernel) rfl,
  List.forall_mem_cons.mpr ⟨k_goto (off := 4) (by decide +kernel) (by decide),
  List.forall_mem_cons.mpr ⟨k_iconst (n := -1) (-1) (by decide +kernel) (by decide),
  List.forall_mem_cons.mpr ⟨k_iret (by decide +kernel),
  fun _ h => absurd h List.not_mem_nil⟩⟩⟩⟩⟩⟩⟩⟩⟩⟩⟩⟩⟩⟩⟩⟩⟩⟩⟩⟩⟩⟩⟩⟩⟩⟩⟩⟩⟩⟩⟩⟩⟩⟩⟩⟩⟩
def tb_63 : List (Nat × pO) := [(0, o_al 0 1), (1, o_gf 7 1 4), (4, o_il 1 5), (5, o_call (rcV 2) 9 2 8), (8, o_as 3 9), (9, o_al 3 10), (10, o_nnul 16 13), (13, o_const (.int (-101)) 15), (15, o_iret), (16, o_il 2 17), (17, o_call rc0 80 1 20), (20, o_if (fun x => ¬ x = 0) 26 23), (23, o_const (.int (-102)) 25), (25, o_iret), (26, o_al 3 27), (27, o_al 0 28), (28, o_gf 7 1 31), (31, o_gf 2 0 34), (34, o_il 2 35), (35, o_call (rcV 6) 49 3 38), (38, o_iret)]
set_option maxRecDepth 20000 in
theorem tk_63 : ∀ q ∈ tb_63, okA noS mM (prog_1_method_12_code, "DuneMaps", 4, some .int, false) q.1 q.2 :=
  List.forall_mem_cons.mpr ⟨k_alN (i := 0) (by decide +kernel) rfl,
  List.forall_mem_cons.mpr ⟨k_gf (j := 1) (T := TX7) rfl inX7G (by decide) w_223 (by decide +kernel),
  List.forall_mem_cons.mpr ⟨k_ilN (i := 1) (by decide +kernel) rfl,
  List.forall_mem_cons.mpr ⟨k_callV (y := 9) (n := 1) (ci := 2) rfl w_392 w_393 w_394 w_41 w_395 (by decide +kernel) (by decide) (by decide +kernel),
  List.forall_mem_cons.mpr ⟨k_asN (i := 3) (by decide +kernel) rfl,
  List.forall_mem_cons.mpr ⟨k_alN (i := 3) (by decide +kernel) rfl,
  List.forall_mem_cons.mpr ⟨k_ifnonnull (off := 6) (by decide +kernel) (by decide),
  List.forall_mem_cons.mpr ⟨k_bipush (n := -101) (-101) (by decide +kernel) (by decide),
  List.forall_mem_cons.mpr ⟨k_iret (by decide +kernel),
  List.forall_mem_cons.mpr ⟨k_ilN (i := 2) (by decide +kernel) rfl,
  List.forall_mem_cons.mpr ⟨k_callS (y := 80) (n := 1) w_422 w_423 w_39 w_424 (by decide +kernel) (by decide) (by decide +kernel),
  List.forall_mem_cons.mpr ⟨k_if_ne (off := 6) (by decide +kernel) (by decide),
  List.forall_mem_cons.mpr ⟨k_bipush (n := -102) (-102) (by decide +kernel) (by decide),
  List.forall_mem_cons.mpr ⟨k_iret (by decide +kernel),
  List.forall_mem_cons.mpr ⟨k_alN (i := 3) (by decide +kernel) rfl,
  List.forall_mem_cons.mpr ⟨k_alN (i := 0) (by decide +kernel) rfl,
  List.forall_mem_cons.mpr ⟨k_gf (j := 1) (T := TX7) rfl inX7G (by decide) w_223 (by decide +kernel),
  List.forall_mem_cons.mpr ⟨k_gf (j := 0) (T := TX2) rfl inX2G (by decide) w_131 (by decide +kernel),
  List.forall_mem_cons.mpr ⟨k_ilN (i := 2) (by decide +kernel) rfl,
  List.forall_mem_cons.mpr ⟨k_callV (y := 49) (n := 2) (ci := 6) rfl w_425 w_426 w_427 w_43 w_428 (by decide +kernel) (by decide) (by decide +kernel),
  List.forall_mem_cons.mpr ⟨k_iret (by decide +kernel),
  fun _ h => absurd h List.not_mem_nil⟩⟩⟩⟩⟩⟩⟩⟩⟩⟩⟩⟩⟩⟩⟩⟩⟩⟩⟩⟩⟩
def tb_64 : List (Nat × pO) := [(0, o_al 0 1), (1, o_gf 7 1 4), (4, o_il 1 5), (5, o_call (rcV 2) 9 2 8), (8, o_as 4 10), (10, o_al 4 12), (12, o_nnul 18 15), (15, o_const (.int (-101)) 17), (17, o_iret), (18, o_il 2 19), (19, o_call rc0 80 1 22), (22, o_if (fun x => x = 0) 36 25), (25, o_il 3 26), (26, o_const (.int (1)) 27), (27, o_cmp (fun x y => x < y) 36 30), (30, o_il 3 31), (31, o_const (.int (8)) 33), (33, o_cmp (fun x y => x ≤ y) 39 36), (36, o_const (.int (-102)) 38), (38, o_iret), (39, o_al 4 41), (41, o_al 0 42), (42, o_gf 7 1 45), (45, o_gf 2 0 48), (48, o_il 2 49), (49, o_il 3 50), (50, o_call (rcV 6) 47 4 53), (53, o_iret)]
set_option maxRecDepth 20000 in
theorem tk_64 : ∀ q ∈ tb_64, okA noS mM (prog_1_method_13_code, "DuneMaps", 5, some .int, false) q.1 q.2 :=
  List.forall_mem_cons.mpr ⟨k_alN (i := 0) (by decide +kernel) rfl,
  List.forall_mem_cons.mpr ⟨k_gf (j := 1) (T := TX7) rfl inX7G (by decide) w_223 (by decide +kernel),
  List.forall_mem_cons.mpr ⟨k_ilN (i := 1) (by decide +kernel) rfl,
  List.forall_mem_cons.mpr ⟨k_callV (y := 9) (n := 1) (ci := 2) rfl w_392 w_393 w_394 w_41 w_395 (by decide +kernel) (by decide) (by decide +kernel),
  List.forall_mem_cons.mpr ⟨k_as (by decide +kernel),
  List.forall_mem_cons.mpr ⟨k_al (by decide +kernel),
  List.forall_mem_cons.mpr ⟨k_ifnonnull (off := 6) (by decide +kernel) (by decide),
  List.forall_mem_cons.mpr ⟨k_bipush (n := -101) (-101) (by decide +kernel) (by decide),
  List.forall_mem_cons.mpr ⟨k_iret (by decide +kernel),
  List.forall_mem_cons.mpr ⟨k_ilN (i := 2) (by decide +kernel) rfl,
  List.forall_mem_cons.mpr ⟨k_callS (y := 80) (n := 1) w_422 w_423 w_39 w_424 (by decide +kernel) (by decide) (by decide +kernel),
  List.forall_mem_cons.mpr ⟨k_if_eq (off := 14) (by decide +kernel) (by decide),
  List.forall_mem_cons.mpr ⟨k_ilN (i := 3) (by decide +kernel) rfl,
  List.forall_mem_cons.mpr ⟨k_iconst (n := 1) (1) (by decide +kernel) (by decide),
  List.forall_mem_cons.mpr ⟨k_icmp_lt (off := 9) (by decide +kernel) (by decide),
  List.forall_mem_cons.mpr ⟨k_ilN (i := 3) (by decide +kernel) rfl,
  List.forall_mem_cons.mpr ⟨k_bipush (n := 8) (8) (by decide +kernel) (by decide),
  List.forall_mem_cons.mpr ⟨k_icmp_le (off := 6) (by decide +kernel) (by decide),
  List.forall_mem_cons.mpr ⟨k_bipush (n := -102) (-102) (by decide +kernel) (by decide),
  List.forall_mem_cons.mpr ⟨k_iret (by decide +kernel),
  List.forall_mem_cons.mpr ⟨k_al (by decide +kernel),
  List.forall_mem_cons.mpr ⟨k_alN (i := 0) (by decide +kernel) rfl,
  List.forall_mem_cons.mpr ⟨k_gf (j := 1) (T := TX7) rfl inX7G (by decide) w_223 (by decide +kernel),
  List.forall_mem_cons.mpr ⟨k_gf (j := 0) (T := TX2) rfl inX2G (by decide) w_131 (by decide +kernel),
  List.forall_mem_cons.mpr ⟨k_ilN (i := 2) (by decide +kernel) rfl,
  List.forall_mem_cons.mpr ⟨k_ilN (i := 3) (by decide +kernel) rfl,
  List.forall_mem_cons.mpr ⟨k_callV (y := 47) (n := 3) (ci := 6) rfl w_442 w_443 w_444 w_43 w_445 (by decide +kernel) (by decide) (by decide +kernel),
  List.forall_mem_cons.mpr ⟨k_iret (by decide +kernel),
  fun _ h => absurd h List.not_mem_nil⟩⟩⟩⟩⟩⟩⟩⟩⟩⟩⟩⟩⟩⟩⟩⟩⟩⟩⟩⟩⟩⟩⟩⟩⟩⟩⟩⟩
def tb_65 : List (Nat × pO) := [(0, o_al 0 1), (1, o_gf 7 1 4), (4, o_il 1 5), (5, o_call (rcV 2) 9 2 8), (8, o_as 2 9), (9, o_al 2 10), (10, o_nnul 16 13), (13, o_const (.int (-101)) 15), (15, o_iret), (16, o_al 2 17), (17, o_call (rcV 6) 46 1 20), (20, o_if (fun x => ¬ x = 0) 26 23), (23, o_const (.int (-103)) 25), (25, o_iret), (26, o_al 2 27), (27, o_al 0 28), (28, o_gf 7 1 31), (31, o_gf 2 0 34), (34, o_call (rcV 6) 48 2 37), (37, o_call rc0 81 1 40), (40, o_is 3 41), (41, o_al 2 42), (42, o_al 0 43), (43, o_gf 7 1 46), (46, o_gf 2 0 49), (49, o_call (rcV 6) 50 2 52), (52, o_il 3 53), (53, o_iret)]
set_option maxRecDepth 20000 in
theorem tk_65 : ∀ q ∈ tb_65, okA noS mM (prog_1_method_14_code, "DuneMaps", 4, some .int, false) q.1 q.2 :=
  List.forall_mem_cons.mpr ⟨k_alN (i := 0) (by decide +kernel) rfl,
  List.forall_mem_cons.mpr ⟨k_gf (j := 1) (T := TX7) rfl inX7G (by decide) w_223 (by decide +kernel),
  List.forall_mem_cons.mpr ⟨k_ilN (i := 1) (by decide +kernel) rfl,
  List.forall_mem_cons.mpr ⟨k_callV (y := 9) (n := 1) (ci := 2) rfl w_392 w_393 w_394 w_41 w_395 (by decide +kernel) (by decide) (by decide +kernel),
  List.forall_mem_cons.mpr ⟨k_asN (i := 2) (by decide +kernel) rfl,
  List.forall_mem_cons.mpr ⟨k_alN (i := 2) (by decide +kernel) rfl,
  List.forall_mem_cons.mpr ⟨k_ifnonnull (off := 6) (by decide +kernel) (by decide),
  List.forall_mem_cons.mpr ⟨k_bipush (n := -101) (-101) (by decide +kernel) (by decide),
  List.forall_mem_cons.mpr ⟨k_iret (by decide +kernel),
  List.forall_mem_cons.mpr ⟨k_alN (i := 2) (by decide +kernel) rfl,
  List.forall_mem_cons.mpr ⟨k_callV (y := 46) (n := 0) (ci := 6) rfl w_401 w_402 w_403 w_43 w_404 (by decide +kernel) (by decide) (by decide +kernel),
  List.forall_mem_cons.mpr ⟨k_if_ne (off := 6) (by decide +kernel) (by decide),
  List.forall_mem_cons.mpr ⟨k_bipush (n := -103) (-103) (by decide +kernel) (by decide),
  List.forall_mem_cons.mpr ⟨k_iret (by decide +kernel),
  List.forall_mem_cons.mpr ⟨k_alN (i := 2) (by decide +kernel) rfl,
  List.forall_mem_cons.mpr ⟨k_alN (i := 0) (by decide +kernel) rfl,
  List.forall_mem_cons.mpr ⟨k_gf (j := 1) (T := TX7) rfl inX7G (by decide) w_223 (by decide +kernel),
  List.forall_mem_cons.mpr ⟨k_gf (j := 0) (T := TX2) rfl inX2G (by decide) w_131 (by decide +kernel),
  List.forall_mem_cons.mpr ⟨k_callV (y := 48) (n := 1) (ci := 6) rfl w_405 w_406 w_407 w_43 w_408 (by decide +kernel) (by decide) (by decide +kernel),
  List.forall_mem_cons.mpr ⟨k_callS (y := 81) (n := 1) w_342 w_336 w_39 w_337 (by decide +kernel) (by decide) (by decide +kernel),
  List.forall_mem_cons.mpr ⟨k_isN (i := 3) (by decide +kernel) rfl,
  List.forall_mem_cons.mpr ⟨k_alN (i := 2) (by decide +kernel) rfl,
  List.forall_mem_cons.mpr ⟨k_alN (i := 0) (by decide +kernel) rfl,
  List.forall_mem_cons.mpr ⟨k_gf (j := 1) (T := TX7) rfl inX7G (by decide) w_223 (by decide +kernel),
  List.forall_mem_cons.mpr ⟨k_gf (j := 0) (T := TX2) rfl inX2G (by decide) w_131 (by decide +kernel),
  List.forall_mem_cons.mpr ⟨k_callV (y := 50) (n := 1) (ci := 6) rfl w_450 w_451 w_452 w_43 w_453 (by decide +kernel) (by decide) (by decide +kernel),
  List.forall_mem_cons.mpr ⟨k_ilN (i := 3) (by decide +kernel) rfl,
  List.forall_mem_cons.mpr ⟨k_iret (by decide +kernel),
  fun _ h => absurd h List.not_mem_nil⟩⟩⟩⟩⟩⟩⟩⟩⟩⟩⟩⟩⟩⟩⟩⟩⟩⟩⟩⟩⟩⟩⟩⟩⟩⟩⟩⟩
def tb_66 : List (Nat × pO) := [(0, o_il 1 1), (1, o_const (.int (10)) 3), (3, o_cmp (fun x y => x < y) 16 6), (6, o_il 1 7), (7, o_const (.int (14)) 9), (9, o_cmp (fun x y => y ≤ x) 16 12), (12, o_const (.int (1)) 13), (13, o_goto 17), (16, o_const (.int (0)) 17), (17, o_is 2 18), (18, o_il 1 19), (19, o_if (fun x => x = 0) 29 22), (22, o_il 2 23), (23, o_if (fun x => ¬ x = 0) 29 26), (26, o_const (.int (-102)) 28), (28, o_iret), (29, o_al 0 30), (30, o_gf 7 8 33), (33, o_if (fun x => ¬ x = 0) 39 36), (36, o_const (.int (-103)) 38), (38, o_iret), (39, o_al 0 40), (40, o_gf 7 5 43), (43, o_al 0 44), (44, o_gf 7 1 47), (47, o_call (rcV 3) 17 2 50), (50, o_il 2 51), (51, o_if (fun x => x = 0) 68 54), (54, o_al 0 55), (55, o_gf 7 5 58), (58, o_il 1 59), (59, o_const (.int (10)) 61), (61, o_bin (fun x y => x - y) 62), (62, o_call (rcV 3) 16 2 65), (65, o_goto 75), (68, o_al 0 69), (69, o_gf 7 5 72), (72, o_gf 3 4 75), (75, o_iret)]
set_option maxRecDepth 20000 in
theorem tk_66 : ∀ q ∈ tb_66, okA noS mM (prog_1_method_15_code, "DuneMaps", 3, some .int, false) q.1 q.2 :=
  List.forall_mem_cons.mpr ⟨k_ilN (i := 1) (by decide +kernel) rfl,
  List.forall_mem_cons.mpr ⟨k_bipush (n := 10) (10) (by decide +kernel) (by decide),
  List.forall_mem_cons.mpr ⟨k_icmp_lt (off := 13) (by decide +kernel) (by decide),
  List.forall_mem_cons.mpr ⟨k_ilN (i := 1) (by decide +kernel) rfl,
  List.forall_mem_cons.mpr ⟨k_bipush (n := 14) (14) (by decide +kernel) (by decide),
  List.forall_mem_cons.mpr ⟨k_icmp_ge (off := 7) (by decide +kernel) (by decide),
  List.forall_mem_cons.mpr ⟨k_iconst (n := 1) (1) (by decide +kernel) (by decide),
  List.forall_mem_cons.mpr ⟨k_goto (off := 4) (by decide +kernel) (by decide),
  List.forall_mem_cons.mpr ⟨k_iconst (n := 0) (0) (by decide +kernel) (by decide),
  List.forall_mem_cons.mpr ⟨k_isN (i := 2) (by decide +kernel) rfl,
  List.forall_mem_cons.mpr ⟨k_ilN (i := 1) (by decide +kernel) rfl,
  List.forall_mem_cons.mpr ⟨k_if_eq (off := 10) (by decide +kernel) (by decide),
  List.forall_mem_cons.mpr ⟨k_ilN (i := 2) (by decide +kernel) rfl,
  List.forall_mem_cons.mpr ⟨k_if_ne (off := 6) (by decide +kernel) (by decide),
  List.forall_mem_cons.mpr ⟨k_bipush (n := -102) (-102) (by decide +kernel) (by decide),
  List.forall_mem_cons.mpr ⟨k_iret (by decide +kernel),
  List.forall_mem_cons.mpr ⟨k_alN (i := 0) (by decide +kernel) rfl,
  List.forall_mem_cons.mpr ⟨k_gf (j := 8) (T := TX7) rfl inX7G (by decide) w_230 (by decide +kernel),
  List.forall_mem_cons.mpr ⟨k_if_ne (off := 6) (by decide +kernel) (by decide),
  List.forall_mem_cons.mpr ⟨k_bipush (n := -103) (-103) (by decide +kernel) (by decide),
  List.forall_mem_cons.mpr ⟨k_iret (by decide +kernel),
  List.forall_mem_cons.mpr ⟨k_alN (i := 0) (by decide +kernel) rfl,
  List.forall_mem_cons.mpr ⟨k_gf (j := 5) (T := TX7) rfl inX7G (by decide) w_227 (by decide +kernel),
  List.forall_mem_cons.mpr ⟨k_alN (i := 0) (by decide +kernel) rfl,
  List.forall_mem_cons.mpr ⟨k_gf (j := 1) (T := TX7) rfl inX7G (by decide) w_223 (by decide +kernel),
  List.forall_mem_cons.mpr ⟨k_callV (y := 17) (n := 1) (ci := 3) rfl w_459 w_460 w_461 w_44 w_462 (by decide +kernel) (by decide) (by decide +kernel),
  List.forall_mem_cons.mpr ⟨k_ilN (i := 2) (by decide +kernel) rfl,
  List.forall_mem_cons.mpr ⟨k_if_eq (off := 17) (by decide +kernel) (by decide),
  List.forall_mem_cons.mpr ⟨k_alN (i := 0) (by decide +kernel) rfl,
  List.forall_mem_cons.mpr ⟨k_gf (j := 5) (T := TX7) rfl inX7G (by decide) w_227 (by decide +kernel),
  List.forall_mem_cons.mpr ⟨k_ilN (i := 1) (by decide +kernel) rfl,
  List.forall_mem_cons.mpr ⟨k_bipush (n := 10) (10) (by decide +kernel) (by decide),
  List.forall_mem_cons.mpr ⟨k_isub (by decide +kernel),
  List.forall_mem_cons.mpr ⟨k_callV (y := 16) (n := 1) (ci := 3) rfl w_492 w_493 w_494 w_44 w_495 (by decide +kernel) (by decide) (by decide +kernel),
  List.forall_mem_cons.mpr ⟨k_goto (off := 10) (by decide +kernel) (by decide),
  List.forall_mem_cons.mpr ⟨k_alN (i := 0) (by decide +kernel) rfl,
  List.forall_mem_cons.mpr ⟨k_gf (j := 5) (T := TX7) rfl inX7G (by decide) w_227 (by decide +kernel),
  List.forall_mem_cons.mpr ⟨k_gf (j := 4) (T := TX3) rfl inX3G (by decide) w_163 (by decide +kernel),
  List.forall_mem_cons.mpr ⟨k_iret (by decide +kernel),
  fun _ h => absurd h List.not_mem_nil⟩⟩⟩⟩⟩⟩⟩⟩⟩⟩⟩⟩⟩⟩⟩⟩⟩⟩⟩⟩⟩⟩⟩⟩⟩⟩⟩⟩⟩⟩⟩⟩⟩⟩⟩⟩⟩⟩⟩
def tb_67 : List (Nat × pO) := [(0, o_al 0 1), (1, o_gf 7 1 4), (4, o_il 1 5), (5, o_call (rcV 2) 9 2 8), (8, o_as 5 10), (10, o_al 5 12), (12, o_nul 23 15), (15, o_al 0 16), (16, o_il 2 17), (17, o_call (rcV 7) 78 2 20), (20, o_if (fun x => ¬ x = 0) 26 23), (23, o_const (.int (-101)) 25), (25, o_iret), (26, o_il 3 27), (27, o_if (fun x => x < 0) 47 30), (30, o_il 3 31), (31, o_const (.int (9)) 33), (33, o_cmp (fun x y => y < x) 47 36), (36, o_il 4 38), (38, o_if (fun x => x < 0) 47 41), (41, o_il 4 43), (43, o_const (.int (1)) 44), (44, o_cmp (fun x y => x ≤ y) 50 47), (47, o_const (.int (-102)) 49), (49, o_iret), (50, o_al 0 51), (51, o_gf 7 6 54), (54, o_al 0 55), (55, o_gf 7 1 58), (58, o_gf 2 0 61), (61, o_al 5 63), (63, o_il 2 64), (64, o_il 3 65), (65, o_call (rcV 1) 4 5 68), (68, o_il 4 70), (70, o_if (fun x => ¬ x = 0) 83 73), (73, o_al 0 74), (74, o_gf 7 6 77), (77, o_gf 1 5 80), (80, o_goto 90), (83, o_al 0 84), (84, o_gf 7 6 87), (87, o_gf 1 6 90), (90, o_iret)]
set_option maxRecDepth 20000 in
theorem tk_67 : ∀ q ∈ tb_67, okA noS mM (prog_1_method_16_code, "DuneMaps", 6, some .int, false) q.1 q.2 :=
  List.forall_mem_cons.mpr ⟨k_alN (i := 0) (by decide +kernel) rfl,
  List.forall_mem_cons.mpr ⟨k_gf (j := 1) (T := TX7) rfl inX7G (by decide) w_223 (by decide +kernel),
  List.forall_mem_cons.mpr ⟨k_ilN (i := 1) (by decide +kernel) rfl,
  List.forall_mem_cons.mpr ⟨k_callV (y := 9) (n := 1) (ci := 2) rfl w_392 w_393 w_394 w_41 w_395 (by decide +kernel) (by decide) (by decide +kernel),
  List.forall_mem_cons.mpr ⟨k_as (by decide +kernel),
  List.forall_mem_cons.mpr ⟨k_al (by decide +kernel),
  List.forall_mem_cons.mpr ⟨k_ifnull (off := 11) (by decide +kernel) (by decide),
  List.forall_mem_cons.mpr ⟨k_alN (i := 0) (by decide +kernel) rfl,
  List.forall_mem_cons.mpr ⟨k_ilN (i := 2) (by decide +kernel) rfl,
  List.forall_mem_cons.mpr ⟨k_callV (y := 78) (n := 1) (ci := 7) rfl w_319 w_321 w_0 w_39 w_322 (by decide +kernel) (by decide) (by decide +kernel),
  List.forall_mem_cons.mpr ⟨k_if_ne (off := 6) (by decide +kernel) (by decide),
  List.forall_mem_cons.mpr ⟨k_bipush (n := -101) (-101) (by decide +kernel) (by decide),
  List.forall_mem_cons.mpr ⟨k_iret (by decide +kernel),
  List.forall_mem_cons.mpr ⟨k_ilN (i := 3) (by decide +kernel) rfl,
  List.forall_mem_cons.mpr ⟨k_if_lt (off := 20) (by decide +kernel) (by decide),
  List.forall_mem_cons.mpr ⟨k_ilN (i := 3) (by decide +kernel) rfl,
  List.forall_mem_cons.mpr ⟨k_bipush (n := 9) (9) (by decide +kernel) (by decide),
  List.forall_mem_cons.mpr ⟨k_icmp_gt (off := 14) (by decide +kernel) (by decide),
  List.forall_mem_cons.mpr ⟨k_il (by decide +kernel),
  List.forall_mem_cons.mpr ⟨k_if_lt (off := 9) (by decide +kernel) (by decide),
  List.forall_mem_cons.mpr ⟨k_il (by decide +kernel),
  List.forall_mem_cons.mpr ⟨k_iconst (n := 1) (1) (by decide +kernel) (by decide),
  List.forall_mem_cons.mpr ⟨k_icmp_le (off := 6) (by decide +kernel) (by decide),
  List.forall_mem_cons.mpr ⟨k_bipush (n := -102) (-102) (by decide +kernel) (by decide),
  List.forall_mem_cons.mpr ⟨k_iret (by decide +kernel),
  List.forall_mem_cons.mpr ⟨k_alN (i := 0) (by decide +kernel) rfl,
  List.forall_mem_cons.mpr ⟨k_gf (j := 6) (T := TX7) rfl inX7G (by decide) w_228 (by decide +kernel),
  List.forall_mem_cons.mpr ⟨k_alN (i := 0) (by decide +kernel) rfl,
  List.forall_mem_cons.mpr ⟨k_gf (j := 1) (T := TX7) rfl inX7G (by decide) w_223 (by decide +kernel),
  List.forall_mem_cons.mpr ⟨k_gf (j := 0) (T := TX2) rfl inX2G (by decide) w_131 (by decide +kernel),
  List.forall_mem_cons.mpr ⟨k_al (by decide +kernel),
  List.forall_mem_cons.mpr ⟨k_ilN (i := 2) (by decide +kernel) rfl,
  List.forall_mem_cons.mpr ⟨k_ilN (i := 3) (by decide +kernel) rfl,
  List.forall_mem_cons.mpr ⟨k_callV (y := 4) (n := 4) (ci := 1) rfl w_500 w_501 w_502 w_45 w_503 (by decide +kernel) (by decide) (by decide +kernel),
  List.forall_mem_cons.mpr ⟨k_il (by decide +kernel),
  List.forall_mem_cons.mpr ⟨k_if_ne (off := 13) (by decide +kernel) (by decide),
  List.forall_mem_cons.mpr ⟨k_alN (i := 0) (by decide +kernel) rfl,
  List.forall_mem_cons.mpr ⟨k_gf (j := 6) (T := TX7) rfl inX7G (by decide) w_228 (by decide +kernel),
  List.forall_mem_cons.mpr ⟨k_gf (j := 5) (T := TX1) rfl inX1G (by decide) w_189 (by decide +kernel),
  List.forall_mem_cons.mpr ⟨k_goto (off := 10) (by decide +kernel) (by decide),
  List.forall_mem_cons.mpr ⟨k_alN (i := 0) (by decide +kernel) rfl,
  List.forall_mem_cons.mpr ⟨k_gf (j := 6) (T := TX7) rfl inX7G (by decide) w_228 (by decide +kernel),
  List.forall_mem_cons.mpr ⟨k_gf (j := 6) (T := TX1) rfl inX1G (by decide) w_191 (by decide +kernel),
  List.forall_mem_cons.mpr ⟨k_iret (by decide +kernel),
  fun _ h => absurd h List.not_mem_nil⟩⟩⟩⟩⟩⟩⟩⟩⟩⟩⟩⟩⟩⟩⟩⟩⟩⟩⟩⟩⟩⟩⟩⟩⟩⟩⟩⟩⟩⟩⟩⟩⟩⟩⟩⟩⟩⟩⟩⟩⟩⟩⟩⟩
def tb_68 : List (Nat × pO) := [(0, o_al 0 1), (1, o_gf 7 8 4), (4, o_if (fun x => x = 0) 18 7), (7, o_al 0 8), (8, o_gf 7 0 11), (11, o_const (.int (1)) 12), (12, o_call (rcV 4) 24 2 15), (15, o_if (fun x => ¬ x = 0) 21 18), (18, o_const (.int (-103)) 20), (20, o_iret), (21, o_al 0 22), (22, o_gf 7 0 25), (25, o_al 0 26), (26, o_gf 7 3 29), (29, o_call (rcV 4) 25 2 32), (32, o_al 0 33), (33, o_gf 7 0 36), (36, o_const (.int (0)) 37), (37, o_pf okI 4 1 40), (40, o_al 0 41), (41, o_const (.int (1)) 42), (42, o_pf okZ 7 10 45), (45, o_al 0 46), (46, o_gf 7 3 49), (49, o_call (rcV 5) 34 1 52), (52, o_iret)]
set_option maxRecDepth 20000 in
theorem tk_68 : ∀ q ∈ tb_68, okA noS mM (prog_1_method_17_code, "DuneMaps", 1, some .int, false) q.1 q.2 :=
  List.forall_mem_cons.mpr ⟨k_alN (i := 0) (by decide +kernel) rfl,
  List.forall_mem_cons.mpr ⟨k_gf (j := 8) (T := TX7) rfl inX7G (by decide) w_230 (by decide +kernel),
  List.forall_mem_cons.mpr ⟨k_if_eq (off := 14) (by decide +kernel) (by decide),
  List.forall_mem_cons.mpr ⟨k_alN (i := 0) (by decide +kernel) rfl,
  List.forall_mem_cons.mpr ⟨k_gf (j := 0) (T := TX7) rfl inX7G (by decide) w_222 (by decide +kernel),
  List.forall_mem_cons.mpr ⟨k_iconst (n := 1) (1) (by decide +kernel) (by decide),
  List.forall_mem_cons.mpr ⟨k_callV (y := 24) (n := 1) (ci := 4) rfl w_290 w_291 w_292 w_40 w_293 (by decide +kernel) (by decide) (by decide +kernel),
  List.forall_mem_cons.mpr ⟨k_if_ne (off := 6) (by decide +kernel) (by decide),
  List.forall_mem_cons.mpr ⟨k_bipush (n := -103) (-103) (by decide +kernel) (by decide),
  List.forall_mem_cons.mpr ⟨k_iret (by decide +kernel),
  List.forall_mem_cons.mpr ⟨k_alN (i := 0) (by decide +kernel) rfl,
  List.forall_mem_cons.mpr ⟨k_gf (j := 0) (T := TX7) rfl inX7G (by decide) w_222 (by decide +kernel),
  List.forall_mem_cons.mpr ⟨k_alN (i := 0) (by decide +kernel) rfl,
  List.forall_mem_cons.mpr ⟨k_gf (j := 3) (T := TX7) rfl inX7G (by decide) w_225 (by decide +kernel),
  List.forall_mem_cons.mpr ⟨k_callV (y := 25) (n := 1) (ci := 4) rfl w_299 w_300 w_301 w_40 w_302 (by decide +kernel) (by decide) (by decide +kernel),
  List.forall_mem_cons.mpr ⟨k_alN (i := 0) (by decide +kernel) rfl,
  List.forall_mem_cons.mpr ⟨k_gf (j := 0) (T := TX7) rfl inX7G (by decide) w_222 (by decide +kernel),
  List.forall_mem_cons.mpr ⟨k_iconst (n := 0) (0) (by decide +kernel) (by decide),
  List.forall_mem_cons.mpr ⟨k_pf (j := 1) (T := TX4) tyX4 tyX4_ok nmX4 okI_fit rfl inX4G (by decide) rfl (by decide +kernel) w_66 (by decide +kernel),
  List.forall_mem_cons.mpr ⟨k_alN (i := 0) (by decide +kernel) rfl,
  List.forall_mem_cons.mpr ⟨k_iconst (n := 1) (1) (by decide +kernel) (by decide),
  List.forall_mem_cons.mpr ⟨k_pf (j := 10) (T := TX7) tyX7 tyX7_ok nmX7 okZ_fit rfl inX7G (by decide) rfl (by decide +kernel) w_232 (by decide +kernel),
  List.forall_mem_cons.mpr ⟨k_alN (i := 0) (by decide +kernel) rfl,
  List.forall_mem_cons.mpr ⟨k_gf (j := 3) (T := TX7) rfl inX7G (by decide) w_225 (by decide +kernel),
  List.forall_mem_cons.mpr ⟨k_callV (y := 34) (n := 0) (ci := 5) rfl w_311 w_312 w_313 w_42 w_314 (by decide +kernel) (by decide) (by decide +kernel),
  List.forall_mem_cons.mpr ⟨k_iret (by decide +kernel),
  fun _ h => absurd h List.not_mem_nil⟩⟩⟩⟩⟩⟩⟩⟩⟩⟩⟩⟩⟩⟩⟩⟩⟩⟩⟩⟩⟩⟩⟩⟩⟩⟩
def tb_69 : List (Nat × pO) := [(0, o_il 1 1), (1, o_if (fun x => x < 0) 9 4), (4, o_il 1 5), (5, o_const (.int (1)) 6), (6, o_cmp (fun x y => x ≤ y) 12 9), (9, o_const (.int (-102)) 11), (11, o_iret), (12, o_al 0 13), (13, o_gf 7 10 16), (16, o_if (fun x => ¬ x = 0) 22 19), (19, o_const (.int (-103)) 21), (21, o_iret), (22, o_al 0 23), (23, o_gf 7 7 26), (26, o_al 0 27), (27, o_gf 7 3 30), (30, o_al 0 31), (31, o_gf 7 1 34), (34, o_gf 2 0 37), (37, o_al 0 38), (38, o_gf 7 4 41), (41, o_call (rcV 0) 1 4 44), (44, o_il 1 45), (45, o_if (fun x => ¬ x = 0) 58 48), (48, o_al 0 49), (49, o_gf 7 7 52), (52, o_gf 0 0 55), (55, o_goto 65), (58, o_al 0 59), (59, o_gf 7 7 62), (62, o_gf 0 1 65), (65, o_iret)]
set_option maxRecDepth 20000 in
theorem tk_69 : ∀ q ∈ tb_69, okA noS mM (prog_1_method_18_code, "DuneMaps", 2, some .int, false) q.1 q.2 :=
  List.forall_mem_cons.mpr ⟨k_ilN (i := 1) (by decide +kernel) rfl,
  List.forall_mem_cons.mpr ⟨k_if_lt (off := 8) (by decide +kernel) (by decide),
  List.forall_mem_cons.mpr ⟨k_ilN (i := 1) (by decide +kernel) rfl,
  List.forall_mem_cons.mpr ⟨k_iconst (n := 1) (1) (by decide +kernel) (by decide),
  List.forall_mem_cons.mpr ⟨k_icmp_le (off := 6) (by decide +kernel) (by decide),
  List.forall_mem_cons.mpr ⟨k_bipush (n := -102) (-102) (by decide +kernel) (by decide),
  List.forall_mem_cons.mpr ⟨k_iret (by decide +kernel),
  List.forall_mem_cons.mpr ⟨k_alN (i := 0) (by decide +kernel) rfl,
  List.forall_mem_cons.mpr ⟨k_gf (j := 10) (T := TX7) rfl inX7G (by decide) w_232 (by decide +kernel),
  List.forall_mem_cons.mpr ⟨k_if_ne (off := 6) (by decide +kernel) (by decide),
  List.forall_mem_cons.mpr ⟨k_bipush (n := -103) (-103) (by decide +kernel) (by decide),
  List.forall_mem_cons.mpr ⟨k_iret (by decide +kernel),
  List.forall_mem_cons.mpr ⟨k_alN (i := 0) (by decide +kernel) rfl,
  List.forall_mem_cons.mpr ⟨k_gf (j := 7) (T := TX7) rfl inX7G (by decide) w_229 (by decide +kernel),
  List.forall_mem_cons.mpr ⟨k_alN (i := 0) (by decide +kernel) rfl,
  List.forall_mem_cons.mpr ⟨k_gf (j := 3) (T := TX7) rfl inX7G (by decide) w_225 (by decide +kernel),
  List.forall_mem_cons.mpr ⟨k_alN (i := 0) (by decide +kernel) rfl,
  List.forall_mem_cons.mpr ⟨k_gf (j := 1) (T := TX7) rfl inX7G (by decide) w_223 (by decide +kernel),
  List.forall_mem_cons.mpr ⟨k_gf (j := 0) (T := TX2) rfl inX2G (by decide) w_131 (by decide +kernel),
  List.forall_mem_cons.mpr ⟨k_alN (i := 0) (by decide +kernel) rfl,
  List.forall_mem_cons.mpr ⟨k_gf (j := 4) (T := TX7) rfl inX7G (by decide) w_226 (by decide +kernel),
  List.forall_mem_cons.mpr ⟨k_callV (y := 1) (n := 3) (ci := 0) rfl w_520 w_521 w_522 w_46 w_523 (by decide +kernel) (by decide) (by decide +kernel),
  List.forall_mem_cons.mpr ⟨k_ilN (i := 1) (by decide +kernel) rfl,
  List.forall_mem_cons.mpr ⟨k_if_ne (off := 13) (by decide +kernel) (by decide),
  List.forall_mem_cons.mpr ⟨k_alN (i := 0) (by decide +kernel) rfl,
  List.forall_mem_cons.mpr ⟨k_gf (j := 7) (T := TX7) rfl inX7G (by decide) w_229 (by decide +kernel),
  List.forall_mem_cons.mpr ⟨k_gf (j := 0) (T := TX0) rfl inX0G (by decide) w_214 (by decide +kernel),
  List.forall_mem_cons.mpr ⟨k_goto (off := 10) (by decide +kernel) (by decide),
  List.forall_mem_cons.mpr ⟨k_alN (i := 0) (by decide +kernel) rfl,
  List.forall_mem_cons.mpr ⟨k_gf (j := 7) (T := TX7) rfl inX7G (by decide) w_229 (by decide +kernel),
  List.forall_mem_cons.mpr ⟨k_gf (j := 1) (T := TX0) rfl inX0G (by decide) w_216 (by decide +kernel),
  List.forall_mem_cons.mpr ⟨k_iret (by decide +kernel),
  fun _ h => absurd h List.not_mem_nil⟩⟩⟩⟩⟩⟩⟩⟩⟩⟩⟩⟩⟩⟩⟩⟩⟩⟩⟩⟩⟩⟩⟩⟩⟩⟩⟩⟩⟩⟩⟩⟩
def tb_70 : List (Nat × pO) := [(0, o_il 1 1), (1, o_const (.int (1)) 2), (2, o_cmp (fun x y => x < y) 24 5), (5, o_il 1 6), (6, o_const (.int (60)) 8), (8, o_cmp (fun x y => y < x) 24 11), (11, o_il 2 12), (12, o_if (fun x => x < 0) 24 15), (15, o_il 3 16), (16, o_if (fun x => x < 0) 24 19), (19, o_il 3 20), (20, o_const (.int (2)) 21), (21, o_cmp (fun x y => x ≤ y) 27 24), (24, o_const (.int (-102)) 26), (26, o_iret), (27, o_al 0 28), (28, o_gf 7 8 31), (31, o_if (fun x => ¬ x = 0) 37 34), (34, o_const (.int (-103)) 36), (36, o_iret), (37, o_al 0 38), (38, o_gf 7 4 41), (41, o_al 0 42), (42, o_gf 7 1 45), (45, o_gf 2 0 48), (48, o_call (rcV 5) 31 2 51), (51, o_il 2 52), (52, o_is 4 54), (54, o_const (.int (0)) 55), (55, o_is 5 57), (57, o_const (.int (0)) 58), (58, o_is 6 60), (60, o_il 6 62), (62, o_il 1 63), (63, o_cmp (fun x y => y ≤ x) 124 66), (66, o_il 4 68), (68, o_call rc0 84 1 71), (71, o_is 4 73), (73, o_il 4 75), (75, o_const (.int (8)) 77), (77, o_call rc0 85 2 80), (80, o_is 7 82), (82, o_il 4 84), (84, o_call rc0 84 1 87), (87, o_is 4 89), (89, o_al 0 90), (90, o_gf 7 4 93), (93, o_il 7 95), (95, o_il 4 97), (97, o_const (.int (5)) 98), (98, o_call rc0 85 2 101), (101, o_call (rcV 5) 39 3 104), (104, o_if (fun x => x ≤ 0) 110 107), (107, o_inc 5 (1) 110), (110, o_al 0 111), (111, o_gf 7 4 114), (114, o_call (rcV 5) 38 1 117), (117, o_pop 118), (118, o_inc 6 (1) 121), (121, o_goto 60), (124, o_il 3 125), (125, o_sw [(0, 152), (1, 155)] 163), (152, o_il 5 154), (154, o_iret), (155, o_al 0 156), (156, o_gf 7 4 159), (159, o_call (rcV 5) 35 1 162), (162, o_iret), (163, o_il 4 165), (165, o_iret)]
set_option maxRecDepth 20000 in
theorem tk_70 : ∀ q ∈ tb_70, okA noS mM (prog_1_method_19_code, "DuneMaps", 8, some .int, false) q.1 q.2 :=
  List.forall_mem_cons.mpr ⟨k_ilN (i := 1) (by decide +kernel) rfl,
  List.forall_mem_cons.mpr ⟨k_iconst (n := 1) (1) (by decide +kernel) (by decide),
  List.forall_mem_cons.mpr ⟨k_icmp_lt (off := 22) (by decide +kernel) (by decide),
  List.forall_mem_cons.mpr ⟨k_ilN (i := 1) (by decide +kernel) rfl,
  List.forall_mem_cons.mpr ⟨k_bipush (n := 60) (60) (by decide +kernel) (by decide),
  List.forall_mem_cons.mpr ⟨k_icmp_gt (off := 16) (by decide +kernel) (by decide),
  List.forall_mem_cons.mpr ⟨k_ilN (i := 2) (by decide +kernel) rfl,
  List.forall_mem_cons.mpr ⟨k_if_lt (off := 12) (by decide +kernel) (by decide),
  List.forall_mem_cons.mpr ⟨k_ilN (i := 3) (by decide +kernel) rfl,
  List.forall_mem_cons.mpr ⟨k_if_lt (off := 8) (by decide +kernel) (by decide),
  List.forall_mem_cons.mpr ⟨k_ilN (i := 3) (by decide +kernel) rfl,
  List.forall_mem_cons.mpr ⟨k_iconst (n := 2) (2) (by decide +kernel) (by decide),
  List.forall_mem_cons.mpr ⟨k_icmp_le (off := 6) (by decide +kernel) (by decide),
  List.forall_mem_cons.mpr ⟨k_bipush (n := -102) (-102) (by decide +kernel) (by decide),
  List.forall_mem_cons.mpr ⟨k_iret (by decide +kernel),
  List.forall_mem_cons.mpr ⟨k_alN (i := 0) (by decide +kernel) rfl,
  List.forall_mem_cons.mpr ⟨k_gf (j := 8) (T := TX7) rfl inX7G (by decide) w_230 (by decide +kernel),
  List.forall_mem_cons.mpr ⟨k_if_ne (off := 6) (by decide +kernel) (by decide),
  List.forall_mem_cons.mpr ⟨k_bipush (n := -103) (-103) (by decide +kernel) (by decide),
  List.forall_mem_cons.mpr ⟨k_iret (by decide +kernel),
  List.forall_mem_cons.mpr ⟨k_alN (i := 0) (by decide +kernel) rfl,
  List.forall_mem_cons.mpr ⟨k_gf (j := 4) (T := TX7) rfl inX7G (by decide) w_226 (by decide +kernel),
  List.forall_mem_cons.mpr ⟨k_alN (i := 0) (by decide +kernel) rfl,
  List.forall_mem_cons.mpr ⟨k_gf (j := 1) (T := TX7) rfl inX7G (by decide) w_223 (by decide +kernel),
  List.forall_mem_cons.mpr ⟨k_gf (j := 0) (T := TX2) rfl inX2G (by decide) w_131 (by decide +kernel),
  List.forall_mem_cons.mpr ⟨k_callV (y := 31) (n := 1) (ci := 5) rfl w_539 w_469 w_470 w_42 w_471 (by decide +kernel) (by decide) (by decide +kernel),
  List.forall_mem_cons.mpr ⟨k_ilN (i := 2) (by decide +kernel) rfl,
  List.forall_mem_cons.mpr ⟨k_is (by decide +kernel),
  List.forall_mem_cons.mpr ⟨k_iconst (n := 0) (0) (by decide +kernel) (by decide),
  List.forall_mem_cons.mpr ⟨k_is (by decide +kernel),
  List.forall_mem_cons.mpr ⟨k_iconst (n := 0) (0) (by decide +kernel) (by decide),
  List.forall_mem_cons.mpr ⟨k_is (by decide +kernel),
  List.forall_mem_cons.mpr ⟨k_il (by decide +kernel),
  List.forall_mem_cons.mpr ⟨k_ilN (i := 1) (by decide +kernel) rfl,
  List.forall_mem_cons.mpr ⟨k_icmp_ge (off := 61) (by decide +kernel) (by decide),
  List.forall_mem_cons.mpr ⟨k_il (by decide +kernel),
  List.forall_mem_cons.mpr ⟨k_callS (y := 84) (n := 1) w_540 w_541 w_39 w_542 (by decide +kernel) (by decide) (by decide +kernel),
  List.forall_mem_cons.mpr ⟨k_is (by decide +kernel),
  List.forall_mem_cons.mpr ⟨k_il (by decide +kernel),
  List.forall_mem_cons.mpr ⟨k_bipush (n := 8) (8) (by decide +kernel) (by decide),
  List.forall_mem_cons.mpr ⟨k_callS (y := 85) (n := 2) w_545 w_546 w_39 w_547 (by decide +kernel) (by decide) (by decide +kernel),
  List.forall_mem_cons.mpr ⟨k_is (by decide +kernel),
  List.forall_mem_cons.mpr ⟨k_il (by decide +kernel),
  List.forall_mem_cons.mpr ⟨k_callS (y := 84) (n := 1) w_540 w_541 w_39 w_542 (by decide +kernel) (by decide) (by decide +kernel),
  List.forall_mem_cons.mpr ⟨k_is (by decide +kernel),
  List.forall_mem_cons.mpr ⟨k_alN (i := 0) (by decide +kernel) rfl,
  List.forall_mem_cons.mpr ⟨k_gf (j := 4) (T := TX7) rfl inX7G (by decide) w_226 (by decide +kernel),
  List.forall_mem_cons.mpr ⟨k_il (by decide +kernel),
  List.forall_mem_cons.mpr ⟨k_il (by decide +kernel),
  List.forall_mem_cons.mpr ⟨k_iconst (n := 5) (5) (by decide +kernel) (by decide),
  List.forall_mem_cons.mpr ⟨k_callS (y := 85) (n := 2) w_545 w_546 w_39 w_547 (by decide +kernel) (by decide) (by decide +kernel),
  List.forall_mem_cons.mpr ⟨k_callV (y := 39) (n := 2) (ci := 5) rfl w_548 w_430 w_431 w_42 w_432 (by decide +kernel) (by decide) (by decide +kernel),
  List.forall_mem_cons.mpr ⟨k_if_le (off := 6) (by decide +kernel) (by decide),
  List.forall_mem_cons.mpr ⟨k_inc (n := 1) (1) (by decide +kernel) (by decide),
  List.forall_mem_cons.mpr ⟨k_alN (i := 0) (by decide +kernel) rfl,
  List.forall_mem_cons.mpr ⟨k_gf (j := 4) (T := TX7) rfl inX7G (by decide) w_226 (by decide +kernel),
  List.forall_mem_cons.mpr ⟨k_callV (y := 38) (n := 0) (ci := 5) rfl w_347 w_348 w_349 w_42 w_350 (by decide +kernel) (by decide) (by decide +kernel),
  List.forall_mem_cons.mpr ⟨k_pop (by decide +kernel),
  List.forall_mem_cons.mpr ⟨k_inc (n := 1) (1) (by decide +kernel) (by decide),
  List.forall_mem_cons.mpr ⟨k_goto (off := -61) (by decide +kernel) (by decide),
  List.forall_mem_cons.mpr ⟨k_ilN (i := 3) (by decide +kernel) rfl,
  List.forall_mem_cons.mpr ⟨k_lsw (dflt := 38) (qs := #[(0, 27), (1, 30)]) (len := 27) [(0, 152), (1, 155)] (by decide +kernel) (by decide) (by decide) (by decide),
  List.forall_mem_cons.mpr ⟨k_il (by decide +kernel),
  List.forall_mem_cons.mpr ⟨k_iret (by decide +kernel),
  List.forall_mem_cons.mpr ⟨k_alN (i := 0) (by decide +kernel) rfl,
  List.forall_mem_cons.mpr ⟨k_gf (j := 4) (T := TX7) rfl inX7G (by decide) w_226 (by decide +kernel),
  List.forall_mem_cons.mpr ⟨k_callV (y := 35) (n := 0) (ci := 5) rfl w_549 w_550 w_551 w_42 w_552 (by decide +kernel) (by decide) (by decide +kernel),
  List.forall_mem_cons.mpr ⟨k_iret (by decide +kernel),
  List.forall_mem_cons.mpr ⟨k_il (by decide +kernel),
  List.forall_mem_cons.mpr ⟨k_iret (by decide +kernel),
  fun _ h => absurd h List.not_mem_nil⟩⟩⟩⟩⟩⟩⟩⟩⟩⟩⟩⟩⟩⟩⟩⟩⟩⟩⟩⟩⟩⟩⟩⟩⟩⟩⟩⟩⟩⟩⟩⟩⟩⟩⟩⟩⟩⟩⟩⟩⟩⟩⟩⟩⟩⟩⟩⟩⟩⟩⟩⟩⟩⟩⟩⟩⟩⟩⟩⟩⟩⟩⟩⟩⟩⟩⟩⟩⟩⟩
def tb_71 : List (Nat × pO) := [(0, o_al 0 1), (1, o_gf 7 8 4), (4, o_if (fun x => ¬ x = 0) 10 7), (7, o_const (.int (-103)) 9), (9, o_iret), (10, o_al 0 11), (11, o_gf 7 2 14), (14, o_al 0 15), (15, o_gf 7 1 18), (18, o_call (rcV 2) 8 2 21), (21, o_al 0 22), (22, o_const (.int (1)) 23), (23, o_pf okZ 7 9 26), (26, o_al 0 27), (27, o_gf 7 1 30), (30, o_gf 2 3 33), (33, o_iret)]
set_option maxRecDepth 20000 in
theorem tk_71 : ∀ q ∈ tb_71, okA noS mM (prog_1_method_20_code, "DuneMaps", 1, some .int, false) q.1 q.2 :=
  List.forall_mem_cons.mpr ⟨k_alN (i := 0) (by decide +kernel) rfl,
  List.forall_mem_cons.mpr ⟨k_gf (j := 8) (T := TX7) rfl inX7G (by decide) w_230 (by decide +kernel),
  List.forall_mem_cons.mpr ⟨k_if_ne (off := 6) (by decide +kernel) (by decide),
  List.forall_mem_cons.mpr ⟨k_bipush (n := -103) (-103) (by decide +kernel) (by decide),
  List.forall_mem_cons.mpr ⟨k_iret (by decide +kernel),
  List.forall_mem_cons.mpr ⟨k_alN (i := 0) (by decide +kernel) rfl,
  List.forall_mem_cons.mpr ⟨k_gf (j := 2) (T := TX7) rfl inX7G (by decide) w_224 (by decide +kernel),
  List.forall_mem_cons.mpr ⟨k_alN (i := 0) (by decide +kernel) rfl,
  List.forall_mem_cons.mpr ⟨k_gf (j := 1) (T := TX7) rfl inX7G (by decide) w_223 (by decide +kernel),
  List.forall_mem_cons.mpr ⟨k_callV (y := 8) (n := 1) (ci := 2) rfl w_560 w_561 w_562 w_41 w_563 (by decide +kernel) (by decide) (by decide +kernel),
  List.forall_mem_cons.mpr ⟨k_alN (i := 0) (by decide +kernel) rfl,
  List.forall_mem_cons.mpr ⟨k_iconst (n := 1) (1) (by decide +kernel) (by decide),
  List.forall_mem_cons.mpr ⟨k_pf (j := 9) (T := TX7) tyX7 tyX7_ok nmX7 okZ_fit rfl inX7G (by decide) rfl (by decide +kernel) w_231 (by decide +kernel),
  List.forall_mem_cons.mpr ⟨k_alN (i := 0) (by decide +kernel) rfl,
  List.forall_mem_cons.mpr ⟨k_gf (j := 1) (T := TX7) rfl inX7G (by decide) w_223 (by decide +kernel),
  List.forall_mem_cons.mpr ⟨k_gf (j := 3) (T := TX2) rfl inX2G (by decide) w_137 (by decide +kernel),
  List.forall_mem_cons.mpr ⟨k_iret (by decide +kernel),
  fun _ h => absurd h List.not_mem_nil⟩⟩⟩⟩⟩⟩⟩⟩⟩⟩⟩⟩⟩⟩⟩⟩⟩
def tb_72 : List (Nat × pO) := [(0, o_al 0 1), (1, o_gf 7 9 4), (4, o_if (fun x => ¬ x = 0) 10 7), (7, o_const (.int (-103)) 9), (9, o_iret), (10, o_al 0 11), (11, o_gf 7 1 14), (14, o_al 0 15), (15, o_gf 7 2 18), (18, o_call (rcV 2) 8 2 21), (21, o_al 0 22), (22, o_gf 7 1 25), (25, o_gf 2 3 28), (28, o_iret)]
set_option maxRecDepth 20000 in
theorem tk_72 : ∀ q ∈ tb_72, okA noS mM (prog_1_method_21_code, "DuneMaps", 1, some .int, false) q.1 q.2 :=
  List.forall_mem_cons.mpr ⟨k_alN (i := 0) (by decide +kernel) rfl,
  List.forall_mem_cons.mpr ⟨k_gf (j := 9) (T := TX7) rfl inX7G (by decide) w_231 (by decide +kernel),
  List.forall_mem_cons.mpr ⟨k_if_ne (off := 6) (by decide +kernel) (by decide),
  List.forall_mem_cons.mpr ⟨k_bipush (n := -103) (-103) (by decide +kernel) (by decide),
  List.forall_mem_cons.mpr ⟨k_iret (by decide +kernel),
  List.forall_mem_cons.mpr ⟨k_alN (i := 0) (by decide +kernel) rfl,
  List.forall_mem_cons.mpr ⟨k_gf (j := 1) (T := TX7) rfl inX7G (by decide) w_223 (by decide +kernel),
  List.forall_mem_cons.mpr ⟨k_alN (i := 0) (by decide +kernel) rfl,
  List.forall_mem_cons.mpr ⟨k_gf (j := 2) (T := TX7) rfl inX7G (by decide) w_224 (by decide +kernel),
  List.forall_mem_cons.mpr ⟨k_callV (y := 8) (n := 1) (ci := 2) rfl w_560 w_561 w_562 w_41 w_563 (by decide +kernel) (by decide) (by decide +kernel),
  List.forall_mem_cons.mpr ⟨k_alN (i := 0) (by decide +kernel) rfl,
  List.forall_mem_cons.mpr ⟨k_gf (j := 1) (T := TX7) rfl inX7G (by decide) w_223 (by decide +kernel),
  List.forall_mem_cons.mpr ⟨k_gf (j := 3) (T := TX2) rfl inX2G (by decide) w_137 (by decide +kernel),
  List.forall_mem_cons.mpr ⟨k_iret (by decide +kernel),
  fun _ h => absurd h List.not_mem_nil⟩⟩⟩⟩⟩⟩⟩⟩⟩⟩⟩⟩⟩⟩
end
section
def tb_73 : List (Nat × pO) := [(0, o_il 1 1), (1, o_sw [(0, 60), (1, 71), (2, 85), (3, 93), (4, 101), (5, 109), (6, 117), (7, 125), (8, 139), (9, 147), (10, 152)] 160), (60, o_al 0 61), (61, o_gf 7 1 64), (64, o_gf 2 0 67), (67, o_call (rcV 5) 34 1 70), (70, o_iret), (71, o_al 0 72), (72, o_gf 7 1 75), (75, o_gf 2 0 78), (78, o_gf 5 1 81), (81, o_call rc0 81 1 84), (84, o_iret), (85, o_al 0 86), (86, o_gf 7 1 89), (89, o_gf 2 2 92), (92, o_iret), (93, o_al 0 94), (94, o_gf 7 1 97), (97, o_call (rcV 2) 12 1 100), (100, o_iret), (101, o_al 0 102), (102, o_gf 7 1 105), (105, o_call (rcV 2) 13 1 108), (108, o_iret), (109, o_al 0 110), (110, o_gf 7 1 113), (113, o_gf 2 3 116), (116, o_iret), (117, o_al 0 118), (118, o_gf 7 1 121), (121, o_call (rcV 2) 14 1 124), (124, o_iret), (125, o_al 0 126), (126, o_gf 7 1 129), (129, o_gf 2 0 132), (132, o_call (rcV 5) 37 1 135), (135, o_call rc0 144 1 138), (138, o_iret), (139, o_al 0 140), (140, o_gf 7 0 143), (143, o_gf 4 1 146), (146, o_iret), (147, o_al 0 148), (148, o_gf 7 11 151), (151, o_iret), (152, o_al 0 153), (153, o_gf 7 10 156), (156, o_call rc0 81 1 159), (159, o_iret), (160, o_const (.int (-102)) 162), (162, o_iret)]
set_option maxRecDepth 20000 in
theorem tk_73 : ∀ q ∈ tb_73, okA noS mM (prog_1_method_22_code, "DuneMaps", 2, some .int, false) q.1 q.2 :=
  List.forall_mem_cons.mpr ⟨k_ilN (i := 1) (by decide +kernel) rfl,
  List.forall_mem_cons.mpr ⟨k_tsw (dflt := 159) (lo := 0) (hi := 10) (offs := #[59, 70, 84, 92, 100, 108, 116, 124, 138, 146, 151]) (len := 59) [(0, 60), (1, 71), (2, 85), (3, 93), (4, 101), (5, 109), (6, 117), (7, 125), (8, 139), (9, 147), (10, 152)] (by decide +kernel) (by decide) (by decide) (by decide) (tsw_ok (by decide +kernel)) (by decide),
  List.forall_mem_cons.mpr ⟨k_alN (i := 0) (by decide +kernel) rfl,
  List.forall_mem_cons.mpr ⟨k_gf (j := 1) (T := TX7) rfl inX7G (by decide) w_223 (by decide +kernel),
  List.forall_mem_cons.mpr ⟨k_gf (j := 0) (T := TX2) rfl inX2G (by decide) w_131 (by decide +kernel),
  List.forall_mem_cons.mpr ⟨k_callV (y := 34) (n := 0) (ci := 5) rfl w_311 w_312 w_313 w_42 w_314 (by decide +kernel) (by decide) (by decide +kernel),
  List.forall_mem_cons.mpr ⟨k_iret (by decide +kernel),
  List.forall_mem_cons.mpr ⟨k_alN (i := 0) (by decide +kernel) rfl,
  List.forall_mem_cons.mpr ⟨k_gf (j := 1) (T := TX7) rfl inX7G (by decide) w_223 (by decide +kernel),
  List.forall_mem_cons.mpr ⟨k_gf (j := 0) (T := TX2) rfl inX2G (by decide) w_131 (by decide +kernel),
  List.forall_mem_cons.mpr ⟨k_gf (j := 1) (T := TX5) rfl inX5G (by decide) w_88 (by decide +kernel),
  List.forall_mem_cons.mpr ⟨k_callS (y := 81) (n := 1) w_342 w_336 w_39 w_337 (by decide +kernel) (by decide) (by decide +kernel),
  List.forall_mem_cons.mpr ⟨k_iret (by decide +kernel),
  List.forall_mem_cons.mpr ⟨k_alN (i := 0) (by decide +kernel) rfl,
  List.forall_mem_cons.mpr ⟨k_gf (j := 1) (T := TX7) rfl inX7G (by decide) w_223 (by decide +kernel),
  List.forall_mem_cons.mpr ⟨k_gf (j := 2) (T := TX2) rfl inX2G (by decide) w_135 (by decide +kernel),
  List.forall_mem_cons.mpr ⟨k_iret (by decide +kernel),
  List.forall_mem_cons.mpr ⟨k_alN (i := 0) (by decide +kernel) rfl,
  List.forall_mem_cons.mpr ⟨k_gf (j := 1) (T := TX7) rfl inX7G (by decide) w_223 (by decide +kernel),
  List.forall_mem_cons.mpr ⟨k_callV (y := 12) (n := 0) (ci := 2) rfl w_577 w_464 w_465 w_41 w_466 (by decide +kernel) (by decide) (by decide +kernel),
  List.forall_mem_cons.mpr ⟨k_iret (by decide +kernel),
  List.forall_mem_cons.mpr ⟨k_alN (i := 0) (by decide +kernel) rfl,
  List.forall_mem_cons.mpr ⟨k_gf (j := 1) (T := TX7) rfl inX7G (by decide) w_223 (by decide +kernel),
  List.forall_mem_cons.mpr ⟨k_callV (y := 13) (n := 0) (ci := 2) rfl w_578 w_579 w_580 w_41 w_581 (by decide +kernel) (by decide) (by decide +kernel),
  List.forall_mem_cons.mpr ⟨k_iret (by decide +kernel),
  List.forall_mem_cons.mpr ⟨k_alN (i := 0) (by decide +kernel) rfl,
  List.forall_mem_cons.mpr ⟨k_gf (j := 1) (T := TX7) rfl inX7G (by decide) w_223 (by decide +kernel),
  List.forall_mem_cons.mpr ⟨k_gf (j := 3) (T := TX2) rfl inX2G (by decide) w_137 (by decide +kernel),
  List.forall_mem_cons.mpr ⟨k_iret (by decide +kernel),
  List.forall_mem_cons.mpr ⟨k_alN (i := 0) (by decide +kernel) rfl,
  List.forall_mem_cons.mpr ⟨k_gf (j := 1) (T := TX7) rfl inX7G (by decide) w_223 (by decide +kernel),
  List.forall_mem_cons.mpr ⟨k_callV (y := 14) (n := 0) (ci := 2) rfl w_583 w_584 w_585 w_41 w_586 (by decide +kernel) (by decide) (by decide +kernel),
  List.forall_mem_cons.mpr ⟨k_iret (by decide +kernel),
  List.forall_mem_cons.mpr ⟨k_alN (i := 0) (by decide +kernel) rfl,
  List.forall_mem_cons.mpr ⟨k_gf (j := 1) (T := TX7) rfl inX7G (by decide) w_223 (by decide +kernel),
  List.forall_mem_cons.mpr ⟨k_gf (j := 0) (T := TX2) rfl inX2G (by decide) w_131 (by decide +kernel),
  List.forall_mem_cons.mpr ⟨k_callV (y := 37) (n := 0) (ci := 5) rfl w_587 w_352 w_353 w_42 w_354 (by decide +kernel) (by decide) (by decide +kernel),
  List.forall_mem_cons.mpr ⟨k_callS (y := 144) (n := 1) w_588 w_368 w_49 w_369 (by decide +kernel) (by decide) (by decide +kernel),
  List.forall_mem_cons.mpr ⟨k_iret (by decide +kernel),
  List.forall_mem_cons.mpr ⟨k_alN (i := 0) (by decide +kernel) rfl,
  List.forall_mem_cons.mpr ⟨k_gf (j := 0) (T := TX7) rfl inX7G (by decide) w_222 (by decide +kernel),
  List.forall_mem_cons.mpr ⟨k_gf (j := 1) (T := TX4) rfl inX4G (by decide) w_66 (by decide +kernel),
  List.forall_mem_cons.mpr ⟨k_iret (by decide +kernel),
  List.forall_mem_cons.mpr ⟨k_alN (i := 0) (by decide +kernel) rfl,
  List.forall_mem_cons.mpr ⟨k_gf (j := 11) (T := TX7) rfl inX7G (by decide) w_233 (by decide +kernel),
  List.forall_mem_cons.mpr ⟨k_iret (by decide +kernel),
  List.forall_mem_cons.mpr ⟨k_alN (i := 0) (by decide +kernel) rfl,
  List.forall_mem_cons.mpr ⟨k_gf (j := 10) (T := TX7) rfl inX7G (by decide) w_232 (by decide +kernel),
  List.forall_mem_cons.mpr ⟨k_callS (y := 81) (n := 1) w_342 w_336 w_39 w_337 (by decide +kernel) (by decide) (by decide +kernel),
  List.forall_mem_cons.mpr ⟨k_iret (by decide +kernel),
  List.forall_mem_cons.mpr ⟨k_bipush (n := -102) (-102) (by decide +kernel) (by decide),
  List.forall_mem_cons.mpr ⟨k_iret (by decide +kernel),
  fun _ h => absurd h List.not_mem_nil⟩⟩⟩⟩⟩⟩⟩⟩⟩⟩⟩⟩⟩⟩⟩⟩⟩⟩⟩⟩⟩⟩⟩⟩⟩⟩⟩⟩⟩⟩⟩⟩⟩⟩⟩⟩⟩⟩⟩⟩⟩⟩⟩⟩⟩⟩⟩⟩⟩⟩⟩⟩
def tb_74 : List (Nat × pO) := [(0, o_const (.long (881)) 3), (3, o_ls 1 4), (4, o_al 0 5), (5, o_gf 7 8 8), (8, o_if (fun x => x = 0) 21 11), (11, o_al 0 12), (12, o_al 0 13), (13, o_ll 1 14), (14, o_call (rcV 7) 75 2 17), (17, o_call (rcV 7) 76 2 20), (20, o_ls 1 21), (21, o_const (.int (0)) 22), (22, o_is 3 23), (23, o_il 3 24), (24, o_al 0 25), (25, o_gf 7 1 28), (28, o_gf 2 2 31), (31, o_cmp (fun x y => y ≤ x) 68 34), (34, o_const (.int (0)) 35), (35, o_is 4 37), (37, o_il 4 39), (39, o_const (.int (7)) 41), (41, o_cmp (fun x y => y < x) 62 44), (44, o_ll 1 45), (45, o_al 0 46), (46, o_il 3 47), (47, o_il 4 49), (49, o_call (rcV 7) 61 3 52), (52, o_call rc0 77 2 55), (55, o_ls 1 56), (56, o_inc 4 (1) 59), (59, o_goto 37), (62, o_inc 3 (1) 65), (65, o_goto 23), (68, o_al 0 69), (69, o_gf 7 10 72), (72, o_if (fun x => x = 0) 119 75), (75, o_al 0 76), (76, o_gf 7 7 79), (79, o_al 0 80), (80, o_gf 7 3 83), (83, o_al 0 84), (84, o_gf 7 1 87), (87, o_gf 2 0 90), (90, o_al 0 91), (91, o_gf 7 4 94), (94, o_call (rcV 0) 1 4 97), (97, o_ll 1 98), (98, o_al 0 99), (99, o_gf 7 7 102), (102, o_gf 0 0 105), (105, o_call rc0 77 2 108), (108, o_al 0 109), (109, o_gf 7 7 112), (112, o_gf 0 1 115), (115, o_call rc0 77 2 118), (118, o_ls 1 119), (119, o_const (.int (0)) 120), (120, o_is 3 121), (121, o_il 3 122), (122, o_al 0 123), (123, o_gf 7 0 126), (126, o_gf 4 1 129), (129, o_cmp (fun x y => y ≤ x) 151 132), (132, o_ll 1 133), (133, o_al 0 134), (134, o_gf 7 0 137), (137, o_il 3 138), (138, o_call (rcV 4) 22 2 141), (141, o_call rc0 77 2 144), (144, o_ls 1 145), (145, o_inc 3 (1) 148), (148, o_goto 121), (151, o_const (.int (0)) 152), (152, o_is 3 153), (153, o_il 3 154), (154, o_const (.int (10)) 156), (156, o_cmp (fun x y => y < x) 175 159), (159, o_ll 1 160), (160, o_al 0 161), (161, o_il 3 162), (162, o_call (rcV 7) 73 2 165), (165, o_call rc0 77 2 168), (168, o_ls 1 169), (169, o_inc 3 (1) 172), (172, o_goto 153), (175, o_ll 1 176), (176, o_lret)]
set_option maxRecDepth 20000 in
theorem tk_74 : ∀ q ∈ tb_74, okA noS mM (prog_1_method_23_code, "DuneMaps", 5, some .long, false) q.1 q.2 :=
  List.forall_mem_cons.mpr ⟨k_ldc2 w_593 (by decide +kernel),
  List.forall_mem_cons.mpr ⟨k_lsN (i := 1) (by decide +kernel) rfl,
  List.forall_mem_cons.mpr ⟨k_alN (i := 0) (by decide +kernel) rfl,
  List.forall_mem_cons.mpr ⟨k_gf (j := 8) (T := TX7) rfl inX7G (by decide) w_230 (by decide +kernel),
  List.forall_mem_cons.mpr ⟨k_if_eq (off := 13) (by decide +kernel) (by decide),
  List.forall_mem_cons.mpr ⟨k_alN (i := 0) (by decide +kernel) rfl,
  List.forall_mem_cons.mpr ⟨k_alN (i := 0) (by decide +kernel) rfl,
  List.forall_mem_cons.mpr ⟨k_llN (i := 1) (by decide +kernel) rfl,
  List.forall_mem_cons.mpr ⟨k_callV (y := 75) (n := 1) (ci := 7) rfl w_594 w_596 w_8 w_39 w_597 (by decide +kernel) (by decide) (by decide +kernel),
  List.forall_mem_cons.mpr ⟨k_callV (y := 76) (n := 1) (ci := 7) rfl w_603 w_605 w_9 w_39 w_606 (by decide +kernel) (by decide) (by decide +kernel),
  List.forall_mem_cons.mpr ⟨k_lsN (i := 1) (by decide +kernel) rfl,
  List.forall_mem_cons.mpr ⟨k_iconst (n := 0) (0) (by decide +kernel) (by decide),
  List.forall_mem_cons.mpr ⟨k_isN (i := 3) (by decide +kernel) rfl,
  List.forall_mem_cons.mpr ⟨k_ilN (i := 3) (by decide +kernel) rfl,
  List.forall_mem_cons.mpr ⟨k_alN (i := 0) (by decide +kernel) rfl,
  List.forall_mem_cons.mpr ⟨k_gf (j := 1) (T := TX7) rfl inX7G (by decide) w_223 (by decide +kernel),
  List.forall_mem_cons.mpr ⟨k_gf (j := 2) (T := TX2) rfl inX2G (by decide) w_135 (by decide +kernel),
  List.forall_mem_cons.mpr ⟨k_icmp_ge (off := 37) (by decide +kernel) (by decide),
  List.forall_mem_cons.mpr ⟨k_iconst (n := 0) (0) (by decide +kernel) (by decide),
  List.forall_mem_cons.mpr ⟨k_is (by decide +kernel),
  List.forall_mem_cons.mpr ⟨k_il (by decide +kernel),
  List.forall_mem_cons.mpr ⟨k_bipush (n := 7) (7) (by decide +kernel) (by decide),
  List.forall_mem_cons.mpr ⟨k_icmp_gt (off := 21) (by decide +kernel) (by decide),
  List.forall_mem_cons.mpr ⟨k_llN (i := 1) (by decide +kernel) rfl,
  List.forall_mem_cons.mpr ⟨k_alN (i := 0) (by decide +kernel) rfl,
  List.forall_mem_cons.mpr ⟨k_ilN (i := 3) (by decide +kernel) rfl,
  List.forall_mem_cons.mpr ⟨k_il (by decide +kernel),
  List.forall_mem_cons.mpr ⟨k_callV (y := 61) (n := 2) (ci := 7) rfl w_607 w_389 w_390 w_39 w_391 (by decide +kernel) (by decide) (by decide +kernel),
  List.forall_mem_cons.mpr ⟨k_callS (y := 77) (n := 2) w_599 w_600 w_39 w_601 (by decide +kernel) (by decide) (by decide +kernel),
  List.forall_mem_cons.mpr ⟨k_lsN (i := 1) (by decide +kernel) rfl,
  List.forall_mem_cons.mpr ⟨k_inc (n := 1) (1) (by decide +kernel) (by decide),
  List.forall_mem_cons.mpr ⟨k_goto (off := -22) (by decide +kernel) (by decide),
  List.forall_mem_cons.mpr ⟨k_inc (n := 1) (1) (by decide +kernel) (by decide),
  List.forall_mem_cons.mpr ⟨k_goto (off := -42) (by decide +kernel) (by decide),
  List.forall_mem_cons.mpr ⟨k_alN (i := 0) (by decide +kernel) rfl,
  List.forall_mem_cons.mpr ⟨k_gf (j := 10) (T := TX7) rfl inX7G (by decide) w_232 (by decide +kernel),
  List.forall_mem_cons.mpr ⟨k_if_eq (off := 47) (by decide +kernel) (by decide),
  List.forall_mem_cons.mpr ⟨k_alN (i := 0) (by decide +kernel) rfl,
  List.forall_mem_cons.mpr ⟨k_gf (j := 7) (T := TX7) rfl inX7G (by decide) w_229 (by decide +kernel),
  List.forall_mem_cons.mpr ⟨k_alN (i := 0) (by decide +kernel) rfl,
  List.forall_mem_cons.mpr ⟨k_gf (j := 3) (T := TX7) rfl inX7G (by decide) w_225 (by decide +kernel),
  List.forall_mem_cons.mpr ⟨k_alN (i := 0) (by decide +kernel) rfl,
  List.forall_mem_cons.mpr ⟨k_gf (j := 1) (T := TX7) rfl inX7G (by decide) w_223 (by decide +kernel),
  List.forall_mem_cons.mpr ⟨k_gf (j := 0) (T := TX2) rfl inX2G (by decide) w_131 (by decide +kernel),
  List.forall_mem_cons.mpr ⟨k_alN (i := 0) (by decide +kernel) rfl,
  List.forall_mem_cons.mpr ⟨k_gf (j := 4) (T := TX7) rfl inX7G (by decide) w_226 (by decide +kernel),
  List.forall_mem_cons.mpr ⟨k_callV (y := 1) (n := 3) (ci := 0) rfl w_520 w_521 w_522 w_46 w_523 (by decide +kernel) (by decide) (by decide +kernel),
  List.forall_mem_cons.mpr ⟨k_llN (i := 1) (by decide +kernel) rfl,
  List.forall_mem_cons.mpr ⟨k_alN (i := 0) (by decide +kernel) rfl,
  List.forall_mem_cons.mpr ⟨k_gf (j := 7) (T := TX7) rfl inX7G (by decide) w_229 (by decide +kernel),
  List.forall_mem_cons.mpr ⟨k_gf (j := 0) (T := TX0) rfl inX0G (by decide) w_214 (by decide +kernel),
  List.forall_mem_cons.mpr ⟨k_callS (y := 77) (n := 2) w_599 w_600 w_39 w_601 (by decide +kernel) (by decide) (by decide +kernel),
  List.forall_mem_cons.mpr ⟨k_alN (i := 0) (by decide +kernel) rfl,
  List.forall_mem_cons.mpr ⟨k_gf (j := 7) (T := TX7) rfl inX7G (by decide) w_229 (by decide +kernel),
  List.forall_mem_cons.mpr ⟨k_gf (j := 1) (T := TX0) rfl inX0G (by decide) w_216 (by decide +kernel),
  List.forall_mem_cons.mpr ⟨k_callS (y := 77) (n := 2) w_599 w_600 w_39 w_601 (by decide +kernel) (by decide) (by decide +kernel),
  List.forall_mem_cons.mpr ⟨k_lsN (i := 1) (by decide +kernel) rfl,
  List.forall_mem_cons.mpr ⟨k_iconst (n := 0) (0) (by decide +kernel) (by decide),
  List.forall_mem_cons.mpr ⟨k_isN (i := 3) (by decide +kernel) rfl,
  List.forall_mem_cons.mpr ⟨k_ilN (i := 3) (by decide +kernel) rfl,
  List.forall_mem_cons.mpr ⟨k_alN (i := 0) (by decide +kernel) rfl,
  List.forall_mem_cons.mpr ⟨k_gf (j := 0) (T := TX7) rfl inX7G (by decide) w_222 (by decide +kernel),
  List.forall_mem_cons.mpr ⟨k_gf (j := 1) (T := TX4) rfl inX4G (by decide) w_66 (by decide +kernel),
  List.forall_mem_cons.mpr ⟨k_icmp_ge (off := 22) (by decide +kernel) (by decide),
  List.forall_mem_cons.mpr ⟨k_llN (i := 1) (by decide +kernel) rfl,
  List.forall_mem_cons.mpr ⟨k_alN (i := 0) (by decide +kernel) rfl,
  List.forall_mem_cons.mpr ⟨k_gf (j := 0) (T := TX7) rfl inX7G (by decide) w_222 (by decide +kernel),
  List.forall_mem_cons.mpr ⟨k_ilN (i := 3) (by decide +kernel) rfl,
  List.forall_mem_cons.mpr ⟨k_callV (y := 22) (n := 1) (ci := 4) rfl w_608 w_280 w_281 w_40 w_282 (by decide +kernel) (by decide) (by decide +kernel),
  List.forall_mem_cons.mpr ⟨k_callS (y := 77) (n := 2) w_599 w_600 w_39 w_601 (by decide +kernel) (by decide) (by decide +kernel),
  List.forall_mem_cons.mpr ⟨k_lsN (i := 1) (by decide +kernel) rfl,
  List.forall_mem_cons.mpr ⟨k_inc (n := 1) (1) (by decide +kernel) (by decide),
  List.forall_mem_cons.mpr ⟨k_goto (off := -27) (by decide +kernel) (by decide),
  List.forall_mem_cons.mpr ⟨k_iconst (n := 0) (0) (by decide +kernel) (by decide),
  List.forall_mem_cons.mpr ⟨k_isN (i := 3) (by decide +kernel) rfl,
  List.forall_mem_cons.mpr ⟨k_ilN (i := 3) (by decide +kernel) rfl,
  List.forall_mem_cons.mpr ⟨k_bipush (n := 10) (10) (by decide +kernel) (by decide),
  List.forall_mem_cons.mpr ⟨k_icmp_gt (off := 19) (by decide +kernel) (by decide),
  List.forall_mem_cons.mpr ⟨k_llN (i := 1) (by decide +kernel) rfl,
  List.forall_mem_cons.mpr ⟨k_alN (i := 0) (by decide +kernel) rfl,
  List.forall_mem_cons.mpr ⟨k_ilN (i := 3) (by decide +kernel) rfl,
  List.forall_mem_cons.mpr ⟨k_callV (y := 73) (n := 1) (ci := 7) rfl w_609 w_574 w_575 w_39 w_576 (by decide +kernel) (by decide) (by decide +kernel),
  List.forall_mem_cons.mpr ⟨k_callS (y := 77) (n := 2) w_599 w_600 w_39 w_601 (by decide +kernel) (by decide) (by decide +kernel),
  List.forall_mem_cons.mpr ⟨k_lsN (i := 1) (by decide +kernel) rfl,
  List.forall_mem_cons.mpr ⟨k_inc (n := 1) (1) (by decide +kernel) (by decide),
  List.forall_mem_cons.mpr ⟨k_goto (off := -19) (by decide +kernel) (by decide),
  List.forall_mem_cons.mpr ⟨k_llN (i := 1) (by decide +kernel) rfl,
  List.forall_mem_cons.mpr ⟨k_lret (by decide +kernel),
  fun _ h => absurd h List.not_mem_nil⟩⟩⟩⟩⟩⟩⟩⟩⟩⟩⟩⟩⟩⟩⟩⟩⟩⟩⟩⟩⟩⟩⟩⟩⟩⟩⟩⟩⟩⟩⟩⟩⟩⟩⟩⟩⟩⟩⟩⟩⟩⟩⟩⟩⟩⟩⟩⟩⟩⟩⟩⟩⟩⟩⟩⟩⟩⟩⟩⟩⟩⟩⟩⟩⟩⟩⟩⟩⟩⟩⟩⟩⟩⟩⟩⟩⟩⟩⟩⟩⟩⟩⟩⟩⟩⟩⟩⟩
def tb_75 : List (Nat × pO) := [(0, o_const (.int (0)) 1), (1, o_is 3 2), (2, o_il 3 3), (3, o_const (.int (8)) 5), (5, o_cmp (fun x y => y ≤ x) 41 8), (8, o_const (.int (0)) 9), (9, o_is 4 11), (11, o_il 4 13), (13, o_const (.int (2)) 14), (14, o_cmp (fun x y => y < x) 35 17), (17, o_ll 1 18), (18, o_al 0 19), (19, o_il 3 20), (20, o_il 4 22), (22, o_call (rcV 7) 57 3 25), (25, o_call rc0 77 2 28), (28, o_ls 1 29), (29, o_inc 4 (1) 32), (32, o_goto 11), (35, o_inc 3 (1) 38), (38, o_goto 2), (41, o_ll 1 42), (42, o_lret)]
set_option maxRecDepth 20000 in
theorem tk_75 : ∀ q ∈ tb_75, okA noS mM (prog_1_method_24_code, "DuneMaps", 5, some .long, false) q.1 q.2 :=
  List.forall_mem_cons.mpr ⟨k_iconst (n := 0) (0) (by decide +kernel) (by decide),
  List.forall_mem_cons.mpr ⟨k_isN (i := 3) (by decide +kernel) rfl,
  List.forall_mem_cons.mpr ⟨k_ilN (i := 3) (by decide +kernel) rfl,
  List.forall_mem_cons.mpr ⟨k_bipush (n := 8) (8) (by decide +kernel) (by decide),
  List.forall_mem_cons.mpr ⟨k_icmp_ge (off := 36) (by decide +kernel) (by decide),
  List.forall_mem_cons.mpr ⟨k_iconst (n := 0) (0) (by decide +kernel) (by decide),
  List.forall_mem_cons.mpr ⟨k_is (by decide +kernel),
  List.forall_mem_cons.mpr ⟨k_il (by decide +kernel),
  List.forall_mem_cons.mpr ⟨k_iconst (n := 2) (2) (by decide +kernel) (by decide),
  List.forall_mem_cons.mpr ⟨k_icmp_gt (off := 21) (by decide +kernel) (by decide),
  List.forall_mem_cons.mpr ⟨k_llN (i := 1) (by decide +kernel) rfl,
  List.forall_mem_cons.mpr ⟨k_alN (i := 0) (by decide +kernel) rfl,
  List.forall_mem_cons.mpr ⟨k_ilN (i := 3) (by decide +kernel) rfl,
  List.forall_mem_cons.mpr ⟨k_il (by decide +kernel),
  List.forall_mem_cons.mpr ⟨k_callV (y := 57) (n := 2) (ci := 7) rfl w_598 w_316 w_317 w_39 w_318 (by decide +kernel) (by decide) (by decide +kernel),
  List.forall_mem_cons.mpr ⟨k_callS (y := 77) (n := 2) w_599 w_600 w_39 w_601 (by decide +kernel) (by decide) (by decide +kernel),
  List.forall_mem_cons.mpr ⟨k_lsN (i := 1) (by decide +kernel) rfl,
  List.forall_mem_cons.mpr ⟨k_inc (n := 1) (1) (by decide +kernel) (by decide),
  List.forall_mem_cons.mpr ⟨k_goto (off := -21) (by decide +kernel) (by decide),
  List.forall_mem_cons.mpr ⟨k_inc (n := 1) (1) (by decide +kernel) (by decide),
  List.forall_mem_cons.mpr ⟨k_goto (off := -36) (by decide +kernel) (by decide),
  List.forall_mem_cons.mpr ⟨k_llN (i := 1) (by decide +kernel) rfl,
  List.forall_mem_cons.mpr ⟨k_lret (by decide +kernel),
  fun _ h => absurd h List.not_mem_nil⟩⟩⟩⟩⟩⟩⟩⟩⟩⟩⟩⟩⟩⟩⟩⟩⟩⟩⟩⟩⟩⟩⟩
def tb_76 : List (Nat × pO) := [(0, o_al 0 1), (1, o_gf 7 5 4), (4, o_al 0 5), (5, o_gf 7 1 8), (8, o_call (rcV 3) 17 2 11), (11, o_ll 1 12), (12, o_al 0 13), (13, o_gf 7 5 16), (16, o_gf 3 4 19), (19, o_call rc0 77 2 22), (22, o_ls 1 23), (23, o_const (.int (0)) 24), (24, o_is 3 25), (25, o_il 3 26), (26, o_const (.int (4)) 27), (27, o_cmp (fun x y => y ≤ x) 49 30), (30, o_ll 1 31), (31, o_al 0 32), (32, o_gf 7 5 35), (35, o_il 3 36), (36, o_call (rcV 3) 16 2 39), (39, o_call rc0 77 2 42), (42, o_ls 1 43), (43, o_inc 3 (1) 46), (46, o_goto 25), (49, o_ll 1 50), (50, o_lret)]
set_option maxRecDepth 20000 in
theorem tk_76 : ∀ q ∈ tb_76, okA noS mM (prog_1_method_25_code, "DuneMaps", 4, some .long, false) q.1 q.2 :=
  List.forall_mem_cons.mpr ⟨k_alN (i := 0) (by decide +kernel) rfl,
  List.forall_mem_cons.mpr ⟨k_gf (j := 5) (T := TX7) rfl inX7G (by decide) w_227 (by decide +kernel),
  List.forall_mem_cons.mpr ⟨k_alN (i := 0) (by decide +kernel) rfl,
  List.forall_mem_cons.mpr ⟨k_gf (j := 1) (T := TX7) rfl inX7G (by decide) w_223 (by decide +kernel),
  List.forall_mem_cons.mpr ⟨k_callV (y := 17) (n := 1) (ci := 3) rfl w_459 w_460 w_461 w_44 w_462 (by decide +kernel) (by decide) (by decide +kernel),
  List.forall_mem_cons.mpr ⟨k_llN (i := 1) (by decide +kernel) rfl,
  List.forall_mem_cons.mpr ⟨k_alN (i := 0) (by decide +kernel) rfl,
  List.forall_mem_cons.mpr ⟨k_gf (j := 5) (T := TX7) rfl inX7G (by decide) w_227 (by decide +kernel),
  List.forall_mem_cons.mpr ⟨k_gf (j := 4) (T := TX3) rfl inX3G (by decide) w_163 (by decide +kernel),
  List.forall_mem_cons.mpr ⟨k_callS (y := 77) (n := 2) w_599 w_600 w_39 w_601 (by decide +kernel) (by decide) (by decide +kernel),
  List.forall_mem_cons.mpr ⟨k_lsN (i := 1) (by decide +kernel) rfl,
  List.forall_mem_cons.mpr ⟨k_iconst (n := 0) (0) (by decide +kernel) (by decide),
  List.forall_mem_cons.mpr ⟨k_isN (i := 3) (by decide +kernel) rfl,
  List.forall_mem_cons.mpr ⟨k_ilN (i := 3) (by decide +kernel) rfl,
  List.forall_mem_cons.mpr ⟨k_iconst (n := 4) (4) (by decide +kernel) (by decide),
  List.forall_mem_cons.mpr ⟨k_icmp_ge (off := 22) (by decide +kernel) (by decide),
  List.forall_mem_cons.mpr ⟨k_llN (i := 1) (by decide +kernel) rfl,
  List.forall_mem_cons.mpr ⟨k_alN (i := 0) (by decide +kernel) rfl,
  List.forall_mem_cons.mpr ⟨k_gf (j := 5) (T := TX7) rfl inX7G (by decide) w_227 (by decide +kernel),
  List.forall_mem_cons.mpr ⟨k_ilN (i := 3) (by decide +kernel) rfl,
  List.forall_mem_cons.mpr ⟨k_callV (y := 16) (n := 1) (ci := 3) rfl w_492 w_493 w_494 w_44 w_495 (by decide +kernel) (by decide) (by decide +kernel),
  List.forall_mem_cons.mpr ⟨k_callS (y := 77) (n := 2) w_599 w_600 w_39 w_601 (by decide +kernel) (by decide) (by decide +kernel),
  List.forall_mem_cons.mpr ⟨k_lsN (i := 1) (by decide +kernel) rfl,
  List.forall_mem_cons.mpr ⟨k_inc (n := 1) (1) (by decide +kernel) (by decide),
  List.forall_mem_cons.mpr ⟨k_goto (off := -21) (by decide +kernel) (by decide),
  List.forall_mem_cons.mpr ⟨k_llN (i := 1) (by decide +kernel) rfl,
  List.forall_mem_cons.mpr ⟨k_lret (by decide +kernel),
  fun _ h => absurd h List.not_mem_nil⟩⟩⟩⟩⟩⟩⟩⟩⟩⟩⟩⟩⟩⟩⟩⟩⟩⟩⟩⟩⟩⟩⟩⟩⟩⟩⟩
def tb_77 : List (Nat × pO) := [(0, o_const (.long (31)) 3), (3, o_ll 0 4), (4, o_lbin (fun x y => x * y) 5), (5, o_il 2 6), (6, o_i2l 7), (7, o_lbin (fun x y => x + y) 8), (8, o_lret)]
set_option maxRecDepth 20000 in
theorem tk_77 : ∀ q ∈ tb_77, okA noS mM (prog_1_method_26_code, "DuneMaps", 3, some .long, false) q.1 q.2 :=
  List.forall_mem_cons.mpr ⟨k_ldc2 w_602 (by decide +kernel),
  List.forall_mem_cons.mpr ⟨k_llN (i := 0) (by decide +kernel) rfl,
  List.forall_mem_cons.mpr ⟨k_lmul (by decide +kernel),
  List.forall_mem_cons.mpr ⟨k_ilN (i := 2) (by decide +kernel) rfl,
  List.forall_mem_cons.mpr ⟨k_i2l (by decide +kernel),
  List.forall_mem_cons.mpr ⟨k_ladd (by decide +kernel),
  List.forall_mem_cons.mpr ⟨k_lret (by decide +kernel),
  fun _ h => absurd h List.not_mem_nil⟩⟩⟩⟩⟩⟩⟩
def tb_78 : List (Nat × pO) := [(0, o_al 0 1), (1, o_gf 7 8 4), (4, o_if (fun x => x = 0) 21 7), (7, o_il 1 8), (8, o_if (fun x => x < 0) 21 11), (11, o_il 1 12), (12, o_const (.int (8)) 14), (14, o_cmp (fun x y => y ≤ x) 21 17), (17, o_const (.int (1)) 18), (18, o_goto 22), (21, o_const (.int (0)) 22), (22, o_zret)]
set_option maxRecDepth 20000 in
theorem tk_78 : ∀ q ∈ tb_78, okA noS mM (prog_1_method_27_code, "DuneMaps", 2, some .boolean, false) q.1 q.2 :=
  List.forall_mem_cons.mpr ⟨k_alN (i := 0) (by decide +kernel) rfl,
  List.forall_mem_cons.mpr ⟨k_gf (j := 8) (T := TX7) rfl inX7G (by decide) w_230 (by decide +kernel),
  List.forall_mem_cons.mpr ⟨k_if_eq (off := 17) (by decide +kernel) (by decide),
  List.forall_mem_cons.mpr ⟨k_ilN (i := 1) (by decide +kernel) rfl,
  List.forall_mem_cons.mpr ⟨k_if_lt (off := 13) (by decide +kernel) (by decide),
  List.forall_mem_cons.mpr ⟨k_ilN (i := 1) (by decide +kernel) rfl,
  List.forall_mem_cons.mpr ⟨k_bipush (n := 8) (8) (by decide +kernel) (by decide),
  List.forall_mem_cons.mpr ⟨k_icmp_ge (off := 7) (by decide +kernel) (by decide),
  List.forall_mem_cons.mpr ⟨k_iconst (n := 1) (1) (by decide +kernel) (by decide),
  List.forall_mem_cons.mpr ⟨k_goto (off := 4) (by decide +kernel) (by decide),
  List.forall_mem_cons.mpr ⟨k_iconst (n := 0) (0) (by decide +kernel) (by decide),
  List.forall_mem_cons.mpr ⟨k_zret (by decide +kernel),
  fun _ h => absurd h List.not_mem_nil⟩⟩⟩⟩⟩⟩⟩⟩⟩⟩⟩⟩
def tb_79 : List (Nat × pO) := [(0, o_il 0 1), (1, o_if (fun x => x < 0) 13 4), (4, o_il 0 5), (5, o_const (.int (5)) 6), (6, o_cmp (fun x y => y ≤ x) 13 9), (9, o_const (.int (1)) 10), (10, o_goto 14), (13, o_const (.int (0)) 14), (14, o_zret)]
set_option maxRecDepth 20000 in
theorem tk_79 : ∀ q ∈ tb_79, okA noS mM (prog_1_method_28_code, "DuneMaps", 1, some .boolean, false) q.1 q.2 :=
  List.forall_mem_cons.mpr ⟨k_ilN (i := 0) (by decide +kernel) rfl,
  List.forall_mem_cons.mpr ⟨k_if_lt (off := 12) (by decide +kernel) (by decide),
  List.forall_mem_cons.mpr ⟨k_ilN (i := 0) (by decide +kernel) rfl,
  List.forall_mem_cons.mpr ⟨k_iconst (n := 5) (5) (by decide +kernel) (by decide),
  List.forall_mem_cons.mpr ⟨k_icmp_ge (off := 7) (by decide +kernel) (by decide),
  List.forall_mem_cons.mpr ⟨k_iconst (n := 1) (1) (by decide +kernel) (by decide),
  List.forall_mem_cons.mpr ⟨k_goto (off := 4) (by decide +kernel) (by decide),
  List.forall_mem_cons.mpr ⟨k_iconst (n := 0) (0) (by decide +kernel) (by decide),
  List.forall_mem_cons.mpr ⟨k_zret (by decide +kernel),
  fun _ h => absurd h List.not_mem_nil⟩⟩⟩⟩⟩⟩⟩⟩⟩
def tb_80 : List (Nat × pO) := [(0, o_il 0 1), (1, o_if (fun x => x = 0) 9 4), (4, o_il 0 5), (5, o_const (.int (1)) 6), (6, o_cmp (fun x y => ¬ x = y) 13 9), (9, o_const (.int (1)) 10), (10, o_goto 14), (13, o_const (.int (0)) 14), (14, o_zret)]
set_option maxRecDepth 20000 in
theorem tk_80 : ∀ q ∈ tb_80, okA noS mM (prog_1_method_29_code, "DuneMaps", 1, some .boolean, false) q.1 q.2 :=
  List.forall_mem_cons.mpr ⟨k_ilN (i := 0) (by decide +kernel) rfl,
  List.forall_mem_cons.mpr ⟨k_if_eq (off := 8) (by decide +kernel) (by decide),
  List.forall_mem_cons.mpr ⟨k_ilN (i := 0) (by decide +kernel) rfl,
  List.forall_mem_cons.mpr ⟨k_iconst (n := 1) (1) (by decide +kernel) (by decide),
  List.forall_mem_cons.mpr ⟨k_icmp_ne (off := 7) (by decide +kernel) (by decide),
  List.forall_mem_cons.mpr ⟨k_iconst (n := 1) (1) (by decide +kernel) (by decide),
  List.forall_mem_cons.mpr ⟨k_goto (off := 4) (by decide +kernel) (by decide),
  List.forall_mem_cons.mpr ⟨k_iconst (n := 0) (0) (by decide +kernel) (by decide),
  List.forall_mem_cons.mpr ⟨k_zret (by decide +kernel),
  fun _ h => absurd h List.not_mem_nil⟩⟩⟩⟩⟩⟩⟩⟩⟩
def tb_81 : List (Nat × pO) := [(0, o_il 0 1), (1, o_if (fun x => x = 0) 8 4), (4, o_const (.int (1)) 5), (5, o_goto 9), (8, o_const (.int (0)) 9), (9, o_iret)]
set_option maxRecDepth 20000 in
theorem tk_81 : ∀ q ∈ tb_81, okA noS mM (prog_1_method_30_code, "DuneMaps", 1, some .int, false) q.1 q.2 :=
  List.forall_mem_cons.mpr ⟨k_ilN (i := 0) (by decide +kernel) rfl,
  List.forall_mem_cons.mpr ⟨k_if_eq (off := 7) (by decide +kernel) (by decide),
  List.forall_mem_cons.mpr ⟨k_iconst (n := 1) (1) (by decide +kernel) (by decide),
  List.forall_mem_cons.mpr ⟨k_goto (off := 4) (by decide +kernel) (by decide),
  List.forall_mem_cons.mpr ⟨k_iconst (n := 0) (0) (by decide +kernel) (by decide),
  List.forall_mem_cons.mpr ⟨k_iret (by decide +kernel),
  fun _ h => absurd h List.not_mem_nil⟩⟩⟩⟩⟩⟩
def tb_82 : List (Nat × pO) := [(0, o_il 0 1), (1, o_if (fun x => x < 0) 12 4), (4, o_il 0 5), (5, o_const (.float 0) 8), (8, o_lenT 9), (9, o_cmp (fun x y => x < y) 16 12), (12, o_const (.int (0)) 13), (13, o_goto 21), (16, o_const (.float 0) 19), (19, o_il 0 20), (20, o_iaT 21), (21, o_iret)]
set_option maxRecDepth 20000 in
theorem tk_82 : ∀ q ∈ tb_82, okA noS mM (prog_1_method_31_code, "DuneMaps", 1, some .int, false) q.1 q.2 :=
  List.forall_mem_cons.mpr ⟨k_ilN (i := 0) (by decide +kernel) rfl,
  List.forall_mem_cons.mpr ⟨k_if_lt (off := 11) (by decide +kernel) (by decide),
  List.forall_mem_cons.mpr ⟨k_ilN (i := 0) (by decide +kernel) rfl,
  List.forall_mem_cons.mpr ⟨k_gs w_399 (by decide +kernel),
  List.forall_mem_cons.mpr ⟨k_lenT (by decide +kernel),
  List.forall_mem_cons.mpr ⟨k_icmp_lt (off := 7) (by decide +kernel) (by decide),
  List.forall_mem_cons.mpr ⟨k_iconst (n := 0) (0) (by decide +kernel) (by decide),
  List.forall_mem_cons.mpr ⟨k_goto (off := 8) (by decide +kernel) (by decide),
  List.forall_mem_cons.mpr ⟨k_gs w_399 (by decide +kernel),
  List.forall_mem_cons.mpr ⟨k_ilN (i := 0) (by decide +kernel) rfl,
  List.forall_mem_cons.mpr ⟨k_iaT (by decide +kernel),
  List.forall_mem_cons.mpr ⟨k_iret (by decide +kernel),
  fun _ h => absurd h List.not_mem_nil⟩⟩⟩⟩⟩⟩⟩⟩⟩⟩⟩⟩
def tb_83 : List (Nat × pO) := [(0, o_il 1 1), (1, o_const (.int (1)) 2), (2, o_cmp (fun x y => ¬ x = y) 11 5), (5, o_il 0 6), (6, o_const (.int (1)) 7), (7, o_bin (fun x y => x + y) 8), (8, o_goto 14), (11, o_il 0 12), (12, o_const (.int (1)) 13), (13, o_bin (fun x y => x - y) 14), (14, o_const (.int (7)) 16), (16, o_bin (fun x y => x &&& y) 17), (17, o_iret)]
set_option maxRecDepth 20000 in
theorem tk_83 : ∀ q ∈ tb_83, okA noS mM (prog_1_method_32_code, "DuneMaps", 2, some .int, false) q.1 q.2 :=
  List.forall_mem_cons.mpr ⟨k_ilN (i := 1) (by decide +kernel) rfl,
  List.forall_mem_cons.mpr ⟨k_iconst (n := 1) (1) (by decide +kernel) (by decide),
  List.forall_mem_cons.mpr ⟨k_icmp_ne (off := 9) (by decide +kernel) (by decide),
  List.forall_mem_cons.mpr ⟨k_ilN (i := 0) (by decide +kernel) rfl,
  List.forall_mem_cons.mpr ⟨k_iconst (n := 1) (1) (by decide +kernel) (by decide),
  List.forall_mem_cons.mpr ⟨k_iadd (by decide +kernel),
  List.forall_mem_cons.mpr ⟨k_goto (off := 6) (by decide +kernel) (by decide),
  List.forall_mem_cons.mpr ⟨k_ilN (i := 0) (by decide +kernel) rfl,
  List.forall_mem_cons.mpr ⟨k_iconst (n := 1) (1) (by decide +kernel) (by decide),
  List.forall_mem_cons.mpr ⟨k_isub (by decide +kernel),
  List.forall_mem_cons.mpr ⟨k_bipush (n := 7) (7) (by decide +kernel) (by decide),
  List.forall_mem_cons.mpr ⟨k_iand (by decide +kernel),
  List.forall_mem_cons.mpr ⟨k_iret (by decide +kernel),
  fun _ h => absurd h List.not_mem_nil⟩⟩⟩⟩⟩⟩⟩⟩⟩⟩⟩⟩⟩
def tb_84 : List (Nat × pO) := [(0, o_const (.int (1103515245)) 3), (3, o_il 0 4), (4, o_bin (fun x y => x * y) 5), (5, o_const (.int (12345)) 8), (8, o_bin (fun x y => x + y) 9), (9, o_const (.int (2147483647)) 12), (12, o_bin (fun x y => x &&& y) 13), (13, o_iret)]
set_option maxRecDepth 20000 in
theorem tk_84 : ∀ q ∈ tb_84, okA noS mM (prog_1_method_33_code, "DuneMaps", 1, some .int, false) q.1 q.2 :=
  List.forall_mem_cons.mpr ⟨k_ldcw w_543 (by decide +kernel),
  List.forall_mem_cons.mpr ⟨k_ilN (i := 0) (by decide +kernel) rfl,
  List.forall_mem_cons.mpr ⟨k_imul (by decide +kernel),
  List.forall_mem_cons.mpr ⟨k_sipush (n := 12345) (12345) (by decide +kernel) (by decide),
  List.forall_mem_cons.mpr ⟨k_iadd (by decide +kernel),
  List.forall_mem_cons.mpr ⟨k_ldcw w_544 (by decide +kernel),
  List.forall_mem_cons.mpr ⟨k_iand (by decide +kernel),
  List.forall_mem_cons.mpr ⟨k_iret (by decide +kernel),
  fun _ h => absurd h List.not_mem_nil⟩⟩⟩⟩⟩⟩⟩⟩
def tb_85 : List (Nat × pO) := [(0, o_il 1 1), (1, o_const (.int (1)) 2), (2, o_cmp (fun x y => y ≤ x) 9 5), (5, o_const (.int (0)) 6), (6, o_goto 15), (9, o_il 0 10), (10, o_const (.int (16)) 12), (12, o_bin (fun x y => x >>> (y &&& 31)) 13), (13, o_il 1 14), (14, o_binz (fun x y => x - x / y * y) 15), (15, o_iret)]
set_option maxRecDepth 20000 in
theorem tk_85 : ∀ q ∈ tb_85, okA noS mM (prog_1_method_34_code, "DuneMaps", 2, some .int, false) q.1 q.2 :=
  List.forall_mem_cons.mpr ⟨k_ilN (i := 1) (by decide +kernel) rfl,
  List.forall_mem_cons.mpr ⟨k_iconst (n := 1) (1) (by decide +kernel) (by decide),
  List.forall_mem_cons.mpr ⟨k_icmp_ge (off := 7) (by decide +kernel) (by decide),
  List.forall_mem_cons.mpr ⟨k_iconst (n := 0) (0) (by decide +kernel) (by decide),
  List.forall_mem_cons.mpr ⟨k_goto (off := 9) (by decide +kernel) (by decide),
  List.forall_mem_cons.mpr ⟨k_ilN (i := 0) (by decide +kernel) rfl,
  List.forall_mem_cons.mpr ⟨k_bipush (n := 16) (16) (by decide +kernel) (by decide),
  List.forall_mem_cons.mpr ⟨k_ishr (by decide +kernel),
  List.forall_mem_cons.mpr ⟨k_ilN (i := 1) (by decide +kernel) rfl,
  List.forall_mem_cons.mpr ⟨k_irem (by decide +kernel),
  List.forall_mem_cons.mpr ⟨k_iret (by decide +kernel),
  fun _ h => absurd h List.not_mem_nil⟩⟩⟩⟩⟩⟩⟩⟩⟩⟩⟩
def tb_86 : List (Nat × pO) := [(0, o_al 0 1), (1, o_obj 4), (4, o_al 0 5), (5, o_const (.int (12)) 7), (7, o_newa 9), (9, o_pf okR 8 0 12), (12, o_al 0 13), (13, o_const (.int (8)) 15), (15, o_newa 17), (17, o_pf okR 8 6 20), (20, o_al 0 21), (21, o_const (.int (8)) 23), (23, o_newa 25), (25, o_pf okR 8 8 28), (28, o_al 0 29), (29, o_const (.int (12)) 31), (31, o_newa 33), (33, o_pf okR 8 10 36), (36, o_al 0 37), (37, o_const (.int (40)) 39), (39, o_newa 41), (41, o_pf okR 8 11 44), (44, o_al 0 45), (45, o_const (.int (8)) 47), (47, o_newa 49), (49, o_pf okR 8 12 52), (52, o_al 0 53), (53, o_const (.int (4)) 54), (54, o_newa 56), (56, o_pf okR 8 13 59), (59, o_al 0 60), (60, o_const (.int (4)) 61), (61, o_newa 63), (63, o_pf okR 8 15 66), (66, o_al 0 67), (67, o_const (.int (4)) 68), (68, o_newa 70), (70, o_pf okR 8 16 73), (73, o_al 0 74), (74, o_const (.int (8)) 76), (76, o_newa 78), (78, o_pf okR 8 22 81), (81, o_al 0 82), (82, o_const (.int (12)) 84), (84, o_newa 86), (86, o_pf okR 8 23 89), (89, o_al 0 90), (90, o_const (.int (40)) 92), (92, o_newa 94), (94, o_pf okR 8 24 97), (97, o_al 0 98), (98, o_const (.int (-1)) 99), (99, o_pf okI 8 18 102), (102, o_vret)]
set_option maxRecDepth 20000 in
theorem tk_86 : ∀ q ∈ tb_86, okA noS mM (prog_10_method_1_code, "DuneMapsModel", 1, none, true) q.1 q.2 :=
  List.forall_mem_cons.mpr ⟨k_alN (i := 0) (by decide +kernel) rfl,
  List.forall_mem_cons.mpr ⟨k_obj w_615 w_56 w_57 (by decide +kernel),
  List.forall_mem_cons.mpr ⟨k_alN (i := 0) (by decide +kernel) rfl,
  List.forall_mem_cons.mpr ⟨k_bipush (n := 12) (12) (by decide +kernel) (by decide),
  List.forall_mem_cons.mpr ⟨k_newa w_72 (by decide +kernel),
  List.forall_mem_cons.mpr ⟨k_pfF (j := 0) (T := TX8) tyX8 tyX8_ok nmX8 (okR_fitA .int) rfl inX8G (by decide) rfl rfl (by decide +kernel) w_616 (by decide +kernel),
  List.forall_mem_cons.mpr ⟨k_alN (i := 0) (by decide +kernel) rfl,
  List.forall_mem_cons.mpr ⟨k_bipush (n := 8) (8) (by decide +kernel) (by decide),
  List.forall_mem_cons.mpr ⟨k_newa w_72 (by decide +kernel),
  List.forall_mem_cons.mpr ⟨k_pfF (j := 6) (T := TX8) tyX8 tyX8_ok nmX8 (okR_fitA .int) rfl inX8G (by decide) rfl rfl (by decide +kernel) w_622 (by decide +kernel),
  List.forall_mem_cons.mpr ⟨k_alN (i := 0) (by decide +kernel) rfl,
  List.forall_mem_cons.mpr ⟨k_bipush (n := 8) (8) (by decide +kernel) (by decide),
  List.forall_mem_cons.mpr ⟨k_newa w_72 (by decide +kernel),
  List.forall_mem_cons.mpr ⟨k_pfF (j := 8) (T := TX8) tyX8 tyX8_ok nmX8 (okR_fitA .int) rfl inX8G (by decide) rfl rfl (by decide +kernel) w_624 (by decide +kernel),
  List.forall_mem_cons.mpr ⟨k_alN (i := 0) (by decide +kernel) rfl,
  List.forall_mem_cons.mpr ⟨k_bipush (n := 12) (12) (by decide +kernel) (by decide),
  List.forall_mem_cons.mpr ⟨k_newa w_72 (by decide +kernel),
  List.forall_mem_cons.mpr ⟨k_pfF (j := 10) (T := TX8) tyX8 tyX8_ok nmX8 (okR_fitA .int) rfl inX8G (by decide) rfl rfl (by decide +kernel) w_626 (by decide +kernel),
  List.forall_mem_cons.mpr ⟨k_alN (i := 0) (by decide +kernel) rfl,
  List.forall_mem_cons.mpr ⟨k_bipush (n := 40) (40) (by decide +kernel) (by decide),
  List.forall_mem_cons.mpr ⟨k_newa w_72 (by decide +kernel),
  List.forall_mem_cons.mpr ⟨k_pfF (j := 11) (T := TX8) tyX8 tyX8_ok nmX8 (okR_fitA .int) rfl inX8G (by decide) rfl rfl (by decide +kernel) w_627 (by decide +kernel),
  List.forall_mem_cons.mpr ⟨k_alN (i := 0) (by decide +kernel) rfl,
  List.forall_mem_cons.mpr ⟨k_bipush (n := 8) (8) (by decide +kernel) (by decide),
  List.forall_mem_cons.mpr ⟨k_newa w_72 (by decide +kernel),
  List.forall_mem_cons.mpr ⟨k_pfF (j := 12) (T := TX8) tyX8 tyX8_ok nmX8 (okR_fitA .int) rfl inX8G (by decide) rfl rfl (by decide +kernel) w_628 (by decide +kernel),
  List.forall_mem_cons.mpr ⟨k_alN (i := 0) (by decide +kernel) rfl,
  List.forall_mem_cons.mpr ⟨k_iconst (n := 4) (4) (by decide +kernel) (by decide),
  List.forall_mem_cons.mpr ⟨k_newa w_72 (by decide +kernel),
  List.forall_mem_cons.mpr ⟨k_pfF (j := 13) (T := TX8) tyX8 tyX8_ok nmX8 (okR_fitA .int) rfl inX8G (by decide) rfl rfl (by decide +kernel) w_629 (by decide +kernel),
  List.forall_mem_cons.mpr ⟨k_alN (i := 0) (by decide +kernel) rfl,
  List.forall_mem_cons.mpr ⟨k_iconst (n := 4) (4) (by decide +kernel) (by decide),
  List.forall_mem_cons.mpr ⟨k_newa w_72 (by decide +kernel),
  List.forall_mem_cons.mpr ⟨k_pfF (j := 15) (T := TX8) tyX8 tyX8_ok nmX8 (okR_fitA .int) rfl inX8G (by decide) rfl rfl (by decide +kernel) w_631 (by decide +kernel),
  List.forall_mem_cons.mpr ⟨k_alN (i := 0) (by decide +kernel) rfl,
  List.forall_mem_cons.mpr ⟨k_iconst (n := 4) (4) (by decide +kernel) (by decide),
  List.forall_mem_cons.mpr ⟨k_newa w_72 (by decide +kernel),
  List.forall_mem_cons.mpr ⟨k_pfF (j := 16) (T := TX8) tyX8 tyX8_ok nmX8 (okR_fitA .int) rfl inX8G (by decide) rfl rfl (by decide +kernel) w_632 (by decide +kernel),
  List.forall_mem_cons.mpr ⟨k_alN (i := 0) (by decide +kernel) rfl,
  List.forall_mem_cons.mpr ⟨k_bipush (n := 8) (8) (by decide +kernel) (by decide),
  List.forall_mem_cons.mpr ⟨k_newa w_72 (by decide +kernel),
  List.forall_mem_cons.mpr ⟨k_pfF (j := 22) (T := TX8) tyX8 tyX8_ok nmX8 (okR_fitA .int) rfl inX8G (by decide) rfl rfl (by decide +kernel) w_638 (by decide +kernel),
  List.forall_mem_cons.mpr ⟨k_alN (i := 0) (by decide +kernel) rfl,
  List.forall_mem_cons.mpr ⟨k_bipush (n := 12) (12) (by decide +kernel) (by decide),
  List.forall_mem_cons.mpr ⟨k_newa w_72 (by decide +kernel),
  List.forall_mem_cons.mpr ⟨k_pfF (j := 23) (T := TX8) tyX8 tyX8_ok nmX8 (okR_fitA .int) rfl inX8G (by decide) rfl rfl (by decide +kernel) w_639 (by decide +kernel),
  List.forall_mem_cons.mpr ⟨k_alN (i := 0) (by decide +kernel) rfl,
  List.forall_mem_cons.mpr ⟨k_bipush (n := 40) (40) (by decide +kernel) (by decide),
  List.forall_mem_cons.mpr ⟨k_newa w_72 (by decide +kernel),
  List.forall_mem_cons.mpr ⟨k_pfF (j := 24) (T := TX8) tyX8 tyX8_ok nmX8 (okR_fitA .int) rfl inX8G (by decide) rfl rfl (by decide +kernel) w_640 (by decide +kernel),
  List.forall_mem_cons.mpr ⟨k_alN (i := 0) (by decide +kernel) rfl,
  List.forall_mem_cons.mpr ⟨k_iconst (n := -1) (-1) (by decide +kernel) (by decide),
  List.forall_mem_cons.mpr ⟨k_pf (j := 18) (T := TX8) tyX8 tyX8_ok nmX8 okI_fit rfl inX8G (by decide) rfl (by decide +kernel) w_634 (by decide +kernel),
  List.forall_mem_cons.mpr ⟨k_vret (by decide +kernel),
  fun _ h => absurd h List.not_mem_nil⟩⟩⟩⟩⟩⟩⟩⟩⟩⟩⟩⟩⟩⟩⟩⟩⟩⟩⟩⟩⟩⟩⟩⟩⟩⟩⟩⟩⟩⟩⟩⟩⟩⟩⟩⟩⟩⟩⟩⟩⟩⟩⟩⟩⟩⟩⟩⟩⟩⟩⟩⟩⟩⟩
def tb_87 : List (Nat × pO) := [(0, o_ll 0 1), (1, o_ll 2 2), (2, o_lcmp 3), (3, o_if (fun x => x < 0) 17 6), (6, o_ll 0 7), (7, o_ll 4 9), (9, o_lcmp 10), (10, o_if (fun x => 0 < x) 17 13), (13, o_const (.int (1)) 14), (14, o_goto 18), (17, o_const (.int (0)) 18), (18, o_zret)]
set_option maxRecDepth 20000 in
theorem tk_87 : ∀ q ∈ tb_87, okA noS mM (prog_10_method_2_code, "DuneMapsModel", 6, some .boolean, false) q.1 q.2 :=
  List.forall_mem_cons.mpr ⟨k_llN (i := 0) (by decide +kernel) rfl,
  List.forall_mem_cons.mpr ⟨k_llN (i := 2) (by decide +kernel) rfl,
  List.forall_mem_cons.mpr ⟨k_lcmp (by decide +kernel),
  List.forall_mem_cons.mpr ⟨k_if_lt (off := 14) (by decide +kernel) (by decide),
  List.forall_mem_cons.mpr ⟨k_llN (i := 0) (by decide +kernel) rfl,
  List.forall_mem_cons.mpr ⟨k_ll (by decide +kernel),
  List.forall_mem_cons.mpr ⟨k_lcmp (by decide +kernel),
  List.forall_mem_cons.mpr ⟨k_if_gt (off := 7) (by decide +kernel) (by decide),
  List.forall_mem_cons.mpr ⟨k_iconst (n := 1) (1) (by decide +kernel) (by decide),
  List.forall_mem_cons.mpr ⟨k_goto (off := 4) (by decide +kernel) (by decide),
  List.forall_mem_cons.mpr ⟨k_iconst (n := 0) (0) (by decide +kernel) (by decide),
  List.forall_mem_cons.mpr ⟨k_zret (by decide +kernel),
  fun _ h => absurd h List.not_mem_nil⟩⟩⟩⟩⟩⟩⟩⟩⟩⟩⟩⟩
def tb_88 : List (Nat × pO) := [(0, o_const (.int (0)) 1), (1, o_is 2 2), (2, o_il 2 3), (3, o_al 0 4), (4, o_len 5), (5, o_cmp (fun x y => y ≤ x) 20 8), (8, o_al 1 9), (9, o_il 2 10), (10, o_al 0 11), (11, o_il 2 12), (12, o_ia 13), (13, o_ist 14), (14, o_inc 2 (1) 17), (17, o_goto 2), (20, o_vret)]
set_option maxRecDepth 20000 in
theorem tk_88 : ∀ q ∈ tb_88, okA noS mM (prog_10_method_3_code, "DuneMapsModel", 3, none, false) q.1 q.2 :=
  List.forall_mem_cons.mpr ⟨k_iconst (n := 0) (0) (by decide +kernel) (by decide),
  List.forall_mem_cons.mpr ⟨k_isN (i := 2) (by decide +kernel) rfl,
  List.forall_mem_cons.mpr ⟨k_ilN (i := 2) (by decide +kernel) rfl,
  List.forall_mem_cons.mpr ⟨k_alN (i := 0) (by decide +kernel) rfl,
  List.forall_mem_cons.mpr ⟨k_len (by decide +kernel),
  List.forall_mem_cons.mpr ⟨k_icmp_ge (off := 15) (by decide +kernel) (by decide),
  List.forall_mem_cons.mpr ⟨k_alN (i := 1) (by decide +kernel) rfl,
  List.forall_mem_cons.mpr ⟨k_ilN (i := 2) (by decide +kernel) rfl,
  List.forall_mem_cons.mpr ⟨k_alN (i := 0) (by decide +kernel) rfl,
  List.forall_mem_cons.mpr ⟨k_ilN (i := 2) (by decide +kernel) rfl,
  List.forall_mem_cons.mpr ⟨k_ia (by decide +kernel),
  List.forall_mem_cons.mpr ⟨k_ist (by decide +kernel),
  List.forall_mem_cons.mpr ⟨k_inc (n := 1) (1) (by decide +kernel) (by decide),
  List.forall_mem_cons.mpr ⟨k_goto (off := -15) (by decide +kernel) (by decide),
  List.forall_mem_cons.mpr ⟨k_vret (by decide +kernel),
  fun _ h => absurd h List.not_mem_nil⟩⟩⟩⟩⟩⟩⟩⟩⟩⟩⟩⟩⟩⟩⟩
def tb_89 : List (Nat × pO) := [(0, o_il 1 1), (1, o_i2l 2), (2, o_const (.long (1)) 3), (3, o_const (.long (126)) 6), (6, o_call rc0 87 3 9), (9, o_if (fun x => ¬ x = 0) 15 12), (12, o_const (.int (-102)) 14), (14, o_iret), (15, o_al 0 16), (16, o_gf 8 1 19), (19, o_const (.int (12)) 21), (21, o_cmp (fun x y => ¬ x = y) 27 24), (24, o_const (.int (-104)) 26), (26, o_iret), (27, o_al 0 28), (28, o_gf 8 0 31), (31, o_al 0 32), (32, o_gf 8 1 35), (35, o_il 1 36), (36, o_ist 37), (37, o_al 0 38), (38, o_dup 39), (39, o_gf 8 1 42), (42, o_const (.int (1)) 43), (43, o_bin (fun x y => x + y) 44), (44, o_pf okI 8 1 47), (47, o_al 0 48), (48, o_gf 8 1 51), (51, o_iret)]
set_option maxRecDepth 20000 in
theorem tk_89 : ∀ q ∈ tb_89, okA noS mM (prog_10_method_4_code, "DuneMapsModel", 2, some .int, false) q.1 q.2 :=
  List.forall_mem_cons.mpr ⟨k_ilN (i := 1) (by decide +kernel) rfl,
  List.forall_mem_cons.mpr ⟨k_i2l (by decide +kernel),
  List.forall_mem_cons.mpr ⟨k_lconst (n := 1) (1) (by decide +kernel) (by decide),
  List.forall_mem_cons.mpr ⟨k_ldc2 w_699 (by decide +kernel),
  List.forall_mem_cons.mpr ⟨k_callS (y := 87) (n := 3) w_700 w_701 w_47 w_702 (by decide +kernel) (by decide) (by decide +kernel),
  List.forall_mem_cons.mpr ⟨k_if_ne (off := 6) (by decide +kernel) (by decide),
  List.forall_mem_cons.mpr ⟨k_bipush (n := -102) (-102) (by decide +kernel) (by decide),
  List.forall_mem_cons.mpr ⟨k_iret (by decide +kernel),
  List.forall_mem_cons.mpr ⟨k_alN (i := 0) (by decide +kernel) rfl,
  List.forall_mem_cons.mpr ⟨k_gf (j := 1) (T := TX8) rfl inX8G (by decide) w_617 (by decide +kernel),
  List.forall_mem_cons.mpr ⟨k_bipush (n := 12) (12) (by decide +kernel) (by decide),
  List.forall_mem_cons.mpr ⟨k_icmp_ne (off := 6) (by decide +kernel) (by decide),
  List.forall_mem_cons.mpr ⟨k_bipush (n := -104) (-104) (by decide +kernel) (by decide),
  List.forall_mem_cons.mpr ⟨k_iret (by decide +kernel),
  List.forall_mem_cons.mpr ⟨k_alN (i := 0) (by decide +kernel) rfl,
  List.forall_mem_cons.mpr ⟨k_gf (j := 0) (T := TX8) rfl inX8G (by decide) w_616 (by decide +kernel),
  List.forall_mem_cons.mpr ⟨k_alN (i := 0) (by decide +kernel) rfl,
  List.forall_mem_cons.mpr ⟨k_gf (j := 1) (T := TX8) rfl inX8G (by decide) w_617 (by decide +kernel),
  List.forall_mem_cons.mpr ⟨k_ilN (i := 1) (by decide +kernel) rfl,
  List.forall_mem_cons.mpr ⟨k_ist (by decide +kernel),
  List.forall_mem_cons.mpr ⟨k_alN (i := 0) (by decide +kernel) rfl,
  List.forall_mem_cons.mpr ⟨k_dup (by decide +kernel),
  List.forall_mem_cons.mpr ⟨k_gf (j := 1) (T := TX8) rfl inX8G (by decide) w_617 (by decide +kernel),
  List.forall_mem_cons.mpr ⟨k_iconst (n := 1) (1) (by decide +kernel) (by decide),
  List.forall_mem_cons.mpr ⟨k_iadd (by decide +kernel),
  List.forall_mem_cons.mpr ⟨k_pf (j := 1) (T := TX8) tyX8 tyX8_ok nmX8 okI_fit rfl inX8G (by decide) rfl (by decide +kernel) w_617 (by decide +kernel),
  List.forall_mem_cons.mpr ⟨k_alN (i := 0) (by decide +kernel) rfl,
  List.forall_mem_cons.mpr ⟨k_gf (j := 1) (T := TX8) rfl inX8G (by decide) w_617 (by decide +kernel),
  List.forall_mem_cons.mpr ⟨k_iret (by decide +kernel),
  fun _ h => absurd h List.not_mem_nil⟩⟩⟩⟩⟩⟩⟩⟩⟩⟩⟩⟩⟩⟩⟩⟩⟩⟩⟩⟩⟩⟩⟩⟩⟩⟩⟩⟩⟩
def tb_90 : List (Nat × pO) := [(0, o_al 0 1), (1, o_gf 8 1 4), (4, o_is 1 5), (5, o_al 0 6), (6, o_const (.int (0)) 7), (7, o_pf okI 8 1 10), (10, o_il 1 11), (11, o_iret)]
set_option maxRecDepth 20000 in
theorem tk_90 : ∀ q ∈ tb_90, okA noS mM (prog_10_method_5_code, "DuneMapsModel", 2, some .int, false) q.1 q.2 :=
  List.forall_mem_cons.mpr ⟨k_alN (i := 0) (by decide +kernel) rfl,
  List.forall_mem_cons.mpr ⟨k_gf (j := 1) (T := TX8) rfl inX8G (by decide) w_617 (by decide +kernel),
  List.forall_mem_cons.mpr ⟨k_isN (i := 1) (by decide +kernel) rfl,
  List.forall_mem_cons.mpr ⟨k_alN (i := 0) (by decide +kernel) rfl,
  List.forall_mem_cons.mpr ⟨k_iconst (n := 0) (0) (by decide +kernel) (by decide),
  List.forall_mem_cons.mpr ⟨k_pf (j := 1) (T := TX8) tyX8 tyX8_ok nmX8 okI_fit rfl inX8G (by decide) rfl (by decide +kernel) w_617 (by decide +kernel),
  List.forall_mem_cons.mpr ⟨k_ilN (i := 1) (by decide +kernel) rfl,
  List.forall_mem_cons.mpr ⟨k_iret (by decide +kernel),
  fun _ h => absurd h List.not_mem_nil⟩⟩⟩⟩⟩⟩⟩⟩
def tb_91 : List (Nat × pO) := [(0, o_const (.int (0)) 1), (1, o_is 2 2), (2, o_il 2 3), (3, o_al 0 4), (4, o_gf 8 1 7), (7, o_cmp (fun x y => y ≤ x) 41 10), (10, o_il 2 11), (11, o_const (.int (8)) 13), (13, o_cmp (fun x y => y ≤ x) 41 16), (16, o_al 0 17), (17, o_gf 8 0 20), (20, o_il 2 21), (21, o_ia 22), (22, o_i2l 23), (23, o_const (.long (48)) 26), (26, o_const (.long (57)) 29), (29, o_call rc0 87 3 32), (32, o_if (fun x => x = 0) 41 35), (35, o_inc 2 (1) 38), (38, o_goto 2), (41, o_il 1 42), (42, o_if (fun x => ¬ x = 0) 88 45), (45, o_il 2 46), (46, o_const (.int (8)) 48), (48, o_cmp (fun x y => ¬ x = y) 88 51), (51, o_al 0 52), (52, o_gf 8 1 55), (55, o_const (.int (8)) 57), (57, o_cmp (fun x y => x ≤ y) 88 60), (60, o_al 0 61), (61, o_gf 8 0 64), (64, o_const (.int (8)) 66), (66, o_ia 67), (67, o_const (.int (62)) 69), (69, o_cmp (fun x y => x = y) 84 72), (72, o_al 0 73), (73, o_gf 8 0 76), (76, o_const (.int (8)) 78), (78, o_ia 79), (79, o_const (.int (60)) 81), (81, o_cmp (fun x y => ¬ x = y) 88 84), (84, o_const (.int (1)) 85), (85, o_goto 89), (88, o_const (.int (0)) 89), (89, o_is 3 90), (90, o_il 3 91), (91, o_if (fun x => x = 0) 99 94), (94, o_const (.int (9)) 96), (96, o_goto 100), (99, o_il 2 100), (100, o_iret)]
set_option maxRecDepth 20000 in
theorem tk_91 : ∀ q ∈ tb_91, okA noS mM (prog_10_method_6_code, "DuneMapsModel", 4, some .int, false) q.1 q.2 :=
  List.forall_mem_cons.mpr ⟨k_iconst (n := 0) (0) (by decide +kernel) (by decide),
  List.forall_mem_cons.mpr ⟨k_isN (i := 2) (by decide +kernel) rfl,
  List.forall_mem_cons.mpr ⟨k_ilN (i := 2) (by decide +kernel) rfl,
  List.forall_mem_cons.mpr ⟨k_alN (i := 0) (by decide +kernel) rfl,
  List.forall_mem_cons.mpr ⟨k_gf (j := 1) (T := TX8) rfl inX8G (by decide) w_617 (by decide +kernel),
  List.forall_mem_cons.mpr ⟨k_icmp_ge (off := 34) (by decide +kernel) (by decide),
  List.forall_mem_cons.mpr ⟨k_ilN (i := 2) (by decide +kernel) rfl,
  List.forall_mem_cons.mpr ⟨k_bipush (n := 8) (8) (by decide +kernel) (by decide),
  List.forall_mem_cons.mpr ⟨k_icmp_ge (off := 28) (by decide +kernel) (by decide),
  List.forall_mem_cons.mpr ⟨k_alN (i := 0) (by decide +kernel) rfl,
  List.forall_mem_cons.mpr ⟨k_gf (j := 0) (T := TX8) rfl inX8G (by decide) w_616 (by decide +kernel),
  List.forall_mem_cons.mpr ⟨k_ilN (i := 2) (by decide +kernel) rfl,
  List.forall_mem_cons.mpr ⟨k_ia (by decide +kernel),
  List.forall_mem_cons.mpr ⟨k_i2l (by decide +kernel),
  List.forall_mem_cons.mpr ⟨k_ldc2 w_715 (by decide +kernel),
  List.forall_mem_cons.mpr ⟨k_ldc2 w_716 (by decide +kernel),
  List.forall_mem_cons.mpr ⟨k_callS (y := 87) (n := 3) w_700 w_701 w_47 w_702 (by decide +kernel) (by decide) (by decide +kernel),
  List.forall_mem_cons.mpr ⟨k_if_eq (off := 9) (by decide +kernel) (by decide),
  List.forall_mem_cons.mpr ⟨k_inc (n := 1) (1) (by decide +kernel) (by decide),
  List.forall_mem_cons.mpr ⟨k_goto (off := -36) (by decide +kernel) (by decide),
  List.forall_mem_cons.mpr ⟨k_ilN (i := 1) (by decide +kernel) rfl,
  List.forall_mem_cons.mpr ⟨k_if_ne (off := 46) (by decide +kernel) (by decide),
  List.forall_mem_cons.mpr ⟨k_ilN (i := 2) (by decide +kernel) rfl,
  List.forall_mem_cons.mpr ⟨k_bipush (n := 8) (8) (by decide +kernel) (by decide),
  List.forall_mem_cons.mpr ⟨k_icmp_ne (off := 40) (by decide +kernel) (by decide),
  List.forall_mem_cons.mpr ⟨k_alN (i := 0) (by decide +kernel) rfl,
  List.forall_mem_cons.mpr ⟨k_gf (j := 1) (T := TX8) rfl inX8G (by decide) w_617 (by decide +kernel),
  List.forall_mem_cons.mpr ⟨k_bipush (n := 8) (8) (by decide +kernel) (by decide),
  List.forall_mem_cons.mpr ⟨k_icmp_le (off := 31) (by decide +kernel) (by decide),
  List.forall_mem_cons.mpr ⟨k_alN (i := 0) (by decide +kernel) rfl,
  List.forall_mem_cons.mpr ⟨k_gf (j := 0) (T := TX8) rfl inX8G (by decide) w_616 (by decide +kernel),
  List.forall_mem_cons.mpr ⟨k_bipush (n := 8) (8) (by decide +kernel) (by decide),
  List.forall_mem_cons.mpr ⟨k_ia (by decide +kernel),
  List.forall_mem_cons.mpr ⟨k_bipush (n := 62) (62) (by decide +kernel) (by decide),
  List.forall_mem_cons.mpr ⟨k_icmp_eq (off := 15) (by decide +kernel) (by decide),
  List.forall_mem_cons.mpr ⟨k_alN (i := 0) (by decide +kernel) rfl,
  List.forall_mem_cons.mpr ⟨k_gf (j := 0) (T := TX8) rfl inX8G (by decide) w_616 (by decide +kernel),
  List.forall_mem_cons.mpr ⟨k_bipush (n := 8) (8) (by decide +kernel) (by decide),
  List.forall_mem_cons.mpr ⟨k_ia (by decide +kernel),
  List.forall_mem_cons.mpr ⟨k_bipush (n := 60) (60) (by decide +kernel) (by decide),
  List.forall_mem_cons.mpr ⟨k_icmp_ne (off := 7) (by decide +kernel) (by decide),
  List.forall_mem_cons.mpr ⟨k_iconst (n := 1) (1) (by decide +kernel) (by decide),
  List.forall_mem_cons.mpr ⟨k_goto (off := 4) (by decide +kernel) (by decide),
  List.forall_mem_cons.mpr ⟨k_iconst (n := 0) (0) (by decide +kernel) (by decide),
  List.forall_mem_cons.mpr ⟨k_isN (i := 3) (by decide +kernel) rfl,
  List.forall_mem_cons.mpr ⟨k_ilN (i := 3) (by decide +kernel) rfl,
  List.forall_mem_cons.mpr ⟨k_if_eq (off := 8) (by decide +kernel) (by decide),
  List.forall_mem_cons.mpr ⟨k_bipush (n := 9) (9) (by decide +kernel) (by decide),
  List.forall_mem_cons.mpr ⟨k_goto (off := 4) (by decide +kernel) (by decide),
  List.forall_mem_cons.mpr ⟨k_ilN (i := 2) (by decide +kernel) rfl,
  List.forall_mem_cons.mpr ⟨k_iret (by decide +kernel),
  fun _ h => absurd h List.not_mem_nil⟩⟩⟩⟩⟩⟩⟩⟩⟩⟩⟩⟩⟩⟩⟩⟩⟩⟩⟩⟩⟩⟩⟩⟩⟩⟩⟩⟩⟩⟩⟩⟩⟩⟩⟩⟩⟩⟩⟩⟩⟩⟩⟩⟩⟩⟩⟩⟩⟩⟩⟩
def tb_92 : List (Nat × pO) := [(0, o_il 1 1), (1, o_i2l 2), (2, o_const (.long (0)) 3), (3, o_const (.long (1)) 4), (4, o_call rc0 87 3 7), (7, o_if (fun x => x = 0) 18 10), (10, o_al 0 11), (11, o_il 1 12), (12, o_call (rcV 8) 91 2 15), (15, o_goto 20), (18, o_const (.int (-102)) 20), (20, o_iret)]
set_option maxRecDepth 20000 in
theorem tk_92 : ∀ q ∈ tb_92, okA noS mM (prog_10_method_7_code, "DuneMapsModel", 2, some .int, false) q.1 q.2 :=
  List.forall_mem_cons.mpr ⟨k_ilN (i := 1) (by decide +kernel) rfl,
  List.forall_mem_cons.mpr ⟨k_i2l (by decide +kernel),
  List.forall_mem_cons.mpr ⟨k_lconst (n := 0) (0) (by decide +kernel) (by decide),
  List.forall_mem_cons.mpr ⟨k_lconst (n := 1) (1) (by decide +kernel) (by decide),
  List.forall_mem_cons.mpr ⟨k_callS (y := 87) (n := 3) w_700 w_701 w_47 w_702 (by decide +kernel) (by decide) (by decide +kernel),
  List.forall_mem_cons.mpr ⟨k_if_eq (off := 11) (by decide +kernel) (by decide),
  List.forall_mem_cons.mpr ⟨k_alN (i := 0) (by decide +kernel) rfl,
  List.forall_mem_cons.mpr ⟨k_ilN (i := 1) (by decide +kernel) rfl,
  List.forall_mem_cons.mpr ⟨k_callV (y := 91) (n := 1) (ci := 8) rfl w_711 w_713 w_10 w_47 w_714 (by decide +kernel) (by decide) (by decide +kernel),
  List.forall_mem_cons.mpr ⟨k_goto (off := 5) (by decide +kernel) (by decide),
  List.forall_mem_cons.mpr ⟨k_bipush (n := -102) (-102) (by decide +kernel) (by decide),
  List.forall_mem_cons.mpr ⟨k_iret (by decide +kernel),
  fun _ h => absurd h List.not_mem_nil⟩⟩⟩⟩⟩⟩⟩⟩⟩⟩⟩⟩
def tb_93 : List (Nat × pO) := [(0, o_const (.int (0)) 1), (1, o_is 1 2), (2, o_const (.int (0)) 3), (3, o_is 2 4), (4, o_il 2 5), (5, o_const (.int (8)) 7), (7, o_cmp (fun x y => y ≤ x) 22 10), (10, o_il 1 11), (11, o_al 0 12), (12, o_il 2 13), (13, o_ia 14), (14, o_bin (fun x y => x + y) 15), (15, o_is 1 16), (16, o_inc 2 (1) 19), (19, o_goto 4), (22, o_il 1 23), (23, o_iret)]
set_option maxRecDepth 20000 in
theorem tk_93 : ∀ q ∈ tb_93, okA noS mM (prog_10_method_8_code, "DuneMapsModel", 3, some .int, false) q.1 q.2 :=
  List.forall_mem_cons.mpr ⟨k_iconst (n := 0) (0) (by decide +kernel) (by decide),
  List.forall_mem_cons.mpr ⟨k_isN (i := 1) (by decide +kernel) rfl,
  List.forall_mem_cons.mpr ⟨k_iconst (n := 0) (0) (by decide +kernel) (by decide),
  List.forall_mem_cons.mpr ⟨k_isN (i := 2) (by decide +kernel) rfl,
  List.forall_mem_cons.mpr ⟨k_ilN (i := 2) (by decide +kernel) rfl,
  List.forall_mem_cons.mpr ⟨k_bipush (n := 8) (8) (by decide +kernel) (by decide),
  List.forall_mem_cons.mpr ⟨k_icmp_ge (off := 15) (by decide +kernel) (by decide),
  List.forall_mem_cons.mpr ⟨k_ilN (i := 1) (by decide +kernel) rfl,
  List.forall_mem_cons.mpr ⟨k_alN (i := 0) (by decide +kernel) rfl,
  List.forall_mem_cons.mpr ⟨k_ilN (i := 2) (by decide +kernel) rfl,
  List.forall_mem_cons.mpr ⟨k_ia (by decide +kernel),
  List.forall_mem_cons.mpr ⟨k_iadd (by decide +kernel),
  List.forall_mem_cons.mpr ⟨k_isN (i := 1) (by decide +kernel) rfl,
  List.forall_mem_cons.mpr ⟨k_inc (n := 1) (1) (by decide +kernel) (by decide),
  List.forall_mem_cons.mpr ⟨k_goto (off := -15) (by decide +kernel) (by decide),
  List.forall_mem_cons.mpr ⟨k_ilN (i := 1) (by decide +kernel) rfl,
  List.forall_mem_cons.mpr ⟨k_iret (by decide +kernel),
  fun _ h => absurd h List.not_mem_nil⟩⟩⟩⟩⟩⟩⟩⟩⟩⟩⟩⟩⟩⟩⟩⟩⟩
def tb_94 : List (Nat × pO) := [(0, o_al 0 1), (1, o_gf 8 1 4), (4, o_const (.int (9)) 6), (6, o_cmp (fun x y => ¬ x = y) 19 9), (9, o_al 0 10), (10, o_const (.int (0)) 11), (11, o_call (rcV 8) 91 2 14), (14, o_const (.int (9)) 16), (16, o_cmp (fun x y => y ≤ x) 22 19), (19, o_const (.int (-103)) 21), (21, o_iret), (22, o_const (.int (0)) 23), (23, o_is 1 24), (24, o_il 1 25), (25, o_const (.int (8)) 27), (27, o_cmp (fun x y => y ≤ x) 51 30), (30, o_al 0 31), (31, o_gf 8 6 34), (34, o_il 1 35), (35, o_al 0 36), (36, o_gf 8 0 39), (39, o_il 1 40), (40, o_ia 41), (41, o_const (.int (48)) 43), (43, o_bin (fun x y => x - y) 44), (44, o_ist 45), (45, o_inc 1 (1) 48), (48, o_goto 24), (51, o_al 0 52), (52, o_al 0 53), (53, o_gf 8 0 56), (56, o_const (.int (8)) 58), (58, o_ia 59), (59, o_const (.int (62)) 61), (61, o_cmp (fun x y => ¬ x = y) 68 64), (64, o_const (.int (1)) 65), (65, o_goto 69), (68, o_const (.int (0)) 69), (69, o_pf okI 8 3 72), (72, o_al 0 73), (73, o_const (.int (1)) 74), (74, o_pf okZ 8 2 77), (77, o_al 0 78), (78, o_const (.int (0)) 79), (79, o_pf okI 8 4 82), (82, o_al 0 83), (83, o_const (.int (0)) 84), (84, o_pf okI 8 9 87), (87, o_al 0 88), (88, o_const (.int (0)) 89), (89, o_pf okZ 8 7 92), (92, o_al 0 93), (93, o_dup 94), (94, o_gf 8 5 97), (97, o_const (.int (1)) 98), (98, o_bin (fun x y => x + y) 99), (99, o_pf okI 8 5 102), (102, o_al 0 103), (103, o_const (.int (0)) 104), (104, o_pf okI 8 1 107), (107, o_al 0 108), (108, o_gf 8 6 111), (111, o_call rc0 93 1 114), (114, o_iret)]
set_option maxRecDepth 20000 in
theorem tk_94 : ∀ q ∈ tb_94, okA noS mM (prog_10_method_9_code, "DuneMapsModel", 2, some .int, false) q.1 q.2 :=
  List.forall_mem_cons.mpr ⟨k_alN (i := 0) (by decide +kernel) rfl,
  List.forall_mem_cons.mpr ⟨k_gf (j := 1) (T := TX8) rfl inX8G (by decide) w_617 (by decide +kernel),
  List.forall_mem_cons.mpr ⟨k_bipush (n := 9) (9) (by decide +kernel) (by decide),
  List.forall_mem_cons.mpr ⟨k_icmp_ne (off := 13) (by decide +kernel) (by decide),
  List.forall_mem_cons.mpr ⟨k_alN (i := 0) (by decide +kernel) rfl,
  List.forall_mem_cons.mpr ⟨k_iconst (n := 0) (0) (by decide +kernel) (by decide),
  List.forall_mem_cons.mpr ⟨k_callV (y := 91) (n := 1) (ci := 8) rfl w_711 w_713 w_10 w_47 w_714 (by decide +kernel) (by decide) (by decide +kernel),
  List.forall_mem_cons.mpr ⟨k_bipush (n := 9) (9) (by decide +kernel) (by decide),
  List.forall_mem_cons.mpr ⟨k_icmp_ge (off := 6) (by decide +kernel) (by decide),
  List.forall_mem_cons.mpr ⟨k_bipush (n := -103) (-103) (by decide +kernel) (by decide),
  List.forall_mem_cons.mpr ⟨k_iret (by decide +kernel),
  List.forall_mem_cons.mpr ⟨k_iconst (n := 0) (0) (by decide +kernel) (by decide),
  List.forall_mem_cons.mpr ⟨k_isN (i := 1) (by decide +kernel) rfl,
  List.forall_mem_cons.mpr ⟨k_ilN (i := 1) (by decide +kernel) rfl,
  List.forall_mem_cons.mpr ⟨k_bipush (n := 8) (8) (by decide +kernel) (by decide),
  List.forall_mem_cons.mpr ⟨k_icmp_ge (off := 24) (by decide +kernel) (by decide),
  List.forall_mem_cons.mpr ⟨k_alN (i := 0) (by decide +kernel) rfl,
  List.forall_mem_cons.mpr ⟨k_gf (j := 6) (T := TX8) rfl inX8G (by decide) w_622 (by decide +kernel),
  List.forall_mem_cons.mpr ⟨k_ilN (i := 1) (by decide +kernel) rfl,
  List.forall_mem_cons.mpr ⟨k_alN (i := 0) (by decide +kernel) rfl,
  List.forall_mem_cons.mpr ⟨k_gf (j := 0) (T := TX8) rfl inX8G (by decide) w_616 (by decide +kernel),
  List.forall_mem_cons.mpr ⟨k_ilN (i := 1) (by decide +kernel) rfl,
  List.forall_mem_cons.mpr ⟨k_ia (by decide +kernel),
  List.forall_mem_cons.mpr ⟨k_bipush (n := 48) (48) (by decide +kernel) (by decide),
  List.forall_mem_cons.mpr ⟨k_isub (by decide +kernel),
  List.forall_mem_cons.mpr ⟨k_ist (by decide +kernel),
  List.forall_mem_cons.mpr ⟨k_inc (n := 1) (1) (by decide +kernel) (by decide),
  List.forall_mem_cons.mpr ⟨k_goto (off := -24) (by decide +kernel) (by decide),
  List.forall_mem_cons.mpr ⟨k_alN (i := 0) (by decide +kernel) rfl,
  List.forall_mem_cons.mpr ⟨k_alN (i := 0) (by decide +kernel) rfl,
  List.forall_mem_cons.mpr ⟨k_gf (j := 0) (T := TX8) rfl inX8G (by decide) w_616 (by decide +kernel),
  List.forall_mem_cons.mpr ⟨k_bipush (n := 8) (8) (by decide +kernel) (by decide),
  List.forall_mem_cons.mpr ⟨k_ia (by decide +kernel),
  List.forall_mem_cons.mpr ⟨k_bipush (n := 62) (62) (by decide +kernel) (by decide),
  List.forall_mem_cons.mpr ⟨k_icmp_ne (off := 7) (by decide +kernel) (by decide),
  List.forall_mem_cons.mpr ⟨k_iconst (n := 1) (1) (by decide +kernel) (by decide),
  List.forall_mem_cons.mpr ⟨k_goto (off := 4) (by decide +kernel) (by decide),
  List.forall_mem_cons.mpr ⟨k_iconst (n := 0) (0) (by decide +kernel) (by decide),
  List.forall_mem_cons.mpr ⟨k_pf (j := 3) (T := TX8) tyX8 tyX8_ok nmX8 okI_fit rfl inX8G (by decide) rfl (by decide +kernel) w_619 (by decide +kernel),
  List.forall_mem_cons.mpr ⟨k_alN (i := 0) (by decide +kernel) rfl,
  List.forall_mem_cons.mpr ⟨k_iconst (n := 1) (1) (by decide +kernel) (by decide),
  List.forall_mem_cons.mpr ⟨k_pf (j := 2) (T := TX8) tyX8 tyX8_ok nmX8 okZ_fit rfl inX8G (by decide) rfl (by decide +kernel) w_618 (by decide +kernel),
  List.forall_mem_cons.mpr ⟨k_alN (i := 0) (by decide +kernel) rfl,
  List.forall_mem_cons.mpr ⟨k_iconst (n := 0) (0) (by decide +kernel) (by decide),
  List.forall_mem_cons.mpr ⟨k_pf (j := 4) (T := TX8) tyX8 tyX8_ok nmX8 okI_fit rfl inX8G (by decide) rfl (by decide +kernel) w_620 (by decide +kernel),
  List.forall_mem_cons.mpr ⟨k_alN (i := 0) (by decide +kernel) rfl,
  List.forall_mem_cons.mpr ⟨k_iconst (n := 0) (0) (by decide +kernel) (by decide),
  List.forall_mem_cons.mpr ⟨k_pf (j := 9) (T := TX8) tyX8 tyX8_ok nmX8 okI_fit rfl inX8G (by decide) rfl (by decide +kernel) w_625 (by decide +kernel),
  List.forall_mem_cons.mpr ⟨k_alN (i := 0) (by decide +kernel) rfl,
  List.forall_mem_cons.mpr ⟨k_iconst (n := 0) (0) (by decide +kernel) (by decide),
  List.forall_mem_cons.mpr ⟨k_pf (j := 7) (T := TX8) tyX8 tyX8_ok nmX8 okZ_fit rfl inX8G (by decide) rfl (by decide +kernel) w_623 (by decide +kernel),
  List.forall_mem_cons.mpr ⟨k_alN (i := 0) (by decide +kernel) rfl,
  List.forall_mem_cons.mpr ⟨k_dup (by decide +kernel),
  List.forall_mem_cons.mpr ⟨k_gf (j := 5) (T := TX8) rfl inX8G (by decide) w_621 (by decide +kernel),
  List.forall_mem_cons.mpr ⟨k_iconst (n := 1) (1) (by decide +kernel) (by decide),
  List.forall_mem_cons.mpr ⟨k_iadd (by decide +kernel),
  List.forall_mem_cons.mpr ⟨k_pf (j := 5) (T := TX8) tyX8 tyX8_ok nmX8 okI_fit rfl inX8G (by decide) rfl (by decide +kernel) w_621 (by decide +kernel),
  List.forall_mem_cons.mpr ⟨k_alN (i := 0) (by decide +kernel) rfl,
  List.forall_mem_cons.mpr ⟨k_iconst (n := 0) (0) (by decide +kernel) (by decide),
  List.forall_mem_cons.mpr ⟨k_pf (j := 1) (T := TX8) tyX8 tyX8_ok nmX8 okI_fit rfl inX8G (by decide) rfl (by decide +kernel) w_617 (by decide +kernel),
  List.forall_mem_cons.mpr ⟨k_alN (i := 0) (by decide +kernel) rfl,
  List.forall_mem_cons.mpr ⟨k_gf (j := 6) (T := TX8) rfl inX8G (by decide) w_622 (by decide +kernel),
  List.forall_mem_cons.mpr ⟨k_callS (y := 93) (n := 1) w_721 w_722 w_47 w_723 (by decide +kernel) (by decide) (by decide +kernel),
  List.forall_mem_cons.mpr ⟨k_iret (by decide +kernel),
  fun _ h => absurd h List.not_mem_nil⟩⟩⟩⟩⟩⟩⟩⟩⟩⟩⟩⟩⟩⟩⟩⟩⟩⟩⟩⟩⟩⟩⟩⟩⟩⟩⟩⟩⟩⟩⟩⟩⟩⟩⟩⟩⟩⟩⟩⟩⟩⟩⟩⟩⟩⟩⟩⟩⟩⟩⟩⟩⟩⟩⟩⟩⟩⟩⟩⟩⟩⟩⟩⟩
def tb_95 : List (Nat × pO) := [(0, o_al 0 1), (1, o_gf 8 2 4), (4, o_if (fun x => x = 0) 23 7), (7, o_il 1 8), (8, o_i2l 9), (9, o_const (.long (0)) 10), (10, o_const (.long (7)) 13), (13, o_call rc0 87 3 16), (16, o_if (fun x => x = 0) 23 19), (19, o_const (.int (1)) 20), (20, o_goto 24), (23, o_const (.int (0)) 24), (24, o_zret)]
set_option maxRecDepth 20000 in
theorem tk_95 : ∀ q ∈ tb_95, okA noS mM (prog_10_method_10_code, "DuneMapsModel", 2, some .boolean, false) q.1 q.2 :=
  List.forall_mem_cons.mpr ⟨k_alN (i := 0) (by decide +kernel) rfl,
  List.forall_mem_cons.mpr ⟨k_gf (j := 2) (T := TX8) rfl inX8G (by decide) w_618 (by decide +kernel),
  List.forall_mem_cons.mpr ⟨k_if_eq (off := 19) (by decide +kernel) (by decide),
  List.forall_mem_cons.mpr ⟨k_ilN (i := 1) (by decide +kernel) rfl,
  List.forall_mem_cons.mpr ⟨k_i2l (by decide +kernel),
  List.forall_mem_cons.mpr ⟨k_lconst (n := 0) (0) (by decide +kernel) (by decide),
  List.forall_mem_cons.mpr ⟨k_ldc2 w_732 (by decide +kernel),
  List.forall_mem_cons.mpr ⟨k_callS (y := 87) (n := 3) w_700 w_701 w_47 w_702 (by decide +kernel) (by decide) (by decide +kernel),
  List.forall_mem_cons.mpr ⟨k_if_eq (off := 7) (by decide +kernel) (by decide),
  List.forall_mem_cons.mpr ⟨k_iconst (n := 1) (1) (by decide +kernel) (by decide),
  List.forall_mem_cons.mpr ⟨k_goto (off := 4) (by decide +kernel) (by decide),
  List.forall_mem_cons.mpr ⟨k_iconst (n := 0) (0) (by decide +kernel) (by decide),
  List.forall_mem_cons.mpr ⟨k_zret (by decide +kernel),
  fun _ h => absurd h List.not_mem_nil⟩⟩⟩⟩⟩⟩⟩⟩⟩⟩⟩⟩⟩
def tb_96 : List (Nat × pO) := [(0, o_al 0 1), (1, o_il 1 2), (2, o_const (.int (1)) 3), (3, o_bin (fun x y => x + y) 4), (4, o_const (.int (8)) 6), (6, o_binz (fun x y => x - x / y * y) 7), (7, o_ia 8), (8, o_is 2 9), (9, o_al 0 10), (10, o_il 1 11), (11, o_const (.int (7)) 13), (13, o_bin (fun x y => x + y) 14), (14, o_const (.int (8)) 16), (16, o_binz (fun x y => x - x / y * y) 17), (17, o_ia 18), (18, o_is 3 19), (19, o_al 0 20), (20, o_il 1 21), (21, o_ia 22), (22, o_il 2 23), (23, o_cmp (fun x y => x ≤ y) 37 26), (26, o_al 0 27), (27, o_il 1 28), (28, o_ia 29), (29, o_il 3 30), (30, o_cmp (fun x y => x ≤ y) 37 33), (33, o_const (.int (1)) 34), (34, o_goto 56), (37, o_al 0 38), (38, o_il 1 39), (39, o_ia 40), (40, o_il 2 41), (41, o_cmp (fun x y => y ≤ x) 55 44), (44, o_al 0 45), (45, o_il 1 46), (46, o_ia 47), (47, o_il 3 48), (48, o_cmp (fun x y => y ≤ x) 55 51), (51, o_const (.int (2)) 52), (52, o_goto 56), (55, o_const (.int (0)) 56), (56, o_iret)]
set_option maxRecDepth 20000 in
theorem tk_96 : ∀ q ∈ tb_96, okA noS mM (prog_10_method_11_code, "DuneMapsModel", 4, some .int, false) q.1 q.2 :=
  List.forall_mem_cons.mpr ⟨k_alN (i := 0) (by decide +kernel) rfl,
  List.forall_mem_cons.mpr ⟨k_ilN (i := 1) (by decide +kernel) rfl,
  List.forall_mem_cons.mpr ⟨k_iconst (n := 1) (1) (by decide +kernel) (by decide),
  List.forall_mem_cons.mpr ⟨k_iadd (by decide +kernel),
  List.forall_mem_cons.mpr ⟨k_bipush (n := 8) (8) (by decide +kernel) (by decide),
  List.forall_mem_cons.mpr ⟨k_irem (by decide +kernel),
  List.forall_mem_cons.mpr ⟨k_ia (by decide +kernel),
  List.forall_mem_cons.mpr ⟨k_isN (i := 2) (by decide +kernel) rfl,
  List.forall_mem_cons.mpr ⟨k_alN (i := 0) (by decide +kernel) rfl,
  List.forall_mem_cons.mpr ⟨k_ilN (i := 1) (by decide +kernel) rfl,
  List.forall_mem_cons.mpr ⟨k_bipush (n := 7) (7) (by decide +kernel) (by decide),
  List.forall_mem_cons.mpr ⟨k_iadd (by decide +kernel),
  List.forall_mem_cons.mpr ⟨k_bipush (n := 8) (8) (by decide +kernel) (by decide),
  List.forall_mem_cons.mpr ⟨k_irem (by decide +kernel),
  List.forall_mem_cons.mpr ⟨k_ia (by decide +kernel),
  List.forall_mem_cons.mpr ⟨k_isN (i := 3) (by decide +kernel) rfl,
  List.forall_mem_cons.mpr ⟨k_alN (i := 0) (by decide +kernel) rfl,
  List.forall_mem_cons.mpr ⟨k_ilN (i := 1) (by decide +kernel) rfl,
  List.forall_mem_cons.mpr ⟨k_ia (by decide +kernel),
  List.forall_mem_cons.mpr ⟨k_ilN (i := 2) (by decide +kernel) rfl,
  List.forall_mem_cons.mpr ⟨k_icmp_le (off := 14) (by decide +kernel) (by decide),
  List.forall_mem_cons.mpr ⟨k_alN (i := 0) (by decide +kernel) rfl,
  List.forall_mem_cons.mpr ⟨k_ilN (i := 1) (by decide +kernel) rfl,
  List.forall_mem_cons.mpr ⟨k_ia (by decide +kernel),
  List.forall_mem_cons.mpr ⟨k_ilN (i := 3) (by decide +kernel) rfl,
  List.forall_mem_cons.mpr ⟨k_icmp_le (off := 7) (by decide +kernel) (by decide),
  List.forall_mem_cons.mpr ⟨k_iconst (n := 1) (1) (by decide +kernel) (by decide),
  List.forall_mem_cons.mpr ⟨k_goto (off := 22) (by decide +kernel) (by decide),
  List.forall_mem_cons.mpr ⟨k_alN (i := 0) (by decide +kernel) rfl,
  List.forall_mem_cons.mpr ⟨k_ilN (i := 1) (by decide +kernel) rfl,
  List.forall_mem_cons.mpr ⟨k_ia (by decide +kernel),
  List.forall_mem_cons.mpr ⟨k_ilN (i := 2) (by decide +kernel) rfl,
  List.forall_mem_cons.mpr ⟨k_icmp_ge (off := 14) (by decide +kernel) (by decide),
  List.forall_mem_cons.mpr ⟨k_alN (i := 0) (by decide +kernel) rfl,
  List.forall_mem_cons.mpr ⟨k_ilN (i := 1) (by decide +kernel) rfl,
  List.forall_mem_cons.mpr ⟨k_ia (by decide +kernel),
  List.forall_mem_cons.mpr ⟨k_ilN (i := 3) (by decide +kernel) rfl,
  List.forall_mem_cons.mpr ⟨k_icmp_ge (off := 7) (by decide +kernel) (by decide),
  List.forall_mem_cons.mpr ⟨k_iconst (n := 2) (2) (by decide +kernel) (by decide),
  List.forall_mem_cons.mpr ⟨k_goto (off := 4) (by decide +kernel) (by decide),
  List.forall_mem_cons.mpr ⟨k_iconst (n := 0) (0) (by decide +kernel) (by decide),
  List.forall_mem_cons.mpr ⟨k_iret (by decide +kernel),
  fun _ h => absurd h List.not_mem_nil⟩⟩⟩⟩⟩⟩⟩⟩⟩⟩⟩⟩⟩⟩⟩⟩⟩⟩⟩⟩⟩⟩⟩⟩⟩⟩⟩⟩⟩⟩⟩⟩⟩⟩⟩⟩⟩⟩⟩⟩⟩⟩
def tb_97 : List (Nat × pO) := [(0, o_al 0 1), (1, o_gf 8 3 4), (4, o_const (.int (1)) 5), (5, o_cmp (fun x y => ¬ x = y) 17 8), (8, o_il 1 9), (9, o_const (.int (1)) 10), (10, o_bin (fun x y => x + y) 11), (11, o_const (.int (8)) 13), (13, o_binz (fun x y => x - x / y * y) 14), (14, o_goto 24), (17, o_il 1 18), (18, o_const (.int (7)) 20), (20, o_bin (fun x y => x + y) 21), (21, o_const (.int (8)) 23), (23, o_binz (fun x y => x - x / y * y) 24), (24, o_iret)]
set_option maxRecDepth 20000 in
theorem tk_97 : ∀ q ∈ tb_97, okA noS mM (prog_10_method_12_code, "DuneMapsModel", 2, some .int, false) q.1 q.2 :=
  List.forall_mem_cons.mpr ⟨k_alN (i := 0) (by decide +kernel) rfl,
  List.forall_mem_cons.mpr ⟨k_gf (j := 3) (T := TX8) rfl inX8G (by decide) w_619 (by decide +kernel),
  List.forall_mem_cons.mpr ⟨k_iconst (n := 1) (1) (by decide +kernel) (by decide),
  List.forall_mem_cons.mpr ⟨k_icmp_ne (off := 12) (by decide +kernel) (by decide),
  List.forall_mem_cons.mpr ⟨k_ilN (i := 1) (by decide +kernel) rfl,
  List.forall_mem_cons.mpr ⟨k_iconst (n := 1) (1) (by decide +kernel) (by decide),
  List.forall_mem_cons.mpr ⟨k_iadd (by decide +kernel),
  List.forall_mem_cons.mpr ⟨k_bipush (n := 8) (8) (by decide +kernel) (by decide),
  List.forall_mem_cons.mpr ⟨k_irem (by decide +kernel),
  List.forall_mem_cons.mpr ⟨k_goto (off := 10) (by decide +kernel) (by decide),
  List.forall_mem_cons.mpr ⟨k_ilN (i := 1) (by decide +kernel) rfl,
  List.forall_mem_cons.mpr ⟨k_bipush (n := 7) (7) (by decide +kernel) (by decide),
  List.forall_mem_cons.mpr ⟨k_iadd (by decide +kernel),
  List.forall_mem_cons.mpr ⟨k_bipush (n := 8) (8) (by decide +kernel) (by decide),
  List.forall_mem_cons.mpr ⟨k_irem (by decide +kernel),
  List.forall_mem_cons.mpr ⟨k_iret (by decide +kernel),
  fun _ h => absurd h List.not_mem_nil⟩⟩⟩⟩⟩⟩⟩⟩⟩⟩⟩⟩⟩⟩⟩⟩
def tb_98 : List (Nat × pO) := [(0, o_al 0 1), (1, o_gf 8 3 4), (4, o_const (.int (1)) 5), (5, o_cmp (fun x y => ¬ x = y) 18 8), (8, o_il 1 9), (9, o_const (.int (7)) 11), (11, o_bin (fun x y => x + y) 12), (12, o_const (.int (8)) 14), (14, o_binz (fun x y => x - x / y * y) 15), (15, o_goto 24), (18, o_il 1 19), (19, o_const (.int (1)) 20), (20, o_bin (fun x y => x + y) 21), (21, o_const (.int (8)) 23), (23, o_binz (fun x y => x - x / y * y) 24), (24, o_iret)]
set_option maxRecDepth 20000 in
theorem tk_98 : ∀ q ∈ tb_98, okA noS mM (prog_10_method_13_code, "DuneMapsModel", 2, some .int, false) q.1 q.2 :=
  List.forall_mem_cons.mpr ⟨k_alN (i := 0) (by decide +kernel) rfl,
  List.forall_mem_cons.mpr ⟨k_gf (j := 3) (T := TX8) rfl inX8G (by decide) w_619 (by decide +kernel),
  List.forall_mem_cons.mpr ⟨k_iconst (n := 1) (1) (by decide +kernel) (by decide),
  List.forall_mem_cons.mpr ⟨k_icmp_ne (off := 13) (by decide +kernel) (by decide),
  List.forall_mem_cons.mpr ⟨k_ilN (i := 1) (by decide +kernel) rfl,
  List.forall_mem_cons.mpr ⟨k_bipush (n := 7) (7) (by decide +kernel) (by decide),
  List.forall_mem_cons.mpr ⟨k_iadd (by decide +kernel),
  List.forall_mem_cons.mpr ⟨k_bipush (n := 8) (8) (by decide +kernel) (by decide),
  List.forall_mem_cons.mpr ⟨k_irem (by decide +kernel),
  List.forall_mem_cons.mpr ⟨k_goto (off := 9) (by decide +kernel) (by decide),
  List.forall_mem_cons.mpr ⟨k_ilN (i := 1) (by decide +kernel) rfl,
  List.forall_mem_cons.mpr ⟨k_iconst (n := 1) (1) (by decide +kernel) (by decide),
  List.forall_mem_cons.mpr ⟨k_iadd (by decide +kernel),
  List.forall_mem_cons.mpr ⟨k_bipush (n := 8) (8) (by decide +kernel) (by decide),
  List.forall_mem_cons.mpr ⟨k_irem (by decide +kernel),
  List.forall_mem_cons.mpr ⟨k_iret (by decide +kernel),
  fun _ h => absurd h List.not_mem_nil⟩⟩⟩⟩⟩⟩⟩⟩⟩⟩⟩⟩⟩⟩⟩⟩
end
section
def tb_99 : List (Nat × pO) := [(0, o_const (.int (0)) 1), (1, o_is 2 2), (2, o_const (.int (0)) 3), (3, o_is 3 4), (4, o_il 3 5), (5, o_al 0 6), (6, o_gf 8 9 9), (9, o_cmp (fun x y => y ≤ x) 40 12), (12, o_il 2 13), (13, o_al 0 14), (14, o_gf 8 10 17), (17, o_const (.int (3)) 18), (18, o_il 3 19), (19, o_bin (fun x y => x * y) 20), (20, o_const (.int (1)) 21), (21, o_bin (fun x y => x + y) 22), (22, o_ia 23), (23, o_il 1 24), (24, o_cmp (fun x y => ¬ x = y) 31 27), (27, o_const (.int (1)) 28), (28, o_goto 32), (31, o_const (.int (0)) 32), (32, o_bin (fun x y => x + y) 33), (33, o_is 2 34), (34, o_inc 3 (1) 37), (37, o_goto 4), (40, o_il 2 41), (41, o_iret)]
set_option maxRecDepth 20000 in
theorem tk_99 : ∀ q ∈ tb_99, okA noS mM (prog_10_method_14_code, "DuneMapsModel", 4, some .int, false) q.1 q.2 :=
  List.forall_mem_cons.mpr ⟨k_iconst (n := 0) (0) (by decide +kernel) (by decide),
  List.forall_mem_cons.mpr ⟨k_isN (i := 2) (by decide +kernel) rfl,
  List.forall_mem_cons.mpr ⟨k_iconst (n := 0) (0) (by decide +kernel) (by decide),
  List.forall_mem_cons.mpr ⟨k_isN (i := 3) (by decide +kernel) rfl,
  List.forall_mem_cons.mpr ⟨k_ilN (i := 3) (by decide +kernel) rfl,
  List.forall_mem_cons.mpr ⟨k_alN (i := 0) (by decide +kernel) rfl,
  List.forall_mem_cons.mpr ⟨k_gf (j := 9) (T := TX8) rfl inX8G (by decide) w_625 (by decide +kernel),
  List.forall_mem_cons.mpr ⟨k_icmp_ge (off := 31) (by decide +kernel) (by decide),
  List.forall_mem_cons.mpr ⟨k_ilN (i := 2) (by decide +kernel) rfl,
  List.forall_mem_cons.mpr ⟨k_alN (i := 0) (by decide +kernel) rfl,
  List.forall_mem_cons.mpr ⟨k_gf (j := 10) (T := TX8) rfl inX8G (by decide) w_626 (by decide +kernel),
  List.forall_mem_cons.mpr ⟨k_iconst (n := 3) (3) (by decide +kernel) (by decide),
  List.forall_mem_cons.mpr ⟨k_ilN (i := 3) (by decide +kernel) rfl,
  List.forall_mem_cons.mpr ⟨k_imul (by decide +kernel),
  List.forall_mem_cons.mpr ⟨k_iconst (n := 1) (1) (by decide +kernel) (by decide),
  List.forall_mem_cons.mpr ⟨k_iadd (by decide +kernel),
  List.forall_mem_cons.mpr ⟨k_ia (by decide +kernel),
  List.forall_mem_cons.mpr ⟨k_ilN (i := 1) (by decide +kernel) rfl,
  List.forall_mem_cons.mpr ⟨k_icmp_ne (off := 7) (by decide +kernel) (by decide),
  List.forall_mem_cons.mpr ⟨k_iconst (n := 1) (1) (by decide +kernel) (by decide),
  List.forall_mem_cons.mpr ⟨k_goto (off := 4) (by decide +kernel) (by decide),
  List.forall_mem_cons.mpr ⟨k_iconst (n := 0) (0) (by decide +kernel) (by decide),
  List.forall_mem_cons.mpr ⟨k_iadd (by decide +kernel),
  List.forall_mem_cons.mpr ⟨k_isN (i := 2) (by decide +kernel) rfl,
  List.forall_mem_cons.mpr ⟨k_inc (n := 1) (1) (by decide +kernel) (by decide),
  List.forall_mem_cons.mpr ⟨k_goto (off := -33) (by decide +kernel) (by decide),
  List.forall_mem_cons.mpr ⟨k_ilN (i := 2) (by decide +kernel) rfl,
  List.forall_mem_cons.mpr ⟨k_iret (by decide +kernel),
  fun _ h => absurd h List.not_mem_nil⟩⟩⟩⟩⟩⟩⟩⟩⟩⟩⟩⟩⟩⟩⟩⟩⟩⟩⟩⟩⟩⟩⟩⟩⟩⟩⟩⟩
def tb_100 : List (Nat × pO) := [(0, o_il 2 1), (1, o_if (fun x => ¬ x = 0) 13 4), (4, o_al 0 5), (5, o_gf 8 6 8), (8, o_il 1 9), (9, o_ia 10), (10, o_goto 44), (13, o_il 2 14), (14, o_const (.int (1)) 15), (15, o_cmp (fun x y => ¬ x = y) 29 18), (18, o_al 0 19), (19, o_gf 8 6 22), (22, o_il 1 23), (23, o_call rc0 96 2 26), (26, o_goto 44), (29, o_il 2 30), (30, o_const (.int (2)) 31), (31, o_cmp (fun x y => ¬ x = y) 42 34), (34, o_al 0 35), (35, o_il 1 36), (36, o_call (rcV 8) 99 2 39), (39, o_goto 44), (42, o_const (.int (-102)) 44), (44, o_iret)]
set_option maxRecDepth 20000 in
theorem tk_100 : ∀ q ∈ tb_100, okA noS mM (prog_10_method_15_code, "DuneMapsModel", 3, some .int, false) q.1 q.2 :=
  List.forall_mem_cons.mpr ⟨k_ilN (i := 2) (by decide +kernel) rfl,
  List.forall_mem_cons.mpr ⟨k_if_ne (off := 12) (by decide +kernel) (by decide),
  List.forall_mem_cons.mpr ⟨k_alN (i := 0) (by decide +kernel) rfl,
  List.forall_mem_cons.mpr ⟨k_gf (j := 6) (T := TX8) rfl inX8G (by decide) w_622 (by decide +kernel),
  List.forall_mem_cons.mpr ⟨k_ilN (i := 1) (by decide +kernel) rfl,
  List.forall_mem_cons.mpr ⟨k_ia (by decide +kernel),
  List.forall_mem_cons.mpr ⟨k_goto (off := 34) (by decide +kernel) (by decide),
  List.forall_mem_cons.mpr ⟨k_ilN (i := 2) (by decide +kernel) rfl,
  List.forall_mem_cons.mpr ⟨k_iconst (n := 1) (1) (by decide +kernel) (by decide),
  List.forall_mem_cons.mpr ⟨k_icmp_ne (off := 14) (by decide +kernel) (by decide),
  List.forall_mem_cons.mpr ⟨k_alN (i := 0) (by decide +kernel) rfl,
  List.forall_mem_cons.mpr ⟨k_gf (j := 6) (T := TX8) rfl inX8G (by decide) w_622 (by decide +kernel),
  List.forall_mem_cons.mpr ⟨k_ilN (i := 1) (by decide +kernel) rfl,
  List.forall_mem_cons.mpr ⟨k_callS (y := 96) (n := 2) w_737 w_738 w_47 w_739 (by decide +kernel) (by decide) (by decide +kernel),
  List.forall_mem_cons.mpr ⟨k_goto (off := 18) (by decide +kernel) (by decide),
  List.forall_mem_cons.mpr ⟨k_ilN (i := 2) (by decide +kernel) rfl,
  List.forall_mem_cons.mpr ⟨k_iconst (n := 2) (2) (by decide +kernel) (by decide),
  List.forall_mem_cons.mpr ⟨k_icmp_ne (off := 11) (by decide +kernel) (by decide),
  List.forall_mem_cons.mpr ⟨k_alN (i := 0) (by decide +kernel) rfl,
  List.forall_mem_cons.mpr ⟨k_ilN (i := 1) (by decide +kernel) rfl,
  List.forall_mem_cons.mpr ⟨k_callV (y := 99) (n := 1) (ci := 8) rfl w_740 w_742 w_13 w_47 w_743 (by decide +kernel) (by decide) (by decide +kernel),
  List.forall_mem_cons.mpr ⟨k_goto (off := 5) (by decide +kernel) (by decide),
  List.forall_mem_cons.mpr ⟨k_bipush (n := -102) (-102) (by decide +kernel) (by decide),
  List.forall_mem_cons.mpr ⟨k_iret (by decide +kernel),
  fun _ h => absurd h List.not_mem_nil⟩⟩⟩⟩⟩⟩⟩⟩⟩⟩⟩⟩⟩⟩⟩⟩⟩⟩⟩⟩⟩⟩⟩⟩
def tb_101 : List (Nat × pO) := [(0, o_al 0 1), (1, o_il 1 2), (2, o_call (rcV 8) 95 2 5), (5, o_if (fun x => x = 0) 17 8), (8, o_al 0 9), (9, o_il 1 10), (10, o_il 2 11), (11, o_call (rcV 8) 100 3 14), (14, o_goto 19), (17, o_const (.int (-101)) 19), (19, o_iret)]
set_option maxRecDepth 20000 in
theorem tk_101 : ∀ q ∈ tb_101, okA noS mM (prog_10_method_16_code, "DuneMapsModel", 3, some .int, false) q.1 q.2 :=
  List.forall_mem_cons.mpr ⟨k_alN (i := 0) (by decide +kernel) rfl,
  List.forall_mem_cons.mpr ⟨k_ilN (i := 1) (by decide +kernel) rfl,
  List.forall_mem_cons.mpr ⟨k_callV (y := 95) (n := 1) (ci := 8) rfl w_728 w_730 w_11 w_47 w_731 (by decide +kernel) (by decide) (by decide +kernel),
  List.forall_mem_cons.mpr ⟨k_if_eq (off := 12) (by decide +kernel) (by decide),
  List.forall_mem_cons.mpr ⟨k_alN (i := 0) (by decide +kernel) rfl,
  List.forall_mem_cons.mpr ⟨k_ilN (i := 1) (by decide +kernel) rfl,
  List.forall_mem_cons.mpr ⟨k_ilN (i := 2) (by decide +kernel) rfl,
  List.forall_mem_cons.mpr ⟨k_callV (y := 100) (n := 2) (ci := 8) rfl w_733 w_735 w_12 w_47 w_736 (by decide +kernel) (by decide) (by decide +kernel),
  List.forall_mem_cons.mpr ⟨k_goto (off := 5) (by decide +kernel) (by decide),
  List.forall_mem_cons.mpr ⟨k_bipush (n := -101) (-101) (by decide +kernel) (by decide),
  List.forall_mem_cons.mpr ⟨k_iret (by decide +kernel),
  fun _ h => absurd h List.not_mem_nil⟩⟩⟩⟩⟩⟩⟩⟩⟩⟩⟩
def tb_102 : List (Nat × pO) := [(0, o_al 0 1), (1, o_gf 8 2 4), (4, o_if (fun x => ¬ x = 0) 10 7), (7, o_const (.int (-103)) 9), (9, o_iret), (10, o_al 0 11), (11, o_gf 8 3 14), (14, o_is 2 15), (15, o_al 0 16), (16, o_il 1 17), (17, o_if (fun x => x = 0) 24 20), (20, o_const (.int (1)) 21), (21, o_goto 25), (24, o_const (.int (0)) 25), (25, o_pf okI 8 3 28), (28, o_il 2 29), (29, o_iret)]
set_option maxRecDepth 20000 in
theorem tk_102 : ∀ q ∈ tb_102, okA noS mM (prog_10_method_17_code, "DuneMapsModel", 3, some .int, false) q.1 q.2 :=
  List.forall_mem_cons.mpr ⟨k_alN (i := 0) (by decide +kernel) rfl,
  List.forall_mem_cons.mpr ⟨k_gf (j := 2) (T := TX8) rfl inX8G (by decide) w_618 (by decide +kernel),
  List.forall_mem_cons.mpr ⟨k_if_ne (off := 6) (by decide +kernel) (by decide),
  List.forall_mem_cons.mpr ⟨k_bipush (n := -103) (-103) (by decide +kernel) (by decide),
  List.forall_mem_cons.mpr ⟨k_iret (by decide +kernel),
  List.forall_mem_cons.mpr ⟨k_alN (i := 0) (by decide +kernel) rfl,
  List.forall_mem_cons.mpr ⟨k_gf (j := 3) (T := TX8) rfl inX8G (by decide) w_619 (by decide +kernel),
  List.forall_mem_cons.mpr ⟨k_isN (i := 2) (by decide +kernel) rfl,
  List.forall_mem_cons.mpr ⟨k_alN (i := 0) (by decide +kernel) rfl,
  List.forall_mem_cons.mpr ⟨k_ilN (i := 1) (by decide +kernel) rfl,
  List.forall_mem_cons.mpr ⟨k_if_eq (off := 7) (by decide +kernel) (by decide),
  List.forall_mem_cons.mpr ⟨k_iconst (n := 1) (1) (by decide +kernel) (by decide),
  List.forall_mem_cons.mpr ⟨k_goto (off := 4) (by decide +kernel) (by decide),
  List.forall_mem_cons.mpr ⟨k_iconst (n := 0) (0) (by decide +kernel) (by decide),
  List.forall_mem_cons.mpr ⟨k_pf (j := 3) (T := TX8) tyX8 tyX8_ok nmX8 okI_fit rfl inX8G (by decide) rfl (by decide +kernel) w_619 (by decide +kernel),
  List.forall_mem_cons.mpr ⟨k_ilN (i := 2) (by decide +kernel) rfl,
  List.forall_mem_cons.mpr ⟨k_iret (by decide +kernel),
  fun _ h => absurd h List.not_mem_nil⟩⟩⟩⟩⟩⟩⟩⟩⟩⟩⟩⟩⟩⟩⟩⟩⟩
def tb_103 : List (Nat × pO) := [(0, o_const (.int (0)) 1), (1, o_is 2 2), (2, o_const (.int (0)) 3), (3, o_is 3 4), (4, o_il 3 5), (5, o_const (.int (8)) 7), (7, o_cmp (fun x y => y ≤ x) 35 10), (10, o_il 2 11), (11, o_al 1 12), (12, o_il 3 13), (13, o_call rc0 96 2 16), (16, o_const (.int (1)) 17), (17, o_cmp (fun x y => ¬ x = y) 26 20), (20, o_const (.int (1)) 21), (21, o_il 3 22), (22, o_bin (fun x y => x <<< (y &&& 31)) 23), (23, o_goto 27), (26, o_const (.int (0)) 27), (27, o_bin (fun x y => x ||| y) 28), (28, o_is 2 29), (29, o_inc 3 (1) 32), (32, o_goto 4), (35, o_il 2 36), (36, o_iret)]
set_option maxRecDepth 20000 in
theorem tk_103 : ∀ q ∈ tb_103, okA noS mM (prog_10_method_18_code, "DuneMapsModel", 4, some .int, false) q.1 q.2 :=
  List.forall_mem_cons.mpr ⟨k_iconst (n := 0) (0) (by decide +kernel) (by decide),
  List.forall_mem_cons.mpr ⟨k_isN (i := 2) (by decide +kernel) rfl,
  List.forall_mem_cons.mpr ⟨k_iconst (n := 0) (0) (by decide +kernel) (by decide),
  List.forall_mem_cons.mpr ⟨k_isN (i := 3) (by decide +kernel) rfl,
  List.forall_mem_cons.mpr ⟨k_ilN (i := 3) (by decide +kernel) rfl,
  List.forall_mem_cons.mpr ⟨k_bipush (n := 8) (8) (by decide +kernel) (by decide),
  List.forall_mem_cons.mpr ⟨k_icmp_ge (off := 28) (by decide +kernel) (by decide),
  List.forall_mem_cons.mpr ⟨k_ilN (i := 2) (by decide +kernel) rfl,
  List.forall_mem_cons.mpr ⟨k_alN (i := 1) (by decide +kernel) rfl,
  List.forall_mem_cons.mpr ⟨k_ilN (i := 3) (by decide +kernel) rfl,
  List.forall_mem_cons.mpr ⟨k_callS (y := 96) (n := 2) w_737 w_738 w_47 w_739 (by decide +kernel) (by decide) (by decide +kernel),
  List.forall_mem_cons.mpr ⟨k_iconst (n := 1) (1) (by decide +kernel) (by decide),
  List.forall_mem_cons.mpr ⟨k_icmp_ne (off := 9) (by decide +kernel) (by decide),
  List.forall_mem_cons.mpr ⟨k_iconst (n := 1) (1) (by decide +kernel) (by decide),
  List.forall_mem_cons.mpr ⟨k_ilN (i := 3) (by decide +kernel) rfl,
  List.forall_mem_cons.mpr ⟨k_ishl (by decide +kernel),
  List.forall_mem_cons.mpr ⟨k_goto (off := 4) (by decide +kernel) (by decide),
  List.forall_mem_cons.mpr ⟨k_iconst (n := 0) (0) (by decide +kernel) (by decide),
  List.forall_mem_cons.mpr ⟨k_ior (by decide +kernel),
  List.forall_mem_cons.mpr ⟨k_isN (i := 2) (by decide +kernel) rfl,
  List.forall_mem_cons.mpr ⟨k_inc (n := 1) (1) (by decide +kernel) (by decide),
  List.forall_mem_cons.mpr ⟨k_goto (off := -28) (by decide +kernel) (by decide),
  List.forall_mem_cons.mpr ⟨k_ilN (i := 2) (by decide +kernel) rfl,
  List.forall_mem_cons.mpr ⟨k_iret (by decide +kernel),
  fun _ h => absurd h List.not_mem_nil⟩⟩⟩⟩⟩⟩⟩⟩⟩⟩⟩⟩⟩⟩⟩⟩⟩⟩⟩⟩⟩⟩⟩⟩
def tb_104 : List (Nat × pO) := [(0, o_const (.int (0)) 1), (1, o_is 1 2), (2, o_const (.int (0)) 3), (3, o_is 2 4), (4, o_il 2 5), (5, o_const (.int (8)) 7), (7, o_cmp (fun x y => y ≤ x) 24 10), (10, o_il 1 11), (11, o_il 0 12), (12, o_il 2 13), (13, o_bin (fun x y => x >>> (y &&& 31)) 14), (14, o_const (.int (1)) 15), (15, o_bin (fun x y => x &&& y) 16), (16, o_bin (fun x y => x + y) 17), (17, o_is 1 18), (18, o_inc 2 (1) 21), (21, o_goto 4), (24, o_il 1 25), (25, o_iret)]
set_option maxRecDepth 20000 in
theorem tk_104 : ∀ q ∈ tb_104, okA noS mM (prog_10_method_19_code, "DuneMapsModel", 3, some .int, false) q.1 q.2 :=
  List.forall_mem_cons.mpr ⟨k_iconst (n := 0) (0) (by decide +kernel) (by decide),
  List.forall_mem_cons.mpr ⟨k_isN (i := 1) (by decide +kernel) rfl,
  List.forall_mem_cons.mpr ⟨k_iconst (n := 0) (0) (by decide +kernel) (by decide),
  List.forall_mem_cons.mpr ⟨k_isN (i := 2) (by decide +kernel) rfl,
  List.forall_mem_cons.mpr ⟨k_ilN (i := 2) (by decide +kernel) rfl,
  List.forall_mem_cons.mpr ⟨k_bipush (n := 8) (8) (by decide +kernel) (by decide),
  List.forall_mem_cons.mpr ⟨k_icmp_ge (off := 17) (by decide +kernel) (by decide),
  List.forall_mem_cons.mpr ⟨k_ilN (i := 1) (by decide +kernel) rfl,
  List.forall_mem_cons.mpr ⟨k_ilN (i := 0) (by decide +kernel) rfl,
  List.forall_mem_cons.mpr ⟨k_ilN (i := 2) (by decide +kernel) rfl,
  List.forall_mem_cons.mpr ⟨k_ishr (by decide +kernel),
  List.forall_mem_cons.mpr ⟨k_iconst (n := 1) (1) (by decide +kernel) (by decide),
  List.forall_mem_cons.mpr ⟨k_iand (by decide +kernel),
  List.forall_mem_cons.mpr ⟨k_iadd (by decide +kernel),
  List.forall_mem_cons.mpr ⟨k_isN (i := 1) (by decide +kernel) rfl,
  List.forall_mem_cons.mpr ⟨k_inc (n := 1) (1) (by decide +kernel) (by decide),
  List.forall_mem_cons.mpr ⟨k_goto (off := -17) (by decide +kernel) (by decide),
  List.forall_mem_cons.mpr ⟨k_ilN (i := 1) (by decide +kernel) rfl,
  List.forall_mem_cons.mpr ⟨k_iret (by decide +kernel),
  fun _ h => absurd h List.not_mem_nil⟩⟩⟩⟩⟩⟩⟩⟩⟩⟩⟩⟩⟩⟩⟩⟩⟩⟩⟩
def tb_105 : List (Nat × pO) := [(0, o_al 0 1), (1, o_al 1 2), (2, o_call (rcV 8) 103 2 5), (5, o_is 2 6), (6, o_const (.int (0)) 7), (7, o_is 3 8), (8, o_il 3 9), (9, o_const (.int (8)) 11), (11, o_cmp (fun x y => y ≤ x) 47 14), (14, o_il 2 15), (15, o_il 3 16), (16, o_bin (fun x y => x >>> (y &&& 31)) 17), (17, o_const (.int (1)) 18), (18, o_bin (fun x y => x &&& y) 19), (19, o_const (.int (1)) 20), (20, o_cmp (fun x y => ¬ x = y) 41 23), (23, o_al 1 24), (24, o_il 3 25), (25, o_dup2 26), (26, o_ia 27), (27, o_const (.int (1)) 28), (28, o_bin (fun x y => x - y) 29), (29, o_ist 30), (30, o_al 1 31), (31, o_al 0 32), (32, o_il 3 33), (33, o_call (rcV 8) 97 2 36), (36, o_dup2 37), (37, o_ia 38), (38, o_const (.int (1)) 39), (39, o_bin (fun x y => x + y) 40), (40, o_ist 41), (41, o_inc 3 (1) 44), (44, o_goto 8), (47, o_il 2 48), (48, o_call rc0 104 1 51), (51, o_iret)]
set_option maxRecDepth 20000 in
theorem tk_105 : ∀ q ∈ tb_105, okA noS mM (prog_10_method_20_code, "DuneMapsModel", 4, some .int, false) q.1 q.2 :=
  List.forall_mem_cons.mpr ⟨k_alN (i := 0) (by decide +kernel) rfl,
  List.forall_mem_cons.mpr ⟨k_alN (i := 1) (by decide +kernel) rfl,
  List.forall_mem_cons.mpr ⟨k_callV (y := 103) (n := 1) (ci := 8) rfl w_756 w_758 w_15 w_47 w_759 (by decide +kernel) (by decide) (by decide +kernel),
  List.forall_mem_cons.mpr ⟨k_isN (i := 2) (by decide +kernel) rfl,
  List.forall_mem_cons.mpr ⟨k_iconst (n := 0) (0) (by decide +kernel) (by decide),
  List.forall_mem_cons.mpr ⟨k_isN (i := 3) (by decide +kernel) rfl,
  List.forall_mem_cons.mpr ⟨k_ilN (i := 3) (by decide +kernel) rfl,
  List.forall_mem_cons.mpr ⟨k_bipush (n := 8) (8) (by decide +kernel) (by decide),
  List.forall_mem_cons.mpr ⟨k_icmp_ge (off := 36) (by decide +kernel) (by decide),
  List.forall_mem_cons.mpr ⟨k_ilN (i := 2) (by decide +kernel) rfl,
  List.forall_mem_cons.mpr ⟨k_ilN (i := 3) (by decide +kernel) rfl,
  List.forall_mem_cons.mpr ⟨k_ishr (by decide +kernel),
  List.forall_mem_cons.mpr ⟨k_iconst (n := 1) (1) (by decide +kernel) (by decide),
  List.forall_mem_cons.mpr ⟨k_iand (by decide +kernel),
  List.forall_mem_cons.mpr ⟨k_iconst (n := 1) (1) (by decide +kernel) (by decide),
  List.forall_mem_cons.mpr ⟨k_icmp_ne (off := 21) (by decide +kernel) (by decide),
  List.forall_mem_cons.mpr ⟨k_alN (i := 1) (by decide +kernel) rfl,
  List.forall_mem_cons.mpr ⟨k_ilN (i := 3) (by decide +kernel) rfl,
  List.forall_mem_cons.mpr ⟨k_dup2 (by decide +kernel),
  List.forall_mem_cons.mpr ⟨k_ia (by decide +kernel),
  List.forall_mem_cons.mpr ⟨k_iconst (n := 1) (1) (by decide +kernel) (by decide),
  List.forall_mem_cons.mpr ⟨k_isub (by decide +kernel),
  List.forall_mem_cons.mpr ⟨k_ist (by decide +kernel),
  List.forall_mem_cons.mpr ⟨k_alN (i := 1) (by decide +kernel) rfl,
  List.forall_mem_cons.mpr ⟨k_alN (i := 0) (by decide +kernel) rfl,
  List.forall_mem_cons.mpr ⟨k_ilN (i := 3) (by decide +kernel) rfl,
  List.forall_mem_cons.mpr ⟨k_callV (y := 97) (n := 1) (ci := 8) rfl w_760 w_762 w_16 w_47 w_763 (by decide +kernel) (by decide) (by decide +kernel),
  List.forall_mem_cons.mpr ⟨k_dup2 (by decide +kernel),
  List.forall_mem_cons.mpr ⟨k_ia (by decide +kernel),
  List.forall_mem_cons.mpr ⟨k_iconst (n := 1) (1) (by decide +kernel) (by decide),
  List.forall_mem_cons.mpr ⟨k_iadd (by decide +kernel),
  List.forall_mem_cons.mpr ⟨k_ist (by decide +kernel),
  List.forall_mem_cons.mpr ⟨k_inc (n := 1) (1) (by decide +kernel) (by decide),
  List.forall_mem_cons.mpr ⟨k_goto (off := -36) (by decide +kernel) (by decide),
  List.forall_mem_cons.mpr ⟨k_ilN (i := 2) (by decide +kernel) rfl,
  List.forall_mem_cons.mpr ⟨k_callS (y := 104) (n := 1) w_764 w_765 w_47 w_766 (by decide +kernel) (by decide) (by decide +kernel),
  List.forall_mem_cons.mpr ⟨k_iret (by decide +kernel),
  fun _ h => absurd h List.not_mem_nil⟩⟩⟩⟩⟩⟩⟩⟩⟩⟩⟩⟩⟩⟩⟩⟩⟩⟩⟩⟩⟩⟩⟩⟩⟩⟩⟩⟩⟩⟩⟩⟩⟩⟩⟩⟩⟩
def tb_106 : List (Nat × pO) := [(0, o_al 0 1), (1, o_gf 8 2 4), (4, o_if (fun x => ¬ x = 0) 10 7), (7, o_const (.int (-103)) 9), (9, o_iret), (10, o_al 0 11), (11, o_dup 12), (12, o_gf 8 4 15), (15, o_const (.int (1)) 16), (16, o_bin (fun x y => x + y) 17), (17, o_pf okI 8 4 20), (20, o_al 0 21), (21, o_al 0 22), (22, o_gf 8 6 25), (25, o_call (rcV 8) 105 2 28), (28, o_iret)]
set_option maxRecDepth 20000 in
theorem tk_106 : ∀ q ∈ tb_106, okA noS mM (prog_10_method_21_code, "DuneMapsModel", 1, some .int, false) q.1 q.2 :=
  List.forall_mem_cons.mpr ⟨k_alN (i := 0) (by decide +kernel) rfl,
  List.forall_mem_cons.mpr ⟨k_gf (j := 2) (T := TX8) rfl inX8G (by decide) w_618 (by decide +kernel),
  List.forall_mem_cons.mpr ⟨k_if_ne (off := 6) (by decide +kernel) (by decide),
  List.forall_mem_cons.mpr ⟨k_bipush (n := -103) (-103) (by decide +kernel) (by decide),
  List.forall_mem_cons.mpr ⟨k_iret (by decide +kernel),
  List.forall_mem_cons.mpr ⟨k_alN (i := 0) (by decide +kernel) rfl,
  List.forall_mem_cons.mpr ⟨k_dup (by decide +kernel),
  List.forall_mem_cons.mpr ⟨k_gf (j := 4) (T := TX8) rfl inX8G (by decide) w_620 (by decide +kernel),
  List.forall_mem_cons.mpr ⟨k_iconst (n := 1) (1) (by decide +kernel) (by decide),
  List.forall_mem_cons.mpr ⟨k_iadd (by decide +kernel),
  List.forall_mem_cons.mpr ⟨k_pf (j := 4) (T := TX8) tyX8 tyX8_ok nmX8 okI_fit rfl inX8G (by decide) rfl (by decide +kernel) w_620 (by decide +kernel),
  List.forall_mem_cons.mpr ⟨k_alN (i := 0) (by decide +kernel) rfl,
  List.forall_mem_cons.mpr ⟨k_alN (i := 0) (by decide +kernel) rfl,
  List.forall_mem_cons.mpr ⟨k_gf (j := 6) (T := TX8) rfl inX8G (by decide) w_622 (by decide +kernel),
  List.forall_mem_cons.mpr ⟨k_callV (y := 105) (n := 1) (ci := 8) rfl w_752 w_754 w_14 w_47 w_755 (by decide +kernel) (by decide) (by decide +kernel),
  List.forall_mem_cons.mpr ⟨k_iret (by decide +kernel),
  fun _ h => absurd h List.not_mem_nil⟩⟩⟩⟩⟩⟩⟩⟩⟩⟩⟩⟩⟩⟩⟩⟩
def tb_107 : List (Nat × pO) := [(0, o_il 1 1), (1, o_i2l 2), (2, o_const (.long (0)) 3), (3, o_al 0 4), (4, o_gf 8 9 7), (7, o_const (.int (1)) 8), (8, o_bin (fun x y => x - y) 9), (9, o_i2l 10), (10, o_call rc0 87 3 13), (13, o_zret)]
set_option maxRecDepth 20000 in
theorem tk_107 : ∀ q ∈ tb_107, okA noS mM (prog_10_method_22_code, "DuneMapsModel", 2, some .boolean, false) q.1 q.2 :=
  List.forall_mem_cons.mpr ⟨k_ilN (i := 1) (by decide +kernel) rfl,
  List.forall_mem_cons.mpr ⟨k_i2l (by decide +kernel),
  List.forall_mem_cons.mpr ⟨k_lconst (n := 0) (0) (by decide +kernel) (by decide),
  List.forall_mem_cons.mpr ⟨k_alN (i := 0) (by decide +kernel) rfl,
  List.forall_mem_cons.mpr ⟨k_gf (j := 9) (T := TX8) rfl inX8G (by decide) w_625 (by decide +kernel),
  List.forall_mem_cons.mpr ⟨k_iconst (n := 1) (1) (by decide +kernel) (by decide),
  List.forall_mem_cons.mpr ⟨k_isub (by decide +kernel),
  List.forall_mem_cons.mpr ⟨k_i2l (by decide +kernel),
  List.forall_mem_cons.mpr ⟨k_callS (y := 87) (n := 3) w_700 w_701 w_47 w_702 (by decide +kernel) (by decide) (by decide +kernel),
  List.forall_mem_cons.mpr ⟨k_zret (by decide +kernel),
  fun _ h => absurd h List.not_mem_nil⟩⟩⟩⟩⟩⟩⟩⟩⟩⟩
def tb_108 : List (Nat × pO) := [(0, o_il 0 1), (1, o_const (.int (1)) 2), (2, o_cmp (fun x y => ¬ x = y) 9 5), (5, o_const (.int (2)) 6), (6, o_goto 28), (9, o_il 0 10), (10, o_const (.int (4)) 11), (11, o_cmp (fun x y => ¬ x = y) 18 14), (14, o_const (.int (4)) 15), (15, o_goto 28), (18, o_il 0 19), (19, o_const (.int (2)) 20), (20, o_cmp (fun x y => ¬ x = y) 27 23), (23, o_const (.int (0)) 24), (24, o_goto 28), (27, o_const (.int (1)) 28), (28, o_iret)]
set_option maxRecDepth 20000 in
theorem tk_108 : ∀ q ∈ tb_108, okA noS mM (prog_10_method_23_code, "DuneMapsModel", 1, some .int, false) q.1 q.2 :=
  List.forall_mem_cons.mpr ⟨k_ilN (i := 0) (by decide +kernel) rfl,
  List.forall_mem_cons.mpr ⟨k_iconst (n := 1) (1) (by decide +kernel) (by decide),
  List.forall_mem_cons.mpr ⟨k_icmp_ne (off := 7) (by decide +kernel) (by decide),
  List.forall_mem_cons.mpr ⟨k_iconst (n := 2) (2) (by decide +kernel) (by decide),
  List.forall_mem_cons.mpr ⟨k_goto (off := 22) (by decide +kernel) (by decide),
  List.forall_mem_cons.mpr ⟨k_ilN (i := 0) (by decide +kernel) rfl,
  List.forall_mem_cons.mpr ⟨k_iconst (n := 4) (4) (by decide +kernel) (by decide),
  List.forall_mem_cons.mpr ⟨k_icmp_ne (off := 7) (by decide +kernel) (by decide),
  List.forall_mem_cons.mpr ⟨k_iconst (n := 4) (4) (by decide +kernel) (by decide),
  List.forall_mem_cons.mpr ⟨k_goto (off := 13) (by decide +kernel) (by decide),
  List.forall_mem_cons.mpr ⟨k_ilN (i := 0) (by decide +kernel) rfl,
  List.forall_mem_cons.mpr ⟨k_iconst (n := 2) (2) (by decide +kernel) (by decide),
  List.forall_mem_cons.mpr ⟨k_icmp_ne (off := 7) (by decide +kernel) (by decide),
  List.forall_mem_cons.mpr ⟨k_iconst (n := 0) (0) (by decide +kernel) (by decide),
  List.forall_mem_cons.mpr ⟨k_goto (off := 4) (by decide +kernel) (by decide),
  List.forall_mem_cons.mpr ⟨k_iconst (n := 1) (1) (by decide +kernel) (by decide),
  List.forall_mem_cons.mpr ⟨k_iret (by decide +kernel),
  fun _ h => absurd h List.not_mem_nil⟩⟩⟩⟩⟩⟩⟩⟩⟩⟩⟩⟩⟩⟩⟩⟩⟩
def tb_109 : List (Nat × pO) := [(0, o_al 1 1), (1, o_il 2 2), (2, o_call rc0 96 2 5), (5, o_is 4 7), (7, o_il 4 9), (9, o_if (fun x => ¬ x = 0) 14 12), (12, o_const (.int (0)) 13), (13, o_iret), (14, o_il 4 16), (16, o_const (.int (1)) 17), (17, o_cmp (fun x y => ¬ x = y) 24 20), (20, o_const (.int (1)) 21), (21, o_goto 25), (24, o_const (.int (0)) 25), (25, o_il 3 26), (26, o_const (.int (3)) 27), (27, o_cmp (fun x y => ¬ x = y) 34 30), (30, o_const (.int (1)) 31), (31, o_goto 35), (34, o_const (.int (0)) 35), (35, o_cmp (fun x y => x = y) 42 38), (38, o_const (.int (1)) 39), (39, o_goto 43), (42, o_const (.int (0)) 43), (43, o_is 5 45), (45, o_il 5 47), (47, o_if (fun x => x = 0) 58 50), (50, o_al 0 51), (51, o_il 2 52), (52, o_call (rcV 8) 97 2 55), (55, o_goto 63), (58, o_al 0 59), (59, o_il 2 60), (60, o_call (rcV 8) 98 2 63), (63, o_is 6 65), (65, o_il 4 67), (67, o_const (.int (1)) 68), (68, o_cmp (fun x y => ¬ x = y) 75 71), (71, o_il 2 72), (72, o_goto 77), (75, o_il 6 77), (77, o_is 7 79), (79, o_il 4 81), (81, o_const (.int (1)) 82), (82, o_cmp (fun x y => ¬ x = y) 90 85), (85, o_il 6 87), (87, o_goto 91), (90, o_il 2 91), (91, o_is 8 93), (93, o_il 3 94), (94, o_call rc0 108 1 97), (97, o_is 9 99), (99, o_al 1 100), (100, o_il 7 102), (102, o_ia 103), (103, o_il 9 105), (105, o_cmp (fun x y => y ≤ x) 115 108), (108, o_al 1 109), (109, o_il 7 111), (111, o_ia 112), (112, o_goto 117), (115, o_il 9 117), (117, o_is 10 119), (119, o_al 1 120), (120, o_il 7 122), (122, o_dup2 123), (123, o_ia 124), (124, o_il 10 126), (126, o_bin (fun x y => x - y) 127), (127, o_ist 128), (128, o_al 1 129), (129, o_il 8 131), (131, o_dup2 132), (132, o_ia 133), (133, o_il 10 135), (135, o_bin (fun x y => x + y) 136), (136, o_ist 137), (137, o_il 10 139), (139, o_iret)]
set_option maxRecDepth 20000 in
theorem tk_109 : ∀ q ∈ tb_109, okA noS mM (prog_10_method_24_code, "DuneMapsModel", 11, some .int, false) q.1 q.2 :=
  List.forall_mem_cons.mpr ⟨k_alN (i := 1) (by decide +kernel) rfl,
  List.forall_mem_cons.mpr ⟨k_ilN (i := 2) (by decide +kernel) rfl,
  List.forall_mem_cons.mpr ⟨k_callS (y := 96) (n := 2) w_737 w_738 w_47 w_739 (by decide +kernel) (by decide) (by decide +kernel),
  List.forall_mem_cons.mpr ⟨k_is (by decide +kernel),
  List.forall_mem_cons.mpr ⟨k_il (by decide +kernel),
  List.forall_mem_cons.mpr ⟨k_if_ne (off := 5) (by decide +kernel) (by decide),
  List.forall_mem_cons.mpr ⟨k_iconst (n := 0) (0) (by decide +kernel) (by decide),
  List.forall_mem_cons.mpr ⟨k_iret (by decide +kernel),
  List.forall_mem_cons.mpr ⟨k_il (by decide +kernel),
  List.forall_mem_cons.mpr ⟨k_iconst (n := 1) (1) (by decide +kernel) (by decide),
  List.forall_mem_cons.mpr ⟨k_icmp_ne (off := 7) (by decide +kernel) (by decide),
  List.forall_mem_cons.mpr ⟨k_iconst (n := 1) (1) (by decide +kernel) (by decide),
  List.forall_mem_cons.mpr ⟨k_goto (off := 4) (by decide +kernel) (by decide),
  List.forall_mem_cons.mpr ⟨k_iconst (n := 0) (0) (by decide +kernel) (by decide),
  List.forall_mem_cons.mpr ⟨k_ilN (i := 3) (by decide +kernel) rfl,
  List.forall_mem_cons.mpr ⟨k_iconst (n := 3) (3) (by decide +kernel) (by decide),
  List.forall_mem_cons.mpr ⟨k_icmp_ne (off := 7) (by decide +kernel) (by decide),
  List.forall_mem_cons.mpr ⟨k_iconst (n := 1) (1) (by decide +kernel) (by decide),
  List.forall_mem_cons.mpr ⟨k_goto (off := 4) (by decide +kernel) (by decide),
  List.forall_mem_cons.mpr ⟨k_iconst (n := 0) (0) (by decide +kernel) (by decide),
  List.forall_mem_cons.mpr ⟨k_icmp_eq (off := 7) (by decide +kernel) (by decide),
  List.forall_mem_cons.mpr ⟨k_iconst (n := 1) (1) (by decide +kernel) (by decide),
  List.forall_mem_cons.mpr ⟨k_goto (off := 4) (by decide +kernel) (by decide),
  List.forall_mem_cons.mpr ⟨k_iconst (n := 0) (0) (by decide +kernel) (by decide),
  List.forall_mem_cons.mpr ⟨k_is (by decide +kernel),
  List.forall_mem_cons.mpr ⟨k_il (by decide +kernel),
  List.forall_mem_cons.mpr ⟨k_if_eq (off := 11) (by decide +kernel) (by decide),
  List.forall_mem_cons.mpr ⟨k_alN (i := 0) (by decide +kernel) rfl,
  List.forall_mem_cons.mpr ⟨k_ilN (i := 2) (by decide +kernel) rfl,
  List.forall_mem_cons.mpr ⟨k_callV (y := 97) (n := 1) (ci := 8) rfl w_760 w_762 w_16 w_47 w_763 (by decide +kernel) (by decide) (by decide +kernel),
  List.forall_mem_cons.mpr ⟨k_goto (off := 8) (by decide +kernel) (by decide),
  List.forall_mem_cons.mpr ⟨k_alN (i := 0) (by decide +kernel) rfl,
  List.forall_mem_cons.mpr ⟨k_ilN (i := 2) (by decide +kernel) rfl,
  List.forall_mem_cons.mpr ⟨k_callV (y := 98) (n := 1) (ci := 8) rfl w_814 w_816 w_23 w_47 w_817 (by decide +kernel) (by decide) (by decide +kernel),
  List.forall_mem_cons.mpr ⟨k_is (by decide +kernel),
  List.forall_mem_cons.mpr ⟨k_il (by decide +kernel),
  List.forall_mem_cons.mpr ⟨k_iconst (n := 1) (1) (by decide +kernel) (by decide),
  List.forall_mem_cons.mpr ⟨k_icmp_ne (off := 7) (by decide +kernel) (by decide),
  List.forall_mem_cons.mpr ⟨k_ilN (i := 2) (by decide +kernel) rfl,
  List.forall_mem_cons.mpr ⟨k_goto (off := 5) (by decide +kernel) (by decide),
  List.forall_mem_cons.mpr ⟨k_il (by decide +kernel),
  List.forall_mem_cons.mpr ⟨k_is (by decide +kernel),
  List.forall_mem_cons.mpr ⟨k_il (by decide +kernel),
  List.forall_mem_cons.mpr ⟨k_iconst (n := 1) (1) (by decide +kernel) (by decide),
  List.forall_mem_cons.mpr ⟨k_icmp_ne (off := 8) (by decide +kernel) (by decide),
  List.forall_mem_cons.mpr ⟨k_il (by decide +kernel),
  List.forall_mem_cons.mpr ⟨k_goto (off := 4) (by decide +kernel) (by decide),
  List.forall_mem_cons.mpr ⟨k_ilN (i := 2) (by decide +kernel) rfl,
  List.forall_mem_cons.mpr ⟨k_is (by decide +kernel),
  List.forall_mem_cons.mpr ⟨k_ilN (i := 3) (by decide +kernel) rfl,
  List.forall_mem_cons.mpr ⟨k_callS (y := 108) (n := 1) w_784 w_785 w_47 w_786 (by decide +kernel) (by decide) (by decide +kernel),
  List.forall_mem_cons.mpr ⟨k_is (by decide +kernel),
  List.forall_mem_cons.mpr ⟨k_alN (i := 1) (by decide +kernel) rfl,
  List.forall_mem_cons.mpr ⟨k_il (by decide +kernel),
  List.forall_mem_cons.mpr ⟨k_ia (by decide +kernel),
  List.forall_mem_cons.mpr ⟨k_il (by decide +kernel),
  List.forall_mem_cons.mpr ⟨k_icmp_ge (off := 10) (by decide +kernel) (by decide),
  List.forall_mem_cons.mpr ⟨k_alN (i := 1) (by decide +kernel) rfl,
  List.forall_mem_cons.mpr ⟨k_il (by decide +kernel),
  List.forall_mem_cons.mpr ⟨k_ia (by decide +kernel),
  List.forall_mem_cons.mpr ⟨k_goto (off := 5) (by decide +kernel) (by decide),
  List.forall_mem_cons.mpr ⟨k_il (by decide +kernel),
  List.forall_mem_cons.mpr ⟨k_is (by decide +kernel),
  List.forall_mem_cons.mpr ⟨k_alN (i := 1) (by decide +kernel) rfl,
  List.forall_mem_cons.mpr ⟨k_il (by decide +kernel),
  List.forall_mem_cons.mpr ⟨k_dup2 (by decide +kernel),
  List.forall_mem_cons.mpr ⟨k_ia (by decide +kernel),
  List.forall_mem_cons.mpr ⟨k_il (by decide +kernel),
  List.forall_mem_cons.mpr ⟨k_isub (by decide +kernel),
  List.forall_mem_cons.mpr ⟨k_ist (by decide +kernel),
  List.forall_mem_cons.mpr ⟨k_alN (i := 1) (by decide +kernel) rfl,
  List.forall_mem_cons.mpr ⟨k_il (by decide +kernel),
  List.forall_mem_cons.mpr ⟨k_dup2 (by decide +kernel),
  List.forall_mem_cons.mpr ⟨k_ia (by decide +kernel),
  List.forall_mem_cons.mpr ⟨k_il (by decide +kernel),
  List.forall_mem_cons.mpr ⟨k_iadd (by decide +kernel),
  List.forall_mem_cons.mpr ⟨k_ist (by decide +kernel),
  List.forall_mem_cons.mpr ⟨k_il (by decide +kernel),
  List.forall_mem_cons.mpr ⟨k_iret (by decide +kernel),
  fun _ h => absurd h List.not_mem_nil⟩⟩⟩⟩⟩⟩⟩⟩⟩⟩⟩⟩⟩⟩⟩⟩⟩⟩⟩⟩⟩⟩⟩⟩⟩⟩⟩⟩⟩⟩⟩⟩⟩⟩⟩⟩⟩⟩⟩⟩⟩⟩⟩⟩⟩⟩⟩⟩⟩⟩⟩⟩⟩⟩⟩⟩⟩⟩⟩⟩⟩⟩⟩⟩⟩⟩⟩⟩⟩⟩⟩⟩⟩⟩⟩⟩⟩⟩⟩
def tb_110 : List (Nat × pO) := [(0, o_il 0 1), (1, o_il 1 2), (2, o_const (.int (1)) 3), (3, o_cmp (fun x y => ¬ x = y) 10 6), (6, o_const (.int (1)) 7), (7, o_goto 12), (10, o_const (.int (7)) 12), (12, o_bin (fun x y => x + y) 13), (13, o_const (.int (8)) 15), (15, o_binz (fun x y => x - x / y * y) 16), (16, o_iret)]
set_option maxRecDepth 20000 in
theorem tk_110 : ∀ q ∈ tb_110, okA noS mM (prog_10_method_25_code, "DuneMapsModel", 2, some .int, false) q.1 q.2 :=
  List.forall_mem_cons.mpr ⟨k_ilN (i := 0) (by decide +kernel) rfl,
  List.forall_mem_cons.mpr ⟨k_ilN (i := 1) (by decide +kernel) rfl,
  List.forall_mem_cons.mpr ⟨k_iconst (n := 1) (1) (by decide +kernel) (by decide),
  List.forall_mem_cons.mpr ⟨k_icmp_ne (off := 7) (by decide +kernel) (by decide),
  List.forall_mem_cons.mpr ⟨k_iconst (n := 1) (1) (by decide +kernel) (by decide),
  List.forall_mem_cons.mpr ⟨k_goto (off := 5) (by decide +kernel) (by decide),
  List.forall_mem_cons.mpr ⟨k_bipush (n := 7) (7) (by decide +kernel) (by decide),
  List.forall_mem_cons.mpr ⟨k_iadd (by decide +kernel),
  List.forall_mem_cons.mpr ⟨k_bipush (n := 8) (8) (by decide +kernel) (by decide),
  List.forall_mem_cons.mpr ⟨k_irem (by decide +kernel),
  List.forall_mem_cons.mpr ⟨k_iret (by decide +kernel),
  fun _ h => absurd h List.not_mem_nil⟩⟩⟩⟩⟩⟩⟩⟩⟩⟩⟩
def tb_111 : List (Nat × pO) := [(0, o_il 1 1), (1, o_i2l 2), (2, o_const (.long (0)) 3), (3, o_const (.long (4)) 6), (6, o_call rc0 87 3 9), (9, o_if (fun x => ¬ x = 0) 15 12), (12, o_const (.int (-102)) 14), (14, o_iret), (15, o_al 0 16), (16, o_il 2 17), (17, o_call (rcV 8) 95 2 20), (20, o_if (fun x => ¬ x = 0) 26 23), (23, o_const (.int (-101)) 25), (25, o_iret), (26, o_al 0 27), (27, o_gf 8 9 30), (30, o_const (.int (4)) 31), (31, o_cmp (fun x y => ¬ x = y) 37 34), (34, o_const (.int (-104)) 36), (36, o_iret), (37, o_al 0 38), (38, o_gf 8 10 41), (41, o_const (.int (3)) 42), (42, o_al 0 43), (43, o_gf 8 9 46), (46, o_bin (fun x y => x * y) 47), (47, o_il 1 48), (48, o_ist 49), (49, o_al 0 50), (50, o_gf 8 10 53), (53, o_const (.int (3)) 54), (54, o_al 0 55), (55, o_gf 8 9 58), (58, o_bin (fun x y => x * y) 59), (59, o_const (.int (1)) 60), (60, o_bin (fun x y => x + y) 61), (61, o_il 2 62), (62, o_ist 63), (63, o_al 0 64), (64, o_gf 8 10 67), (67, o_const (.int (3)) 68), (68, o_al 0 69), (69, o_gf 8 9 72), (72, o_bin (fun x y => x * y) 73), (73, o_const (.int (2)) 74), (74, o_bin (fun x y => x + y) 75), (75, o_const (.int (0)) 76), (76, o_ist 77), (77, o_al 0 78), (78, o_gf 8 11 81), (81, o_const (.int (10)) 83), (83, o_al 0 84), (84, o_gf 8 9 87), (87, o_bin (fun x y => x * y) 88), (88, o_const (.int (1)) 89), (89, o_bin (fun x y => x + y) 90), (90, o_const (.int (0)) 91), (91, o_ist 92), (92, o_al 0 93), (93, o_dup 94), (94, o_gf 8 9 97), (97, o_const (.int (1)) 98), (98, o_bin (fun x y => x + y) 99), (99, o_pf okI 8 9 102), (102, o_al 0 103), (103, o_gf 8 9 106), (106, o_const (.int (1)) 107), (107, o_bin (fun x y => x - y) 108), (108, o_iret)]
set_option maxRecDepth 20000 in
theorem tk_111 : ∀ q ∈ tb_111, okA noS mM (prog_10_method_26_code, "DuneMapsModel", 3, some .int, false) q.1 q.2 :=
  List.forall_mem_cons.mpr ⟨k_ilN (i := 1) (by decide +kernel) rfl,
  List.forall_mem_cons.mpr ⟨k_i2l (by decide +kernel),
  List.forall_mem_cons.mpr ⟨k_lconst (n := 0) (0) (by decide +kernel) (by decide),
  List.forall_mem_cons.mpr ⟨k_ldc2 w_771 (by decide +kernel),
  List.forall_mem_cons.mpr ⟨k_callS (y := 87) (n := 3) w_700 w_701 w_47 w_702 (by decide +kernel) (by decide) (by decide +kernel),
  List.forall_mem_cons.mpr ⟨k_if_ne (off := 6) (by decide +kernel) (by decide),
  List.forall_mem_cons.mpr ⟨k_bipush (n := -102) (-102) (by decide +kernel) (by decide),
  List.forall_mem_cons.mpr ⟨k_iret (by decide +kernel),
  List.forall_mem_cons.mpr ⟨k_alN (i := 0) (by decide +kernel) rfl,
  List.forall_mem_cons.mpr ⟨k_ilN (i := 2) (by decide +kernel) rfl,
  List.forall_mem_cons.mpr ⟨k_callV (y := 95) (n := 1) (ci := 8) rfl w_728 w_730 w_11 w_47 w_731 (by decide +kernel) (by decide) (by decide +kernel),
  List.forall_mem_cons.mpr ⟨k_if_ne (off := 6) (by decide +kernel) (by decide),
  List.forall_mem_cons.mpr ⟨k_bipush (n := -101) (-101) (by decide +kernel) (by decide),
  List.forall_mem_cons.mpr ⟨k_iret (by decide +kernel),
  List.forall_mem_cons.mpr ⟨k_alN (i := 0) (by decide +kernel) rfl,
  List.forall_mem_cons.mpr ⟨k_gf (j := 9) (T := TX8) rfl inX8G (by decide) w_625 (by decide +kernel),
  List.forall_mem_cons.mpr ⟨k_iconst (n := 4) (4) (by decide +kernel) (by decide),
  List.forall_mem_cons.mpr ⟨k_icmp_ne (off := 6) (by decide +kernel) (by decide),
  List.forall_mem_cons.mpr ⟨k_bipush (n := -104) (-104) (by decide +kernel) (by decide),
  List.forall_mem_cons.mpr ⟨k_iret (by decide +kernel),
  List.forall_mem_cons.mpr ⟨k_alN (i := 0) (by decide +kernel) rfl,
  List.forall_mem_cons.mpr ⟨k_gf (j := 10) (T := TX8) rfl inX8G (by decide) w_626 (by decide +kernel),
  List.forall_mem_cons.mpr ⟨k_iconst (n := 3) (3) (by decide +kernel) (by decide),
  List.forall_mem_cons.mpr ⟨k_alN (i := 0) (by decide +kernel) rfl,
  List.forall_mem_cons.mpr ⟨k_gf (j := 9) (T := TX8) rfl inX8G (by decide) w_625 (by decide +kernel),
  List.forall_mem_cons.mpr ⟨k_imul (by decide +kernel),
  List.forall_mem_cons.mpr ⟨k_ilN (i := 1) (by decide +kernel) rfl,
  List.forall_mem_cons.mpr ⟨k_ist (by decide +kernel),
  List.forall_mem_cons.mpr ⟨k_alN (i := 0) (by decide +kernel) rfl,
  List.forall_mem_cons.mpr ⟨k_gf (j := 10) (T := TX8) rfl inX8G (by decide) w_626 (by decide +kernel),
  List.forall_mem_cons.mpr ⟨k_iconst (n := 3) (3) (by decide +kernel) (by decide),
  List.forall_mem_cons.mpr ⟨k_alN (i := 0) (by decide +kernel) rfl,
  List.forall_mem_cons.mpr ⟨k_gf (j := 9) (T := TX8) rfl inX8G (by decide) w_625 (by decide +kernel),
  List.forall_mem_cons.mpr ⟨k_imul (by decide +kernel),
  List.forall_mem_cons.mpr ⟨k_iconst (n := 1) (1) (by decide +kernel) (by decide),
  List.forall_mem_cons.mpr ⟨k_iadd (by decide +kernel),
  List.forall_mem_cons.mpr ⟨k_ilN (i := 2) (by decide +kernel) rfl,
  List.forall_mem_cons.mpr ⟨k_ist (by decide +kernel),
  List.forall_mem_cons.mpr ⟨k_alN (i := 0) (by decide +kernel) rfl,
  List.forall_mem_cons.mpr ⟨k_gf (j := 10) (T := TX8) rfl inX8G (by decide) w_626 (by decide +kernel),
  List.forall_mem_cons.mpr ⟨k_iconst (n := 3) (3) (by decide +kernel) (by decide),
  List.forall_mem_cons.mpr ⟨k_alN (i := 0) (by decide +kernel) rfl,
  List.forall_mem_cons.mpr ⟨k_gf (j := 9) (T := TX8) rfl inX8G (by decide) w_625 (by decide +kernel),
  List.forall_mem_cons.mpr ⟨k_imul (by decide +kernel),
  List.forall_mem_cons.mpr ⟨k_iconst (n := 2) (2) (by decide +kernel) (by decide),
  List.forall_mem_cons.mpr ⟨k_iadd (by decide +kernel),
  List.forall_mem_cons.mpr ⟨k_iconst (n := 0) (0) (by decide +kernel) (by decide),
  List.forall_mem_cons.mpr ⟨k_ist (by decide +kernel),
  List.forall_mem_cons.mpr ⟨k_alN (i := 0) (by decide +kernel) rfl,
  List.forall_mem_cons.mpr ⟨k_gf (j := 11) (T := TX8) rfl inX8G (by decide) w_627 (by decide +kernel),
  List.forall_mem_cons.mpr ⟨k_bipush (n := 10) (10) (by decide +kernel) (by decide),
  List.forall_mem_cons.mpr ⟨k_alN (i := 0) (by decide +kernel) rfl,
  List.forall_mem_cons.mpr ⟨k_gf (j := 9) (T := TX8) rfl inX8G (by decide) w_625 (by decide +kernel),
  List.forall_mem_cons.mpr ⟨k_imul (by decide +kernel),
  List.forall_mem_cons.mpr ⟨k_iconst (n := 1) (1) (by decide +kernel) (by decide),
  List.forall_mem_cons.mpr ⟨k_iadd (by decide +kernel),
  List.forall_mem_cons.mpr ⟨k_iconst (n := 0) (0) (by decide +kernel) (by decide),
  List.forall_mem_cons.mpr ⟨k_ist (by decide +kernel),
  List.forall_mem_cons.mpr ⟨k_alN (i := 0) (by decide +kernel) rfl,
  List.forall_mem_cons.mpr ⟨k_dup (by decide +kernel),
  List.forall_mem_cons.mpr ⟨k_gf (j := 9) (T := TX8) rfl inX8G (by decide) w_625 (by decide +kernel),
  List.forall_mem_cons.mpr ⟨k_iconst (n := 1) (1) (by decide +kernel) (by decide),
  List.forall_mem_cons.mpr ⟨k_iadd (by decide +kernel),
  List.forall_mem_cons.mpr ⟨k_pf (j := 9) (T := TX8) tyX8 tyX8_ok nmX8 okI_fit rfl inX8G (by decide) rfl (by decide +kernel) w_625 (by decide +kernel),
  List.forall_mem_cons.mpr ⟨k_alN (i := 0) (by decide +kernel) rfl,
  List.forall_mem_cons.mpr ⟨k_gf (j := 9) (T := TX8) rfl inX8G (by decide) w_625 (by decide +kernel),
  List.forall_mem_cons.mpr ⟨k_iconst (n := 1) (1) (by decide +kernel) (by decide),
  List.forall_mem_cons.mpr ⟨k_isub (by decide +kernel),
  List.forall_mem_cons.mpr ⟨k_iret (by decide +kernel),
  fun _ h => absurd h List.not_mem_nil⟩⟩⟩⟩⟩⟩⟩⟩⟩⟩⟩⟩⟩⟩⟩⟩⟩⟩⟩⟩⟩⟩⟩⟩⟩⟩⟩⟩⟩⟩⟩⟩⟩⟩⟩⟩⟩⟩⟩⟩⟩⟩⟩⟩⟩⟩⟩⟩⟩⟩⟩⟩⟩⟩⟩⟩⟩⟩⟩⟩⟩⟩⟩⟩⟩⟩⟩⟩⟩
def tb_112 : List (Nat × pO) := [(0, o_al 0 1), (1, o_gf 8 11 4), (4, o_const (.int (10)) 6), (6, o_il 1 7), (7, o_bin (fun x y => x * y) 8), (8, o_const (.int (1)) 9), (9, o_bin (fun x y => x + y) 10), (10, o_ia 11), (11, o_if (fun x => x ≤ 0) 18 14), (14, o_const (.int (1)) 15), (15, o_goto 19), (18, o_const (.int (0)) 19), (19, o_zret)]
set_option maxRecDepth 20000 in
theorem tk_112 : ∀ q ∈ tb_112, okA noS mM (prog_10_method_27_code, "DuneMapsModel", 2, some .boolean, false) q.1 q.2 :=
  List.forall_mem_cons.mpr ⟨k_alN (i := 0) (by decide +kernel) rfl,
  List.forall_mem_cons.mpr ⟨k_gf (j := 11) (T := TX8) rfl inX8G (by decide) w_627 (by decide +kernel),
  List.forall_mem_cons.mpr ⟨k_bipush (n := 10) (10) (by decide +kernel) (by decide),
  List.forall_mem_cons.mpr ⟨k_ilN (i := 1) (by decide +kernel) rfl,
  List.forall_mem_cons.mpr ⟨k_imul (by decide +kernel),
  List.forall_mem_cons.mpr ⟨k_iconst (n := 1) (1) (by decide +kernel) (by decide),
  List.forall_mem_cons.mpr ⟨k_iadd (by decide +kernel),
  List.forall_mem_cons.mpr ⟨k_ia (by decide +kernel),
  List.forall_mem_cons.mpr ⟨k_if_le (off := 7) (by decide +kernel) (by decide),
  List.forall_mem_cons.mpr ⟨k_iconst (n := 1) (1) (by decide +kernel) (by decide),
  List.forall_mem_cons.mpr ⟨k_goto (off := 4) (by decide +kernel) (by decide),
  List.forall_mem_cons.mpr ⟨k_iconst (n := 0) (0) (by decide +kernel) (by decide),
  List.forall_mem_cons.mpr ⟨k_zret (by decide +kernel),
  fun _ h => absurd h List.not_mem_nil⟩⟩⟩⟩⟩⟩⟩⟩⟩⟩⟩⟩⟩
def tb_113 : List (Nat × pO) := [(0, o_al 0 1), (1, o_il 2 2), (2, o_call (rcV 8) 112 2 5), (5, o_is 3 6), (6, o_al 0 7), (7, o_gf 8 10 10), (10, o_const (.int (3)) 11), (11, o_il 2 12), (12, o_bin (fun x y => x * y) 13), (13, o_const (.int (1)) 14), (14, o_bin (fun x y => x + y) 15), (15, o_ia 16), (16, o_is 4 18), (18, o_const (.int (0)) 19), (19, o_is 5 21), (21, o_il 5 23), (23, o_al 0 24), (24, o_gf 8 11 27), (27, o_const (.int (10)) 29), (29, o_il 2 30), (30, o_bin (fun x y => x * y) 31), (31, o_const (.int (1)) 32), (32, o_bin (fun x y => x + y) 33), (33, o_ia 34), (34, o_cmp (fun x y => y ≤ x) 90 37), (37, o_il 4 39), (39, o_al 0 40), (40, o_gf 8 11 43), (43, o_const (.int (10)) 45), (45, o_il 2 46), (46, o_bin (fun x y => x * y) 47), (47, o_ia 48), (48, o_call rc0 110 2 51), (51, o_is 4 53), (53, o_il 3 54), (54, o_if (fun x => x = 0) 82 57), (57, o_al 1 58), (58, o_il 4 60), (60, o_ia 61), (61, o_al 0 62), (62, o_gf 8 11 65), (65, o_const (.int (10)) 67), (67, o_il 2 68), (68, o_bin (fun x y => x * y) 69), (69, o_const (.int (2)) 70), (70, o_bin (fun x y => x + y) 71), (71, o_il 5 73), (73, o_bin (fun x y => x + y) 74), (74, o_ia 75), (75, o_cmp (fun x y => ¬ x = y) 82 78), (78, o_const (.int (1)) 79), (79, o_goto 83), (82, o_const (.int (0)) 83), (83, o_is 3 84), (84, o_inc 5 (1) 87), (87, o_goto 21), (90, o_il 3 91), (91, o_zret)]
set_option maxRecDepth 20000 in
theorem tk_113 : ∀ q ∈ tb_113, okA noS mM (prog_10_method_28_code, "DuneMapsModel", 6, some .boolean, false) q.1 q.2 :=
  List.forall_mem_cons.mpr ⟨k_alN (i := 0) (by decide +kernel) rfl,
  List.forall_mem_cons.mpr ⟨k_ilN (i := 2) (by decide +kernel) rfl,
  List.forall_mem_cons.mpr ⟨k_callV (y := 112) (n := 1) (ci := 8) rfl w_787 w_789 w_19 w_47 w_790 (by decide +kernel) (by decide) (by decide +kernel),
  List.forall_mem_cons.mpr ⟨k_isN (i := 3) (by decide +kernel) rfl,
  List.forall_mem_cons.mpr ⟨k_alN (i := 0) (by decide +kernel) rfl,
  List.forall_mem_cons.mpr ⟨k_gf (j := 10) (T := TX8) rfl inX8G (by decide) w_626 (by decide +kernel),
  List.forall_mem_cons.mpr ⟨k_iconst (n := 3) (3) (by decide +kernel) (by decide),
  List.forall_mem_cons.mpr ⟨k_ilN (i := 2) (by decide +kernel) rfl,
  List.forall_mem_cons.mpr ⟨k_imul (by decide +kernel),
  List.forall_mem_cons.mpr ⟨k_iconst (n := 1) (1) (by decide +kernel) (by decide),
  List.forall_mem_cons.mpr ⟨k_iadd (by decide +kernel),
  List.forall_mem_cons.mpr ⟨k_ia (by decide +kernel),
  List.forall_mem_cons.mpr ⟨k_is (by decide +kernel),
  List.forall_mem_cons.mpr ⟨k_iconst (n := 0) (0) (by decide +kernel) (by decide),
  List.forall_mem_cons.mpr ⟨k_is (by decide +kernel),
  List.forall_mem_cons.mpr ⟨k_il (by decide +kernel),
  List.forall_mem_cons.mpr ⟨k_alN (i := 0) (by decide +kernel) rfl,
  List.forall_mem_cons.mpr ⟨k_gf (j := 11) (T := TX8) rfl inX8G (by decide) w_627 (by decide +kernel),
  List.forall_mem_cons.mpr ⟨k_bipush (n := 10) (10) (by decide +kernel) (by decide),
  List.forall_mem_cons.mpr ⟨k_ilN (i := 2) (by decide +kernel) rfl,
  List.forall_mem_cons.mpr ⟨k_imul (by decide +kernel),
  List.forall_mem_cons.mpr ⟨k_iconst (n := 1) (1) (by decide +kernel) (by decide),
  List.forall_mem_cons.mpr ⟨k_iadd (by decide +kernel),
  List.forall_mem_cons.mpr ⟨k_ia (by decide +kernel),
  List.forall_mem_cons.mpr ⟨k_icmp_ge (off := 56) (by decide +kernel) (by decide),
  List.forall_mem_cons.mpr ⟨k_il (by decide +kernel),
  List.forall_mem_cons.mpr ⟨k_alN (i := 0) (by decide +kernel) rfl,
  List.forall_mem_cons.mpr ⟨k_gf (j := 11) (T := TX8) rfl inX8G (by decide) w_627 (by decide +kernel),
  List.forall_mem_cons.mpr ⟨k_bipush (n := 10) (10) (by decide +kernel) (by decide),
  List.forall_mem_cons.mpr ⟨k_ilN (i := 2) (by decide +kernel) rfl,
  List.forall_mem_cons.mpr ⟨k_imul (by decide +kernel),
  List.forall_mem_cons.mpr ⟨k_ia (by decide +kernel),
  List.forall_mem_cons.mpr ⟨k_callS (y := 110) (n := 2) w_795 w_796 w_47 w_797 (by decide +kernel) (by decide) (by decide +kernel),
  List.forall_mem_cons.mpr ⟨k_is (by decide +kernel),
  List.forall_mem_cons.mpr ⟨k_ilN (i := 3) (by decide +kernel) rfl,
  List.forall_mem_cons.mpr ⟨k_if_eq (off := 28) (by decide +kernel) (by decide),
  List.forall_mem_cons.mpr ⟨k_alN (i := 1) (by decide +kernel) rfl,
  List.forall_mem_cons.mpr ⟨k_il (by decide +kernel),
  List.forall_mem_cons.mpr ⟨k_ia (by decide +kernel),
  List.forall_mem_cons.mpr ⟨k_alN (i := 0) (by decide +kernel) rfl,
  List.forall_mem_cons.mpr ⟨k_gf (j := 11) (T := TX8) rfl inX8G (by decide) w_627 (by decide +kernel),
  List.forall_mem_cons.mpr ⟨k_bipush (n := 10) (10) (by decide +kernel) (by decide),
  List.forall_mem_cons.mpr ⟨k_ilN (i := 2) (by decide +kernel) rfl,
  List.forall_mem_cons.mpr ⟨k_imul (by decide +kernel),
  List.forall_mem_cons.mpr ⟨k_iconst (n := 2) (2) (by decide +kernel) (by decide),
  List.forall_mem_cons.mpr ⟨k_iadd (by decide +kernel),
  List.forall_mem_cons.mpr ⟨k_il (by decide +kernel),
  List.forall_mem_cons.mpr ⟨k_iadd (by decide +kernel),
  List.forall_mem_cons.mpr ⟨k_ia (by decide +kernel),
  List.forall_mem_cons.mpr ⟨k_icmp_ne (off := 7) (by decide +kernel) (by decide),
  List.forall_mem_cons.mpr ⟨k_iconst (n := 1) (1) (by decide +kernel) (by decide),
  List.forall_mem_cons.mpr ⟨k_goto (off := 4) (by decide +kernel) (by decide),
  List.forall_mem_cons.mpr ⟨k_iconst (n := 0) (0) (by decide +kernel) (by decide),
  List.forall_mem_cons.mpr ⟨k_isN (i := 3) (by decide +kernel) rfl,
  List.forall_mem_cons.mpr ⟨k_inc (n := 1) (1) (by decide +kernel) (by decide),
  List.forall_mem_cons.mpr ⟨k_goto (off := -66) (by decide +kernel) (by decide),
  List.forall_mem_cons.mpr ⟨k_ilN (i := 3) (by decide +kernel) rfl,
  List.forall_mem_cons.mpr ⟨k_zret (by decide +kernel),
  fun _ h => absurd h List.not_mem_nil⟩⟩⟩⟩⟩⟩⟩⟩⟩⟩⟩⟩⟩⟩⟩⟩⟩⟩⟩⟩⟩⟩⟩⟩⟩⟩⟩⟩⟩⟩⟩⟩⟩⟩⟩⟩⟩⟩⟩⟩⟩⟩⟩⟩⟩⟩⟩⟩⟩⟩⟩⟩⟩⟩⟩⟩⟩⟩
def tb_114 : List (Nat × pO) := [(0, o_il 2 1), (1, o_sw [(0, 48), (1, 48), (2, 59), (3, 71), (4, 82), (5, 96), (6, 114), (7, 114)] 141), (48, o_al 0 49), (49, o_gf 8 10 52), (52, o_const (.int (3)) 53), (53, o_il 1 54), (54, o_bin (fun x y => x * y) 55), (55, o_il 2 56), (56, o_bin (fun x y => x + y) 57), (57, o_ia 58), (58, o_iret), (59, o_al 0 60), (60, o_gf 8 10 63), (63, o_const (.int (3)) 64), (64, o_il 1 65), (65, o_bin (fun x y => x * y) 66), (66, o_ia 67), (67, o_call rc0 108 1 70), (70, o_iret), (71, o_al 0 72), (72, o_gf 8 10 75), (75, o_const (.int (3)) 76), (76, o_il 1 77), (77, o_bin (fun x y => x * y) 78), (78, o_const (.int (2)) 79), (79, o_bin (fun x y => x + y) 80), (80, o_ia 81), (81, o_iret), (82, o_al 0 83), (83, o_il 1 84), (84, o_call (rcV 8) 112 2 87), (87, o_if (fun x => x = 0) 94 90), (90, o_const (.int (1)) 91), (91, o_goto 95), (94, o_const (.int (0)) 95), (95, o_iret), (96, o_al 0 97), (97, o_al 0 98), (98, o_gf 8 6 101), (101, o_il 1 102), (102, o_call (rcV 8) 113 3 105), (105, o_if (fun x => x = 0) 112 108), (108, o_const (.int (1)) 109), (109, o_goto 113), (112, o_const (.int (0)) 113), (113, o_iret), (114, o_al 0 115), (115, o_il 1 116), (116, o_call (rcV 8) 112 2 119), (119, o_if (fun x => x = 0) 139 122), (122, o_al 0 123), (123, o_gf 8 11 126), (126, o_const (.int (10)) 128), (128, o_il 1 129), (129, o_bin (fun x y => x * y) 130), (130, o_il 2 131), (131, o_bin (fun x y => x + y) 132), (132, o_const (.int (6)) 134), (134, o_bin (fun x y => x - y) 135), (135, o_ia 136), (136, o_goto 140), (139, o_const (.int (-1)) 140), (140, o_iret), (141, o_const (.int (-102)) 143), (143, o_iret)]
set_option maxRecDepth 20000 in
theorem tk_114 : ∀ q ∈ tb_114, okA noS mM (prog_10_method_29_code, "DuneMapsModel", 3, some .int, false) q.1 q.2 :=
  List.forall_mem_cons.mpr ⟨k_ilN (i := 2) (by decide +kernel) rfl,
  List.forall_mem_cons.mpr ⟨k_tsw (dflt := 140) (lo := 0) (hi := 7) (offs := #[47, 47, 58, 70, 81, 95, 113, 113]) (len := 47) [(0, 48), (1, 48), (2, 59), (3, 71), (4, 82), (5, 96), (6, 114), (7, 114)] (by decide +kernel) (by decide) (by decide) (by decide) (tsw_ok (by decide +kernel)) (by decide),
  List.forall_mem_cons.mpr ⟨k_alN (i := 0) (by decide +kernel) rfl,
  List.forall_mem_cons.mpr ⟨k_gf (j := 10) (T := TX8) rfl inX8G (by decide) w_626 (by decide +kernel),
  List.forall_mem_cons.mpr ⟨k_iconst (n := 3) (3) (by decide +kernel) (by decide),
  List.forall_mem_cons.mpr ⟨k_ilN (i := 1) (by decide +kernel) rfl,
  List.forall_mem_cons.mpr ⟨k_imul (by decide +kernel),
  List.forall_mem_cons.mpr ⟨k_ilN (i := 2) (by decide +kernel) rfl,
  List.forall_mem_cons.mpr ⟨k_iadd (by decide +kernel),
  List.forall_mem_cons.mpr ⟨k_ia (by decide +kernel),
  List.forall_mem_cons.mpr ⟨k_iret (by decide +kernel),
  List.forall_mem_cons.mpr ⟨k_alN (i := 0) (by decide +kernel) rfl,
  List.forall_mem_cons.mpr ⟨k_gf (j := 10) (T := TX8) rfl inX8G (by decide) w_626 (by decide +kernel),
  List.forall_mem_cons.mpr ⟨k_iconst (n := 3) (3) (by decide +kernel) (by decide),
  List.forall_mem_cons.mpr ⟨k_ilN (i := 1) (by decide +kernel) rfl,
  List.forall_mem_cons.mpr ⟨k_imul (by decide +kernel),
  List.forall_mem_cons.mpr ⟨k_ia (by decide +kernel),
  List.forall_mem_cons.mpr ⟨k_callS (y := 108) (n := 1) w_784 w_785 w_47 w_786 (by decide +kernel) (by decide) (by decide +kernel),
  List.forall_mem_cons.mpr ⟨k_iret (by decide +kernel),
  List.forall_mem_cons.mpr ⟨k_alN (i := 0) (by decide +kernel) rfl,
  List.forall_mem_cons.mpr ⟨k_gf (j := 10) (T := TX8) rfl inX8G (by decide) w_626 (by decide +kernel),
  List.forall_mem_cons.mpr ⟨k_iconst (n := 3) (3) (by decide +kernel) (by decide),
  List.forall_mem_cons.mpr ⟨k_ilN (i := 1) (by decide +kernel) rfl,
  List.forall_mem_cons.mpr ⟨k_imul (by decide +kernel),
  List.forall_mem_cons.mpr ⟨k_iconst (n := 2) (2) (by decide +kernel) (by decide),
  List.forall_mem_cons.mpr ⟨k_iadd (by decide +kernel),
  List.forall_mem_cons.mpr ⟨k_ia (by decide +kernel),
  List.forall_mem_cons.mpr ⟨k_iret (by decide +kernel),
  List.forall_mem_cons.mpr ⟨k_alN (i := 0) (by decide +kernel) rfl,
  List.forall_mem_cons.mpr ⟨k_ilN (i := 1) (by decide +kernel) rfl,
  List.forall_mem_cons.mpr ⟨k_callV (y := 112) (n := 1) (ci := 8) rfl w_787 w_789 w_19 w_47 w_790 (by decide +kernel) (by decide) (by decide +kernel),
  List.forall_mem_cons.mpr ⟨k_if_eq (off := 7) (by decide +kernel) (by decide),
  List.forall_mem_cons.mpr ⟨k_iconst (n := 1) (1) (by decide +kernel) (by decide),
  List.forall_mem_cons.mpr ⟨k_goto (off := 4) (by decide +kernel) (by decide),
  List.forall_mem_cons.mpr ⟨k_iconst (n := 0) (0) (by decide +kernel) (by decide),
  List.forall_mem_cons.mpr ⟨k_iret (by decide +kernel),
  List.forall_mem_cons.mpr ⟨k_alN (i := 0) (by decide +kernel) rfl,
  List.forall_mem_cons.mpr ⟨k_alN (i := 0) (by decide +kernel) rfl,
  List.forall_mem_cons.mpr ⟨k_gf (j := 6) (T := TX8) rfl inX8G (by decide) w_622 (by decide +kernel),
  List.forall_mem_cons.mpr ⟨k_ilN (i := 1) (by decide +kernel) rfl,
  List.forall_mem_cons.mpr ⟨k_callV (y := 113) (n := 2) (ci := 8) rfl w_791 w_793 w_20 w_47 w_794 (by decide +kernel) (by decide) (by decide +kernel),
  List.forall_mem_cons.mpr ⟨k_if_eq (off := 7) (by decide +kernel) (by decide),
  List.forall_mem_cons.mpr ⟨k_iconst (n := 1) (1) (by decide +kernel) (by decide),
  List.forall_mem_cons.mpr ⟨k_goto (off := 4) (by decide +kernel) (by decide),
  List.forall_mem_cons.mpr ⟨k_iconst (n := 0) (0) (by decide +kernel) (by decide),
  List.forall_mem_cons.mpr ⟨k_iret (by decide +kernel),
  List.forall_mem_cons.mpr ⟨k_alN (i := 0) (by decide +kernel) rfl,
  List.forall_mem_cons.mpr ⟨k_ilN (i := 1) (by decide +kernel) rfl,
  List.forall_mem_cons.mpr ⟨k_callV (y := 112) (n := 1) (ci := 8) rfl w_787 w_789 w_19 w_47 w_790 (by decide +kernel) (by decide) (by decide +kernel),
  List.forall_mem_cons.mpr ⟨k_if_eq (off := 20) (by decide +kernel) (by decide),
  List.forall_mem_cons.mpr ⟨k_alN (i := 0) (by decide +kernel) rfl,
  List.forall_mem_cons.mpr ⟨k_gf (j := 11) (T := TX8) rfl inX8G (by decide) w_627 (by decide +kernel),
  List.forall_mem_cons.mpr ⟨k_bipush (n := 10) (10) (by decide +kernel) (by decide),
  List.forall_mem_cons.mpr ⟨k_ilN (i := 1) (by decide +kernel) rfl,
  List.forall_mem_cons.mpr ⟨k_imul (by decide +kernel),
  List.forall_mem_cons.mpr ⟨k_ilN (i := 2) (by decide +kernel) rfl,
  List.forall_mem_cons.mpr ⟨k_iadd (by decide +kernel),
  List.forall_mem_cons.mpr ⟨k_bipush (n := 6) (6) (by decide +kernel) (by decide),
  List.forall_mem_cons.mpr ⟨k_isub (by decide +kernel),
  List.forall_mem_cons.mpr ⟨k_ia (by decide +kernel),
  List.forall_mem_cons.mpr ⟨k_goto (off := 4) (by decide +kernel) (by decide),
  List.forall_mem_cons.mpr ⟨k_iconst (n := -1) (-1) (by decide +kernel) (by decide),
  List.forall_mem_cons.mpr ⟨k_iret (by decide +kernel),
  List.forall_mem_cons.mpr ⟨k_bipush (n := -102) (-102) (by decide +kernel) (by decide),
  List.forall_mem_cons.mpr ⟨k_iret (by decide +kernel),
  fun _ h => absurd h List.not_mem_nil⟩⟩⟩⟩⟩⟩⟩⟩⟩⟩⟩⟩⟩⟩⟩⟩⟩⟩⟩⟩⟩⟩⟩⟩⟩⟩⟩⟩⟩⟩⟩⟩⟩⟩⟩⟩⟩⟩⟩⟩⟩⟩⟩⟩⟩⟩⟩⟩⟩⟩⟩⟩⟩⟩⟩⟩⟩⟩⟩⟩⟩⟩⟩⟩⟩
def tb_115 : List (Nat × pO) := [(0, o_al 0 1), (1, o_il 1 2), (2, o_call (rcV 8) 107 2 5), (5, o_if (fun x => x = 0) 17 8), (8, o_al 0 9), (9, o_il 1 10), (10, o_il 2 11), (11, o_call (rcV 8) 114 3 14), (14, o_goto 19), (17, o_const (.int (-101)) 19), (19, o_iret)]
set_option maxRecDepth 20000 in
theorem tk_115 : ∀ q ∈ tb_115, okA noS mM (prog_10_method_30_code, "DuneMapsModel", 3, some .int, false) q.1 q.2 :=
  List.forall_mem_cons.mpr ⟨k_alN (i := 0) (by decide +kernel) rfl,
  List.forall_mem_cons.mpr ⟨k_ilN (i := 1) (by decide +kernel) rfl,
  List.forall_mem_cons.mpr ⟨k_callV (y := 107) (n := 1) (ci := 8) rfl w_776 w_778 w_17 w_47 w_779 (by decide +kernel) (by decide) (by decide +kernel),
  List.forall_mem_cons.mpr ⟨k_if_eq (off := 12) (by decide +kernel) (by decide),
  List.forall_mem_cons.mpr ⟨k_alN (i := 0) (by decide +kernel) rfl,
  List.forall_mem_cons.mpr ⟨k_ilN (i := 1) (by decide +kernel) rfl,
  List.forall_mem_cons.mpr ⟨k_ilN (i := 2) (by decide +kernel) rfl,
  List.forall_mem_cons.mpr ⟨k_callV (y := 114) (n := 2) (ci := 8) rfl w_780 w_782 w_18 w_47 w_783 (by decide +kernel) (by decide) (by decide +kernel),
  List.forall_mem_cons.mpr ⟨k_goto (off := 5) (by decide +kernel) (by decide),
  List.forall_mem_cons.mpr ⟨k_bipush (n := -101) (-101) (by decide +kernel) (by decide),
  List.forall_mem_cons.mpr ⟨k_iret (by decide +kernel),
  fun _ h => absurd h List.not_mem_nil⟩⟩⟩⟩⟩⟩⟩⟩⟩⟩⟩
def tb_116 : List (Nat × pO) := [(0, o_al 0 1), (1, o_il 1 2), (2, o_call (rcV 8) 107 2 5), (5, o_if (fun x => ¬ x = 0) 11 8), (8, o_const (.int (-101)) 10), (10, o_iret), (11, o_il 2 12), (12, o_i2l 13), (13, o_const (.long (0)) 14), (14, o_const (.long (4)) 17), (17, o_call rc0 87 3 20), (20, o_if (fun x => ¬ x = 0) 26 23), (23, o_const (.int (-102)) 25), (25, o_iret), (26, o_al 0 27), (27, o_gf 8 10 30), (30, o_const (.int (3)) 31), (31, o_il 1 32), (32, o_bin (fun x y => x * y) 33), (33, o_ia 34), (34, o_is 3 35), (35, o_il 2 36), (36, o_if (fun x => x = 0) 54 39), (39, o_il 2 40), (40, o_il 3 41), (41, o_cmp (fun x y => x = y) 54 44), (44, o_il 2 45), (45, o_const (.int (1)) 46), (46, o_cmp (fun x y => ¬ x = y) 58 49), (49, o_il 3 50), (50, o_const (.int (4)) 51), (51, o_cmp (fun x y => ¬ x = y) 58 54), (54, o_const (.int (1)) 55), (55, o_goto 59), (58, o_const (.int (0)) 59), (59, o_is 4 61), (61, o_il 4 63), (63, o_if (fun x => x = 0) 70 66), (66, o_il 1 67), (67, o_goto 71), (70, o_const (.int (-1)) 71), (71, o_iret)]
set_option maxRecDepth 20000 in
theorem tk_116 : ∀ q ∈ tb_116, okA noS mM (prog_10_method_31_code, "DuneMapsModel", 5, some .int, false) q.1 q.2 :=
  List.forall_mem_cons.mpr ⟨k_alN (i := 0) (by decide +kernel) rfl,
  List.forall_mem_cons.mpr ⟨k_ilN (i := 1) (by decide +kernel) rfl,
  List.forall_mem_cons.mpr ⟨k_callV (y := 107) (n := 1) (ci := 8) rfl w_776 w_778 w_17 w_47 w_779 (by decide +kernel) (by decide) (by decide +kernel),
  List.forall_mem_cons.mpr ⟨k_if_ne (off := 6) (by decide +kernel) (by decide),
  List.forall_mem_cons.mpr ⟨k_bipush (n := -101) (-101) (by decide +kernel) (by decide),
  List.forall_mem_cons.mpr ⟨k_iret (by decide +kernel),
  List.forall_mem_cons.mpr ⟨k_ilN (i := 2) (by decide +kernel) rfl,
  List.forall_mem_cons.mpr ⟨k_i2l (by decide +kernel),
  List.forall_mem_cons.mpr ⟨k_lconst (n := 0) (0) (by decide +kernel) (by decide),
  List.forall_mem_cons.mpr ⟨k_ldc2 w_771 (by decide +kernel),
  List.forall_mem_cons.mpr ⟨k_callS (y := 87) (n := 3) w_700 w_701 w_47 w_702 (by decide +kernel) (by decide) (by decide +kernel),
  List.forall_mem_cons.mpr ⟨k_if_ne (off := 6) (by decide +kernel) (by decide),
  List.forall_mem_cons.mpr ⟨k_bipush (n := -102) (-102) (by decide +kernel) (by decide),
  List.forall_mem_cons.mpr ⟨k_iret (by decide +kernel),
  List.forall_mem_cons.mpr ⟨k_alN (i := 0) (by decide +kernel) rfl,
  List.forall_mem_cons.mpr ⟨k_gf (j := 10) (T := TX8) rfl inX8G (by decide) w_626 (by decide +kernel),
  List.forall_mem_cons.mpr ⟨k_iconst (n := 3) (3) (by decide +kernel) (by decide),
  List.forall_mem_cons.mpr ⟨k_ilN (i := 1) (by decide +kernel) rfl,
  List.forall_mem_cons.mpr ⟨k_imul (by decide +kernel),
  List.forall_mem_cons.mpr ⟨k_ia (by decide +kernel),
  List.forall_mem_cons.mpr ⟨k_isN (i := 3) (by decide +kernel) rfl,
  List.forall_mem_cons.mpr ⟨k_ilN (i := 2) (by decide +kernel) rfl,
  List.forall_mem_cons.mpr ⟨k_if_eq (off := 18) (by decide +kernel) (by decide),
  List.forall_mem_cons.mpr ⟨k_ilN (i := 2) (by decide +kernel) rfl,
  List.forall_mem_cons.mpr ⟨k_ilN (i := 3) (by decide +kernel) rfl,
  List.forall_mem_cons.mpr ⟨k_icmp_eq (off := 13) (by decide +kernel) (by decide),
  List.forall_mem_cons.mpr ⟨k_ilN (i := 2) (by decide +kernel) rfl,
  List.forall_mem_cons.mpr ⟨k_iconst (n := 1) (1) (by decide +kernel) (by decide),
  List.forall_mem_cons.mpr ⟨k_icmp_ne (off := 12) (by decide +kernel) (by decide),
  List.forall_mem_cons.mpr ⟨k_ilN (i := 3) (by decide +kernel) rfl,
  List.forall_mem_cons.mpr ⟨k_iconst (n := 4) (4) (by decide +kernel) (by decide),
  List.forall_mem_cons.mpr ⟨k_icmp_ne (off := 7) (by decide +kernel) (by decide),
  List.forall_mem_cons.mpr ⟨k_iconst (n := 1) (1) (by decide +kernel) (by decide),
  List.forall_mem_cons.mpr ⟨k_goto (off := 4) (by decide +kernel) (by decide),
  List.forall_mem_cons.mpr ⟨k_iconst (n := 0) (0) (by decide +kernel) (by decide),
  List.forall_mem_cons.mpr ⟨k_is (by decide +kernel),
  List.forall_mem_cons.mpr ⟨k_il (by decide +kernel),
  List.forall_mem_cons.mpr ⟨k_if_eq (off := 7) (by decide +kernel) (by decide),
  List.forall_mem_cons.mpr ⟨k_ilN (i := 1) (by decide +kernel) rfl,
  List.forall_mem_cons.mpr ⟨k_goto (off := 4) (by decide +kernel) (by decide),
  List.forall_mem_cons.mpr ⟨k_iconst (n := -1) (-1) (by decide +kernel) (by decide),
  List.forall_mem_cons.mpr ⟨k_iret (by decide +kernel),
  fun _ h => absurd h List.not_mem_nil⟩⟩⟩⟩⟩⟩⟩⟩⟩⟩⟩⟩⟩⟩⟩⟩⟩⟩⟩⟩⟩⟩⟩⟩⟩⟩⟩⟩⟩⟩⟩⟩⟩⟩⟩⟩⟩⟩⟩⟩⟩⟩
def tb_117 : List (Nat × pO) := [(0, o_al 0 1), (1, o_gf 8 10 4), (4, o_const (.int (3)) 5), (5, o_il 1 6), (6, o_bin (fun x y => x * y) 7), (7, o_const (.int (1)) 8), (8, o_bin (fun x y => x + y) 9), (9, o_al 0 10), (10, o_gf 8 10 13), (13, o_const (.int (3)) 14), (14, o_il 1 15), (15, o_bin (fun x y => x * y) 16), (16, o_const (.int (1)) 17), (17, o_bin (fun x y => x + y) 18), (18, o_ia 19), (19, o_il 2 20), (20, o_call rc0 110 2 23), (23, o_ist 24), (24, o_al 0 25), (25, o_gf 8 10 28), (28, o_const (.int (3)) 29), (29, o_il 1 30), (30, o_bin (fun x y => x * y) 31), (31, o_const (.int (2)) 32), (32, o_bin (fun x y => x + y) 33), (33, o_dup2 34), (34, o_ia 35), (35, o_const (.int (1)) 36), (36, o_bin (fun x y => x + y) 37), (37, o_ist 38), (38, o_al 0 39), (39, o_al 0 40), (40, o_gf 8 6 43), (43, o_al 0 44), (44, o_gf 8 10 47), (47, o_const (.int (3)) 48), (48, o_il 1 49), (49, o_bin (fun x y => x * y) 50), (50, o_const (.int (1)) 51), (51, o_bin (fun x y => x + y) 52), (52, o_ia 53), (53, o_al 0 54), (54, o_gf 8 10 57), (57, o_const (.int (3)) 58), (58, o_il 1 59), (59, o_bin (fun x y => x * y) 60), (60, o_ia 61), (61, o_call (rcV 8) 109 4 64), (64, o_iret)]
set_option maxRecDepth 20000 in
theorem tk_117 : ∀ q ∈ tb_117, okA noS mM (prog_10_method_32_code, "DuneMapsModel", 3, some .int, false) q.1 q.2 :=
  List.forall_mem_cons.mpr ⟨k_alN (i := 0) (by decide +kernel) rfl,
  List.forall_mem_cons.mpr ⟨k_gf (j := 10) (T := TX8) rfl inX8G (by decide) w_626 (by decide +kernel),
  List.forall_mem_cons.mpr ⟨k_iconst (n := 3) (3) (by decide +kernel) (by decide),
  List.forall_mem_cons.mpr ⟨k_ilN (i := 1) (by decide +kernel) rfl,
  List.forall_mem_cons.mpr ⟨k_imul (by decide +kernel),
  List.forall_mem_cons.mpr ⟨k_iconst (n := 1) (1) (by decide +kernel) (by decide),
  List.forall_mem_cons.mpr ⟨k_iadd (by decide +kernel),
  List.forall_mem_cons.mpr ⟨k_alN (i := 0) (by decide +kernel) rfl,
  List.forall_mem_cons.mpr ⟨k_gf (j := 10) (T := TX8) rfl inX8G (by decide) w_626 (by decide +kernel),
  List.forall_mem_cons.mpr ⟨k_iconst (n := 3) (3) (by decide +kernel) (by decide),
  List.forall_mem_cons.mpr ⟨k_ilN (i := 1) (by decide +kernel) rfl,
  List.forall_mem_cons.mpr ⟨k_imul (by decide +kernel),
  List.forall_mem_cons.mpr ⟨k_iconst (n := 1) (1) (by decide +kernel) (by decide),
  List.forall_mem_cons.mpr ⟨k_iadd (by decide +kernel),
  List.forall_mem_cons.mpr ⟨k_ia (by decide +kernel),
  List.forall_mem_cons.mpr ⟨k_ilN (i := 2) (by decide +kernel) rfl,
  List.forall_mem_cons.mpr ⟨k_callS (y := 110) (n := 2) w_795 w_796 w_47 w_797 (by decide +kernel) (by decide) (by decide +kernel),
  List.forall_mem_cons.mpr ⟨k_ist (by decide +kernel),
  List.forall_mem_cons.mpr ⟨k_alN (i := 0) (by decide +kernel) rfl,
  List.forall_mem_cons.mpr ⟨k_gf (j := 10) (T := TX8) rfl inX8G (by decide) w_626 (by decide +kernel),
  List.forall_mem_cons.mpr ⟨k_iconst (n := 3) (3) (by decide +kernel) (by decide),
  List.forall_mem_cons.mpr ⟨k_ilN (i := 1) (by decide +kernel) rfl,
  List.forall_mem_cons.mpr ⟨k_imul (by decide +kernel),
  List.forall_mem_cons.mpr ⟨k_iconst (n := 2) (2) (by decide +kernel) (by decide),
  List.forall_mem_cons.mpr ⟨k_iadd (by decide +kernel),
  List.forall_mem_cons.mpr ⟨k_dup2 (by decide +kernel),
  List.forall_mem_cons.mpr ⟨k_ia (by decide +kernel),
  List.forall_mem_cons.mpr ⟨k_iconst (n := 1) (1) (by decide +kernel) (by decide),
  List.forall_mem_cons.mpr ⟨k_iadd (by decide +kernel),
  List.forall_mem_cons.mpr ⟨k_ist (by decide +kernel),
  List.forall_mem_cons.mpr ⟨k_alN (i := 0) (by decide +kernel) rfl,
  List.forall_mem_cons.mpr ⟨k_alN (i := 0) (by decide +kernel) rfl,
  List.forall_mem_cons.mpr ⟨k_gf (j := 6) (T := TX8) rfl inX8G (by decide) w_622 (by decide +kernel),
  List.forall_mem_cons.mpr ⟨k_alN (i := 0) (by decide +kernel) rfl,
  List.forall_mem_cons.mpr ⟨k_gf (j := 10) (T := TX8) rfl inX8G (by decide) w_626 (by decide +kernel),
  List.forall_mem_cons.mpr ⟨k_iconst (n := 3) (3) (by decide +kernel) (by decide),
  List.forall_mem_cons.mpr ⟨k_ilN (i := 1) (by decide +kernel) rfl,
  List.forall_mem_cons.mpr ⟨k_imul (by decide +kernel),
  List.forall_mem_cons.mpr ⟨k_iconst (n := 1) (1) (by decide +kernel) (by decide),
  List.forall_mem_cons.mpr ⟨k_iadd (by decide +kernel),
  List.forall_mem_cons.mpr ⟨k_ia (by decide +kernel),
  List.forall_mem_cons.mpr ⟨k_alN (i := 0) (by decide +kernel) rfl,
  List.forall_mem_cons.mpr ⟨k_gf (j := 10) (T := TX8) rfl inX8G (by decide) w_626 (by decide +kernel),
  List.forall_mem_cons.mpr ⟨k_iconst (n := 3) (3) (by decide +kernel) (by decide),
  List.forall_mem_cons.mpr ⟨k_ilN (i := 1) (by decide +kernel) rfl,
  List.forall_mem_cons.mpr ⟨k_imul (by decide +kernel),
  List.forall_mem_cons.mpr ⟨k_ia (by decide +kernel),
  List.forall_mem_cons.mpr ⟨k_callV (y := 109) (n := 3) (ci := 8) rfl w_810 w_812 w_22 w_47 w_813 (by decide +kernel) (by decide) (by decide +kernel),
  List.forall_mem_cons.mpr ⟨k_iret (by decide +kernel),
  fun _ h => absurd h List.not_mem_nil⟩⟩⟩⟩⟩⟩⟩⟩⟩⟩⟩⟩⟩⟩⟩⟩⟩⟩⟩⟩⟩⟩⟩⟩⟩⟩⟩⟩⟩⟩⟩⟩⟩⟩⟩⟩⟩⟩⟩⟩⟩⟩⟩⟩⟩⟩⟩⟩⟩
def tb_118 : List (Nat × pO) := [(0, o_al 0 1), (1, o_il 1 2), (2, o_call (rcV 8) 107 2 5), (5, o_if (fun x => ¬ x = 0) 11 8), (8, o_const (.int (-101)) 10), (10, o_iret), (11, o_il 2 12), (12, o_i2l 13), (13, o_const (.long (0)) 14), (14, o_const (.long (1)) 15), (15, o_call rc0 87 3 18), (18, o_if (fun x => x = 0) 30 21), (21, o_al 0 22), (22, o_il 1 23), (23, o_il 2 24), (24, o_call (rcV 8) 117 3 27), (27, o_goto 32), (30, o_const (.int (-102)) 32), (32, o_iret)]
set_option maxRecDepth 20000 in
theorem tk_118 : ∀ q ∈ tb_118, okA noS mM (prog_10_method_33_code, "DuneMapsModel", 3, some .int, false) q.1 q.2 :=
  List.forall_mem_cons.mpr ⟨k_alN (i := 0) (by decide +kernel) rfl,
  List.forall_mem_cons.mpr ⟨k_ilN (i := 1) (by decide +kernel) rfl,
  List.forall_mem_cons.mpr ⟨k_callV (y := 107) (n := 1) (ci := 8) rfl w_776 w_778 w_17 w_47 w_779 (by decide +kernel) (by decide) (by decide +kernel),
  List.forall_mem_cons.mpr ⟨k_if_ne (off := 6) (by decide +kernel) (by decide),
  List.forall_mem_cons.mpr ⟨k_bipush (n := -101) (-101) (by decide +kernel) (by decide),
  List.forall_mem_cons.mpr ⟨k_iret (by decide +kernel),
  List.forall_mem_cons.mpr ⟨k_ilN (i := 2) (by decide +kernel) rfl,
  List.forall_mem_cons.mpr ⟨k_i2l (by decide +kernel),
  List.forall_mem_cons.mpr ⟨k_lconst (n := 0) (0) (by decide +kernel) (by decide),
  List.forall_mem_cons.mpr ⟨k_lconst (n := 1) (1) (by decide +kernel) (by decide),
  List.forall_mem_cons.mpr ⟨k_callS (y := 87) (n := 3) w_700 w_701 w_47 w_702 (by decide +kernel) (by decide) (by decide +kernel),
  List.forall_mem_cons.mpr ⟨k_if_eq (off := 12) (by decide +kernel) (by decide),
  List.forall_mem_cons.mpr ⟨k_alN (i := 0) (by decide +kernel) rfl,
  List.forall_mem_cons.mpr ⟨k_ilN (i := 1) (by decide +kernel) rfl,
  List.forall_mem_cons.mpr ⟨k_ilN (i := 2) (by decide +kernel) rfl,
  List.forall_mem_cons.mpr ⟨k_callV (y := 117) (n := 2) (ci := 8) rfl w_806 w_808 w_21 w_47 w_809 (by decide +kernel) (by decide) (by decide +kernel),
  List.forall_mem_cons.mpr ⟨k_goto (off := 5) (by decide +kernel) (by decide),
  List.forall_mem_cons.mpr ⟨k_bipush (n := -102) (-102) (by decide +kernel) (by decide),
  List.forall_mem_cons.mpr ⟨k_iret (by decide +kernel),
  fun _ h => absurd h List.not_mem_nil⟩⟩⟩⟩⟩⟩⟩⟩⟩⟩⟩⟩⟩⟩⟩⟩⟩⟩⟩
end
section
def tb_119 : List (Nat × pO) := [(0, o_al 0 1), (1, o_il 1 2), (2, o_call (rcV 8) 107 2 5), (5, o_if (fun x => ¬ x = 0) 11 8), (8, o_const (.int (-101)) 10), (10, o_iret), (11, o_il 2 12), (12, o_i2l 13), (13, o_const (.long (0)) 14), (14, o_const (.long (1)) 15), (15, o_call rc0 87 3 18), (18, o_if (fun x => x = 0) 33 21), (21, o_il 3 22), (22, o_i2l 23), (23, o_const (.long (1)) 24), (24, o_const (.long (8)) 27), (27, o_call rc0 87 3 30), (30, o_if (fun x => ¬ x = 0) 36 33), (33, o_const (.int (-102)) 35), (35, o_iret), (36, o_al 0 37), (37, o_gf 8 11 40), (40, o_const (.int (10)) 42), (42, o_il 1 43), (43, o_bin (fun x y => x * y) 44), (44, o_il 2 45), (45, o_ist 46), (46, o_al 0 47), (47, o_gf 8 11 50), (50, o_const (.int (10)) 52), (52, o_il 1 53), (53, o_bin (fun x y => x * y) 54), (54, o_const (.int (1)) 55), (55, o_bin (fun x y => x + y) 56), (56, o_il 3 57), (57, o_ist 58), (58, o_al 0 59), (59, o_gf 8 10 62), (62, o_const (.int (3)) 63), (63, o_il 1 64), (64, o_bin (fun x y => x * y) 65), (65, o_const (.int (1)) 66), (66, o_bin (fun x y => x + y) 67), (67, o_ia 68), (68, o_is 4 70), (70, o_const (.int (0)) 71), (71, o_is 5 73), (73, o_const (.int (0)) 74), (74, o_is 6 76), (76, o_il 6 78), (78, o_il 3 79), (79, o_cmp (fun x y => y ≤ x) 129 82), (82, o_il 4 84), (84, o_il 2 85), (85, o_call rc0 110 2 88), (88, o_is 4 90), (90, o_al 0 91), (91, o_gf 8 11 94), (94, o_const (.int (10)) 96), (96, o_il 1 97), (97, o_bin (fun x y => x * y) 98), (98, o_const (.int (2)) 99), (99, o_bin (fun x y => x + y) 100), (100, o_il 6 102), (102, o_bin (fun x y => x + y) 103), (103, o_al 0 104), (104, o_gf 8 6 107), (107, o_il 4 109), (109, o_ia 110), (110, o_ist 111), (111, o_il 5 113), (113, o_al 0 114), (114, o_gf 8 6 117), (117, o_il 4 119), (119, o_ia 120), (120, o_bin (fun x y => x + y) 121), (121, o_is 5 123), (123, o_inc 6 (1) 126), (126, o_goto 76), (129, o_il 5 131), (131, o_iret)]
set_option maxRecDepth 20000 in
theorem tk_119 : ∀ q ∈ tb_119, okA noS mM (prog_10_method_34_code, "DuneMapsModel", 7, some .int, false) q.1 q.2 :=
  List.forall_mem_cons.mpr ⟨k_alN (i := 0) (by decide +kernel) rfl,
  List.forall_mem_cons.mpr ⟨k_ilN (i := 1) (by decide +kernel) rfl,
  List.forall_mem_cons.mpr ⟨k_callV (y := 107) (n := 1) (ci := 8) rfl w_776 w_778 w_17 w_47 w_779 (by decide +kernel) (by decide) (by decide +kernel),
  List.forall_mem_cons.mpr ⟨k_if_ne (off := 6) (by decide +kernel) (by decide),
  List.forall_mem_cons.mpr ⟨k_bipush (n := -101) (-101) (by decide +kernel) (by decide),
  List.forall_mem_cons.mpr ⟨k_iret (by decide +kernel),
  List.forall_mem_cons.mpr ⟨k_ilN (i := 2) (by decide +kernel) rfl,
  List.forall_mem_cons.mpr ⟨k_i2l (by decide +kernel),
  List.forall_mem_cons.mpr ⟨k_lconst (n := 0) (0) (by decide +kernel) (by decide),
  List.forall_mem_cons.mpr ⟨k_lconst (n := 1) (1) (by decide +kernel) (by decide),
  List.forall_mem_cons.mpr ⟨k_callS (y := 87) (n := 3) w_700 w_701 w_47 w_702 (by decide +kernel) (by decide) (by decide +kernel),
  List.forall_mem_cons.mpr ⟨k_if_eq (off := 15) (by decide +kernel) (by decide),
  List.forall_mem_cons.mpr ⟨k_ilN (i := 3) (by decide +kernel) rfl,
  List.forall_mem_cons.mpr ⟨k_i2l (by decide +kernel),
  List.forall_mem_cons.mpr ⟨k_lconst (n := 1) (1) (by decide +kernel) (by decide),
  List.forall_mem_cons.mpr ⟨k_ldc2 w_822 (by decide +kernel),
  List.forall_mem_cons.mpr ⟨k_callS (y := 87) (n := 3) w_700 w_701 w_47 w_702 (by decide +kernel) (by decide) (by decide +kernel),
  List.forall_mem_cons.mpr ⟨k_if_ne (off := 6) (by decide +kernel) (by decide),
  List.forall_mem_cons.mpr ⟨k_bipush (n := -102) (-102) (by decide +kernel) (by decide),
  List.forall_mem_cons.mpr ⟨k_iret (by decide +kernel),
  List.forall_mem_cons.mpr ⟨k_alN (i := 0) (by decide +kernel) rfl,
  List.forall_mem_cons.mpr ⟨k_gf (j := 11) (T := TX8) rfl inX8G (by decide) w_627 (by decide +kernel),
  List.forall_mem_cons.mpr ⟨k_bipush (n := 10) (10) (by decide +kernel) (by decide),
  List.forall_mem_cons.mpr ⟨k_ilN (i := 1) (by decide +kernel) rfl,
  List.forall_mem_cons.mpr ⟨k_imul (by decide +kernel),
  List.forall_mem_cons.mpr ⟨k_ilN (i := 2) (by decide +kernel) rfl,
  List.forall_mem_cons.mpr ⟨k_ist (by decide +kernel),
  List.forall_mem_cons.mpr ⟨k_alN (i := 0) (by decide +kernel) rfl,
  List.forall_mem_cons.mpr ⟨k_gf (j := 11) (T := TX8) rfl inX8G (by decide) w_627 (by decide +kernel),
  List.forall_mem_cons.mpr ⟨k_bipush (n := 10) (10) (by decide +kernel) (by decide),
  List.forall_mem_cons.mpr ⟨k_ilN (i := 1) (by decide +kernel) rfl,
  List.forall_mem_cons.mpr ⟨k_imul (by decide +kernel),
  List.forall_mem_cons.mpr ⟨k_iconst (n := 1) (1) (by decide +kernel) (by decide),
  List.forall_mem_cons.mpr ⟨k_iadd (by decide +kernel),
  List.forall_mem_cons.mpr ⟨k_ilN (i := 3) (by decide +kernel) rfl,
  List.forall_mem_cons.mpr ⟨k_ist (by decide +kernel),
  List.forall_mem_cons.mpr ⟨k_alN (i := 0) (by decide +kernel) rfl,
  List.forall_mem_cons.mpr ⟨k_gf (j := 10) (T := TX8) rfl inX8G (by decide) w_626 (by decide +kernel),
  List.forall_mem_cons.mpr ⟨k_iconst (n := 3) (3) (by decide +kernel) (by decide),
  List.forall_mem_cons.mpr ⟨k_ilN (i := 1) (by decide +kernel) rfl,
  List.forall_mem_cons.mpr ⟨k_imul (by decide +kernel),
  List.forall_mem_cons.mpr ⟨k_iconst (n := 1) (1) (by decide +kernel) (by decide),
  List.forall_mem_cons.mpr ⟨k_iadd (by decide +kernel),
  List.forall_mem_cons.mpr ⟨k_ia (by decide +kernel),
  List.forall_mem_cons.mpr ⟨k_is (by decide +kernel),
  List.forall_mem_cons.mpr ⟨k_iconst (n := 0) (0) (by decide +kernel) (by decide),
  List.forall_mem_cons.mpr ⟨k_is (by decide +kernel),
  List.forall_mem_cons.mpr ⟨k_iconst (n := 0) (0) (by decide +kernel) (by decide),
  List.forall_mem_cons.mpr ⟨k_is (by decide +kernel),
  List.forall_mem_cons.mpr ⟨k_il (by decide +kernel),
  List.forall_mem_cons.mpr ⟨k_ilN (i := 3) (by decide +kernel) rfl,
  List.forall_mem_cons.mpr ⟨k_icmp_ge (off := 50) (by decide +kernel) (by decide),
  List.forall_mem_cons.mpr ⟨k_il (by decide +kernel),
  List.forall_mem_cons.mpr ⟨k_ilN (i := 2) (by decide +kernel) rfl,
  List.forall_mem_cons.mpr ⟨k_callS (y := 110) (n := 2) w_795 w_796 w_47 w_797 (by decide +kernel) (by decide) (by decide +kernel),
  List.forall_mem_cons.mpr ⟨k_is (by decide +kernel),
  List.forall_mem_cons.mpr ⟨k_alN (i := 0) (by decide +kernel) rfl,
  List.forall_mem_cons.mpr ⟨k_gf (j := 11) (T := TX8) rfl inX8G (by decide) w_627 (by decide +kernel),
  List.forall_mem_cons.mpr ⟨k_bipush (n := 10) (10) (by decide +kernel) (by decide),
  List.forall_mem_cons.mpr ⟨k_ilN (i := 1) (by decide +kernel) rfl,
  List.forall_mem_cons.mpr ⟨k_imul (by decide +kernel),
  List.forall_mem_cons.mpr ⟨k_iconst (n := 2) (2) (by decide +kernel) (by decide),
  List.forall_mem_cons.mpr ⟨k_iadd (by decide +kernel),
  List.forall_mem_cons.mpr ⟨k_il (by decide +kernel),
  List.forall_mem_cons.mpr ⟨k_iadd (by decide +kernel),
  List.forall_mem_cons.mpr ⟨k_alN (i := 0) (by decide +kernel) rfl,
  List.forall_mem_cons.mpr ⟨k_gf (j := 6) (T := TX8) rfl inX8G (by decide) w_622 (by decide +kernel),
  List.forall_mem_cons.mpr ⟨k_il (by decide +kernel),
  List.forall_mem_cons.mpr ⟨k_ia (by decide +kernel),
  List.forall_mem_cons.mpr ⟨k_ist (by decide +kernel),
  List.forall_mem_cons.mpr ⟨k_il (by decide +kernel),
  List.forall_mem_cons.mpr ⟨k_alN (i := 0) (by decide +kernel) rfl,
  List.forall_mem_cons.mpr ⟨k_gf (j := 6) (T := TX8) rfl inX8G (by decide) w_622 (by decide +kernel),
  List.forall_mem_cons.mpr ⟨k_il (by decide +kernel),
  List.forall_mem_cons.mpr ⟨k_ia (by decide +kernel),
  List.forall_mem_cons.mpr ⟨k_iadd (by decide +kernel),
  List.forall_mem_cons.mpr ⟨k_is (by decide +kernel),
  List.forall_mem_cons.mpr ⟨k_inc (n := 1) (1) (by decide +kernel) (by decide),
  List.forall_mem_cons.mpr ⟨k_goto (off := -50) (by decide +kernel) (by decide),
  List.forall_mem_cons.mpr ⟨k_il (by decide +kernel),
  List.forall_mem_cons.mpr ⟨k_iret (by decide +kernel),
  fun _ h => absurd h List.not_mem_nil⟩⟩⟩⟩⟩⟩⟩⟩⟩⟩⟩⟩⟩⟩⟩⟩⟩⟩⟩⟩⟩⟩⟩⟩⟩⟩⟩⟩⟩⟩⟩⟩⟩⟩⟩⟩⟩⟩⟩⟩⟩⟩⟩⟩⟩⟩⟩⟩⟩⟩⟩⟩⟩⟩⟩⟩⟩⟩⟩⟩⟩⟩⟩⟩⟩⟩⟩⟩⟩⟩⟩⟩⟩⟩⟩⟩⟩⟩⟩⟩⟩
def tb_120 : List (Nat × pO) := [(0, o_al 0 1), (1, o_il 1 2), (2, o_call (rcV 8) 107 2 5), (5, o_if (fun x => ¬ x = 0) 11 8), (8, o_const (.int (-101)) 10), (10, o_iret), (11, o_al 0 12), (12, o_il 1 13), (13, o_call (rcV 8) 112 2 16), (16, o_if (fun x => ¬ x = 0) 22 19), (19, o_const (.int (-103)) 21), (21, o_iret), (22, o_al 0 23), (23, o_al 0 24), (24, o_gf 8 6 27), (27, o_il 1 28), (28, o_call (rcV 8) 113 3 31), (31, o_if (fun x => x = 0) 38 34), (34, o_const (.int (1)) 35), (35, o_goto 39), (38, o_const (.int (0)) 39), (39, o_is 2 40), (40, o_const (.int (0)) 41), (41, o_is 3 42), (42, o_il 3 43), (43, o_al 0 44), (44, o_gf 8 11 47), (47, o_const (.int (10)) 49), (49, o_il 1 50), (50, o_bin (fun x y => x * y) 51), (51, o_const (.int (1)) 52), (52, o_bin (fun x y => x + y) 53), (53, o_ia 54), (54, o_cmp (fun x y => y ≤ x) 79 57), (57, o_al 0 58), (58, o_il 1 59), (59, o_al 0 60), (60, o_gf 8 11 63), (63, o_const (.int (10)) 65), (65, o_il 1 66), (66, o_bin (fun x y => x * y) 67), (67, o_ia 68), (68, o_call (rcV 8) 117 3 71), (71, o_is 4 73), (73, o_inc 3 (1) 76), (76, o_goto 42), (79, o_al 0 80), (80, o_gf 8 11 83), (83, o_const (.int (10)) 85), (85, o_il 1 86), (86, o_bin (fun x y => x * y) 87), (87, o_const (.int (1)) 88), (88, o_bin (fun x y => x + y) 89), (89, o_const (.int (0)) 90), (90, o_ist 91), (91, o_il 2 92), (92, o_iret)]
set_option maxRecDepth 20000 in
theorem tk_120 : ∀ q ∈ tb_120, okA noS mM (prog_10_method_35_code, "DuneMapsModel", 5, some .int, false) q.1 q.2 :=
  List.forall_mem_cons.mpr ⟨k_alN (i := 0) (by decide +kernel) rfl,
  List.forall_mem_cons.mpr ⟨k_ilN (i := 1) (by decide +kernel) rfl,
  List.forall_mem_cons.mpr ⟨k_callV (y := 107) (n := 1) (ci := 8) rfl w_776 w_778 w_17 w_47 w_779 (by decide +kernel) (by decide) (by decide +kernel),
  List.forall_mem_cons.mpr ⟨k_if_ne (off := 6) (by decide +kernel) (by decide),
  List.forall_mem_cons.mpr ⟨k_bipush (n := -101) (-101) (by decide +kernel) (by decide),
  List.forall_mem_cons.mpr ⟨k_iret (by decide +kernel),
  List.forall_mem_cons.mpr ⟨k_alN (i := 0) (by decide +kernel) rfl,
  List.forall_mem_cons.mpr ⟨k_ilN (i := 1) (by decide +kernel) rfl,
  List.forall_mem_cons.mpr ⟨k_callV (y := 112) (n := 1) (ci := 8) rfl w_787 w_789 w_19 w_47 w_790 (by decide +kernel) (by decide) (by decide +kernel),
  List.forall_mem_cons.mpr ⟨k_if_ne (off := 6) (by decide +kernel) (by decide),
  List.forall_mem_cons.mpr ⟨k_bipush (n := -103) (-103) (by decide +kernel) (by decide),
  List.forall_mem_cons.mpr ⟨k_iret (by decide +kernel),
  List.forall_mem_cons.mpr ⟨k_alN (i := 0) (by decide +kernel) rfl,
  List.forall_mem_cons.mpr ⟨k_alN (i := 0) (by decide +kernel) rfl,
  List.forall_mem_cons.mpr ⟨k_gf (j := 6) (T := TX8) rfl inX8G (by decide) w_622 (by decide +kernel),
  List.forall_mem_cons.mpr ⟨k_ilN (i := 1) (by decide +kernel) rfl,
  List.forall_mem_cons.mpr ⟨k_callV (y := 113) (n := 2) (ci := 8) rfl w_791 w_793 w_20 w_47 w_794 (by decide +kernel) (by decide) (by decide +kernel),
  List.forall_mem_cons.mpr ⟨k_if_eq (off := 7) (by decide +kernel) (by decide),
  List.forall_mem_cons.mpr ⟨k_iconst (n := 1) (1) (by decide +kernel) (by decide),
  List.forall_mem_cons.mpr ⟨k_goto (off := 4) (by decide +kernel) (by decide),
  List.forall_mem_cons.mpr ⟨k_iconst (n := 0) (0) (by decide +kernel) (by decide),
  List.forall_mem_cons.mpr ⟨k_isN (i := 2) (by decide +kernel) rfl,
  List.forall_mem_cons.mpr ⟨k_iconst (n := 0) (0) (by decide +kernel) (by decide),
  List.forall_mem_cons.mpr ⟨k_isN (i := 3) (by decide +kernel) rfl,
  List.forall_mem_cons.mpr ⟨k_ilN (i := 3) (by decide +kernel) rfl,
  List.forall_mem_cons.mpr ⟨k_alN (i := 0) (by decide +kernel) rfl,
  List.forall_mem_cons.mpr ⟨k_gf (j := 11) (T := TX8) rfl inX8G (by decide) w_627 (by decide +kernel),
  List.forall_mem_cons.mpr ⟨k_bipush (n := 10) (10) (by decide +kernel) (by decide),
  List.forall_mem_cons.mpr ⟨k_ilN (i := 1) (by decide +kernel) rfl,
  List.forall_mem_cons.mpr ⟨k_imul (by decide +kernel),
  List.forall_mem_cons.mpr ⟨k_iconst (n := 1) (1) (by decide +kernel) (by decide),
  List.forall_mem_cons.mpr ⟨k_iadd (by decide +kernel),
  List.forall_mem_cons.mpr ⟨k_ia (by decide +kernel),
  List.forall_mem_cons.mpr ⟨k_icmp_ge (off := 25) (by decide +kernel) (by decide),
  List.forall_mem_cons.mpr ⟨k_alN (i := 0) (by decide +kernel) rfl,
  List.forall_mem_cons.mpr ⟨k_ilN (i := 1) (by decide +kernel) rfl,
  List.forall_mem_cons.mpr ⟨k_alN (i := 0) (by decide +kernel) rfl,
  List.forall_mem_cons.mpr ⟨k_gf (j := 11) (T := TX8) rfl inX8G (by decide) w_627 (by decide +kernel),
  List.forall_mem_cons.mpr ⟨k_bipush (n := 10) (10) (by decide +kernel) (by decide),
  List.forall_mem_cons.mpr ⟨k_ilN (i := 1) (by decide +kernel) rfl,
  List.forall_mem_cons.mpr ⟨k_imul (by decide +kernel),
  List.forall_mem_cons.mpr ⟨k_ia (by decide +kernel),
  List.forall_mem_cons.mpr ⟨k_callV (y := 117) (n := 2) (ci := 8) rfl w_806 w_808 w_21 w_47 w_809 (by decide +kernel) (by decide) (by decide +kernel),
  List.forall_mem_cons.mpr ⟨k_is (by decide +kernel),
  List.forall_mem_cons.mpr ⟨k_inc (n := 1) (1) (by decide +kernel) (by decide),
  List.forall_mem_cons.mpr ⟨k_goto (off := -34) (by decide +kernel) (by decide),
  List.forall_mem_cons.mpr ⟨k_alN (i := 0) (by decide +kernel) rfl,
  List.forall_mem_cons.mpr ⟨k_gf (j := 11) (T := TX8) rfl inX8G (by decide) w_627 (by decide +kernel),
  List.forall_mem_cons.mpr ⟨k_bipush (n := 10) (10) (by decide +kernel) (by decide),
  List.forall_mem_cons.mpr ⟨k_ilN (i := 1) (by decide +kernel) rfl,
  List.forall_mem_cons.mpr ⟨k_imul (by decide +kernel),
  List.forall_mem_cons.mpr ⟨k_iconst (n := 1) (1) (by decide +kernel) (by decide),
  List.forall_mem_cons.mpr ⟨k_iadd (by decide +kernel),
  List.forall_mem_cons.mpr ⟨k_iconst (n := 0) (0) (by decide +kernel) (by decide),
  List.forall_mem_cons.mpr ⟨k_ist (by decide +kernel),
  List.forall_mem_cons.mpr ⟨k_ilN (i := 2) (by decide +kernel) rfl,
  List.forall_mem_cons.mpr ⟨k_iret (by decide +kernel),
  fun _ h => absurd h List.not_mem_nil⟩⟩⟩⟩⟩⟩⟩⟩⟩⟩⟩⟩⟩⟩⟩⟩⟩⟩⟩⟩⟩⟩⟩⟩⟩⟩⟩⟩⟩⟩⟩⟩⟩⟩⟩⟩⟩⟩⟩⟩⟩⟩⟩⟩⟩⟩⟩⟩⟩⟩⟩⟩⟩⟩⟩⟩⟩
def tb_121 : List (Nat × pO) := [(0, o_al 0 1), (1, o_gf 8 10 4), (4, o_const (.int (3)) 5), (5, o_il 1 6), (6, o_bin (fun x y => x * y) 7), (7, o_const (.int (1)) 8), (8, o_bin (fun x y => x + y) 9), (9, o_ia 10), (10, o_is 2 11), (11, o_const (.int (0)) 12), (12, o_is 3 13), (13, o_il 3 14), (14, o_al 0 15), (15, o_gf 8 11 18), (18, o_const (.int (10)) 20), (20, o_il 1 21), (21, o_bin (fun x y => x * y) 22), (22, o_const (.int (1)) 23), (23, o_bin (fun x y => x + y) 24), (24, o_ia 25), (25, o_cmp (fun x y => y ≤ x) 67 28), (28, o_il 2 29), (29, o_al 0 30), (30, o_gf 8 11 33), (33, o_const (.int (10)) 35), (35, o_il 1 36), (36, o_bin (fun x y => x * y) 37), (37, o_ia 38), (38, o_call rc0 110 2 41), (41, o_is 2 42), (42, o_al 0 43), (43, o_al 0 44), (44, o_gf 8 12 47), (47, o_il 2 48), (48, o_al 0 49), (49, o_gf 8 10 52), (52, o_const (.int (3)) 53), (53, o_il 1 54), (54, o_bin (fun x y => x * y) 55), (55, o_ia 56), (56, o_call (rcV 8) 109 4 59), (59, o_is 4 61), (61, o_inc 3 (1) 64), (64, o_goto 13), (67, o_vret)]
set_option maxRecDepth 20000 in
theorem tk_121 : ∀ q ∈ tb_121, okA noS mM (prog_10_method_36_code, "DuneMapsModel", 5, none, false) q.1 q.2 :=
  List.forall_mem_cons.mpr ⟨k_alN (i := 0) (by decide +kernel) rfl,
  List.forall_mem_cons.mpr ⟨k_gf (j := 10) (T := TX8) rfl inX8G (by decide) w_626 (by decide +kernel),
  List.forall_mem_cons.mpr ⟨k_iconst (n := 3) (3) (by decide +kernel) (by decide),
  List.forall_mem_cons.mpr ⟨k_ilN (i := 1) (by decide +kernel) rfl,
  List.forall_mem_cons.mpr ⟨k_imul (by decide +kernel),
  List.forall_mem_cons.mpr ⟨k_iconst (n := 1) (1) (by decide +kernel) (by decide),
  List.forall_mem_cons.mpr ⟨k_iadd (by decide +kernel),
  List.forall_mem_cons.mpr ⟨k_ia (by decide +kernel),
  List.forall_mem_cons.mpr ⟨k_isN (i := 2) (by decide +kernel) rfl,
  List.forall_mem_cons.mpr ⟨k_iconst (n := 0) (0) (by decide +kernel) (by decide),
  List.forall_mem_cons.mpr ⟨k_isN (i := 3) (by decide +kernel) rfl,
  List.forall_mem_cons.mpr ⟨k_ilN (i := 3) (by decide +kernel) rfl,
  List.forall_mem_cons.mpr ⟨k_alN (i := 0) (by decide +kernel) rfl,
  List.forall_mem_cons.mpr ⟨k_gf (j := 11) (T := TX8) rfl inX8G (by decide) w_627 (by decide +kernel),
  List.forall_mem_cons.mpr ⟨k_bipush (n := 10) (10) (by decide +kernel) (by decide),
  List.forall_mem_cons.mpr ⟨k_ilN (i := 1) (by decide +kernel) rfl,
  List.forall_mem_cons.mpr ⟨k_imul (by decide +kernel),
  List.forall_mem_cons.mpr ⟨k_iconst (n := 1) (1) (by decide +kernel) (by decide),
  List.forall_mem_cons.mpr ⟨k_iadd (by decide +kernel),
  List.forall_mem_cons.mpr ⟨k_ia (by decide +kernel),
  List.forall_mem_cons.mpr ⟨k_icmp_ge (off := 42) (by decide +kernel) (by decide),
  List.forall_mem_cons.mpr ⟨k_ilN (i := 2) (by decide +kernel) rfl,
  List.forall_mem_cons.mpr ⟨k_alN (i := 0) (by decide +kernel) rfl,
  List.forall_mem_cons.mpr ⟨k_gf (j := 11) (T := TX8) rfl inX8G (by decide) w_627 (by decide +kernel),
  List.forall_mem_cons.mpr ⟨k_bipush (n := 10) (10) (by decide +kernel) (by decide),
  List.forall_mem_cons.mpr ⟨k_ilN (i := 1) (by decide +kernel) rfl,
  List.forall_mem_cons.mpr ⟨k_imul (by decide +kernel),
  List.forall_mem_cons.mpr ⟨k_ia (by decide +kernel),
  List.forall_mem_cons.mpr ⟨k_callS (y := 110) (n := 2) w_795 w_796 w_47 w_797 (by decide +kernel) (by decide) (by decide +kernel),
  List.forall_mem_cons.mpr ⟨k_isN (i := 2) (by decide +kernel) rfl,
  List.forall_mem_cons.mpr ⟨k_alN (i := 0) (by decide +kernel) rfl,
  List.forall_mem_cons.mpr ⟨k_alN (i := 0) (by decide +kernel) rfl,
  List.forall_mem_cons.mpr ⟨k_gf (j := 12) (T := TX8) rfl inX8G (by decide) w_628 (by decide +kernel),
  List.forall_mem_cons.mpr ⟨k_ilN (i := 2) (by decide +kernel) rfl,
  List.forall_mem_cons.mpr ⟨k_alN (i := 0) (by decide +kernel) rfl,
  List.forall_mem_cons.mpr ⟨k_gf (j := 10) (T := TX8) rfl inX8G (by decide) w_626 (by decide +kernel),
  List.forall_mem_cons.mpr ⟨k_iconst (n := 3) (3) (by decide +kernel) (by decide),
  List.forall_mem_cons.mpr ⟨k_ilN (i := 1) (by decide +kernel) rfl,
  List.forall_mem_cons.mpr ⟨k_imul (by decide +kernel),
  List.forall_mem_cons.mpr ⟨k_ia (by decide +kernel),
  List.forall_mem_cons.mpr ⟨k_callV (y := 109) (n := 3) (ci := 8) rfl w_810 w_812 w_22 w_47 w_813 (by decide +kernel) (by decide) (by decide +kernel),
  List.forall_mem_cons.mpr ⟨k_is (by decide +kernel),
  List.forall_mem_cons.mpr ⟨k_inc (n := 1) (1) (by decide +kernel) (by decide),
  List.forall_mem_cons.mpr ⟨k_goto (off := -51) (by decide +kernel) (by decide),
  List.forall_mem_cons.mpr ⟨k_vret (by decide +kernel),
  fun _ h => absurd h List.not_mem_nil⟩⟩⟩⟩⟩⟩⟩⟩⟩⟩⟩⟩⟩⟩⟩⟩⟩⟩⟩⟩⟩⟩⟩⟩⟩⟩⟩⟩⟩⟩⟩⟩⟩⟩⟩⟩⟩⟩⟩⟩⟩⟩⟩⟩⟩
def tb_122 : List (Nat × pO) := [(0, o_al 0 1), (1, o_const (.int (0)) 2), (2, o_pf okI 8 14 5), (5, o_const (.int (0)) 6), (6, o_is 1 7), (7, o_il 1 8), (8, o_al 0 9), (9, o_gf 8 9 12), (12, o_cmp (fun x y => y ≤ x) 49 15), (15, o_al 0 16), (16, o_il 1 17), (17, o_call (rcV 8) 112 2 20), (20, o_if (fun x => x = 0) 43 23), (23, o_al 0 24), (24, o_gf 8 13 27), (27, o_al 0 28), (28, o_gf 8 14 31), (31, o_il 1 32), (32, o_ist 33), (33, o_al 0 34), (34, o_dup 35), (35, o_gf 8 14 38), (38, o_const (.int (1)) 39), (39, o_bin (fun x y => x + y) 40), (40, o_pf okI 8 14 43), (43, o_inc 1 (1) 46), (46, o_goto 7), (49, o_vret)]
set_option maxRecDepth 20000 in
theorem tk_122 : ∀ q ∈ tb_122, okA noS mM (prog_10_method_37_code, "DuneMapsModel", 2, none, false) q.1 q.2 :=
  List.forall_mem_cons.mpr ⟨k_alN (i := 0) (by decide +kernel) rfl,
  List.forall_mem_cons.mpr ⟨k_iconst (n := 0) (0) (by decide +kernel) (by decide),
  List.forall_mem_cons.mpr ⟨k_pf (j := 14) (T := TX8) tyX8 tyX8_ok nmX8 okI_fit rfl inX8G (by decide) rfl (by decide +kernel) w_630 (by decide +kernel),
  List.forall_mem_cons.mpr ⟨k_iconst (n := 0) (0) (by decide +kernel) (by decide),
  List.forall_mem_cons.mpr ⟨k_isN (i := 1) (by decide +kernel) rfl,
  List.forall_mem_cons.mpr ⟨k_ilN (i := 1) (by decide +kernel) rfl,
  List.forall_mem_cons.mpr ⟨k_alN (i := 0) (by decide +kernel) rfl,
  List.forall_mem_cons.mpr ⟨k_gf (j := 9) (T := TX8) rfl inX8G (by decide) w_625 (by decide +kernel),
  List.forall_mem_cons.mpr ⟨k_icmp_ge (off := 37) (by decide +kernel) (by decide),
  List.forall_mem_cons.mpr ⟨k_alN (i := 0) (by decide +kernel) rfl,
  List.forall_mem_cons.mpr ⟨k_ilN (i := 1) (by decide +kernel) rfl,
  List.forall_mem_cons.mpr ⟨k_callV (y := 112) (n := 1) (ci := 8) rfl w_787 w_789 w_19 w_47 w_790 (by decide +kernel) (by decide) (by decide +kernel),
  List.forall_mem_cons.mpr ⟨k_if_eq (off := 23) (by decide +kernel) (by decide),
  List.forall_mem_cons.mpr ⟨k_alN (i := 0) (by decide +kernel) rfl,
  List.forall_mem_cons.mpr ⟨k_gf (j := 13) (T := TX8) rfl inX8G (by decide) w_629 (by decide +kernel),
  List.forall_mem_cons.mpr ⟨k_alN (i := 0) (by decide +kernel) rfl,
  List.forall_mem_cons.mpr ⟨k_gf (j := 14) (T := TX8) rfl inX8G (by decide) w_630 (by decide +kernel),
  List.forall_mem_cons.mpr ⟨k_ilN (i := 1) (by decide +kernel) rfl,
  List.forall_mem_cons.mpr ⟨k_ist (by decide +kernel),
  List.forall_mem_cons.mpr ⟨k_alN (i := 0) (by decide +kernel) rfl,
  List.forall_mem_cons.mpr ⟨k_dup (by decide +kernel),
  List.forall_mem_cons.mpr ⟨k_gf (j := 14) (T := TX8) rfl inX8G (by decide) w_630 (by decide +kernel),
  List.forall_mem_cons.mpr ⟨k_iconst (n := 1) (1) (by decide +kernel) (by decide),
  List.forall_mem_cons.mpr ⟨k_iadd (by decide +kernel),
  List.forall_mem_cons.mpr ⟨k_pf (j := 14) (T := TX8) tyX8 tyX8_ok nmX8 okI_fit rfl inX8G (by decide) rfl (by decide +kernel) w_630 (by decide +kernel),
  List.forall_mem_cons.mpr ⟨k_inc (n := 1) (1) (by decide +kernel) (by decide),
  List.forall_mem_cons.mpr ⟨k_goto (off := -39) (by decide +kernel) (by decide),
  List.forall_mem_cons.mpr ⟨k_vret (by decide +kernel),
  fun _ h => absurd h List.not_mem_nil⟩⟩⟩⟩⟩⟩⟩⟩⟩⟩⟩⟩⟩⟩⟩⟩⟩⟩⟩⟩⟩⟩⟩⟩⟩⟩⟩⟩
def tb_123 : List (Nat × pO) := [(0, o_il 1 1), (1, o_is 2 2), (2, o_const (.int (0)) 3), (3, o_is 3 4), (4, o_al 0 5), (5, o_gf 8 14 8), (8, o_const (.int (1)) 9), (9, o_bin (fun x y => x - y) 10), (10, o_is 4 12), (12, o_il 4 14), (14, o_if (fun x => x < 0) 59 17), (17, o_al 0 18), (18, o_gf 8 15 21), (21, o_il 4 23), (23, o_al 0 24), (24, o_gf 8 13 27), (27, o_il 2 28), (28, o_al 0 29), (29, o_gf 8 14 32), (32, o_binz (fun x y => x - x / y * y) 33), (33, o_ia 34), (34, o_ist 35), (35, o_il 3 36), (36, o_const (.int (1)) 37), (37, o_il 2 38), (38, o_al 0 39), (39, o_gf 8 14 42), (42, o_binz (fun x y => x - x / y * y) 43), (43, o_bin (fun x y => x <<< (y &&& 31)) 44), (44, o_bin (fun x y => x ||| y) 45), (45, o_is 3 46), (46, o_il 2 47), (47, o_al 0 48), (48, o_gf 8 14 51), (51, o_binz (fun x y => x / y) 52), (52, o_is 2 53), (53, o_inc 4 (-1) 56), (56, o_goto 12), (59, o_il 3 60), (60, o_const (.int (1)) 61), (61, o_al 0 62), (62, o_gf 8 14 65), (65, o_bin (fun x y => x <<< (y &&& 31)) 66), (66, o_const (.int (1)) 67), (67, o_bin (fun x y => x - y) 68), (68, o_cmp (fun x y => ¬ x = y) 75 71), (71, o_const (.int (1)) 72), (72, o_goto 76), (75, o_const (.int (0)) 76), (76, o_zret)]
set_option maxRecDepth 20000 in
theorem tk_123 : ∀ q ∈ tb_123, okA noS mM (prog_10_method_38_code, "DuneMapsModel", 5, some .boolean, false) q.1 q.2 :=
  List.forall_mem_cons.mpr ⟨k_ilN (i := 1) (by decide +kernel) rfl,
  List.forall_mem_cons.mpr ⟨k_isN (i := 2) (by decide +kernel) rfl,
  List.forall_mem_cons.mpr ⟨k_iconst (n := 0) (0) (by decide +kernel) (by decide),
  List.forall_mem_cons.mpr ⟨k_isN (i := 3) (by decide +kernel) rfl,
  List.forall_mem_cons.mpr ⟨k_alN (i := 0) (by decide +kernel) rfl,
  List.forall_mem_cons.mpr ⟨k_gf (j := 14) (T := TX8) rfl inX8G (by decide) w_630 (by decide +kernel),
  List.forall_mem_cons.mpr ⟨k_iconst (n := 1) (1) (by decide +kernel) (by decide),
  List.forall_mem_cons.mpr ⟨k_isub (by decide +kernel),
  List.forall_mem_cons.mpr ⟨k_is (by decide +kernel),
  List.forall_mem_cons.mpr ⟨k_il (by decide +kernel),
  List.forall_mem_cons.mpr ⟨k_if_lt (off := 45) (by decide +kernel) (by decide),
  List.forall_mem_cons.mpr ⟨k_alN (i := 0) (by decide +kernel) rfl,
  List.forall_mem_cons.mpr ⟨k_gf (j := 15) (T := TX8) rfl inX8G (by decide) w_631 (by decide +kernel),
  List.forall_mem_cons.mpr ⟨k_il (by decide +kernel),
  List.forall_mem_cons.mpr ⟨k_alN (i := 0) (by decide +kernel) rfl,
  List.forall_mem_cons.mpr ⟨k_gf (j := 13) (T := TX8) rfl inX8G (by decide) w_629 (by decide +kernel),
  List.forall_mem_cons.mpr ⟨k_ilN (i := 2) (by decide +kernel) rfl,
  List.forall_mem_cons.mpr ⟨k_alN (i := 0) (by decide +kernel) rfl,
  List.forall_mem_cons.mpr ⟨k_gf (j := 14) (T := TX8) rfl inX8G (by decide) w_630 (by decide +kernel),
  List.forall_mem_cons.mpr ⟨k_irem (by decide +kernel),
  List.forall_mem_cons.mpr ⟨k_ia (by decide +kernel),
  List.forall_mem_cons.mpr ⟨k_ist (by decide +kernel),
  List.forall_mem_cons.mpr ⟨k_ilN (i := 3) (by decide +kernel) rfl,
  List.forall_mem_cons.mpr ⟨k_iconst (n := 1) (1) (by decide +kernel) (by decide),
  List.forall_mem_cons.mpr ⟨k_ilN (i := 2) (by decide +kernel) rfl,
  List.forall_mem_cons.mpr ⟨k_alN (i := 0) (by decide +kernel) rfl,
  List.forall_mem_cons.mpr ⟨k_gf (j := 14) (T := TX8) rfl inX8G (by decide) w_630 (by decide +kernel),
  List.forall_mem_cons.mpr ⟨k_irem (by decide +kernel),
  List.forall_mem_cons.mpr ⟨k_ishl (by decide +kernel),
  List.forall_mem_cons.mpr ⟨k_ior (by decide +kernel),
  List.forall_mem_cons.mpr ⟨k_isN (i := 3) (by decide +kernel) rfl,
  List.forall_mem_cons.mpr ⟨k_ilN (i := 2) (by decide +kernel) rfl,
  List.forall_mem_cons.mpr ⟨k_alN (i := 0) (by decide +kernel) rfl,
  List.forall_mem_cons.mpr ⟨k_gf (j := 14) (T := TX8) rfl inX8G (by decide) w_630 (by decide +kernel),
  List.forall_mem_cons.mpr ⟨k_idiv (by decide +kernel),
  List.forall_mem_cons.mpr ⟨k_isN (i := 2) (by decide +kernel) rfl,
  List.forall_mem_cons.mpr ⟨k_inc (n := -1) (-1) (by decide +kernel) (by decide),
  List.forall_mem_cons.mpr ⟨k_goto (off := -44) (by decide +kernel) (by decide),
  List.forall_mem_cons.mpr ⟨k_ilN (i := 3) (by decide +kernel) rfl,
  List.forall_mem_cons.mpr ⟨k_iconst (n := 1) (1) (by decide +kernel) (by decide),
  List.forall_mem_cons.mpr ⟨k_alN (i := 0) (by decide +kernel) rfl,
  List.forall_mem_cons.mpr ⟨k_gf (j := 14) (T := TX8) rfl inX8G (by decide) w_630 (by decide +kernel),
  List.forall_mem_cons.mpr ⟨k_ishl (by decide +kernel),
  List.forall_mem_cons.mpr ⟨k_iconst (n := 1) (1) (by decide +kernel) (by decide),
  List.forall_mem_cons.mpr ⟨k_isub (by decide +kernel),
  List.forall_mem_cons.mpr ⟨k_icmp_ne (off := 7) (by decide +kernel) (by decide),
  List.forall_mem_cons.mpr ⟨k_iconst (n := 1) (1) (by decide +kernel) (by decide),
  List.forall_mem_cons.mpr ⟨k_goto (off := 4) (by decide +kernel) (by decide),
  List.forall_mem_cons.mpr ⟨k_iconst (n := 0) (0) (by decide +kernel) (by decide),
  List.forall_mem_cons.mpr ⟨k_zret (by decide +kernel),
  fun _ h => absurd h List.not_mem_nil⟩⟩⟩⟩⟩⟩⟩⟩⟩⟩⟩⟩⟩⟩⟩⟩⟩⟩⟩⟩⟩⟩⟩⟩⟩⟩⟩⟩⟩⟩⟩⟩⟩⟩⟩⟩⟩⟩⟩⟩⟩⟩⟩⟩⟩⟩⟩⟩⟩⟩
def tb_124 : List (Nat × pO) := [(0, o_al 0 1), (1, o_call (rcV 8) 122 1 4), (4, o_const (.int (1)) 5), (5, o_is 1 6), (6, o_const (.int (0)) 7), (7, o_is 2 8), (8, o_il 2 9), (9, o_al 0 10), (10, o_gf 8 14 13), (13, o_cmp (fun x y => y ≤ x) 29 16), (16, o_il 1 17), (17, o_al 0 18), (18, o_gf 8 14 21), (21, o_bin (fun x y => x * y) 22), (22, o_is 1 23), (23, o_inc 2 (1) 26), (26, o_goto 8), (29, o_const (.int (-1)) 30), (30, o_is 2 31), (31, o_const (.int (0)) 32), (32, o_is 3 33), (33, o_il 3 34), (34, o_il 1 35), (35, o_cmp (fun x y => y ≤ x) 143 38), (38, o_al 0 39), (39, o_il 3 40), (40, o_call (rcV 8) 123 2 43), (43, o_if (fun x => x = 0) 137 46), (46, o_al 0 47), (47, o_gf 8 6 50), (50, o_al 0 51), (51, o_gf 8 12 54), (54, o_call rc0 88 2 57), (57, o_const (.int (0)) 58), (58, o_is 4 60), (60, o_const (.int (0)) 61), (61, o_is 5 63), (63, o_il 5 65), (65, o_al 0 66), (66, o_gf 8 14 69), (69, o_cmp (fun x y => y ≤ x) 117 72), (72, o_il 4 74), (74, o_al 0 75), (75, o_al 0 76), (76, o_gf 8 12 79), (79, o_al 0 80), (80, o_gf 8 15 83), (83, o_il 5 85), (85, o_ia 86), (86, o_call (rcV 8) 113 3 89), (89, o_if (fun x => x = 0) 96 92), (92, o_const (.int (1)) 93), (93, o_goto 97), (96, o_const (.int (0)) 97), (97, o_bin (fun x y => x + y) 98), (98, o_is 4 100), (100, o_al 0 101), (101, o_al 0 102), (102, o_gf 8 15 105), (105, o_il 5 107), (107, o_ia 108), (108, o_call (rcV 8) 121 2 111), (111, o_inc 5 (1) 114), (114, o_goto 63), (117, o_il 4 119), (119, o_il 2 120), (120, o_cmp (fun x y => x ≤ y) 137 123), (123, o_il 4 125), (125, o_is 2 126), (126, o_al 0 127), (127, o_gf 8 15 130), (130, o_al 0 131), (131, o_gf 8 16 134), (134, o_call rc0 88 2 137), (137, o_inc 3 (1) 140), (140, o_goto 33), (143, o_il 2 144), (144, o_iret)]
set_option maxRecDepth 20000 in
theorem tk_124 : ∀ q ∈ tb_124, okA noS mM (prog_10_method_39_code, "DuneMapsModel", 6, some .int, false) q.1 q.2 :=
  List.forall_mem_cons.mpr ⟨k_alN (i := 0) (by decide +kernel) rfl,
  List.forall_mem_cons.mpr ⟨k_callV (y := 122) (n := 0) (ci := 8) rfl w_841 w_843 w_26 w_47 w_844 (by decide +kernel) (by decide) (by decide +kernel),
  List.forall_mem_cons.mpr ⟨k_iconst (n := 1) (1) (by decide +kernel) (by decide),
  List.forall_mem_cons.mpr ⟨k_isN (i := 1) (by decide +kernel) rfl,
  List.forall_mem_cons.mpr ⟨k_iconst (n := 0) (0) (by decide +kernel) (by decide),
  List.forall_mem_cons.mpr ⟨k_isN (i := 2) (by decide +kernel) rfl,
  List.forall_mem_cons.mpr ⟨k_ilN (i := 2) (by decide +kernel) rfl,
  List.forall_mem_cons.mpr ⟨k_alN (i := 0) (by decide +kernel) rfl,
  List.forall_mem_cons.mpr ⟨k_gf (j := 14) (T := TX8) rfl inX8G (by decide) w_630 (by decide +kernel),
  List.forall_mem_cons.mpr ⟨k_icmp_ge (off := 16) (by decide +kernel) (by decide),
  List.forall_mem_cons.mpr ⟨k_ilN (i := 1) (by decide +kernel) rfl,
  List.forall_mem_cons.mpr ⟨k_alN (i := 0) (by decide +kernel) rfl,
  List.forall_mem_cons.mpr ⟨k_gf (j := 14) (T := TX8) rfl inX8G (by decide) w_630 (by decide +kernel),
  List.forall_mem_cons.mpr ⟨k_imul (by decide +kernel),
  List.forall_mem_cons.mpr ⟨k_isN (i := 1) (by decide +kernel) rfl,
  List.forall_mem_cons.mpr ⟨k_inc (n := 1) (1) (by decide +kernel) (by decide),
  List.forall_mem_cons.mpr ⟨k_goto (off := -18) (by decide +kernel) (by decide),
  List.forall_mem_cons.mpr ⟨k_iconst (n := -1) (-1) (by decide +kernel) (by decide),
  List.forall_mem_cons.mpr ⟨k_isN (i := 2) (by decide +kernel) rfl,
  List.forall_mem_cons.mpr ⟨k_iconst (n := 0) (0) (by decide +kernel) (by decide),
  List.forall_mem_cons.mpr ⟨k_isN (i := 3) (by decide +kernel) rfl,
  List.forall_mem_cons.mpr ⟨k_ilN (i := 3) (by decide +kernel) rfl,
  List.forall_mem_cons.mpr ⟨k_ilN (i := 1) (by decide +kernel) rfl,
  List.forall_mem_cons.mpr ⟨k_icmp_ge (off := 108) (by decide +kernel) (by decide),
  List.forall_mem_cons.mpr ⟨k_alN (i := 0) (by decide +kernel) rfl,
  List.forall_mem_cons.mpr ⟨k_ilN (i := 3) (by decide +kernel) rfl,
  List.forall_mem_cons.mpr ⟨k_callV (y := 123) (n := 1) (ci := 8) rfl w_845 w_847 w_27 w_47 w_848 (by decide +kernel) (by decide) (by decide +kernel),
  List.forall_mem_cons.mpr ⟨k_if_eq (off := 94) (by decide +kernel) (by decide),
  List.forall_mem_cons.mpr ⟨k_alN (i := 0) (by decide +kernel) rfl,
  List.forall_mem_cons.mpr ⟨k_gf (j := 6) (T := TX8) rfl inX8G (by decide) w_622 (by decide +kernel),
  List.forall_mem_cons.mpr ⟨k_alN (i := 0) (by decide +kernel) rfl,
  List.forall_mem_cons.mpr ⟨k_gf (j := 12) (T := TX8) rfl inX8G (by decide) w_628 (by decide +kernel),
  List.forall_mem_cons.mpr ⟨k_callS (y := 88) (n := 2) w_849 w_850 w_47 w_851 (by decide +kernel) (by decide) (by decide +kernel),
  List.forall_mem_cons.mpr ⟨k_iconst (n := 0) (0) (by decide +kernel) (by decide),
  List.forall_mem_cons.mpr ⟨k_is (by decide +kernel),
  List.forall_mem_cons.mpr ⟨k_iconst (n := 0) (0) (by decide +kernel) (by decide),
  List.forall_mem_cons.mpr ⟨k_is (by decide +kernel),
  List.forall_mem_cons.mpr ⟨k_il (by decide +kernel),
  List.forall_mem_cons.mpr ⟨k_alN (i := 0) (by decide +kernel) rfl,
  List.forall_mem_cons.mpr ⟨k_gf (j := 14) (T := TX8) rfl inX8G (by decide) w_630 (by decide +kernel),
  List.forall_mem_cons.mpr ⟨k_icmp_ge (off := 48) (by decide +kernel) (by decide),
  List.forall_mem_cons.mpr ⟨k_il (by decide +kernel),
  List.forall_mem_cons.mpr ⟨k_alN (i := 0) (by decide +kernel) rfl,
  List.forall_mem_cons.mpr ⟨k_alN (i := 0) (by decide +kernel) rfl,
  List.forall_mem_cons.mpr ⟨k_gf (j := 12) (T := TX8) rfl inX8G (by decide) w_628 (by decide +kernel),
  List.forall_mem_cons.mpr ⟨k_alN (i := 0) (by decide +kernel) rfl,
  List.forall_mem_cons.mpr ⟨k_gf (j := 15) (T := TX8) rfl inX8G (by decide) w_631 (by decide +kernel),
  List.forall_mem_cons.mpr ⟨k_il (by decide +kernel),
  List.forall_mem_cons.mpr ⟨k_ia (by decide +kernel),
  List.forall_mem_cons.mpr ⟨k_callV (y := 113) (n := 2) (ci := 8) rfl w_791 w_793 w_20 w_47 w_794 (by decide +kernel) (by decide) (by decide +kernel),
  List.forall_mem_cons.mpr ⟨k_if_eq (off := 7) (by decide +kernel) (by decide),
  List.forall_mem_cons.mpr ⟨k_iconst (n := 1) (1) (by decide +kernel) (by decide),
  List.forall_mem_cons.mpr ⟨k_goto (off := 4) (by decide +kernel) (by decide),
  List.forall_mem_cons.mpr ⟨k_iconst (n := 0) (0) (by decide +kernel) (by decide),
  List.forall_mem_cons.mpr ⟨k_iadd (by decide +kernel),
  List.forall_mem_cons.mpr ⟨k_is (by decide +kernel),
  List.forall_mem_cons.mpr ⟨k_alN (i := 0) (by decide +kernel) rfl,
  List.forall_mem_cons.mpr ⟨k_alN (i := 0) (by decide +kernel) rfl,
  List.forall_mem_cons.mpr ⟨k_gf (j := 15) (T := TX8) rfl inX8G (by decide) w_631 (by decide +kernel),
  List.forall_mem_cons.mpr ⟨k_il (by decide +kernel),
  List.forall_mem_cons.mpr ⟨k_ia (by decide +kernel),
  List.forall_mem_cons.mpr ⟨k_callV (y := 121) (n := 1) (ci := 8) rfl w_852 w_854 w_28 w_47 w_855 (by decide +kernel) (by decide) (by decide +kernel),
  List.forall_mem_cons.mpr ⟨k_inc (n := 1) (1) (by decide +kernel) (by decide),
  List.forall_mem_cons.mpr ⟨k_goto (off := -51) (by decide +kernel) (by decide),
  List.forall_mem_cons.mpr ⟨k_il (by decide +kernel),
  List.forall_mem_cons.mpr ⟨k_ilN (i := 2) (by decide +kernel) rfl,
  List.forall_mem_cons.mpr ⟨k_icmp_le (off := 17) (by decide +kernel) (by decide),
  List.forall_mem_cons.mpr ⟨k_il (by decide +kernel),
  List.forall_mem_cons.mpr ⟨k_isN (i := 2) (by decide +kernel) rfl,
  List.forall_mem_cons.mpr ⟨k_alN (i := 0) (by decide +kernel) rfl,
  List.forall_mem_cons.mpr ⟨k_gf (j := 15) (T := TX8) rfl inX8G (by decide) w_631 (by decide +kernel),
  List.forall_mem_cons.mpr ⟨k_alN (i := 0) (by decide +kernel) rfl,
  List.forall_mem_cons.mpr ⟨k_gf (j := 16) (T := TX8) rfl inX8G (by decide) w_632 (by decide +kernel),
  List.forall_mem_cons.mpr ⟨k_callS (y := 88) (n := 2) w_849 w_850 w_47 w_851 (by decide +kernel) (by decide) (by decide +kernel),
  List.forall_mem_cons.mpr ⟨k_inc (n := 1) (1) (by decide +kernel) (by decide),
  List.forall_mem_cons.mpr ⟨k_goto (off := -107) (by decide +kernel) (by decide),
  List.forall_mem_cons.mpr ⟨k_ilN (i := 2) (by decide +kernel) rfl,
  List.forall_mem_cons.mpr ⟨k_iret (by decide +kernel),
  fun _ h => absurd h List.not_mem_nil⟩⟩⟩⟩⟩⟩⟩⟩⟩⟩⟩⟩⟩⟩⟩⟩⟩⟩⟩⟩⟩⟩⟩⟩⟩⟩⟩⟩⟩⟩⟩⟩⟩⟩⟩⟩⟩⟩⟩⟩⟩⟩⟩⟩⟩⟩⟩⟩⟩⟩⟩⟩⟩⟩⟩⟩⟩⟩⟩⟩⟩⟩⟩⟩⟩⟩⟩⟩⟩⟩⟩⟩⟩⟩⟩⟩⟩⟩
def tb_125 : List (Nat × pO) := [(0, o_al 0 1), (1, o_call (rcV 8) 124 1 4), (4, o_is 2 5), (5, o_il 1 6), (6, o_if (fun x => ¬ x = 0) 13 9), (9, o_il 2 10), (10, o_goto 37), (13, o_il 1 14), (14, o_const (.int (10)) 16), (16, o_bin (fun x y => x - y) 17), (17, o_al 0 18), (18, o_gf 8 14 21), (21, o_cmp (fun x y => y ≤ x) 36 24), (24, o_al 0 25), (25, o_gf 8 16 28), (28, o_il 1 29), (29, o_const (.int (10)) 31), (31, o_bin (fun x y => x - y) 32), (32, o_ia 33), (33, o_goto 37), (36, o_const (.int (-1)) 37), (37, o_iret)]
set_option maxRecDepth 20000 in
theorem tk_125 : ∀ q ∈ tb_125, okA noS mM (prog_10_method_40_code, "DuneMapsModel", 3, some .int, false) q.1 q.2 :=
  List.forall_mem_cons.mpr ⟨k_alN (i := 0) (by decide +kernel) rfl,
  List.forall_mem_cons.mpr ⟨k_callV (y := 124) (n := 0) (ci := 8) rfl w_837 w_839 w_25 w_47 w_840 (by decide +kernel) (by decide) (by decide +kernel),
  List.forall_mem_cons.mpr ⟨k_isN (i := 2) (by decide +kernel) rfl,
  List.forall_mem_cons.mpr ⟨k_ilN (i := 1) (by decide +kernel) rfl,
  List.forall_mem_cons.mpr ⟨k_if_ne (off := 7) (by decide +kernel) (by decide),
  List.forall_mem_cons.mpr ⟨k_ilN (i := 2) (by decide +kernel) rfl,
  List.forall_mem_cons.mpr ⟨k_goto (off := 27) (by decide +kernel) (by decide),
  List.forall_mem_cons.mpr ⟨k_ilN (i := 1) (by decide +kernel) rfl,
  List.forall_mem_cons.mpr ⟨k_bipush (n := 10) (10) (by decide +kernel) (by decide),
  List.forall_mem_cons.mpr ⟨k_isub (by decide +kernel),
  List.forall_mem_cons.mpr ⟨k_alN (i := 0) (by decide +kernel) rfl,
  List.forall_mem_cons.mpr ⟨k_gf (j := 14) (T := TX8) rfl inX8G (by decide) w_630 (by decide +kernel),
  List.forall_mem_cons.mpr ⟨k_icmp_ge (off := 15) (by decide +kernel) (by decide),
  List.forall_mem_cons.mpr ⟨k_alN (i := 0) (by decide +kernel) rfl,
  List.forall_mem_cons.mpr ⟨k_gf (j := 16) (T := TX8) rfl inX8G (by decide) w_632 (by decide +kernel),
  List.forall_mem_cons.mpr ⟨k_ilN (i := 1) (by decide +kernel) rfl,
  List.forall_mem_cons.mpr ⟨k_bipush (n := 10) (10) (by decide +kernel) (by decide),
  List.forall_mem_cons.mpr ⟨k_isub (by decide +kernel),
  List.forall_mem_cons.mpr ⟨k_ia (by decide +kernel),
  List.forall_mem_cons.mpr ⟨k_goto (off := 4) (by decide +kernel) (by decide),
  List.forall_mem_cons.mpr ⟨k_iconst (n := -1) (-1) (by decide +kernel) (by decide),
  List.forall_mem_cons.mpr ⟨k_iret (by decide +kernel),
  fun _ h => absurd h List.not_mem_nil⟩⟩⟩⟩⟩⟩⟩⟩⟩⟩⟩⟩⟩⟩⟩⟩⟩⟩⟩⟩⟩⟩
def tb_126 : List (Nat × pO) := [(0, o_il 1 1), (1, o_if (fun x => x = 0) 21 4), (4, o_il 1 5), (5, o_i2l 6), (6, o_const (.long (10)) 9), (9, o_const (.long (13)) 12), (12, o_call rc0 87 3 15), (15, o_if (fun x => ¬ x = 0) 21 18), (18, o_const (.int (-102)) 20), (20, o_iret), (21, o_al 0 22), (22, o_gf 8 2 25), (25, o_if (fun x => x = 0) 36 28), (28, o_al 0 29), (29, o_il 1 30), (30, o_call (rcV 8) 125 2 33), (33, o_goto 38), (36, o_const (.int (-103)) 38), (38, o_iret)]
set_option maxRecDepth 20000 in
theorem tk_126 : ∀ q ∈ tb_126, okA noS mM (prog_10_method_41_code, "DuneMapsModel", 2, some .int, false) q.1 q.2 :=
  List.forall_mem_cons.mpr ⟨k_ilN (i := 1) (by decide +kernel) rfl,
  List.forall_mem_cons.mpr ⟨k_if_eq (off := 20) (by decide +kernel) (by decide),
  List.forall_mem_cons.mpr ⟨k_ilN (i := 1) (by decide +kernel) rfl,
  List.forall_mem_cons.mpr ⟨k_i2l (by decide +kernel),
  List.forall_mem_cons.mpr ⟨k_ldc2 w_831 (by decide +kernel),
  List.forall_mem_cons.mpr ⟨k_ldc2 w_832 (by decide +kernel),
  List.forall_mem_cons.mpr ⟨k_callS (y := 87) (n := 3) w_700 w_701 w_47 w_702 (by decide +kernel) (by decide) (by decide +kernel),
  List.forall_mem_cons.mpr ⟨k_if_ne (off := 6) (by decide +kernel) (by decide),
  List.forall_mem_cons.mpr ⟨k_bipush (n := -102) (-102) (by decide +kernel) (by decide),
  List.forall_mem_cons.mpr ⟨k_iret (by decide +kernel),
  List.forall_mem_cons.mpr ⟨k_alN (i := 0) (by decide +kernel) rfl,
  List.forall_mem_cons.mpr ⟨k_gf (j := 2) (T := TX8) rfl inX8G (by decide) w_618 (by decide +kernel),
  List.forall_mem_cons.mpr ⟨k_if_eq (off := 11) (by decide +kernel) (by decide),
  List.forall_mem_cons.mpr ⟨k_alN (i := 0) (by decide +kernel) rfl,
  List.forall_mem_cons.mpr ⟨k_ilN (i := 1) (by decide +kernel) rfl,
  List.forall_mem_cons.mpr ⟨k_callV (y := 125) (n := 1) (ci := 8) rfl w_833 w_835 w_24 w_47 w_836 (by decide +kernel) (by decide) (by decide +kernel),
  List.forall_mem_cons.mpr ⟨k_goto (off := 5) (by decide +kernel) (by decide),
  List.forall_mem_cons.mpr ⟨k_bipush (n := -103) (-103) (by decide +kernel) (by decide),
  List.forall_mem_cons.mpr ⟨k_iret (by decide +kernel),
  fun _ h => absurd h List.not_mem_nil⟩⟩⟩⟩⟩⟩⟩⟩⟩⟩⟩⟩⟩⟩⟩⟩⟩⟩⟩
def tb_127 : List (Nat × pO) := [(0, o_al 0 1), (1, o_gf 8 6 4), (4, o_al 0 5), (5, o_gf 8 12 8), (8, o_call rc0 88 2 11), (11, o_al 0 12), (12, o_gf 8 10 15), (15, o_const (.int (3)) 16), (16, o_il 1 17), (17, o_bin (fun x y => x * y) 18), (18, o_const (.int (1)) 19), (19, o_bin (fun x y => x + y) 20), (20, o_ia 21), (21, o_is 5 23), (23, o_il 3 24), (24, o_const (.int (1)) 25), (25, o_bin (fun x y => x - y) 26), (26, o_is 6 28), (28, o_il 6 30), (30, o_if (fun x => x < 0) 73 33), (33, o_il 5 35), (35, o_il 4 37), (37, o_il 6 39), (39, o_bin (fun x y => x >>> (y &&& 31)) 40), (40, o_const (.int (1)) 41), (41, o_bin (fun x y => x &&& y) 42), (42, o_call rc0 110 2 45), (45, o_is 5 47), (47, o_al 0 48), (48, o_al 0 49), (49, o_gf 8 12 52), (52, o_il 5 54), (54, o_al 0 55), (55, o_gf 8 10 58), (58, o_const (.int (3)) 59), (59, o_il 1 60), (60, o_bin (fun x y => x * y) 61), (61, o_ia 62), (62, o_call (rcV 8) 109 4 65), (65, o_is 7 67), (67, o_inc 6 (-1) 70), (70, o_goto 28), (73, o_al 0 74), (74, o_gf 8 12 77), (77, o_il 2 78), (78, o_ia 79), (79, o_iret)]
set_option maxRecDepth 20000 in
theorem tk_127 : ∀ q ∈ tb_127, okA noS mM (prog_10_method_42_code, "DuneMapsModel", 8, some .int, false) q.1 q.2 :=
  List.forall_mem_cons.mpr ⟨k_alN (i := 0) (by decide +kernel) rfl,
  List.forall_mem_cons.mpr ⟨k_gf (j := 6) (T := TX8) rfl inX8G (by decide) w_622 (by decide +kernel),
  List.forall_mem_cons.mpr ⟨k_alN (i := 0) (by decide +kernel) rfl,
  List.forall_mem_cons.mpr ⟨k_gf (j := 12) (T := TX8) rfl inX8G (by decide) w_628 (by decide +kernel),
  List.forall_mem_cons.mpr ⟨k_callS (y := 88) (n := 2) w_849 w_850 w_47 w_851 (by decide +kernel) (by decide) (by decide +kernel),
  List.forall_mem_cons.mpr ⟨k_alN (i := 0) (by decide +kernel) rfl,
  List.forall_mem_cons.mpr ⟨k_gf (j := 10) (T := TX8) rfl inX8G (by decide) w_626 (by decide +kernel),
  List.forall_mem_cons.mpr ⟨k_iconst (n := 3) (3) (by decide +kernel) (by decide),
  List.forall_mem_cons.mpr ⟨k_ilN (i := 1) (by decide +kernel) rfl,
  List.forall_mem_cons.mpr ⟨k_imul (by decide +kernel),
  List.forall_mem_cons.mpr ⟨k_iconst (n := 1) (1) (by decide +kernel) (by decide),
  List.forall_mem_cons.mpr ⟨k_iadd (by decide +kernel),
  List.forall_mem_cons.mpr ⟨k_ia (by decide +kernel),
  List.forall_mem_cons.mpr ⟨k_is (by decide +kernel),
  List.forall_mem_cons.mpr ⟨k_ilN (i := 3) (by decide +kernel) rfl,
  List.forall_mem_cons.mpr ⟨k_iconst (n := 1) (1) (by decide +kernel) (by decide),
  List.forall_mem_cons.mpr ⟨k_isub (by decide +kernel),
  List.forall_mem_cons.mpr ⟨k_is (by decide +kernel),
  List.forall_mem_cons.mpr ⟨k_il (by decide +kernel),
  List.forall_mem_cons.mpr ⟨k_if_lt (off := 43) (by decide +kernel) (by decide),
  List.forall_mem_cons.mpr ⟨k_il (by decide +kernel),
  List.forall_mem_cons.mpr ⟨k_il (by decide +kernel),
  List.forall_mem_cons.mpr ⟨k_il (by decide +kernel),
  List.forall_mem_cons.mpr ⟨k_ishr (by decide +kernel),
  List.forall_mem_cons.mpr ⟨k_iconst (n := 1) (1) (by decide +kernel) (by decide),
  List.forall_mem_cons.mpr ⟨k_iand (by decide +kernel),
  List.forall_mem_cons.mpr ⟨k_callS (y := 110) (n := 2) w_795 w_796 w_47 w_797 (by decide +kernel) (by decide) (by decide +kernel),
  List.forall_mem_cons.mpr ⟨k_is (by decide +kernel),
  List.forall_mem_cons.mpr ⟨k_alN (i := 0) (by decide +kernel) rfl,
  List.forall_mem_cons.mpr ⟨k_alN (i := 0) (by decide +kernel) rfl,
  List.forall_mem_cons.mpr ⟨k_gf (j := 12) (T := TX8) rfl inX8G (by decide) w_628 (by decide +kernel),
  List.forall_mem_cons.mpr ⟨k_il (by decide +kernel),
  List.forall_mem_cons.mpr ⟨k_alN (i := 0) (by decide +kernel) rfl,
  List.forall_mem_cons.mpr ⟨k_gf (j := 10) (T := TX8) rfl inX8G (by decide) w_626 (by decide +kernel),
  List.forall_mem_cons.mpr ⟨k_iconst (n := 3) (3) (by decide +kernel) (by decide),
  List.forall_mem_cons.mpr ⟨k_ilN (i := 1) (by decide +kernel) rfl,
  List.forall_mem_cons.mpr ⟨k_imul (by decide +kernel),
  List.forall_mem_cons.mpr ⟨k_ia (by decide +kernel),
  List.forall_mem_cons.mpr ⟨k_callV (y := 109) (n := 3) (ci := 8) rfl w_810 w_812 w_22 w_47 w_813 (by decide +kernel) (by decide) (by decide +kernel),
  List.forall_mem_cons.mpr ⟨k_is (by decide +kernel),
  List.forall_mem_cons.mpr ⟨k_inc (n := -1) (-1) (by decide +kernel) (by decide),
  List.forall_mem_cons.mpr ⟨k_goto (off := -42) (by decide +kernel) (by decide),
  List.forall_mem_cons.mpr ⟨k_alN (i := 0) (by decide +kernel) rfl,
  List.forall_mem_cons.mpr ⟨k_gf (j := 12) (T := TX8) rfl inX8G (by decide) w_628 (by decide +kernel),
  List.forall_mem_cons.mpr ⟨k_ilN (i := 2) (by decide +kernel) rfl,
  List.forall_mem_cons.mpr ⟨k_ia (by decide +kernel),
  List.forall_mem_cons.mpr ⟨k_iret (by decide +kernel),
  fun _ h => absurd h List.not_mem_nil⟩⟩⟩⟩⟩⟩⟩⟩⟩⟩⟩⟩⟩⟩⟩⟩⟩⟩⟩⟩⟩⟩⟩⟩⟩⟩⟩⟩⟩⟩⟩⟩⟩⟩⟩⟩⟩⟩⟩⟩⟩⟩⟩⟩⟩⟩⟩
def tb_128 : List (Nat × pO) := [(0, o_const (.int (0)) 1), (1, o_is 5 3), (3, o_il 5 5), (5, o_const (.int (9)) 7), (7, o_cmp (fun x y => y ≤ x) 100 10), (10, o_const (.int (0)) 11), (11, o_is 6 13), (13, o_il 6 15), (15, o_const (.int (1)) 16), (16, o_il 5 18), (18, o_bin (fun x y => x <<< (y &&& 31)) 19), (19, o_cmp (fun x y => y ≤ x) 94 22), (22, o_al 0 23), (23, o_il 1 24), (24, o_il 2 25), (25, o_il 5 27), (27, o_il 6 29), (29, o_call (rcV 8) 127 5 32), (32, o_il 3 33), (33, o_cmp (fun x y => y < x) 88 36), (36, o_const (.int (0)) 37), (37, o_is 7 39), (39, o_const (.int (0)) 40), (40, o_is 8 42), (42, o_il 8 44), (44, o_il 5 46), (46, o_cmp (fun x y => y ≤ x) 75 49), (49, o_il 7 51), (51, o_il 6 53), (53, o_il 5 55), (55, o_const (.int (1)) 56), (56, o_bin (fun x y => x - y) 57), (57, o_il 8 59), (59, o_bin (fun x y => x - y) 60), (60, o_bin (fun x y => x >>> (y &&& 31)) 61), (61, o_const (.int (1)) 62), (62, o_bin (fun x y => x &&& y) 63), (63, o_il 8 65), (65, o_bin (fun x y => x <<< (y &&& 31)) 66), (66, o_bin (fun x y => x ||| y) 67), (67, o_is 7 69), (69, o_inc 8 (1) 72), (72, o_goto 42), (75, o_il 4 77), (77, o_if (fun x => ¬ x = 0) 85 80), (80, o_il 5 82), (82, o_goto 87), (85, o_il 7 87), (87, o_iret), (88, o_inc 6 (1) 91), (91, o_goto 13), (94, o_inc 5 (1) 97), (97, o_goto 3), (100, o_const (.int (-1)) 101), (101, o_iret)]
set_option maxRecDepth 20000 in
theorem tk_128 : ∀ q ∈ tb_128, okA noS mM (prog_10_method_43_code, "DuneMapsModel", 9, some .int, false) q.1 q.2 :=
  List.forall_mem_cons.mpr ⟨k_iconst (n := 0) (0) (by decide +kernel) (by decide),
  List.forall_mem_cons.mpr ⟨k_is (by decide +kernel),
  List.forall_mem_cons.mpr ⟨k_il (by decide +kernel),
  List.forall_mem_cons.mpr ⟨k_bipush (n := 9) (9) (by decide +kernel) (by decide),
  List.forall_mem_cons.mpr ⟨k_icmp_ge (off := 93) (by decide +kernel) (by decide),
  List.forall_mem_cons.mpr ⟨k_iconst (n := 0) (0) (by decide +kernel) (by decide),
  List.forall_mem_cons.mpr ⟨k_is (by decide +kernel),
  List.forall_mem_cons.mpr ⟨k_il (by decide +kernel),
  List.forall_mem_cons.mpr ⟨k_iconst (n := 1) (1) (by decide +kernel) (by decide),
  List.forall_mem_cons.mpr ⟨k_il (by decide +kernel),
  List.forall_mem_cons.mpr ⟨k_ishl (by decide +kernel),
  List.forall_mem_cons.mpr ⟨k_icmp_ge (off := 75) (by decide +kernel) (by decide),
  List.forall_mem_cons.mpr ⟨k_alN (i := 0) (by decide +kernel) rfl,
  List.forall_mem_cons.mpr ⟨k_ilN (i := 1) (by decide +kernel) rfl,
  List.forall_mem_cons.mpr ⟨k_ilN (i := 2) (by decide +kernel) rfl,
  List.forall_mem_cons.mpr ⟨k_il (by decide +kernel),
  List.forall_mem_cons.mpr ⟨k_il (by decide +kernel),
  List.forall_mem_cons.mpr ⟨k_callV (y := 127) (n := 4) (ci := 8) rfl w_865 w_867 w_30 w_47 w_868 (by decide +kernel) (by decide) (by decide +kernel),
  List.forall_mem_cons.mpr ⟨k_ilN (i := 3) (by decide +kernel) rfl,
  List.forall_mem_cons.mpr ⟨k_icmp_gt (off := 55) (by decide +kernel) (by decide),
  List.forall_mem_cons.mpr ⟨k_iconst (n := 0) (0) (by decide +kernel) (by decide),
  List.forall_mem_cons.mpr ⟨k_is (by decide +kernel),
  List.forall_mem_cons.mpr ⟨k_iconst (n := 0) (0) (by decide +kernel) (by decide),
  List.forall_mem_cons.mpr ⟨k_is (by decide +kernel),
  List.forall_mem_cons.mpr ⟨k_il (by decide +kernel),
  List.forall_mem_cons.mpr ⟨k_il (by decide +kernel),
  List.forall_mem_cons.mpr ⟨k_icmp_ge (off := 29) (by decide +kernel) (by decide),
  List.forall_mem_cons.mpr ⟨k_il (by decide +kernel),
  List.forall_mem_cons.mpr ⟨k_il (by decide +kernel),
  List.forall_mem_cons.mpr ⟨k_il (by decide +kernel),
  List.forall_mem_cons.mpr ⟨k_iconst (n := 1) (1) (by decide +kernel) (by decide),
  List.forall_mem_cons.mpr ⟨k_isub (by decide +kernel),
  List.forall_mem_cons.mpr ⟨k_il (by decide +kernel),
  List.forall_mem_cons.mpr ⟨k_isub (by decide +kernel),
  List.forall_mem_cons.mpr ⟨k_ishr (by decide +kernel),
  List.forall_mem_cons.mpr ⟨k_iconst (n := 1) (1) (by decide +kernel) (by decide),
  List.forall_mem_cons.mpr ⟨k_iand (by decide +kernel),
  List.forall_mem_cons.mpr ⟨k_il (by decide +kernel),
  List.forall_mem_cons.mpr ⟨k_ishl (by decide +kernel),
  List.forall_mem_cons.mpr ⟨k_ior (by decide +kernel),
  List.forall_mem_cons.mpr ⟨k_is (by decide +kernel),
  List.forall_mem_cons.mpr ⟨k_inc (n := 1) (1) (by decide +kernel) (by decide),
  List.forall_mem_cons.mpr ⟨k_goto (off := -30) (by decide +kernel) (by decide),
  List.forall_mem_cons.mpr ⟨k_il (by decide +kernel),
  List.forall_mem_cons.mpr ⟨k_if_ne (off := 8) (by decide +kernel) (by decide),
  List.forall_mem_cons.mpr ⟨k_il (by decide +kernel),
  List.forall_mem_cons.mpr ⟨k_goto (off := 5) (by decide +kernel) (by decide),
  List.forall_mem_cons.mpr ⟨k_il (by decide +kernel),
  List.forall_mem_cons.mpr ⟨k_iret (by decide +kernel),
  List.forall_mem_cons.mpr ⟨k_inc (n := 1) (1) (by decide +kernel) (by decide),
  List.forall_mem_cons.mpr ⟨k_goto (off := -78) (by decide +kernel) (by decide),
  List.forall_mem_cons.mpr ⟨k_inc (n := 1) (1) (by decide +kernel) (by decide),
  List.forall_mem_cons.mpr ⟨k_goto (off := -94) (by decide +kernel) (by decide),
  List.forall_mem_cons.mpr ⟨k_iconst (n := -1) (-1) (by decide +kernel) (by decide),
  List.forall_mem_cons.mpr ⟨k_iret (by decide +kernel),
  fun _ h => absurd h List.not_mem_nil⟩⟩⟩⟩⟩⟩⟩⟩⟩⟩⟩⟩⟩⟩⟩⟩⟩⟩⟩⟩⟩⟩⟩⟩⟩⟩⟩⟩⟩⟩⟩⟩⟩⟩⟩⟩⟩⟩⟩⟩⟩⟩⟩⟩⟩⟩⟩⟩⟩⟩⟩⟩⟩⟩⟩
def tb_129 : List (Nat × pO) := [(0, o_al 0 1), (1, o_il 1 2), (2, o_call (rcV 8) 107 2 5), (5, o_if (fun x => x = 0) 16 8), (8, o_al 0 9), (9, o_il 2 10), (10, o_call (rcV 8) 95 2 13), (13, o_if (fun x => ¬ x = 0) 19 16), (16, o_const (.int (-101)) 18), (18, o_iret), (19, o_il 3 20), (20, o_i2l 21), (21, o_const (.long (0)) 22), (22, o_const (.long (9)) 25), (25, o_call rc0 87 3 28), (28, o_if (fun x => x = 0) 54 31), (31, o_il 4 33), (33, o_i2l 34), (34, o_const (.long (0)) 35), (35, o_const (.long (1)) 36), (36, o_call rc0 87 3 39), (39, o_if (fun x => x = 0) 54 42), (42, o_al 0 43), (43, o_il 1 44), (44, o_il 2 45), (45, o_il 3 46), (46, o_il 4 48), (48, o_call (rcV 8) 128 5 51), (51, o_goto 56), (54, o_const (.int (-102)) 56), (56, o_iret)]
set_option maxRecDepth 20000 in
theorem tk_129 : ∀ q ∈ tb_129, okA noS mM (prog_10_method_44_code, "DuneMapsModel", 5, some .int, false) q.1 q.2 :=
  List.forall_mem_cons.mpr ⟨k_alN (i := 0) (by decide +kernel) rfl,
  List.forall_mem_cons.mpr ⟨k_ilN (i := 1) (by decide +kernel) rfl,
  List.forall_mem_cons.mpr ⟨k_callV (y := 107) (n := 1) (ci := 8) rfl w_776 w_778 w_17 w_47 w_779 (by decide +kernel) (by decide) (by decide +kernel),
  List.forall_mem_cons.mpr ⟨k_if_eq (off := 11) (by decide +kernel) (by decide),
  List.forall_mem_cons.mpr ⟨k_alN (i := 0) (by decide +kernel) rfl,
  List.forall_mem_cons.mpr ⟨k_ilN (i := 2) (by decide +kernel) rfl,
  List.forall_mem_cons.mpr ⟨k_callV (y := 95) (n := 1) (ci := 8) rfl w_728 w_730 w_11 w_47 w_731 (by decide +kernel) (by decide) (by decide +kernel),
  List.forall_mem_cons.mpr ⟨k_if_ne (off := 6) (by decide +kernel) (by decide),
  List.forall_mem_cons.mpr ⟨k_bipush (n := -101) (-101) (by decide +kernel) (by decide),
  List.forall_mem_cons.mpr ⟨k_iret (by decide +kernel),
  List.forall_mem_cons.mpr ⟨k_ilN (i := 3) (by decide +kernel) rfl,
  List.forall_mem_cons.mpr ⟨k_i2l (by decide +kernel),
  List.forall_mem_cons.mpr ⟨k_lconst (n := 0) (0) (by decide +kernel) (by decide),
  List.forall_mem_cons.mpr ⟨k_ldc2 w_860 (by decide +kernel),
  List.forall_mem_cons.mpr ⟨k_callS (y := 87) (n := 3) w_700 w_701 w_47 w_702 (by decide +kernel) (by decide) (by decide +kernel),
  List.forall_mem_cons.mpr ⟨k_if_eq (off := 26) (by decide +kernel) (by decide),
  List.forall_mem_cons.mpr ⟨k_il (by decide +kernel),
  List.forall_mem_cons.mpr ⟨k_i2l (by decide +kernel),
  List.forall_mem_cons.mpr ⟨k_lconst (n := 0) (0) (by decide +kernel) (by decide),
  List.forall_mem_cons.mpr ⟨k_lconst (n := 1) (1) (by decide +kernel) (by decide),
  List.forall_mem_cons.mpr ⟨k_callS (y := 87) (n := 3) w_700 w_701 w_47 w_702 (by decide +kernel) (by decide) (by decide +kernel),
  List.forall_mem_cons.mpr ⟨k_if_eq (off := 15) (by decide +kernel) (by decide),
  List.forall_mem_cons.mpr ⟨k_alN (i := 0) (by decide +kernel) rfl,
  List.forall_mem_cons.mpr ⟨k_ilN (i := 1) (by decide +kernel) rfl,
  List.forall_mem_cons.mpr ⟨k_ilN (i := 2) (by decide +kernel) rfl,
  List.forall_mem_cons.mpr ⟨k_ilN (i := 3) (by decide +kernel) rfl,
  List.forall_mem_cons.mpr ⟨k_il (by decide +kernel),
  List.forall_mem_cons.mpr ⟨k_callV (y := 128) (n := 4) (ci := 8) rfl w_861 w_863 w_29 w_47 w_864 (by decide +kernel) (by decide) (by decide +kernel),
  List.forall_mem_cons.mpr ⟨k_goto (off := 5) (by decide +kernel) (by decide),
  List.forall_mem_cons.mpr ⟨k_bipush (n := -102) (-102) (by decide +kernel) (by decide),
  List.forall_mem_cons.mpr ⟨k_iret (by decide +kernel),
  fun _ h => absurd h List.not_mem_nil⟩⟩⟩⟩⟩⟩⟩⟩⟩⟩⟩⟩⟩⟩⟩⟩⟩⟩⟩⟩⟩⟩⟩⟩⟩⟩⟩⟩⟩⟩⟩
def tb_130 : List (Nat × pO) := [(0, o_al 0 1), (1, o_gf 8 2 4), (4, o_if (fun x => x = 0) 26 7), (7, o_al 0 8), (8, o_gf 8 1 11), (11, o_const (.int (8)) 13), (13, o_cmp (fun x y => ¬ x = y) 26 16), (16, o_al 0 17), (17, o_const (.int (1)) 18), (18, o_call (rcV 8) 91 2 21), (21, o_const (.int (8)) 23), (23, o_cmp (fun x y => y ≤ x) 29 26), (26, o_const (.int (-103)) 28), (28, o_iret), (29, o_const (.int (0)) 30), (30, o_is 1 31), (31, o_il 1 32), (32, o_const (.int (8)) 34), (34, o_cmp (fun x y => y ≤ x) 58 37), (37, o_al 0 38), (38, o_gf 8 8 41), (41, o_il 1 42), (42, o_al 0 43), (43, o_gf 8 0 46), (46, o_il 1 47), (47, o_ia 48), (48, o_const (.int (48)) 50), (50, o_bin (fun x y => x - y) 51), (51, o_ist 52), (52, o_inc 1 (1) 55), (55, o_goto 31), (58, o_al 0 59), (59, o_const (.int (1)) 60), (60, o_pf okZ 8 7 63), (63, o_al 0 64), (64, o_const (.int (0)) 65), (65, o_pf okI 8 1 68), (68, o_al 0 69), (69, o_gf 8 8 72), (72, o_call rc0 93 1 75), (75, o_iret)]
set_option maxRecDepth 20000 in
theorem tk_130 : ∀ q ∈ tb_130, okA noS mM (prog_10_method_45_code, "DuneMapsModel", 2, some .int, false) q.1 q.2 :=
  List.forall_mem_cons.mpr ⟨k_alN (i := 0) (by decide +kernel) rfl,
  List.forall_mem_cons.mpr ⟨k_gf (j := 2) (T := TX8) rfl inX8G (by decide) w_618 (by decide +kernel),
  List.forall_mem_cons.mpr ⟨k_if_eq (off := 22) (by decide +kernel) (by decide),
  List.forall_mem_cons.mpr ⟨k_alN (i := 0) (by decide +kernel) rfl,
  List.forall_mem_cons.mpr ⟨k_gf (j := 1) (T := TX8) rfl inX8G (by decide) w_617 (by decide +kernel),
  List.forall_mem_cons.mpr ⟨k_bipush (n := 8) (8) (by decide +kernel) (by decide),
  List.forall_mem_cons.mpr ⟨k_icmp_ne (off := 13) (by decide +kernel) (by decide),
  List.forall_mem_cons.mpr ⟨k_alN (i := 0) (by decide +kernel) rfl,
  List.forall_mem_cons.mpr ⟨k_iconst (n := 1) (1) (by decide +kernel) (by decide),
  List.forall_mem_cons.mpr ⟨k_callV (y := 91) (n := 1) (ci := 8) rfl w_711 w_713 w_10 w_47 w_714 (by decide +kernel) (by decide) (by decide +kernel),
  List.forall_mem_cons.mpr ⟨k_bipush (n := 8) (8) (by decide +kernel) (by decide),
  List.forall_mem_cons.mpr ⟨k_icmp_ge (off := 6) (by decide +kernel) (by decide),
  List.forall_mem_cons.mpr ⟨k_bipush (n := -103) (-103) (by decide +kernel) (by decide),
  List.forall_mem_cons.mpr ⟨k_iret (by decide +kernel),
  List.forall_mem_cons.mpr ⟨k_iconst (n := 0) (0) (by decide +kernel) (by decide),
  List.forall_mem_cons.mpr ⟨k_isN (i := 1) (by decide +kernel) rfl,
  List.forall_mem_cons.mpr ⟨k_ilN (i := 1) (by decide +kernel) rfl,
  List.forall_mem_cons.mpr ⟨k_bipush (n := 8) (8) (by decide +kernel) (by decide),
  List.forall_mem_cons.mpr ⟨k_icmp_ge (off := 24) (by decide +kernel) (by decide),
  List.forall_mem_cons.mpr ⟨k_alN (i := 0) (by decide +kernel) rfl,
  List.forall_mem_cons.mpr ⟨k_gf (j := 8) (T := TX8) rfl inX8G (by decide) w_624 (by decide +kernel),
  List.forall_mem_cons.mpr ⟨k_ilN (i := 1) (by decide +kernel) rfl,
  List.forall_mem_cons.mpr ⟨k_alN (i := 0) (by decide +kernel) rfl,
  List.forall_mem_cons.mpr ⟨k_gf (j := 0) (T := TX8) rfl inX8G (by decide) w_616 (by decide +kernel),
  List.forall_mem_cons.mpr ⟨k_ilN (i := 1) (by decide +kernel) rfl,
  List.forall_mem_cons.mpr ⟨k_ia (by decide +kernel),
  List.forall_mem_cons.mpr ⟨k_bipush (n := 48) (48) (by decide +kernel) (by decide),
  List.forall_mem_cons.mpr ⟨k_isub (by decide +kernel),
  List.forall_mem_cons.mpr ⟨k_ist (by decide +kernel),
  List.forall_mem_cons.mpr ⟨k_inc (n := 1) (1) (by decide +kernel) (by decide),
  List.forall_mem_cons.mpr ⟨k_goto (off := -24) (by decide +kernel) (by decide),
  List.forall_mem_cons.mpr ⟨k_alN (i := 0) (by decide +kernel) rfl,
  List.forall_mem_cons.mpr ⟨k_iconst (n := 1) (1) (by decide +kernel) (by decide),
  List.forall_mem_cons.mpr ⟨k_pf (j := 7) (T := TX8) tyX8 tyX8_ok nmX8 okZ_fit rfl inX8G (by decide) rfl (by decide +kernel) w_623 (by decide +kernel),
  List.forall_mem_cons.mpr ⟨k_alN (i := 0) (by decide +kernel) rfl,
  List.forall_mem_cons.mpr ⟨k_iconst (n := 0) (0) (by decide +kernel) (by decide),
  List.forall_mem_cons.mpr ⟨k_pf (j := 1) (T := TX8) tyX8 tyX8_ok nmX8 okI_fit rfl inX8G (by decide) rfl (by decide +kernel) w_617 (by decide +kernel),
  List.forall_mem_cons.mpr ⟨k_alN (i := 0) (by decide +kernel) rfl,
  List.forall_mem_cons.mpr ⟨k_gf (j := 8) (T := TX8) rfl inX8G (by decide) w_624 (by decide +kernel),
  List.forall_mem_cons.mpr ⟨k_callS (y := 93) (n := 1) w_721 w_722 w_47 w_723 (by decide +kernel) (by decide) (by decide +kernel),
  List.forall_mem_cons.mpr ⟨k_iret (by decide +kernel),
  fun _ h => absurd h List.not_mem_nil⟩⟩⟩⟩⟩⟩⟩⟩⟩⟩⟩⟩⟩⟩⟩⟩⟩⟩⟩⟩⟩⟩⟩⟩⟩⟩⟩⟩⟩⟩⟩⟩⟩⟩⟩⟩⟩⟩⟩⟩⟩
def tb_131 : List (Nat × pO) := [(0, o_const (.int (1)) 1), (1, o_is 1 2), (2, o_const (.int (0)) 3), (3, o_is 2 4), (4, o_il 2 5), (5, o_const (.int (8)) 7), (7, o_cmp (fun x y => y ≤ x) 41 10), (10, o_il 1 11), (11, o_if (fun x => x = 0) 33 14), (14, o_al 0 15), (15, o_gf 8 12 18), (18, o_il 2 19), (19, o_ia 20), (20, o_al 0 21), (21, o_gf 8 6 24), (24, o_il 2 25), (25, o_ia 26), (26, o_cmp (fun x y => ¬ x = y) 33 29), (29, o_const (.int (1)) 30), (30, o_goto 34), (33, o_const (.int (0)) 34), (34, o_is 1 35), (35, o_inc 2 (1) 38), (38, o_goto 4), (41, o_il 1 42), (42, o_zret)]
set_option maxRecDepth 20000 in
theorem tk_131 : ∀ q ∈ tb_131, okA noS mM (prog_10_method_46_code, "DuneMapsModel", 3, some .boolean, false) q.1 q.2 :=
  List.forall_mem_cons.mpr ⟨k_iconst (n := 1) (1) (by decide +kernel) (by decide),
  List.forall_mem_cons.mpr ⟨k_isN (i := 1) (by decide +kernel) rfl,
  List.forall_mem_cons.mpr ⟨k_iconst (n := 0) (0) (by decide +kernel) (by decide),
  List.forall_mem_cons.mpr ⟨k_isN (i := 2) (by decide +kernel) rfl,
  List.forall_mem_cons.mpr ⟨k_ilN (i := 2) (by decide +kernel) rfl,
  List.forall_mem_cons.mpr ⟨k_bipush (n := 8) (8) (by decide +kernel) (by decide),
  List.forall_mem_cons.mpr ⟨k_icmp_ge (off := 34) (by decide +kernel) (by decide),
  List.forall_mem_cons.mpr ⟨k_ilN (i := 1) (by decide +kernel) rfl,
  List.forall_mem_cons.mpr ⟨k_if_eq (off := 22) (by decide +kernel) (by decide),
  List.forall_mem_cons.mpr ⟨k_alN (i := 0) (by decide +kernel) rfl,
  List.forall_mem_cons.mpr ⟨k_gf (j := 12) (T := TX8) rfl inX8G (by decide) w_628 (by decide +kernel),
  List.forall_mem_cons.mpr ⟨k_ilN (i := 2) (by decide +kernel) rfl,
  List.forall_mem_cons.mpr ⟨k_ia (by decide +kernel),
  List.forall_mem_cons.mpr ⟨k_alN (i := 0) (by decide +kernel) rfl,
  List.forall_mem_cons.mpr ⟨k_gf (j := 6) (T := TX8) rfl inX8G (by decide) w_622 (by decide +kernel),
  List.forall_mem_cons.mpr ⟨k_ilN (i := 2) (by decide +kernel) rfl,
  List.forall_mem_cons.mpr ⟨k_ia (by decide +kernel),
  List.forall_mem_cons.mpr ⟨k_icmp_ne (off := 7) (by decide +kernel) (by decide),
  List.forall_mem_cons.mpr ⟨k_iconst (n := 1) (1) (by decide +kernel) (by decide),
  List.forall_mem_cons.mpr ⟨k_goto (off := 4) (by decide +kernel) (by decide),
  List.forall_mem_cons.mpr ⟨k_iconst (n := 0) (0) (by decide +kernel) (by decide),
  List.forall_mem_cons.mpr ⟨k_isN (i := 1) (by decide +kernel) rfl,
  List.forall_mem_cons.mpr ⟨k_inc (n := 1) (1) (by decide +kernel) (by decide),
  List.forall_mem_cons.mpr ⟨k_goto (off := -34) (by decide +kernel) (by decide),
  List.forall_mem_cons.mpr ⟨k_ilN (i := 1) (by decide +kernel) rfl,
  List.forall_mem_cons.mpr ⟨k_zret (by decide +kernel),
  fun _ h => absurd h List.not_mem_nil⟩⟩⟩⟩⟩⟩⟩⟩⟩⟩⟩⟩⟩⟩⟩⟩⟩⟩⟩⟩⟩⟩⟩⟩⟩⟩
def tb_132 : List (Nat × pO) := [(0, o_const (.int (0)) 1), (1, o_is 2 2), (2, o_const (.int (-1)) 3), (3, o_is 3 4), (4, o_const (.int (639)) 7), (7, o_is 4 9), (9, o_il 4 11), (11, o_if (fun x => x < 0) 123 14), (14, o_al 0 15), (15, o_gf 8 8 18), (18, o_al 0 19), (19, o_gf 8 12 22), (22, o_call rc0 88 2 25), (25, o_il 4 27), (27, o_const (.int (16)) 29), (29, o_binz (fun x y => x / y) 30), (30, o_const (.int (8)) 32), (32, o_binz (fun x y => x - x / y * y) 33), (33, o_is 5 35), (35, o_const (.int (0)) 36), (36, o_is 6 38), (38, o_il 6 40), (40, o_il 4 42), (42, o_const (.int (8)) 44), (44, o_binz (fun x y => x - x / y * y) 45), (45, o_cmp (fun x y => y < x) 86 48), (48, o_il 5 50), (50, o_il 4 52), (52, o_const (.int (8)) 54), (54, o_binz (fun x y => x / y) 55), (55, o_const (.int (2)) 56), (56, o_binz (fun x y => x - x / y * y) 57), (57, o_call rc0 110 2 60), (60, o_is 5 62), (62, o_al 0 63), (63, o_al 0 64), (64, o_gf 8 12 67), (67, o_il 5 69), (69, o_il 4 71), (71, o_const (.int (128)) 74), (74, o_binz (fun x y => x / y) 75), (75, o_call (rcV 8) 109 4 78), (78, o_is 7 80), (80, o_inc 6 (1) 83), (83, o_goto 38), (86, o_al 0 87), (87, o_call (rcV 8) 131 1 90), (90, o_is 6 92), (92, o_il 2 93), (93, o_il 6 95), (95, o_if (fun x => x = 0) 102 98), (98, o_const (.int (1)) 99), (99, o_goto 103), (102, o_const (.int (0)) 103), (103, o_bin (fun x y => x + y) 104), (104, o_is 2 105), (105, o_il 6 107), (107, o_if (fun x => x = 0) 115 110), (110, o_il 4 112), (112, o_goto 116), (115, o_il 3 116), (116, o_is 3 117), (117, o_inc 4 (-1) 120), (120, o_goto 9), (123, o_il 1 124), (124, o_if (fun x => ¬ x = 0) 131 127), (127, o_il 2 128), (128, o_goto 132), (131, o_il 3 132), (132, o_iret)]
set_option maxRecDepth 20000 in
theorem tk_132 : ∀ q ∈ tb_132, okA noS mM (prog_10_method_47_code, "DuneMapsModel", 8, some .int, false) q.1 q.2 :=
  List.forall_mem_cons.mpr ⟨k_iconst (n := 0) (0) (by decide +kernel) (by decide),
  List.forall_mem_cons.mpr ⟨k_isN (i := 2) (by decide +kernel) rfl,
  List.forall_mem_cons.mpr ⟨k_iconst (n := -1) (-1) (by decide +kernel) (by decide),
  List.forall_mem_cons.mpr ⟨k_isN (i := 3) (by decide +kernel) rfl,
  List.forall_mem_cons.mpr ⟨k_sipush (n := 639) (639) (by decide +kernel) (by decide),
  List.forall_mem_cons.mpr ⟨k_is (by decide +kernel),
  List.forall_mem_cons.mpr ⟨k_il (by decide +kernel),
  List.forall_mem_cons.mpr ⟨k_if_lt (off := 112) (by decide +kernel) (by decide),
  List.forall_mem_cons.mpr ⟨k_alN (i := 0) (by decide +kernel) rfl,
  List.forall_mem_cons.mpr ⟨k_gf (j := 8) (T := TX8) rfl inX8G (by decide) w_624 (by decide +kernel),
  List.forall_mem_cons.mpr ⟨k_alN (i := 0) (by decide +kernel) rfl,
  List.forall_mem_cons.mpr ⟨k_gf (j := 12) (T := TX8) rfl inX8G (by decide) w_628 (by decide +kernel),
  List.forall_mem_cons.mpr ⟨k_callS (y := 88) (n := 2) w_849 w_850 w_47 w_851 (by decide +kernel) (by decide) (by decide +kernel),
  List.forall_mem_cons.mpr ⟨k_il (by decide +kernel),
  List.forall_mem_cons.mpr ⟨k_bipush (n := 16) (16) (by decide +kernel) (by decide),
  List.forall_mem_cons.mpr ⟨k_idiv (by decide +kernel),
  List.forall_mem_cons.mpr ⟨k_bipush (n := 8) (8) (by decide +kernel) (by decide),
  List.forall_mem_cons.mpr ⟨k_irem (by decide +kernel),
  List.forall_mem_cons.mpr ⟨k_is (by decide +kernel),
  List.forall_mem_cons.mpr ⟨k_iconst (n := 0) (0) (by decide +kernel) (by decide),
  List.forall_mem_cons.mpr ⟨k_is (by decide +kernel),
  List.forall_mem_cons.mpr ⟨k_il (by decide +kernel),
  List.forall_mem_cons.mpr ⟨k_il (by decide +kernel),
  List.forall_mem_cons.mpr ⟨k_bipush (n := 8) (8) (by decide +kernel) (by decide),
  List.forall_mem_cons.mpr ⟨k_irem (by decide +kernel),
  List.forall_mem_cons.mpr ⟨k_icmp_gt (off := 41) (by decide +kernel) (by decide),
  List.forall_mem_cons.mpr ⟨k_il (by decide +kernel),
  List.forall_mem_cons.mpr ⟨k_il (by decide +kernel),
  List.forall_mem_cons.mpr ⟨k_bipush (n := 8) (8) (by decide +kernel) (by decide),
  List.forall_mem_cons.mpr ⟨k_idiv (by decide +kernel),
  List.forall_mem_cons.mpr ⟨k_iconst (n := 2) (2) (by decide +kernel) (by decide),
  List.forall_mem_cons.mpr ⟨k_irem (by decide +kernel),
  List.forall_mem_cons.mpr ⟨k_callS (y := 110) (n := 2) w_795 w_796 w_47 w_797 (by decide +kernel) (by decide) (by decide +kernel),
  List.forall_mem_cons.mpr ⟨k_is (by decide +kernel),
  List.forall_mem_cons.mpr ⟨k_alN (i := 0) (by decide +kernel) rfl,
  List.forall_mem_cons.mpr ⟨k_alN (i := 0) (by decide +kernel) rfl,
  List.forall_mem_cons.mpr ⟨k_gf (j := 12) (T := TX8) rfl inX8G (by decide) w_628 (by decide +kernel),
  List.forall_mem_cons.mpr ⟨k_il (by decide +kernel),
  List.forall_mem_cons.mpr ⟨k_il (by decide +kernel),
  List.forall_mem_cons.mpr ⟨k_sipush (n := 128) (128) (by decide +kernel) (by decide),
  List.forall_mem_cons.mpr ⟨k_idiv (by decide +kernel),
  List.forall_mem_cons.mpr ⟨k_callV (y := 109) (n := 3) (ci := 8) rfl w_810 w_812 w_22 w_47 w_813 (by decide +kernel) (by decide) (by decide +kernel),
  List.forall_mem_cons.mpr ⟨k_is (by decide +kernel),
  List.forall_mem_cons.mpr ⟨k_inc (n := 1) (1) (by decide +kernel) (by decide),
  List.forall_mem_cons.mpr ⟨k_goto (off := -45) (by decide +kernel) (by decide),
  List.forall_mem_cons.mpr ⟨k_alN (i := 0) (by decide +kernel) rfl,
  List.forall_mem_cons.mpr ⟨k_callV (y := 131) (n := 0) (ci := 8) rfl w_881 w_883 w_32 w_47 w_884 (by decide +kernel) (by decide) (by decide +kernel),
  List.forall_mem_cons.mpr ⟨k_is (by decide +kernel),
  List.forall_mem_cons.mpr ⟨k_ilN (i := 2) (by decide +kernel) rfl,
  List.forall_mem_cons.mpr ⟨k_il (by decide +kernel),
  List.forall_mem_cons.mpr ⟨k_if_eq (off := 7) (by decide +kernel) (by decide),
  List.forall_mem_cons.mpr ⟨k_iconst (n := 1) (1) (by decide +kernel) (by decide),
  List.forall_mem_cons.mpr ⟨k_goto (off := 4) (by decide +kernel) (by decide),
  List.forall_mem_cons.mpr ⟨k_iconst (n := 0) (0) (by decide +kernel) (by decide),
  List.forall_mem_cons.mpr ⟨k_iadd (by decide +kernel),
  List.forall_mem_cons.mpr ⟨k_isN (i := 2) (by decide +kernel) rfl,
  List.forall_mem_cons.mpr ⟨k_il (by decide +kernel),
  List.forall_mem_cons.mpr ⟨k_if_eq (off := 8) (by decide +kernel) (by decide),
  List.forall_mem_cons.mpr ⟨k_il (by decide +kernel),
  List.forall_mem_cons.mpr ⟨k_goto (off := 4) (by decide +kernel) (by decide),
  List.forall_mem_cons.mpr ⟨k_ilN (i := 3) (by decide +kernel) rfl,
  List.forall_mem_cons.mpr ⟨k_isN (i := 3) (by decide +kernel) rfl,
  List.forall_mem_cons.mpr ⟨k_inc (n := -1) (-1) (by decide +kernel) (by decide),
  List.forall_mem_cons.mpr ⟨k_goto (off := -111) (by decide +kernel) (by decide),
  List.forall_mem_cons.mpr ⟨k_ilN (i := 1) (by decide +kernel) rfl,
  List.forall_mem_cons.mpr ⟨k_if_ne (off := 7) (by decide +kernel) (by decide),
  List.forall_mem_cons.mpr ⟨k_ilN (i := 2) (by decide +kernel) rfl,
  List.forall_mem_cons.mpr ⟨k_goto (off := 4) (by decide +kernel) (by decide),
  List.forall_mem_cons.mpr ⟨k_ilN (i := 3) (by decide +kernel) rfl,
  List.forall_mem_cons.mpr ⟨k_iret (by decide +kernel),
  fun _ h => absurd h List.not_mem_nil⟩⟩⟩⟩⟩⟩⟩⟩⟩⟩⟩⟩⟩⟩⟩⟩⟩⟩⟩⟩⟩⟩⟩⟩⟩⟩⟩⟩⟩⟩⟩⟩⟩⟩⟩⟩⟩⟩⟩⟩⟩⟩⟩⟩⟩⟩⟩⟩⟩⟩⟩⟩⟩⟩⟩⟩⟩⟩⟩⟩⟩⟩⟩⟩⟩⟩⟩⟩⟩⟩
end
section
def tb_133 : List (Nat × pO) := [(0, o_il 1 1), (1, o_i2l 2), (2, o_const (.long (0)) 3), (3, o_const (.long (1)) 4), (4, o_call rc0 87 3 7), (7, o_if (fun x => ¬ x = 0) 13 10), (10, o_const (.int (-102)) 12), (12, o_iret), (13, o_al 0 14), (14, o_gf 8 7 17), (17, o_if (fun x => x = 0) 28 20), (20, o_al 0 21), (21, o_il 1 22), (22, o_call (rcV 8) 132 2 25), (25, o_goto 30), (28, o_const (.int (-103)) 30), (30, o_iret)]
set_option maxRecDepth 20000 in
theorem tk_133 : ∀ q ∈ tb_133, okA noS mM (prog_10_method_48_code, "DuneMapsModel", 2, some .int, false) q.1 q.2 :=
  List.forall_mem_cons.mpr ⟨k_ilN (i := 1) (by decide +kernel) rfl,
  List.forall_mem_cons.mpr ⟨k_i2l (by decide +kernel),
  List.forall_mem_cons.mpr ⟨k_lconst (n := 0) (0) (by decide +kernel) (by decide),
  List.forall_mem_cons.mpr ⟨k_lconst (n := 1) (1) (by decide +kernel) (by decide),
  List.forall_mem_cons.mpr ⟨k_callS (y := 87) (n := 3) w_700 w_701 w_47 w_702 (by decide +kernel) (by decide) (by decide +kernel),
  List.forall_mem_cons.mpr ⟨k_if_ne (off := 6) (by decide +kernel) (by decide),
  List.forall_mem_cons.mpr ⟨k_bipush (n := -102) (-102) (by decide +kernel) (by decide),
  List.forall_mem_cons.mpr ⟨k_iret (by decide +kernel),
  List.forall_mem_cons.mpr ⟨k_alN (i := 0) (by decide +kernel) rfl,
  List.forall_mem_cons.mpr ⟨k_gf (j := 7) (T := TX8) rfl inX8G (by decide) w_623 (by decide +kernel),
  List.forall_mem_cons.mpr ⟨k_if_eq (off := 11) (by decide +kernel) (by decide),
  List.forall_mem_cons.mpr ⟨k_alN (i := 0) (by decide +kernel) rfl,
  List.forall_mem_cons.mpr ⟨k_ilN (i := 1) (by decide +kernel) rfl,
  List.forall_mem_cons.mpr ⟨k_callV (y := 132) (n := 1) (ci := 8) rfl w_877 w_879 w_31 w_47 w_880 (by decide +kernel) (by decide) (by decide +kernel),
  List.forall_mem_cons.mpr ⟨k_goto (off := 5) (by decide +kernel) (by decide),
  List.forall_mem_cons.mpr ⟨k_bipush (n := -103) (-103) (by decide +kernel) (by decide),
  List.forall_mem_cons.mpr ⟨k_iret (by decide +kernel),
  fun _ h => absurd h List.not_mem_nil⟩⟩⟩⟩⟩⟩⟩⟩⟩⟩⟩⟩⟩⟩⟩⟩⟩
def tb_134 : List (Nat × pO) := [(0, o_al 0 1), (1, o_const (.long (1103515245)) 4), (4, o_al 0 5), (5, o_gf 8 17 8), (8, o_i2l 9), (9, o_lbin (fun x y => x * y) 10), (10, o_const (.long (12345)) 13), (13, o_lbin (fun x y => x + y) 14), (14, o_const (.long (2147483647)) 17), (17, o_lbin (fun x y => x &&& y) 18), (18, o_l2i 19), (19, o_pf okI 8 17 22), (22, o_al 0 23), (23, o_gf 8 17 26), (26, o_const (.int (65536)) 28), (28, o_binz (fun x y => x / y) 29), (29, o_il 1 30), (30, o_binz (fun x y => x - x / y * y) 31), (31, o_iret)]
set_option maxRecDepth 20000 in
theorem tk_134 : ∀ q ∈ tb_134, okA noS mM (prog_10_method_49_code, "DuneMapsModel", 2, some .int, false) q.1 q.2 :=
  List.forall_mem_cons.mpr ⟨k_alN (i := 0) (by decide +kernel) rfl,
  List.forall_mem_cons.mpr ⟨k_ldc2 w_895 (by decide +kernel),
  List.forall_mem_cons.mpr ⟨k_alN (i := 0) (by decide +kernel) rfl,
  List.forall_mem_cons.mpr ⟨k_gf (j := 17) (T := TX8) rfl inX8G (by decide) w_633 (by decide +kernel),
  List.forall_mem_cons.mpr ⟨k_i2l (by decide +kernel),
  List.forall_mem_cons.mpr ⟨k_lmul (by decide +kernel),
  List.forall_mem_cons.mpr ⟨k_ldc2 w_896 (by decide +kernel),
  List.forall_mem_cons.mpr ⟨k_ladd (by decide +kernel),
  List.forall_mem_cons.mpr ⟨k_ldc2 w_897 (by decide +kernel),
  List.forall_mem_cons.mpr ⟨k_land (by decide +kernel),
  List.forall_mem_cons.mpr ⟨k_l2i (by decide +kernel),
  List.forall_mem_cons.mpr ⟨k_pf (j := 17) (T := TX8) tyX8 tyX8_ok nmX8 okI_fit rfl inX8G (by decide) rfl (by decide +kernel) w_633 (by decide +kernel),
  List.forall_mem_cons.mpr ⟨k_alN (i := 0) (by decide +kernel) rfl,
  List.forall_mem_cons.mpr ⟨k_gf (j := 17) (T := TX8) rfl inX8G (by decide) w_633 (by decide +kernel),
  List.forall_mem_cons.mpr ⟨k_ldc w_898 (by decide +kernel),
  List.forall_mem_cons.mpr ⟨k_idiv (by decide +kernel),
  List.forall_mem_cons.mpr ⟨k_ilN (i := 1) (by decide +kernel) rfl,
  List.forall_mem_cons.mpr ⟨k_irem (by decide +kernel),
  List.forall_mem_cons.mpr ⟨k_iret (by decide +kernel),
  fun _ h => absurd h List.not_mem_nil⟩⟩⟩⟩⟩⟩⟩⟩⟩⟩⟩⟩⟩⟩⟩⟩⟩⟩⟩
def tb_135 : List (Nat × pO) := [(0, o_il 1 1), (1, o_i2l 2), (2, o_const (.long (1)) 3), (3, o_const (.long (60)) 6), (6, o_call rc0 87 3 9), (9, o_if (fun x => x = 0) 28 12), (12, o_il 2 13), (13, o_if (fun x => x < 0) 28 16), (16, o_il 3 17), (17, o_i2l 18), (18, o_const (.long (0)) 19), (19, o_const (.long (2)) 22), (22, o_call rc0 87 3 25), (25, o_if (fun x => ¬ x = 0) 31 28), (28, o_const (.int (-102)) 30), (30, o_iret), (31, o_al 0 32), (32, o_gf 8 2 35), (35, o_if (fun x => ¬ x = 0) 41 38), (38, o_const (.int (-103)) 40), (40, o_iret), (41, o_al 0 42), (42, o_gf 8 6 45), (45, o_al 0 46), (46, o_gf 8 12 49), (49, o_call rc0 88 2 52), (52, o_al 0 53), (53, o_il 2 54), (54, o_pf okI 8 17 57), (57, o_const (.int (0)) 58), (58, o_is 4 60), (60, o_const (.int (0)) 61), (61, o_is 5 63), (63, o_il 5 65), (65, o_il 1 66), (66, o_cmp (fun x y => y ≤ x) 121 69), (69, o_al 0 70), (70, o_const (.int (8)) 72), (72, o_call (rcV 8) 134 2 75), (75, o_is 6 77), (77, o_il 4 79), (79, o_al 0 80), (80, o_al 0 81), (81, o_gf 8 12 84), (84, o_il 6 86), (86, o_al 0 87), (87, o_const (.int (5)) 88), (88, o_call (rcV 8) 134 2 91), (91, o_call (rcV 8) 109 4 94), (94, o_if (fun x => x ≤ 0) 101 97), (97, o_const (.int (1)) 98), (98, o_goto 102), (101, o_const (.int (0)) 102), (102, o_bin (fun x y => x + y) 103), (103, o_is 4 105), (105, o_al 0 106), (106, o_al 0 107), (107, o_gf 8 12 110), (110, o_call (rcV 8) 105 2 113), (113, o_is 7 115), (115, o_inc 5 (1) 118), (118, o_goto 63), (121, o_const (.int (0)) 122), (122, o_is 5 124), (124, o_const (.int (0)) 125), (125, o_is 6 127), (127, o_il 6 129), (129, o_const (.int (8)) 131), (131, o_cmp (fun x y => y ≤ x) 166 134), (134, o_al 0 135), (135, o_gf 8 12 138), (138, o_il 6 140), (140, o_ia 141), (141, o_il 5 143), (143, o_cmp (fun x y => x ≤ y) 156 146), (146, o_al 0 147), (147, o_gf 8 12 150), (150, o_il 6 152), (152, o_ia 153), (153, o_goto 158), (156, o_il 5 158), (158, o_is 5 160), (160, o_inc 6 (1) 163), (163, o_goto 127), (166, o_il 3 167), (167, o_if (fun x => ¬ x = 0) 175 170), (170, o_il 4 172), (172, o_goto 189), (175, o_il 3 176), (176, o_const (.int (1)) 177), (177, o_cmp (fun x y => ¬ x = y) 185 180), (180, o_il 5 182), (182, o_goto 189), (185, o_al 0 186), (186, o_gf 8 17 189), (189, o_iret)]
set_option maxRecDepth 20000 in
theorem tk_135 : ∀ q ∈ tb_135, okA noS mM (prog_10_method_50_code, "DuneMapsModel", 8, some .int, false) q.1 q.2 :=
  List.forall_mem_cons.mpr ⟨k_ilN (i := 1) (by decide +kernel) rfl,
  List.forall_mem_cons.mpr ⟨k_i2l (by decide +kernel),
  List.forall_mem_cons.mpr ⟨k_lconst (n := 1) (1) (by decide +kernel) (by decide),
  List.forall_mem_cons.mpr ⟨k_ldc2 w_889 (by decide +kernel),
  List.forall_mem_cons.mpr ⟨k_callS (y := 87) (n := 3) w_700 w_701 w_47 w_702 (by decide +kernel) (by decide) (by decide +kernel),
  List.forall_mem_cons.mpr ⟨k_if_eq (off := 19) (by decide +kernel) (by decide),
  List.forall_mem_cons.mpr ⟨k_ilN (i := 2) (by decide +kernel) rfl,
  List.forall_mem_cons.mpr ⟨k_if_lt (off := 15) (by decide +kernel) (by decide),
  List.forall_mem_cons.mpr ⟨k_ilN (i := 3) (by decide +kernel) rfl,
  List.forall_mem_cons.mpr ⟨k_i2l (by decide +kernel),
  List.forall_mem_cons.mpr ⟨k_lconst (n := 0) (0) (by decide +kernel) (by decide),
  List.forall_mem_cons.mpr ⟨k_ldc2 w_890 (by decide +kernel),
  List.forall_mem_cons.mpr ⟨k_callS (y := 87) (n := 3) w_700 w_701 w_47 w_702 (by decide +kernel) (by decide) (by decide +kernel),
  List.forall_mem_cons.mpr ⟨k_if_ne (off := 6) (by decide +kernel) (by decide),
  List.forall_mem_cons.mpr ⟨k_bipush (n := -102) (-102) (by decide +kernel) (by decide),
  List.forall_mem_cons.mpr ⟨k_iret (by decide +kernel),
  List.forall_mem_cons.mpr ⟨k_alN (i := 0) (by decide +kernel) rfl,
  List.forall_mem_cons.mpr ⟨k_gf (j := 2) (T := TX8) rfl inX8G (by decide) w_618 (by decide +kernel),
  List.forall_mem_cons.mpr ⟨k_if_ne (off := 6) (by decide +kernel) (by decide),
  List.forall_mem_cons.mpr ⟨k_bipush (n := -103) (-103) (by decide +kernel) (by decide),
  List.forall_mem_cons.mpr ⟨k_iret (by decide +kernel),
  List.forall_mem_cons.mpr ⟨k_alN (i := 0) (by decide +kernel) rfl,
  List.forall_mem_cons.mpr ⟨k_gf (j := 6) (T := TX8) rfl inX8G (by decide) w_622 (by decide +kernel),
  List.forall_mem_cons.mpr ⟨k_alN (i := 0) (by decide +kernel) rfl,
  List.forall_mem_cons.mpr ⟨k_gf (j := 12) (T := TX8) rfl inX8G (by decide) w_628 (by decide +kernel),
  List.forall_mem_cons.mpr ⟨k_callS (y := 88) (n := 2) w_849 w_850 w_47 w_851 (by decide +kernel) (by decide) (by decide +kernel),
  List.forall_mem_cons.mpr ⟨k_alN (i := 0) (by decide +kernel) rfl,
  List.forall_mem_cons.mpr ⟨k_ilN (i := 2) (by decide +kernel) rfl,
  List.forall_mem_cons.mpr ⟨k_pf (j := 17) (T := TX8) tyX8 tyX8_ok nmX8 okI_fit rfl inX8G (by decide) rfl (by decide +kernel) w_633 (by decide +kernel),
  List.forall_mem_cons.mpr ⟨k_iconst (n := 0) (0) (by decide +kernel) (by decide),
  List.forall_mem_cons.mpr ⟨k_is (by decide +kernel),
  List.forall_mem_cons.mpr ⟨k_iconst (n := 0) (0) (by decide +kernel) (by decide),
  List.forall_mem_cons.mpr ⟨k_is (by decide +kernel),
  List.forall_mem_cons.mpr ⟨k_il (by decide +kernel),
  List.forall_mem_cons.mpr ⟨k_ilN (i := 1) (by decide +kernel) rfl,
  List.forall_mem_cons.mpr ⟨k_icmp_ge (off := 55) (by decide +kernel) (by decide),
  List.forall_mem_cons.mpr ⟨k_alN (i := 0) (by decide +kernel) rfl,
  List.forall_mem_cons.mpr ⟨k_bipush (n := 8) (8) (by decide +kernel) (by decide),
  List.forall_mem_cons.mpr ⟨k_callV (y := 134) (n := 1) (ci := 8) rfl w_891 w_893 w_33 w_47 w_894 (by decide +kernel) (by decide) (by decide +kernel),
  List.forall_mem_cons.mpr ⟨k_is (by decide +kernel),
  List.forall_mem_cons.mpr ⟨k_il (by decide +kernel),
  List.forall_mem_cons.mpr ⟨k_alN (i := 0) (by decide +kernel) rfl,
  List.forall_mem_cons.mpr ⟨k_alN (i := 0) (by decide +kernel) rfl,
  List.forall_mem_cons.mpr ⟨k_gf (j := 12) (T := TX8) rfl inX8G (by decide) w_628 (by decide +kernel),
  List.forall_mem_cons.mpr ⟨k_il (by decide +kernel),
  List.forall_mem_cons.mpr ⟨k_alN (i := 0) (by decide +kernel) rfl,
  List.forall_mem_cons.mpr ⟨k_iconst (n := 5) (5) (by decide +kernel) (by decide),
  List.forall_mem_cons.mpr ⟨k_callV (y := 134) (n := 1) (ci := 8) rfl w_891 w_893 w_33 w_47 w_894 (by decide +kernel) (by decide) (by decide +kernel),
  List.forall_mem_cons.mpr ⟨k_callV (y := 109) (n := 3) (ci := 8) rfl w_810 w_812 w_22 w_47 w_813 (by decide +kernel) (by decide) (by decide +kernel),
  List.forall_mem_cons.mpr ⟨k_if_le (off := 7) (by decide +kernel) (by decide),
  List.forall_mem_cons.mpr ⟨k_iconst (n := 1) (1) (by decide +kernel) (by decide),
  List.forall_mem_cons.mpr ⟨k_goto (off := 4) (by decide +kernel) (by decide),
  List.forall_mem_cons.mpr ⟨k_iconst (n := 0) (0) (by decide +kernel) (by decide),
  List.forall_mem_cons.mpr ⟨k_iadd (by decide +kernel),
  List.forall_mem_cons.mpr ⟨k_is (by decide +kernel),
  List.forall_mem_cons.mpr ⟨k_alN (i := 0) (by decide +kernel) rfl,
  List.forall_mem_cons.mpr ⟨k_alN (i := 0) (by decide +kernel) rfl,
  List.forall_mem_cons.mpr ⟨k_gf (j := 12) (T := TX8) rfl inX8G (by decide) w_628 (by decide +kernel),
  List.forall_mem_cons.mpr ⟨k_callV (y := 105) (n := 1) (ci := 8) rfl w_752 w_754 w_14 w_47 w_755 (by decide +kernel) (by decide) (by decide +kernel),
  List.forall_mem_cons.mpr ⟨k_is (by decide +kernel),
  List.forall_mem_cons.mpr ⟨k_inc (n := 1) (1) (by decide +kernel) (by decide),
  List.forall_mem_cons.mpr ⟨k_goto (off := -55) (by decide +kernel) (by decide),
  List.forall_mem_cons.mpr ⟨k_iconst (n := 0) (0) (by decide +kernel) (by decide),
  List.forall_mem_cons.mpr ⟨k_is (by decide +kernel),
  List.forall_mem_cons.mpr ⟨k_iconst (n := 0) (0) (by decide +kernel) (by decide),
  List.forall_mem_cons.mpr ⟨k_is (by decide +kernel),
  List.forall_mem_cons.mpr ⟨k_il (by decide +kernel),
  List.forall_mem_cons.mpr ⟨k_bipush (n := 8) (8) (by decide +kernel) (by decide),
  List.forall_mem_cons.mpr ⟨k_icmp_ge (off := 35) (by decide +kernel) (by decide),
  List.forall_mem_cons.mpr ⟨k_alN (i := 0) (by decide +kernel) rfl,
  List.forall_mem_cons.mpr ⟨k_gf (j := 12) (T := TX8) rfl inX8G (by decide) w_628 (by decide +kernel),
  List.forall_mem_cons.mpr ⟨k_il (by decide +kernel),
  List.forall_mem_cons.mpr ⟨k_ia (by decide +kernel),
  List.forall_mem_cons.mpr ⟨k_il (by decide +kernel),
  List.forall_mem_cons.mpr ⟨k_icmp_le (off := 13) (by decide +kernel) (by decide),
  List.forall_mem_cons.mpr ⟨k_alN (i := 0) (by decide +kernel) rfl,
  List.forall_mem_cons.mpr ⟨k_gf (j := 12) (T := TX8) rfl inX8G (by decide) w_628 (by decide +kernel),
  List.forall_mem_cons.mpr ⟨k_il (by decide +kernel),
  List.forall_mem_cons.mpr ⟨k_ia (by decide +kernel),
  List.forall_mem_cons.mpr ⟨k_goto (off := 5) (by decide +kernel) (by decide),
  List.forall_mem_cons.mpr ⟨k_il (by decide +kernel),
  List.forall_mem_cons.mpr ⟨k_is (by decide +kernel),
  List.forall_mem_cons.mpr ⟨k_inc (n := 1) (1) (by decide +kernel) (by decide),
  List.forall_mem_cons.mpr ⟨k_goto (off := -36) (by decide +kernel) (by decide),
  List.forall_mem_cons.mpr ⟨k_ilN (i := 3) (by decide +kernel) rfl,
  List.forall_mem_cons.mpr ⟨k_if_ne (off := 8) (by decide +kernel) (by decide),
  List.forall_mem_cons.mpr ⟨k_il (by decide +kernel),
  List.forall_mem_cons.mpr ⟨k_goto (off := 17) (by decide +kernel) (by decide),
  List.forall_mem_cons.mpr ⟨k_ilN (i := 3) (by decide +kernel) rfl,
  List.forall_mem_cons.mpr ⟨k_iconst (n := 1) (1) (by decide +kernel) (by decide),
  List.forall_mem_cons.mpr ⟨k_icmp_ne (off := 8) (by decide +kernel) (by decide),
  List.forall_mem_cons.mpr ⟨k_il (by decide +kernel),
  List.forall_mem_cons.mpr ⟨k_goto (off := 7) (by decide +kernel) (by decide),
  List.forall_mem_cons.mpr ⟨k_alN (i := 0) (by decide +kernel) rfl,
  List.forall_mem_cons.mpr ⟨k_gf (j := 17) (T := TX8) rfl inX8G (by decide) w_633 (by decide +kernel),
  List.forall_mem_cons.mpr ⟨k_iret (by decide +kernel),
  fun _ h => absurd h List.not_mem_nil⟩⟩⟩⟩⟩⟩⟩⟩⟩⟩⟩⟩⟩⟩⟩⟩⟩⟩⟩⟩⟩⟩⟩⟩⟩⟩⟩⟩⟩⟩⟩⟩⟩⟩⟩⟩⟩⟩⟩⟩⟩⟩⟩⟩⟩⟩⟩⟩⟩⟩⟩⟩⟩⟩⟩⟩⟩⟩⟩⟩⟩⟩⟩⟩⟩⟩⟩⟩⟩⟩⟩⟩⟩⟩⟩⟩⟩⟩⟩⟩⟩⟩⟩⟩⟩⟩⟩⟩⟩⟩⟩⟩⟩⟩⟩⟩
def tb_136 : List (Nat × pO) := [(0, o_al 0 1), (1, o_gf 8 2 4), (4, o_if (fun x => ¬ x = 0) 10 7), (7, o_const (.int (-103)) 9), (9, o_iret), (10, o_al 0 11), (11, o_gf 8 6 14), (14, o_al 0 15), (15, o_gf 8 22 18), (18, o_call rc0 88 2 21), (21, o_al 0 22), (22, o_gf 8 10 25), (25, o_al 0 26), (26, o_gf 8 23 29), (29, o_call rc0 88 2 32), (32, o_al 0 33), (33, o_gf 8 11 36), (36, o_al 0 37), (37, o_gf 8 24 40), (40, o_call rc0 88 2 43), (43, o_al 0 44), (44, o_al 0 45), (45, o_gf 8 3 48), (48, o_pf okI 8 19 51), (51, o_al 0 52), (52, o_al 0 53), (53, o_gf 8 4 56), (56, o_pf okI 8 20 59), (59, o_al 0 60), (60, o_al 0 61), (61, o_gf 8 9 64), (64, o_pf okI 8 21 67), (67, o_al 0 68), (68, o_al 0 69), (69, o_gf 8 5 72), (72, o_pf okI 8 18 75), (75, o_al 0 76), (76, o_gf 8 4 79), (79, o_iret)]
set_option maxRecDepth 20000 in
theorem tk_136 : ∀ q ∈ tb_136, okA noS mM (prog_10_method_51_code, "DuneMapsModel", 1, some .int, false) q.1 q.2 :=
  List.forall_mem_cons.mpr ⟨k_alN (i := 0) (by decide +kernel) rfl,
  List.forall_mem_cons.mpr ⟨k_gf (j := 2) (T := TX8) rfl inX8G (by decide) w_618 (by decide +kernel),
  List.forall_mem_cons.mpr ⟨k_if_ne (off := 6) (by decide +kernel) (by decide),
  List.forall_mem_cons.mpr ⟨k_bipush (n := -103) (-103) (by decide +kernel) (by decide),
  List.forall_mem_cons.mpr ⟨k_iret (by decide +kernel),
  List.forall_mem_cons.mpr ⟨k_alN (i := 0) (by decide +kernel) rfl,
  List.forall_mem_cons.mpr ⟨k_gf (j := 6) (T := TX8) rfl inX8G (by decide) w_622 (by decide +kernel),
  List.forall_mem_cons.mpr ⟨k_alN (i := 0) (by decide +kernel) rfl,
  List.forall_mem_cons.mpr ⟨k_gf (j := 22) (T := TX8) rfl inX8G (by decide) w_638 (by decide +kernel),
  List.forall_mem_cons.mpr ⟨k_callS (y := 88) (n := 2) w_849 w_850 w_47 w_851 (by decide +kernel) (by decide) (by decide +kernel),
  List.forall_mem_cons.mpr ⟨k_alN (i := 0) (by decide +kernel) rfl,
  List.forall_mem_cons.mpr ⟨k_gf (j := 10) (T := TX8) rfl inX8G (by decide) w_626 (by decide +kernel),
  List.forall_mem_cons.mpr ⟨k_alN (i := 0) (by decide +kernel) rfl,
  List.forall_mem_cons.mpr ⟨k_gf (j := 23) (T := TX8) rfl inX8G (by decide) w_639 (by decide +kernel),
  List.forall_mem_cons.mpr ⟨k_callS (y := 88) (n := 2) w_849 w_850 w_47 w_851 (by decide +kernel) (by decide) (by decide +kernel),
  List.forall_mem_cons.mpr ⟨k_alN (i := 0) (by decide +kernel) rfl,
  List.forall_mem_cons.mpr ⟨k_gf (j := 11) (T := TX8) rfl inX8G (by decide) w_627 (by decide +kernel),
  List.forall_mem_cons.mpr ⟨k_alN (i := 0) (by decide +kernel) rfl,
  List.forall_mem_cons.mpr ⟨k_gf (j := 24) (T := TX8) rfl inX8G (by decide) w_640 (by decide +kernel),
  List.forall_mem_cons.mpr ⟨k_callS (y := 88) (n := 2) w_849 w_850 w_47 w_851 (by decide +kernel) (by decide) (by decide +kernel),
  List.forall_mem_cons.mpr ⟨k_alN (i := 0) (by decide +kernel) rfl,
  List.forall_mem_cons.mpr ⟨k_alN (i := 0) (by decide +kernel) rfl,
  List.forall_mem_cons.mpr ⟨k_gf (j := 3) (T := TX8) rfl inX8G (by decide) w_619 (by decide +kernel),
  List.forall_mem_cons.mpr ⟨k_pf (j := 19) (T := TX8) tyX8 tyX8_ok nmX8 okI_fit rfl inX8G (by decide) rfl (by decide +kernel) w_635 (by decide +kernel),
  List.forall_mem_cons.mpr ⟨k_alN (i := 0) (by decide +kernel) rfl,
  List.forall_mem_cons.mpr ⟨k_alN (i := 0) (by decide +kernel) rfl,
  List.forall_mem_cons.mpr ⟨k_gf (j := 4) (T := TX8) rfl inX8G (by decide) w_620 (by decide +kernel),
  List.forall_mem_cons.mpr ⟨k_pf (j := 20) (T := TX8) tyX8 tyX8_ok nmX8 okI_fit rfl inX8G (by decide) rfl (by decide +kernel) w_636 (by decide +kernel),
  List.forall_mem_cons.mpr ⟨k_alN (i := 0) (by decide +kernel) rfl,
  List.forall_mem_cons.mpr ⟨k_alN (i := 0) (by decide +kernel) rfl,
  List.forall_mem_cons.mpr ⟨k_gf (j := 9) (T := TX8) rfl inX8G (by decide) w_625 (by decide +kernel),
  List.forall_mem_cons.mpr ⟨k_pf (j := 21) (T := TX8) tyX8 tyX8_ok nmX8 okI_fit rfl inX8G (by decide) rfl (by decide +kernel) w_637 (by decide +kernel),
  List.forall_mem_cons.mpr ⟨k_alN (i := 0) (by decide +kernel) rfl,
  List.forall_mem_cons.mpr ⟨k_alN (i := 0) (by decide +kernel) rfl,
  List.forall_mem_cons.mpr ⟨k_gf (j := 5) (T := TX8) rfl inX8G (by decide) w_621 (by decide +kernel),
  List.forall_mem_cons.mpr ⟨k_pf (j := 18) (T := TX8) tyX8 tyX8_ok nmX8 okI_fit rfl inX8G (by decide) rfl (by decide +kernel) w_634 (by decide +kernel),
  List.forall_mem_cons.mpr ⟨k_alN (i := 0) (by decide +kernel) rfl,
  List.forall_mem_cons.mpr ⟨k_gf (j := 4) (T := TX8) rfl inX8G (by decide) w_620 (by decide +kernel),
  List.forall_mem_cons.mpr ⟨k_iret (by decide +kernel),
  fun _ h => absurd h List.not_mem_nil⟩⟩⟩⟩⟩⟩⟩⟩⟩⟩⟩⟩⟩⟩⟩⟩⟩⟩⟩⟩⟩⟩⟩⟩⟩⟩⟩⟩⟩⟩⟩⟩⟩⟩⟩⟩⟩⟩⟩
def tb_137 : List (Nat × pO) := [(0, o_al 0 1), (1, o_gf 8 18 4), (4, o_al 0 5), (5, o_gf 8 5 8), (8, o_cmp (fun x y => x = y) 14 11), (11, o_const (.int (-103)) 13), (13, o_iret), (14, o_al 0 15), (15, o_gf 8 22 18), (18, o_al 0 19), (19, o_gf 8 6 22), (22, o_call rc0 88 2 25), (25, o_al 0 26), (26, o_gf 8 23 29), (29, o_al 0 30), (30, o_gf 8 10 33), (33, o_call rc0 88 2 36), (36, o_al 0 37), (37, o_gf 8 24 40), (40, o_al 0 41), (41, o_gf 8 11 44), (44, o_call rc0 88 2 47), (47, o_al 0 48), (48, o_al 0 49), (49, o_gf 8 19 52), (52, o_pf okI 8 3 55), (55, o_al 0 56), (56, o_al 0 57), (57, o_gf 8 20 60), (60, o_pf okI 8 4 63), (63, o_al 0 64), (64, o_al 0 65), (65, o_gf 8 21 68), (68, o_pf okI 8 9 71), (71, o_al 0 72), (72, o_gf 8 4 75), (75, o_iret)]
set_option maxRecDepth 20000 in
theorem tk_137 : ∀ q ∈ tb_137, okA noS mM (prog_10_method_52_code, "DuneMapsModel", 1, some .int, false) q.1 q.2 :=
  List.forall_mem_cons.mpr ⟨k_alN (i := 0) (by decide +kernel) rfl,
  List.forall_mem_cons.mpr ⟨k_gf (j := 18) (T := TX8) rfl inX8G (by decide) w_634 (by decide +kernel),
  List.forall_mem_cons.mpr ⟨k_alN (i := 0) (by decide +kernel) rfl,
  List.forall_mem_cons.mpr ⟨k_gf (j := 5) (T := TX8) rfl inX8G (by decide) w_621 (by decide +kernel),
  List.forall_mem_cons.mpr ⟨k_icmp_eq (off := 6) (by decide +kernel) (by decide),
  List.forall_mem_cons.mpr ⟨k_bipush (n := -103) (-103) (by decide +kernel) (by decide),
  List.forall_mem_cons.mpr ⟨k_iret (by decide +kernel),
  List.forall_mem_cons.mpr ⟨k_alN (i := 0) (by decide +kernel) rfl,
  List.forall_mem_cons.mpr ⟨k_gf (j := 22) (T := TX8) rfl inX8G (by decide) w_638 (by decide +kernel),
  List.forall_mem_cons.mpr ⟨k_alN (i := 0) (by decide +kernel) rfl,
  List.forall_mem_cons.mpr ⟨k_gf (j := 6) (T := TX8) rfl inX8G (by decide) w_622 (by decide +kernel),
  List.forall_mem_cons.mpr ⟨k_callS (y := 88) (n := 2) w_849 w_850 w_47 w_851 (by decide +kernel) (by decide) (by decide +kernel),
  List.forall_mem_cons.mpr ⟨k_alN (i := 0) (by decide +kernel) rfl,
  List.forall_mem_cons.mpr ⟨k_gf (j := 23) (T := TX8) rfl inX8G (by decide) w_639 (by decide +kernel),
  List.forall_mem_cons.mpr ⟨k_alN (i := 0) (by decide +kernel) rfl,
  List.forall_mem_cons.mpr ⟨k_gf (j := 10) (T := TX8) rfl inX8G (by decide) w_626 (by decide +kernel),
  List.forall_mem_cons.mpr ⟨k_callS (y := 88) (n := 2) w_849 w_850 w_47 w_851 (by decide +kernel) (by decide) (by decide +kernel),
  List.forall_mem_cons.mpr ⟨k_alN (i := 0) (by decide +kernel) rfl,
  List.forall_mem_cons.mpr ⟨k_gf (j := 24) (T := TX8) rfl inX8G (by decide) w_640 (by decide +kernel),
  List.forall_mem_cons.mpr ⟨k_alN (i := 0) (by decide +kernel) rfl,
  List.forall_mem_cons.mpr ⟨k_gf (j := 11) (T := TX8) rfl inX8G (by decide) w_627 (by decide +kernel),
  List.forall_mem_cons.mpr ⟨k_callS (y := 88) (n := 2) w_849 w_850 w_47 w_851 (by decide +kernel) (by decide) (by decide +kernel),
  List.forall_mem_cons.mpr ⟨k_alN (i := 0) (by decide +kernel) rfl,
  List.forall_mem_cons.mpr ⟨k_alN (i := 0) (by decide +kernel) rfl,
  List.forall_mem_cons.mpr ⟨k_gf (j := 19) (T := TX8) rfl inX8G (by decide) w_635 (by decide +kernel),
  List.forall_mem_cons.mpr ⟨k_pf (j := 3) (T := TX8) tyX8 tyX8_ok nmX8 okI_fit rfl inX8G (by decide) rfl (by decide +kernel) w_619 (by decide +kernel),
  List.forall_mem_cons.mpr ⟨k_alN (i := 0) (by decide +kernel) rfl,
  List.forall_mem_cons.mpr ⟨k_alN (i := 0) (by decide +kernel) rfl,
  List.forall_mem_cons.mpr ⟨k_gf (j := 20) (T := TX8) rfl inX8G (by decide) w_636 (by decide +kernel),
  List.forall_mem_cons.mpr ⟨k_pf (j := 4) (T := TX8) tyX8 tyX8_ok nmX8 okI_fit rfl inX8G (by decide) rfl (by decide +kernel) w_620 (by decide +kernel),
  List.forall_mem_cons.mpr ⟨k_alN (i := 0) (by decide +kernel) rfl,
  List.forall_mem_cons.mpr ⟨k_alN (i := 0) (by decide +kernel) rfl,
  List.forall_mem_cons.mpr ⟨k_gf (j := 21) (T := TX8) rfl inX8G (by decide) w_637 (by decide +kernel),
  List.forall_mem_cons.mpr ⟨k_pf (j := 9) (T := TX8) tyX8 tyX8_ok nmX8 okI_fit rfl inX8G (by decide) rfl (by decide +kernel) w_625 (by decide +kernel),
  List.forall_mem_cons.mpr ⟨k_alN (i := 0) (by decide +kernel) rfl,
  List.forall_mem_cons.mpr ⟨k_gf (j := 4) (T := TX8) rfl inX8G (by decide) w_620 (by decide +kernel),
  List.forall_mem_cons.mpr ⟨k_iret (by decide +kernel),
  fun _ h => absurd h List.not_mem_nil⟩⟩⟩⟩⟩⟩⟩⟩⟩⟩⟩⟩⟩⟩⟩⟩⟩⟩⟩⟩⟩⟩⟩⟩⟩⟩⟩⟩⟩⟩⟩⟩⟩⟩⟩⟩⟩
def tb_138 : List (Nat × pO) := [(0, o_const (.int (0)) 1), (1, o_is 2 2), (2, o_const (.int (0)) 3), (3, o_is 3 4), (4, o_il 3 5), (5, o_al 0 6), (6, o_gf 8 9 9), (9, o_cmp (fun x y => y ≤ x) 27 12), (12, o_il 2 13), (13, o_al 0 14), (14, o_il 3 15), (15, o_il 1 16), (16, o_call (rcV 8) 114 3 19), (19, o_bin (fun x y => x + y) 20), (20, o_is 2 21), (21, o_inc 3 (1) 24), (24, o_goto 4), (27, o_il 2 28), (28, o_iret)]
set_option maxRecDepth 20000 in
theorem tk_138 : ∀ q ∈ tb_138, okA noS mM (prog_10_method_53_code, "DuneMapsModel", 4, some .int, false) q.1 q.2 :=
  List.forall_mem_cons.mpr ⟨k_iconst (n := 0) (0) (by decide +kernel) (by decide),
  List.forall_mem_cons.mpr ⟨k_isN (i := 2) (by decide +kernel) rfl,
  List.forall_mem_cons.mpr ⟨k_iconst (n := 0) (0) (by decide +kernel) (by decide),
  List.forall_mem_cons.mpr ⟨k_isN (i := 3) (by decide +kernel) rfl,
  List.forall_mem_cons.mpr ⟨k_ilN (i := 3) (by decide +kernel) rfl,
  List.forall_mem_cons.mpr ⟨k_alN (i := 0) (by decide +kernel) rfl,
  List.forall_mem_cons.mpr ⟨k_gf (j := 9) (T := TX8) rfl inX8G (by decide) w_625 (by decide +kernel),
  List.forall_mem_cons.mpr ⟨k_icmp_ge (off := 18) (by decide +kernel) (by decide),
  List.forall_mem_cons.mpr ⟨k_ilN (i := 2) (by decide +kernel) rfl,
  List.forall_mem_cons.mpr ⟨k_alN (i := 0) (by decide +kernel) rfl,
  List.forall_mem_cons.mpr ⟨k_ilN (i := 3) (by decide +kernel) rfl,
  List.forall_mem_cons.mpr ⟨k_ilN (i := 1) (by decide +kernel) rfl,
  List.forall_mem_cons.mpr ⟨k_callV (y := 114) (n := 2) (ci := 8) rfl w_780 w_782 w_18 w_47 w_783 (by decide +kernel) (by decide) (by decide +kernel),
  List.forall_mem_cons.mpr ⟨k_iadd (by decide +kernel),
  List.forall_mem_cons.mpr ⟨k_isN (i := 2) (by decide +kernel) rfl,
  List.forall_mem_cons.mpr ⟨k_inc (n := 1) (1) (by decide +kernel) (by decide),
  List.forall_mem_cons.mpr ⟨k_goto (off := -20) (by decide +kernel) (by decide),
  List.forall_mem_cons.mpr ⟨k_ilN (i := 2) (by decide +kernel) rfl,
  List.forall_mem_cons.mpr ⟨k_iret (by decide +kernel),
  fun _ h => absurd h List.not_mem_nil⟩⟩⟩⟩⟩⟩⟩⟩⟩⟩⟩⟩⟩⟩⟩⟩⟩⟩⟩
def tb_139 : List (Nat × pO) := [(0, o_il 1 1), (1, o_sw [(0, 60), (1, 68), (2, 73), (3, 78), (4, 84), (5, 90), (6, 95), (7, 101), (8, 113), (9, 118), (10, 123)] 136), (60, o_al 0 61), (61, o_gf 8 6 64), (64, o_call rc0 93 1 67), (67, o_iret), (68, o_al 0 69), (69, o_gf 8 3 72), (72, o_iret), (73, o_al 0 74), (74, o_gf 8 9 77), (77, o_iret), (78, o_al 0 79), (79, o_const (.int (4)) 80), (80, o_call (rcV 8) 138 2 83), (83, o_iret), (84, o_al 0 85), (85, o_const (.int (5)) 86), (86, o_call (rcV 8) 138 2 89), (89, o_iret), (90, o_al 0 91), (91, o_gf 8 4 94), (94, o_iret), (95, o_al 0 96), (96, o_const (.int (3)) 97), (97, o_call (rcV 8) 138 2 100), (100, o_iret), (101, o_al 0 102), (102, o_al 0 103), (103, o_gf 8 6 106), (106, o_call (rcV 8) 103 2 109), (109, o_call rc0 104 1 112), (112, o_iret), (113, o_al 0 114), (114, o_gf 8 1 117), (117, o_iret), (118, o_al 0 119), (119, o_gf 8 5 122), (122, o_iret), (123, o_al 0 124), (124, o_gf 8 7 127), (127, o_if (fun x => x = 0) 134 130), (130, o_const (.int (1)) 131), (131, o_goto 135), (134, o_const (.int (0)) 135), (135, o_iret), (136, o_const (.int (-102)) 138), (138, o_iret)]
set_option maxRecDepth 20000 in
theorem tk_139 : ∀ q ∈ tb_139, okA noS mM (prog_10_method_54_code, "DuneMapsModel", 2, some .int, false) q.1 q.2 :=
  List.forall_mem_cons.mpr ⟨k_ilN (i := 1) (by decide +kernel) rfl,
  List.forall_mem_cons.mpr ⟨k_tsw (dflt := 135) (lo := 0) (hi := 10) (offs := #[59, 67, 72, 77, 83, 89, 94, 100, 112, 117, 122]) (len := 59) [(0, 60), (1, 68), (2, 73), (3, 78), (4, 84), (5, 90), (6, 95), (7, 101), (8, 113), (9, 118), (10, 123)] (by decide +kernel) (by decide) (by decide) (by decide) (tsw_ok (by decide +kernel)) (by decide),
  List.forall_mem_cons.mpr ⟨k_alN (i := 0) (by decide +kernel) rfl,
  List.forall_mem_cons.mpr ⟨k_gf (j := 6) (T := TX8) rfl inX8G (by decide) w_622 (by decide +kernel),
  List.forall_mem_cons.mpr ⟨k_callS (y := 93) (n := 1) w_721 w_722 w_47 w_723 (by decide +kernel) (by decide) (by decide +kernel),
  List.forall_mem_cons.mpr ⟨k_iret (by decide +kernel),
  List.forall_mem_cons.mpr ⟨k_alN (i := 0) (by decide +kernel) rfl,
  List.forall_mem_cons.mpr ⟨k_gf (j := 3) (T := TX8) rfl inX8G (by decide) w_619 (by decide +kernel),
  List.forall_mem_cons.mpr ⟨k_iret (by decide +kernel),
  List.forall_mem_cons.mpr ⟨k_alN (i := 0) (by decide +kernel) rfl,
  List.forall_mem_cons.mpr ⟨k_gf (j := 9) (T := TX8) rfl inX8G (by decide) w_625 (by decide +kernel),
  List.forall_mem_cons.mpr ⟨k_iret (by decide +kernel),
  List.forall_mem_cons.mpr ⟨k_alN (i := 0) (by decide +kernel) rfl,
  List.forall_mem_cons.mpr ⟨k_iconst (n := 4) (4) (by decide +kernel) (by decide),
  List.forall_mem_cons.mpr ⟨k_callV (y := 138) (n := 1) (ci := 8) rfl w_915 w_917 w_35 w_47 w_918 (by decide +kernel) (by decide) (by decide +kernel),
  List.forall_mem_cons.mpr ⟨k_iret (by decide +kernel),
  List.forall_mem_cons.mpr ⟨k_alN (i := 0) (by decide +kernel) rfl,
  List.forall_mem_cons.mpr ⟨k_iconst (n := 5) (5) (by decide +kernel) (by decide),
  List.forall_mem_cons.mpr ⟨k_callV (y := 138) (n := 1) (ci := 8) rfl w_915 w_917 w_35 w_47 w_918 (by decide +kernel) (by decide) (by decide +kernel),
  List.forall_mem_cons.mpr ⟨k_iret (by decide +kernel),
  List.forall_mem_cons.mpr ⟨k_alN (i := 0) (by decide +kernel) rfl,
  List.forall_mem_cons.mpr ⟨k_gf (j := 4) (T := TX8) rfl inX8G (by decide) w_620 (by decide +kernel),
  List.forall_mem_cons.mpr ⟨k_iret (by decide +kernel),
  List.forall_mem_cons.mpr ⟨k_alN (i := 0) (by decide +kernel) rfl,
  List.forall_mem_cons.mpr ⟨k_iconst (n := 3) (3) (by decide +kernel) (by decide),
  List.forall_mem_cons.mpr ⟨k_callV (y := 138) (n := 1) (ci := 8) rfl w_915 w_917 w_35 w_47 w_918 (by decide +kernel) (by decide) (by decide +kernel),
  List.forall_mem_cons.mpr ⟨k_iret (by decide +kernel),
  List.forall_mem_cons.mpr ⟨k_alN (i := 0) (by decide +kernel) rfl,
  List.forall_mem_cons.mpr ⟨k_alN (i := 0) (by decide +kernel) rfl,
  List.forall_mem_cons.mpr ⟨k_gf (j := 6) (T := TX8) rfl inX8G (by decide) w_622 (by decide +kernel),
  List.forall_mem_cons.mpr ⟨k_callV (y := 103) (n := 1) (ci := 8) rfl w_756 w_758 w_15 w_47 w_759 (by decide +kernel) (by decide) (by decide +kernel),
  List.forall_mem_cons.mpr ⟨k_callS (y := 104) (n := 1) w_764 w_765 w_47 w_766 (by decide +kernel) (by decide) (by decide +kernel),
  List.forall_mem_cons.mpr ⟨k_iret (by decide +kernel),
  List.forall_mem_cons.mpr ⟨k_alN (i := 0) (by decide +kernel) rfl,
  List.forall_mem_cons.mpr ⟨k_gf (j := 1) (T := TX8) rfl inX8G (by decide) w_617 (by decide +kernel),
  List.forall_mem_cons.mpr ⟨k_iret (by decide +kernel),
  List.forall_mem_cons.mpr ⟨k_alN (i := 0) (by decide +kernel) rfl,
  List.forall_mem_cons.mpr ⟨k_gf (j := 5) (T := TX8) rfl inX8G (by decide) w_621 (by decide +kernel),
  List.forall_mem_cons.mpr ⟨k_iret (by decide +kernel),
  List.forall_mem_cons.mpr ⟨k_alN (i := 0) (by decide +kernel) rfl,
  List.forall_mem_cons.mpr ⟨k_gf (j := 7) (T := TX8) rfl inX8G (by decide) w_623 (by decide +kernel),
  List.forall_mem_cons.mpr ⟨k_if_eq (off := 7) (by decide +kernel) (by decide),
  List.forall_mem_cons.mpr ⟨k_iconst (n := 1) (1) (by decide +kernel) (by decide),
  List.forall_mem_cons.mpr ⟨k_goto (off := 4) (by decide +kernel) (by decide),
  List.forall_mem_cons.mpr ⟨k_iconst (n := 0) (0) (by decide +kernel) (by decide),
  List.forall_mem_cons.mpr ⟨k_iret (by decide +kernel),
  List.forall_mem_cons.mpr ⟨k_bipush (n := -102) (-102) (by decide +kernel) (by decide),
  List.forall_mem_cons.mpr ⟨k_iret (by decide +kernel),
  fun _ h => absurd h List.not_mem_nil⟩⟩⟩⟩⟩⟩⟩⟩⟩⟩⟩⟩⟩⟩⟩⟩⟩⟩⟩⟩⟩⟩⟩⟩⟩⟩⟩⟩⟩⟩⟩⟩⟩⟩⟩⟩⟩⟩⟩⟩⟩⟩⟩⟩⟩⟩⟩⟩
def tb_140 : List (Nat × pO) := [(0, o_al 0 1), (1, o_il 1 2), (2, o_call (rcV 8) 139 2 5), (5, o_iret)]
set_option maxRecDepth 20000 in
theorem tk_140 : ∀ q ∈ tb_140, okA noS mM (prog_10_method_55_code, "DuneMapsModel", 2, some .int, false) q.1 q.2 :=
  List.forall_mem_cons.mpr ⟨k_alN (i := 0) (by decide +kernel) rfl,
  List.forall_mem_cons.mpr ⟨k_ilN (i := 1) (by decide +kernel) rfl,
  List.forall_mem_cons.mpr ⟨k_callV (y := 139) (n := 1) (ci := 8) rfl w_911 w_913 w_34 w_47 w_914 (by decide +kernel) (by decide) (by decide +kernel),
  List.forall_mem_cons.mpr ⟨k_iret (by decide +kernel),
  fun _ h => absurd h List.not_mem_nil⟩⟩⟩⟩
def tb_141 : List (Nat × pO) := [(0, o_al 0 1), (1, o_const (.long (31)) 4), (4, o_al 0 5), (5, o_gf 8 25 8), (8, o_lbin (fun x y => x * y) 9), (9, o_ll 1 10), (10, o_lbin (fun x y => x + y) 11), (11, o_pf okJ 8 25 14), (14, o_vret)]
set_option maxRecDepth 20000 in
theorem tk_141 : ∀ q ∈ tb_141, okA noS mM (prog_10_method_56_code, "DuneMapsModel", 3, none, false) q.1 q.2 :=
  List.forall_mem_cons.mpr ⟨k_alN (i := 0) (by decide +kernel) rfl,
  List.forall_mem_cons.mpr ⟨k_ldc2 w_932 (by decide +kernel),
  List.forall_mem_cons.mpr ⟨k_alN (i := 0) (by decide +kernel) rfl,
  List.forall_mem_cons.mpr ⟨k_gf (j := 25) (T := TX8) rfl inX8G (by decide) w_641 (by decide +kernel),
  List.forall_mem_cons.mpr ⟨k_lmul (by decide +kernel),
  List.forall_mem_cons.mpr ⟨k_llN (i := 1) (by decide +kernel) rfl,
  List.forall_mem_cons.mpr ⟨k_ladd (by decide +kernel),
  List.forall_mem_cons.mpr ⟨k_pf (j := 25) (T := TX8) tyX8 tyX8_ok nmX8 okJ_fit rfl inX8G (by decide) rfl (by decide +kernel) w_641 (by decide +kernel),
  List.forall_mem_cons.mpr ⟨k_vret (by decide +kernel),
  fun _ h => absurd h List.not_mem_nil⟩⟩⟩⟩⟩⟩⟩⟩⟩
def tb_142 : List (Nat × pO) := [(0, o_const (.int (0)) 1), (1, o_is 1 2), (2, o_il 1 3), (3, o_const (.int (8)) 5), (5, o_cmp (fun x y => y ≤ x) 38 8), (8, o_const (.int (0)) 9), (9, o_is 2 10), (10, o_il 2 11), (11, o_const (.int (3)) 12), (12, o_cmp (fun x y => y ≤ x) 32 15), (15, o_al 0 16), (16, o_al 0 17), (17, o_il 1 18), (18, o_il 2 19), (19, o_call (rcV 8) 100 3 22), (22, o_i2l 23), (23, o_call (rcV 8) 141 2 26), (26, o_inc 2 (1) 29), (29, o_goto 10), (32, o_inc 1 (1) 35), (35, o_goto 2), (38, o_al 0 39), (39, o_al 0 40), (40, o_const (.int (0)) 41), (41, o_call (rcV 8) 125 2 44), (44, o_i2l 45), (45, o_call (rcV 8) 141 2 48), (48, o_const (.int (10)) 50), (50, o_is 1 51), (51, o_il 1 52), (52, o_const (.int (14)) 54), (54, o_cmp (fun x y => y ≤ x) 73 57), (57, o_al 0 58), (58, o_al 0 59), (59, o_il 1 60), (60, o_call (rcV 8) 125 2 63), (63, o_i2l 64), (64, o_call (rcV 8) 141 2 67), (67, o_inc 1 (1) 70), (70, o_goto 51), (73, o_vret)]
set_option maxRecDepth 20000 in
theorem tk_142 : ∀ q ∈ tb_142, okA noS mM (prog_10_method_57_code, "DuneMapsModel", 3, none, false) q.1 q.2 :=
  List.forall_mem_cons.mpr ⟨k_iconst (n := 0) (0) (by decide +kernel) (by decide),
  List.forall_mem_cons.mpr ⟨k_isN (i := 1) (by decide +kernel) rfl,
  List.forall_mem_cons.mpr ⟨k_ilN (i := 1) (by decide +kernel) rfl,
  List.forall_mem_cons.mpr ⟨k_bipush (n := 8) (8) (by decide +kernel) (by decide),
  List.forall_mem_cons.mpr ⟨k_icmp_ge (off := 33) (by decide +kernel) (by decide),
  List.forall_mem_cons.mpr ⟨k_iconst (n := 0) (0) (by decide +kernel) (by decide),
  List.forall_mem_cons.mpr ⟨k_isN (i := 2) (by decide +kernel) rfl,
  List.forall_mem_cons.mpr ⟨k_ilN (i := 2) (by decide +kernel) rfl,
  List.forall_mem_cons.mpr ⟨k_iconst (n := 3) (3) (by decide +kernel) (by decide),
  List.forall_mem_cons.mpr ⟨k_icmp_ge (off := 20) (by decide +kernel) (by decide),
  List.forall_mem_cons.mpr ⟨k_alN (i := 0) (by decide +kernel) rfl,
  List.forall_mem_cons.mpr ⟨k_alN (i := 0) (by decide +kernel) rfl,
  List.forall_mem_cons.mpr ⟨k_ilN (i := 1) (by decide +kernel) rfl,
  List.forall_mem_cons.mpr ⟨k_ilN (i := 2) (by decide +kernel) rfl,
  List.forall_mem_cons.mpr ⟨k_callV (y := 100) (n := 2) (ci := 8) rfl w_733 w_735 w_12 w_47 w_736 (by decide +kernel) (by decide) (by decide +kernel),
  List.forall_mem_cons.mpr ⟨k_i2l (by decide +kernel),
  List.forall_mem_cons.mpr ⟨k_callV (y := 141) (n := 1) (ci := 8) rfl w_928 w_930 w_37 w_47 w_931 (by decide +kernel) (by decide) (by decide +kernel),
  List.forall_mem_cons.mpr ⟨k_inc (n := 1) (1) (by decide +kernel) (by decide),
  List.forall_mem_cons.mpr ⟨k_goto (off := -19) (by decide +kernel) (by decide),
  List.forall_mem_cons.mpr ⟨k_inc (n := 1) (1) (by decide +kernel) (by decide),
  List.forall_mem_cons.mpr ⟨k_goto (off := -33) (by decide +kernel) (by decide),
  List.forall_mem_cons.mpr ⟨k_alN (i := 0) (by decide +kernel) rfl,
  List.forall_mem_cons.mpr ⟨k_alN (i := 0) (by decide +kernel) rfl,
  List.forall_mem_cons.mpr ⟨k_iconst (n := 0) (0) (by decide +kernel) (by decide),
  List.forall_mem_cons.mpr ⟨k_callV (y := 125) (n := 1) (ci := 8) rfl w_833 w_835 w_24 w_47 w_836 (by decide +kernel) (by decide) (by decide +kernel),
  List.forall_mem_cons.mpr ⟨k_i2l (by decide +kernel),
  List.forall_mem_cons.mpr ⟨k_callV (y := 141) (n := 1) (ci := 8) rfl w_928 w_930 w_37 w_47 w_931 (by decide +kernel) (by decide) (by decide +kernel),
  List.forall_mem_cons.mpr ⟨k_bipush (n := 10) (10) (by decide +kernel) (by decide),
  List.forall_mem_cons.mpr ⟨k_isN (i := 1) (by decide +kernel) rfl,
  List.forall_mem_cons.mpr ⟨k_ilN (i := 1) (by decide +kernel) rfl,
  List.forall_mem_cons.mpr ⟨k_bipush (n := 14) (14) (by decide +kernel) (by decide),
  List.forall_mem_cons.mpr ⟨k_icmp_ge (off := 19) (by decide +kernel) (by decide),
  List.forall_mem_cons.mpr ⟨k_alN (i := 0) (by decide +kernel) rfl,
  List.forall_mem_cons.mpr ⟨k_alN (i := 0) (by decide +kernel) rfl,
  List.forall_mem_cons.mpr ⟨k_ilN (i := 1) (by decide +kernel) rfl,
  List.forall_mem_cons.mpr ⟨k_callV (y := 125) (n := 1) (ci := 8) rfl w_833 w_835 w_24 w_47 w_836 (by decide +kernel) (by decide) (by decide +kernel),
  List.forall_mem_cons.mpr ⟨k_i2l (by decide +kernel),
  List.forall_mem_cons.mpr ⟨k_callV (y := 141) (n := 1) (ci := 8) rfl w_928 w_930 w_37 w_47 w_931 (by decide +kernel) (by decide) (by decide +kernel),
  List.forall_mem_cons.mpr ⟨k_inc (n := 1) (1) (by decide +kernel) (by decide),
  List.forall_mem_cons.mpr ⟨k_goto (off := -19) (by decide +kernel) (by decide),
  List.forall_mem_cons.mpr ⟨k_vret (by decide +kernel),
  fun _ h => absurd h List.not_mem_nil⟩⟩⟩⟩⟩⟩⟩⟩⟩⟩⟩⟩⟩⟩⟩⟩⟩⟩⟩⟩⟩⟩⟩⟩⟩⟩⟩⟩⟩⟩⟩⟩⟩⟩⟩⟩⟩⟩⟩⟩⟩
def tb_143 : List (Nat × pO) := [(0, o_al 0 1), (1, o_const (.long (881)) 4), (4, o_pf okJ 8 25 7), (7, o_al 0 8), (8, o_gf 8 2 11), (11, o_if (fun x => x = 0) 18 14), (14, o_al 0 15), (15, o_call (rcV 8) 142 1 18), (18, o_const (.int (0)) 19), (19, o_is 1 20), (20, o_il 1 21), (21, o_al 0 22), (22, o_gf 8 9 25), (25, o_cmp (fun x y => y ≤ x) 59 28), (28, o_const (.int (0)) 29), (29, o_is 2 30), (30, o_il 2 31), (31, o_const (.int (8)) 33), (33, o_cmp (fun x y => y ≤ x) 53 36), (36, o_al 0 37), (37, o_al 0 38), (38, o_il 1 39), (39, o_il 2 40), (40, o_call (rcV 8) 114 3 43), (43, o_i2l 44), (44, o_call (rcV 8) 141 2 47), (47, o_inc 2 (1) 50), (50, o_goto 30), (53, o_inc 1 (1) 56), (56, o_goto 20), (59, o_al 0 60), (60, o_gf 8 7 63), (63, o_if (fun x => x = 0) 86 66), (66, o_al 0 67), (67, o_al 0 68), (68, o_const (.int (0)) 69), (69, o_call (rcV 8) 132 2 72), (72, o_i2l 73), (73, o_call (rcV 8) 141 2 76), (76, o_al 0 77), (77, o_al 0 78), (78, o_const (.int (1)) 79), (79, o_call (rcV 8) 132 2 82), (82, o_i2l 83), (83, o_call (rcV 8) 141 2 86), (86, o_const (.int (0)) 87), (87, o_is 1 88), (88, o_il 1 89), (89, o_al 0 90), (90, o_gf 8 1 93), (93, o_cmp (fun x y => y ≤ x) 113 96), (96, o_al 0 97), (97, o_al 0 98), (98, o_gf 8 0 101), (101, o_il 1 102), (102, o_ia 103), (103, o_i2l 104), (104, o_call (rcV 8) 141 2 107), (107, o_inc 1 (1) 110), (110, o_goto 88), (113, o_const (.int (0)) 114), (114, o_is 1 115), (115, o_il 1 116), (116, o_const (.int (11)) 118), (118, o_cmp (fun x y => y ≤ x) 137 121), (121, o_al 0 122), (122, o_al 0 123), (123, o_il 1 124), (124, o_call (rcV 8) 139 2 127), (127, o_i2l 128), (128, o_call (rcV 8) 141 2 131), (131, o_inc 1 (1) 134), (134, o_goto 115), (137, o_al 0 138), (138, o_gf 8 25 141), (141, o_lret)]
set_option maxRecDepth 20000 in
theorem tk_143 : ∀ q ∈ tb_143, okA noS mM (prog_10_method_58_code, "DuneMapsModel", 3, some .long, false) q.1 q.2 :=
  List.forall_mem_cons.mpr ⟨k_alN (i := 0) (by decide +kernel) rfl,
  List.forall_mem_cons.mpr ⟨k_ldc2 w_923 (by decide +kernel),
  List.forall_mem_cons.mpr ⟨k_pf (j := 25) (T := TX8) tyX8 tyX8_ok nmX8 okJ_fit rfl inX8G (by decide) rfl (by decide +kernel) w_641 (by decide +kernel),
  List.forall_mem_cons.mpr ⟨k_alN (i := 0) (by decide +kernel) rfl,
  List.forall_mem_cons.mpr ⟨k_gf (j := 2) (T := TX8) rfl inX8G (by decide) w_618 (by decide +kernel),
  List.forall_mem_cons.mpr ⟨k_if_eq (off := 7) (by decide +kernel) (by decide),
  List.forall_mem_cons.mpr ⟨k_alN (i := 0) (by decide +kernel) rfl,
  List.forall_mem_cons.mpr ⟨k_callV (y := 142) (n := 0) (ci := 8) rfl w_924 w_926 w_36 w_47 w_927 (by decide +kernel) (by decide) (by decide +kernel),
  List.forall_mem_cons.mpr ⟨k_iconst (n := 0) (0) (by decide +kernel) (by decide),
  List.forall_mem_cons.mpr ⟨k_isN (i := 1) (by decide +kernel) rfl,
  List.forall_mem_cons.mpr ⟨k_ilN (i := 1) (by decide +kernel) rfl,
  List.forall_mem_cons.mpr ⟨k_alN (i := 0) (by decide +kernel) rfl,
  List.forall_mem_cons.mpr ⟨k_gf (j := 9) (T := TX8) rfl inX8G (by decide) w_625 (by decide +kernel),
  List.forall_mem_cons.mpr ⟨k_icmp_ge (off := 34) (by decide +kernel) (by decide),
  List.forall_mem_cons.mpr ⟨k_iconst (n := 0) (0) (by decide +kernel) (by decide),
  List.forall_mem_cons.mpr ⟨k_isN (i := 2) (by decide +kernel) rfl,
  List.forall_mem_cons.mpr ⟨k_ilN (i := 2) (by decide +kernel) rfl,
  List.forall_mem_cons.mpr ⟨k_bipush (n := 8) (8) (by decide +kernel) (by decide),
  List.forall_mem_cons.mpr ⟨k_icmp_ge (off := 20) (by decide +kernel) (by decide),
  List.forall_mem_cons.mpr ⟨k_alN (i := 0) (by decide +kernel) rfl,
  List.forall_mem_cons.mpr ⟨k_alN (i := 0) (by decide +kernel) rfl,
  List.forall_mem_cons.mpr ⟨k_ilN (i := 1) (by decide +kernel) rfl,
  List.forall_mem_cons.mpr ⟨k_ilN (i := 2) (by decide +kernel) rfl,
  List.forall_mem_cons.mpr ⟨k_callV (y := 114) (n := 2) (ci := 8) rfl w_780 w_782 w_18 w_47 w_783 (by decide +kernel) (by decide) (by decide +kernel),
  List.forall_mem_cons.mpr ⟨k_i2l (by decide +kernel),
  List.forall_mem_cons.mpr ⟨k_callV (y := 141) (n := 1) (ci := 8) rfl w_928 w_930 w_37 w_47 w_931 (by decide +kernel) (by decide) (by decide +kernel),
  List.forall_mem_cons.mpr ⟨k_inc (n := 1) (1) (by decide +kernel) (by decide),
  List.forall_mem_cons.mpr ⟨k_goto (off := -20) (by decide +kernel) (by decide),
  List.forall_mem_cons.mpr ⟨k_inc (n := 1) (1) (by decide +kernel) (by decide),
  List.forall_mem_cons.mpr ⟨k_goto (off := -36) (by decide +kernel) (by decide),
  List.forall_mem_cons.mpr ⟨k_alN (i := 0) (by decide +kernel) rfl,
  List.forall_mem_cons.mpr ⟨k_gf (j := 7) (T := TX8) rfl inX8G (by decide) w_623 (by decide +kernel),
  List.forall_mem_cons.mpr ⟨k_if_eq (off := 23) (by decide +kernel) (by decide),
  List.forall_mem_cons.mpr ⟨k_alN (i := 0) (by decide +kernel) rfl,
  List.forall_mem_cons.mpr ⟨k_alN (i := 0) (by decide +kernel) rfl,
  List.forall_mem_cons.mpr ⟨k_iconst (n := 0) (0) (by decide +kernel) (by decide),
  List.forall_mem_cons.mpr ⟨k_callV (y := 132) (n := 1) (ci := 8) rfl w_877 w_879 w_31 w_47 w_880 (by decide +kernel) (by decide) (by decide +kernel),
  List.forall_mem_cons.mpr ⟨k_i2l (by decide +kernel),
  List.forall_mem_cons.mpr ⟨k_callV (y := 141) (n := 1) (ci := 8) rfl w_928 w_930 w_37 w_47 w_931 (by decide +kernel) (by decide) (by decide +kernel),
  List.forall_mem_cons.mpr ⟨k_alN (i := 0) (by decide +kernel) rfl,
  List.forall_mem_cons.mpr ⟨k_alN (i := 0) (by decide +kernel) rfl,
  List.forall_mem_cons.mpr ⟨k_iconst (n := 1) (1) (by decide +kernel) (by decide),
  List.forall_mem_cons.mpr ⟨k_callV (y := 132) (n := 1) (ci := 8) rfl w_877 w_879 w_31 w_47 w_880 (by decide +kernel) (by decide) (by decide +kernel),
  List.forall_mem_cons.mpr ⟨k_i2l (by decide +kernel),
  List.forall_mem_cons.mpr ⟨k_callV (y := 141) (n := 1) (ci := 8) rfl w_928 w_930 w_37 w_47 w_931 (by decide +kernel) (by decide) (by decide +kernel),
  List.forall_mem_cons.mpr ⟨k_iconst (n := 0) (0) (by decide +kernel) (by decide),
  List.forall_mem_cons.mpr ⟨k_isN (i := 1) (by decide +kernel) rfl,
  List.forall_mem_cons.mpr ⟨k_ilN (i := 1) (by decide +kernel) rfl,
  List.forall_mem_cons.mpr ⟨k_alN (i := 0) (by decide +kernel) rfl,
  List.forall_mem_cons.mpr ⟨k_gf (j := 1) (T := TX8) rfl inX8G (by decide) w_617 (by decide +kernel),
  List.forall_mem_cons.mpr ⟨k_icmp_ge (off := 20) (by decide +kernel) (by decide),
  List.forall_mem_cons.mpr ⟨k_alN (i := 0) (by decide +kernel) rfl,
  List.forall_mem_cons.mpr ⟨k_alN (i := 0) (by decide +kernel) rfl,
  List.forall_mem_cons.mpr ⟨k_gf (j := 0) (T := TX8) rfl inX8G (by decide) w_616 (by decide +kernel),
  List.forall_mem_cons.mpr ⟨k_ilN (i := 1) (by decide +kernel) rfl,
  List.forall_mem_cons.mpr ⟨k_ia (by decide +kernel),
  List.forall_mem_cons.mpr ⟨k_i2l (by decide +kernel),
  List.forall_mem_cons.mpr ⟨k_callV (y := 141) (n := 1) (ci := 8) rfl w_928 w_930 w_37 w_47 w_931 (by decide +kernel) (by decide) (by decide +kernel),
  List.forall_mem_cons.mpr ⟨k_inc (n := 1) (1) (by decide +kernel) (by decide),
  List.forall_mem_cons.mpr ⟨k_goto (off := -22) (by decide +kernel) (by decide),
  List.forall_mem_cons.mpr ⟨k_iconst (n := 0) (0) (by decide +kernel) (by decide),
  List.forall_mem_cons.mpr ⟨k_isN (i := 1) (by decide +kernel) rfl,
  List.forall_mem_cons.mpr ⟨k_ilN (i := 1) (by decide +kernel) rfl,
  List.forall_mem_cons.mpr ⟨k_bipush (n := 11) (11) (by decide +kernel) (by decide),
  List.forall_mem_cons.mpr ⟨k_icmp_ge (off := 19) (by decide +kernel) (by decide),
  List.forall_mem_cons.mpr ⟨k_alN (i := 0) (by decide +kernel) rfl,
  List.forall_mem_cons.mpr ⟨k_alN (i := 0) (by decide +kernel) rfl,
  List.forall_mem_cons.mpr ⟨k_ilN (i := 1) (by decide +kernel) rfl,
  List.forall_mem_cons.mpr ⟨k_callV (y := 139) (n := 1) (ci := 8) rfl w_911 w_913 w_34 w_47 w_914 (by decide +kernel) (by decide) (by decide +kernel),
  List.forall_mem_cons.mpr ⟨k_i2l (by decide +kernel),
  List.forall_mem_cons.mpr ⟨k_callV (y := 141) (n := 1) (ci := 8) rfl w_928 w_930 w_37 w_47 w_931 (by decide +kernel) (by decide) (by decide +kernel),
  List.forall_mem_cons.mpr ⟨k_inc (n := 1) (1) (by decide +kernel) (by decide),
  List.forall_mem_cons.mpr ⟨k_goto (off := -19) (by decide +kernel) (by decide),
  List.forall_mem_cons.mpr ⟨k_alN (i := 0) (by decide +kernel) rfl,
  List.forall_mem_cons.mpr ⟨k_gf (j := 25) (T := TX8) rfl inX8G (by decide) w_641 (by decide +kernel),
  List.forall_mem_cons.mpr ⟨k_lret (by decide +kernel),
  fun _ h => absurd h List.not_mem_nil⟩⟩⟩⟩⟩⟩⟩⟩⟩⟩⟩⟩⟩⟩⟩⟩⟩⟩⟩⟩⟩⟩⟩⟩⟩⟩⟩⟩⟩⟩⟩⟩⟩⟩⟩⟩⟩⟩⟩⟩⟩⟩⟩⟩⟩⟩⟩⟩⟩⟩⟩⟩⟩⟩⟩⟩⟩⟩⟩⟩⟩⟩⟩⟩⟩⟩⟩⟩⟩⟩⟩⟩⟩⟩⟩⟩
def tb_144 : List (Nat × pO) := [(0, o_il 0 1), (1, o_il 0 2), (2, o_const (.int (1)) 3), (3, o_bin (fun x y => (x.toUInt32 >>> (y.toUInt32 &&& Int32.toUInt32 31)).toInt32) 4), (4, o_const (.int (1431655765)) 7), (7, o_bin (fun x y => x &&& y) 8), (8, o_bin (fun x y => x - y) 9), (9, o_is 0 10), (10, o_il 0 11), (11, o_const (.int (858993459)) 14), (14, o_bin (fun x y => x &&& y) 15), (15, o_il 0 16), (16, o_const (.int (2)) 17), (17, o_bin (fun x y => (x.toUInt32 >>> (y.toUInt32 &&& Int32.toUInt32 31)).toInt32) 18), (18, o_const (.int (858993459)) 21), (21, o_bin (fun x y => x &&& y) 22), (22, o_bin (fun x y => x + y) 23), (23, o_is 0 24), (24, o_il 0 25), (25, o_il 0 26), (26, o_const (.int (4)) 27), (27, o_bin (fun x y => (x.toUInt32 >>> (y.toUInt32 &&& Int32.toUInt32 31)).toInt32) 28), (28, o_bin (fun x y => x + y) 29), (29, o_const (.int (252645135)) 32), (32, o_bin (fun x y => x &&& y) 33), (33, o_is 0 34), (34, o_il 0 35), (35, o_il 0 36), (36, o_const (.int (8)) 38), (38, o_bin (fun x y => (x.toUInt32 >>> (y.toUInt32 &&& Int32.toUInt32 31)).toInt32) 39), (39, o_bin (fun x y => x + y) 40), (40, o_is 0 41), (41, o_il 0 42), (42, o_il 0 43), (43, o_const (.int (16)) 45), (45, o_bin (fun x y => (x.toUInt32 >>> (y.toUInt32 &&& Int32.toUInt32 31)).toInt32) 46), (46, o_bin (fun x y => x + y) 47), (47, o_is 0 48), (48, o_il 0 49), (49, o_const (.int (63)) 51), (51, o_bin (fun x y => x &&& y) 52), (52, o_iret)]
set_option maxRecDepth 20000 in
theorem tk_144 : ∀ q ∈ tb_144, okA noS mM (prog_11_method_49_code, "java/lang/Integer", 1, some .int, false) q.1 q.2 :=
  List.forall_mem_cons.mpr ⟨k_ilN (i := 0) (by decide +kernel) rfl,
  List.forall_mem_cons.mpr ⟨k_ilN (i := 0) (by decide +kernel) rfl,
  List.forall_mem_cons.mpr ⟨k_iconst (n := 1) (1) (by decide +kernel) (by decide),
  List.forall_mem_cons.mpr ⟨k_iushr (by decide +kernel),
  List.forall_mem_cons.mpr ⟨k_ldcw w_370 (by decide +kernel),
  List.forall_mem_cons.mpr ⟨k_iand (by decide +kernel),
  List.forall_mem_cons.mpr ⟨k_isub (by decide +kernel),
  List.forall_mem_cons.mpr ⟨k_isN (i := 0) (by decide +kernel) rfl,
  List.forall_mem_cons.mpr ⟨k_ilN (i := 0) (by decide +kernel) rfl,
  List.forall_mem_cons.mpr ⟨k_ldcw w_371 (by decide +kernel),
  List.forall_mem_cons.mpr ⟨k_iand (by decide +kernel),
  List.forall_mem_cons.mpr ⟨k_ilN (i := 0) (by decide +kernel) rfl,
  List.forall_mem_cons.mpr ⟨k_iconst (n := 2) (2) (by decide +kernel) (by decide),
  List.forall_mem_cons.mpr ⟨k_iushr (by decide +kernel),
  List.forall_mem_cons.mpr ⟨k_ldcw w_371 (by decide +kernel),
  List.forall_mem_cons.mpr ⟨k_iand (by decide +kernel),
  List.forall_mem_cons.mpr ⟨k_iadd (by decide +kernel),
  List.forall_mem_cons.mpr ⟨k_isN (i := 0) (by decide +kernel) rfl,
  List.forall_mem_cons.mpr ⟨k_ilN (i := 0) (by decide +kernel) rfl,
  List.forall_mem_cons.mpr ⟨k_ilN (i := 0) (by decide +kernel) rfl,
  List.forall_mem_cons.mpr ⟨k_iconst (n := 4) (4) (by decide +kernel) (by decide),
  List.forall_mem_cons.mpr ⟨k_iushr (by decide +kernel),
  List.forall_mem_cons.mpr ⟨k_iadd (by decide +kernel),
  List.forall_mem_cons.mpr ⟨k_ldcw w_372 (by decide +kernel),
  List.forall_mem_cons.mpr ⟨k_iand (by decide +kernel),
  List.forall_mem_cons.mpr ⟨k_isN (i := 0) (by decide +kernel) rfl,
  List.forall_mem_cons.mpr ⟨k_ilN (i := 0) (by decide +kernel) rfl,
  List.forall_mem_cons.mpr ⟨k_ilN (i := 0) (by decide +kernel) rfl,
  List.forall_mem_cons.mpr ⟨k_bipush (n := 8) (8) (by decide +kernel) (by decide),
  List.forall_mem_cons.mpr ⟨k_iushr (by decide +kernel),
  List.forall_mem_cons.mpr ⟨k_iadd (by decide +kernel),
  List.forall_mem_cons.mpr ⟨k_isN (i := 0) (by decide +kernel) rfl,
  List.forall_mem_cons.mpr ⟨k_ilN (i := 0) (by decide +kernel) rfl,
  List.forall_mem_cons.mpr ⟨k_ilN (i := 0) (by decide +kernel) rfl,
  List.forall_mem_cons.mpr ⟨k_bipush (n := 16) (16) (by decide +kernel) (by decide),
  List.forall_mem_cons.mpr ⟨k_iushr (by decide +kernel),
  List.forall_mem_cons.mpr ⟨k_iadd (by decide +kernel),
  List.forall_mem_cons.mpr ⟨k_isN (i := 0) (by decide +kernel) rfl,
  List.forall_mem_cons.mpr ⟨k_ilN (i := 0) (by decide +kernel) rfl,
  List.forall_mem_cons.mpr ⟨k_bipush (n := 63) (63) (by decide +kernel) (by decide),
  List.forall_mem_cons.mpr ⟨k_iand (by decide +kernel),
  List.forall_mem_cons.mpr ⟨k_iret (by decide +kernel),
  fun _ h => absurd h List.not_mem_nil⟩⟩⟩⟩⟩⟩⟩⟩⟩⟩⟩⟩⟩⟩⟩⟩⟩⟩⟩⟩⟩⟩⟩⟩⟩⟩⟩⟩⟩⟩⟩⟩⟩⟩⟩⟩⟩⟩⟩⟩⟩⟩
def tb_145 : List (Nat × pO) := [(0, o_il 0 1), (1, o_il 1 2), (2, o_cmp (fun x y => x < y) 9 5), (5, o_il 0 6), (6, o_goto 10), (9, o_il 1 10), (10, o_iret)]
set_option maxRecDepth 20000 in
theorem tk_145 : ∀ q ∈ tb_145, okA noS mM (prog_12_method_65_code, "java/lang/Math", 2, some .int, false) q.1 q.2 :=
  List.forall_mem_cons.mpr ⟨k_ilN (i := 0) (by decide +kernel) rfl,
  List.forall_mem_cons.mpr ⟨k_ilN (i := 1) (by decide +kernel) rfl,
  List.forall_mem_cons.mpr ⟨k_icmp_lt (off := 7) (by decide +kernel) (by decide),
  List.forall_mem_cons.mpr ⟨k_ilN (i := 0) (by decide +kernel) rfl,
  List.forall_mem_cons.mpr ⟨k_goto (off := 4) (by decide +kernel) (by decide),
  List.forall_mem_cons.mpr ⟨k_ilN (i := 1) (by decide +kernel) rfl,
  List.forall_mem_cons.mpr ⟨k_iret (by decide +kernel),
  fun _ h => absurd h List.not_mem_nil⟩⟩⟩⟩⟩⟩⟩
def tb_146 : List (Nat × pO) := [(0, o_il 0 1), (1, o_il 1 2), (2, o_cmp (fun x y => y < x) 9 5), (5, o_il 0 6), (6, o_goto 10), (9, o_il 1 10), (10, o_iret)]
set_option maxRecDepth 20000 in
theorem tk_146 : ∀ q ∈ tb_146, okA noS mM (prog_12_method_69_code, "java/lang/Math", 2, some .int, false) q.1 q.2 :=
  List.forall_mem_cons.mpr ⟨k_ilN (i := 0) (by decide +kernel) rfl,
  List.forall_mem_cons.mpr ⟨k_ilN (i := 1) (by decide +kernel) rfl,
  List.forall_mem_cons.mpr ⟨k_icmp_gt (off := 7) (by decide +kernel) (by decide),
  List.forall_mem_cons.mpr ⟨k_ilN (i := 0) (by decide +kernel) rfl,
  List.forall_mem_cons.mpr ⟨k_goto (off := 4) (by decide +kernel) (by decide),
  List.forall_mem_cons.mpr ⟨k_ilN (i := 1) (by decide +kernel) rfl,
  List.forall_mem_cons.mpr ⟨k_iret (by decide +kernel),
  fun _ h => absurd h List.not_mem_nil⟩⟩⟩⟩⟩⟩⟩
end
