section
-- ===== PART A: goes FIRST, ahead of the names: the tables' words, and 'selects' of the private methods out of them =====
/-- a private method of a class that the tables say can be made, by its rows of tables_1 -/
def lw_okq (q : MethodName × Nat) : Prop := (q.1.cls ≠ "java/lang/invoke/MethodHandle" ∧ q.1.cls ≠ "java/lang/invoke/VarHandle") ∧ Cond.instantiable q.1.cls q.2 ∈ tables_1 ∧ Cond.privateMethod q.1 ∈ tables_1 ∧ Cond.instanceMethod q.1 ∈ tables_1
theorem lw_p0 : lw_okq (⟨"DuneMaps", "isCell", "(I)Z"⟩, 12) := ⟨⟨by decide +kernel, by decide +kernel⟩, List.mem_of_getElem? (i := 13) (by decide +kernel), List.mem_of_getElem? (i := 282) (by decide +kernel), List.mem_of_getElem? (i := 283) (by decide +kernel)⟩
theorem lw_p1 : lw_okq (⟨"DuneMaps$Sand", "leeOf", "(I)I"⟩, 2) := ⟨⟨by decide +kernel, by decide +kernel⟩, List.mem_of_getElem? (i := 42) (by decide +kernel), List.mem_of_getElem? (i := 319) (by decide +kernel), List.mem_of_getElem? (i := 320) (by decide +kernel)⟩
theorem lw_p2 : lw_okq (⟨"DuneMaps$Sand", "moveSand", "(III)I"⟩, 2) := ⟨⟨by decide +kernel, by decide +kernel⟩, List.mem_of_getElem? (i := 42) (by decide +kernel), List.mem_of_getElem? (i := 323) (by decide +kernel), List.mem_of_getElem? (i := 324) (by decide +kernel)⟩
theorem lw_p3 : lw_okq (⟨"DuneMaps$Sand", "luffOf", "(I)I"⟩, 2) := ⟨⟨by decide +kernel, by decide +kernel⟩, List.mem_of_getElem? (i := 42) (by decide +kernel), List.mem_of_getElem? (i := 396) (by decide +kernel), List.mem_of_getElem? (i := 397) (by decide +kernel)⟩
theorem lw_p4 : lw_okq (⟨"DuneMaps$Ordering", "tryTurn", "(LDuneMaps$Land;III)V"⟩, 5) := ⟨⟨by decide +kernel, by decide +kernel⟩, List.mem_of_getElem? (i := 112) (by decide +kernel), List.mem_of_getElem? (i := 439) (by decide +kernel), List.mem_of_getElem? (i := 440) (by decide +kernel)⟩
theorem lw_p5 : lw_okq (⟨"DuneMaps$Ordering", "keep", "(I)V"⟩, 5) := ⟨⟨by decide +kernel, by decide +kernel⟩, List.mem_of_getElem? (i := 112) (by decide +kernel), List.mem_of_getElem? (i := 443) (by decide +kernel), List.mem_of_getElem? (i := 444) (by decide +kernel)⟩
theorem lw_p6 : lw_okq (⟨"DuneMaps$Footing", "tryFrom", "(III)V"⟩, 7) := ⟨⟨by decide +kernel, by decide +kernel⟩, List.mem_of_getElem? (i := 138) (by decide +kernel), List.mem_of_getElem? (i := 468) (by decide +kernel), List.mem_of_getElem? (i := 469) (by decide +kernel)⟩
theorem lw_p7 : lw_okq (⟨"DuneMaps$Dusk", "tryWalk", "(ILDuneMaps$Sand;LDuneMaps$Sand;)V"⟩, 2) := ⟨⟨by decide +kernel, by decide +kernel⟩, List.mem_of_getElem? (i := 170) (by decide +kernel), List.mem_of_getElem? (i := 488) (by decide +kernel), List.mem_of_getElem? (i := 489) (by decide +kernel)⟩
theorem lw_p8 : lw_okq (⟨"DuneMaps", "withCells", "(J)J"⟩, 12) := ⟨⟨by decide +kernel, by decide +kernel⟩, List.mem_of_getElem? (i := 13) (by decide +kernel), List.mem_of_getElem? (i := 557) (by decide +kernel), List.mem_of_getElem? (i := 558) (by decide +kernel)⟩
theorem lw_p9 : lw_okq (⟨"DuneMaps", "withOrder", "(J)J"⟩, 12) := ⟨⟨by decide +kernel, by decide +kernel⟩, List.mem_of_getElem? (i := 13) (by decide +kernel), List.mem_of_getElem? (i := 566) (by decide +kernel), List.mem_of_getElem? (i := 567) (by decide +kernel)⟩
theorem lw_p10 : lw_okq (⟨"DuneMapsModel", "faultOf", "(I)I"⟩, 26) := ⟨⟨by decide +kernel, by decide +kernel⟩, List.mem_of_getElem? (i := 573) (by decide +kernel), List.mem_of_getElem? (i := 674) (by decide +kernel), List.mem_of_getElem? (i := 675) (by decide +kernel)⟩
theorem lw_p11 : lw_okq (⟨"DuneMapsModel", "isCell", "(I)Z"⟩, 26) := ⟨⟨by decide +kernel, by decide +kernel⟩, List.mem_of_getElem? (i := 573) (by decide +kernel), List.mem_of_getElem? (i := 691) (by decide +kernel), List.mem_of_getElem? (i := 692) (by decide +kernel)⟩
theorem lw_p12 : lw_okq (⟨"DuneMapsModel", "tellCell", "(II)I"⟩, 26) := ⟨⟨by decide +kernel, by decide +kernel⟩, List.mem_of_getElem? (i := 573) (by decide +kernel), List.mem_of_getElem? (i := 696) (by decide +kernel), List.mem_of_getElem? (i := 697) (by decide +kernel)⟩
theorem lw_p13 : lw_okq (⟨"DuneMapsModel", "walkersAt", "(I)I"⟩, 26) := ⟨⟨by decide +kernel, by decide +kernel⟩, List.mem_of_getElem? (i := 573) (by decide +kernel), List.mem_of_getElem? (i := 703) (by decide +kernel), List.mem_of_getElem? (i := 704) (by decide +kernel)⟩
theorem lw_p14 : lw_okq (⟨"DuneMapsModel", "nightOf", "([I)I"⟩, 26) := ⟨⟨by decide +kernel, by decide +kernel⟩, List.mem_of_getElem? (i := 573) (by decide +kernel), List.mem_of_getElem? (i := 715) (by decide +kernel), List.mem_of_getElem? (i := 716) (by decide +kernel)⟩
theorem lw_p15 : lw_okq (⟨"DuneMapsModel", "crests", "([I)I"⟩, 26) := ⟨⟨by decide +kernel, by decide +kernel⟩, List.mem_of_getElem? (i := 573) (by decide +kernel), List.mem_of_getElem? (i := 719) (by decide +kernel), List.mem_of_getElem? (i := 720) (by decide +kernel)⟩
def lw_privs_1 : List (MethodName × Nat) := [(⟨"DuneMaps", "isCell", "(I)Z"⟩, 12), (⟨"DuneMaps$Sand", "leeOf", "(I)I"⟩, 2), (⟨"DuneMaps$Sand", "moveSand", "(III)I"⟩, 2), (⟨"DuneMaps$Sand", "luffOf", "(I)I"⟩, 2), (⟨"DuneMaps$Ordering", "tryTurn", "(LDuneMaps$Land;III)V"⟩, 5), (⟨"DuneMaps$Ordering", "keep", "(I)V"⟩, 5), (⟨"DuneMaps$Footing", "tryFrom", "(III)V"⟩, 7), (⟨"DuneMaps$Dusk", "tryWalk", "(ILDuneMaps$Sand;LDuneMaps$Sand;)V"⟩, 2), (⟨"DuneMaps", "withCells", "(J)J"⟩, 12), (⟨"DuneMaps", "withOrder", "(J)J"⟩, 12), (⟨"DuneMapsModel", "faultOf", "(I)I"⟩, 26), (⟨"DuneMapsModel", "isCell", "(I)Z"⟩, 26), (⟨"DuneMapsModel", "tellCell", "(II)I"⟩, 26), (⟨"DuneMapsModel", "walkersAt", "(I)I"⟩, 26), (⟨"DuneMapsModel", "nightOf", "([I)I"⟩, 26), (⟨"DuneMapsModel", "crests", "([I)I"⟩, 26)]
theorem lw_r1 : ∀ q ∈ lw_privs_1, lw_okq q := List.forall_mem_cons.mpr ⟨lw_p0, List.forall_mem_cons.mpr ⟨lw_p1, List.forall_mem_cons.mpr ⟨lw_p2, List.forall_mem_cons.mpr ⟨lw_p3, List.forall_mem_cons.mpr ⟨lw_p4, List.forall_mem_cons.mpr ⟨lw_p5, List.forall_mem_cons.mpr ⟨lw_p6, List.forall_mem_cons.mpr ⟨lw_p7, List.forall_mem_cons.mpr ⟨lw_p8, List.forall_mem_cons.mpr ⟨lw_p9, List.forall_mem_cons.mpr ⟨lw_p10, List.forall_mem_cons.mpr ⟨lw_p11, List.forall_mem_cons.mpr ⟨lw_p12, List.forall_mem_cons.mpr ⟨lw_p13, List.forall_mem_cons.mpr ⟨lw_p14, List.forall_mem_cons.mpr ⟨lw_p15, fun _ h => absurd h List.not_mem_nil⟩⟩⟩⟩⟩⟩⟩⟩⟩⟩⟩⟩⟩⟩⟩⟩
theorem lw_p16 : lw_okq (⟨"DuneMapsModel", "leeOf", "(I)I"⟩, 26) := ⟨⟨by decide +kernel, by decide +kernel⟩, List.mem_of_getElem? (i := 573) (by decide +kernel), List.mem_of_getElem? (i := 723) (by decide +kernel), List.mem_of_getElem? (i := 724) (by decide +kernel)⟩
theorem lw_p17 : lw_okq (⟨"DuneMapsModel", "isWalker", "(I)Z"⟩, 26) := ⟨⟨by decide +kernel, by decide +kernel⟩, List.mem_of_getElem? (i := 573) (by decide +kernel), List.mem_of_getElem? (i := 739) (by decide +kernel), List.mem_of_getElem? (i := 740) (by decide +kernel)⟩
theorem lw_p18 : lw_okq (⟨"DuneMapsModel", "tell", "(II)I"⟩, 26) := ⟨⟨by decide +kernel, by decide +kernel⟩, List.mem_of_getElem? (i := 573) (by decide +kernel), List.mem_of_getElem? (i := 743) (by decide +kernel), List.mem_of_getElem? (i := 744) (by decide +kernel)⟩
theorem lw_p19 : lw_okq (⟨"DuneMapsModel", "hasMap", "(I)Z"⟩, 26) := ⟨⟨by decide +kernel, by decide +kernel⟩, List.mem_of_getElem? (i := 573) (by decide +kernel), List.mem_of_getElem? (i := 750) (by decide +kernel), List.mem_of_getElem? (i := 751) (by decide +kernel)⟩
theorem lw_p20 : lw_okq (⟨"DuneMapsModel", "isGood", "([II)Z"⟩, 26) := ⟨⟨by decide +kernel, by decide +kernel⟩, List.mem_of_getElem? (i := 573) (by decide +kernel), List.mem_of_getElem? (i := 754) (by decide +kernel), List.mem_of_getElem? (i := 755) (by decide +kernel)⟩
theorem lw_p21 : lw_okq (⟨"DuneMapsModel", "steps", "(II)I"⟩, 26) := ⟨⟨by decide +kernel, by decide +kernel⟩, List.mem_of_getElem? (i := 573) (by decide +kernel), List.mem_of_getElem? (i := 769) (by decide +kernel), List.mem_of_getElem? (i := 770) (by decide +kernel)⟩
theorem lw_p22 : lw_okq (⟨"DuneMapsModel", "treads", "([III)I"⟩, 26) := ⟨⟨by decide +kernel, by decide +kernel⟩, List.mem_of_getElem? (i := 573) (by decide +kernel), List.mem_of_getElem? (i := 773) (by decide +kernel), List.mem_of_getElem? (i := 774) (by decide +kernel)⟩
theorem lw_p23 : lw_okq (⟨"DuneMapsModel", "luffOf", "(I)I"⟩, 26) := ⟨⟨by decide +kernel, by decide +kernel⟩, List.mem_of_getElem? (i := 573) (by decide +kernel), List.mem_of_getElem? (i := 777) (by decide +kernel), List.mem_of_getElem? (i := 778) (by decide +kernel)⟩
theorem lw_p24 : lw_okq (⟨"DuneMapsModel", "tellOrder", "(I)I"⟩, 26) := ⟨⟨by decide +kernel, by decide +kernel⟩, List.mem_of_getElem? (i := 573) (by decide +kernel), List.mem_of_getElem? (i := 796) (by decide +kernel), List.mem_of_getElem? (i := 797) (by decide +kernel)⟩
theorem lw_p25 : lw_okq (⟨"DuneMapsModel", "layOrder", "()I"⟩, 26) := ⟨⟨by decide +kernel, by decide +kernel⟩, List.mem_of_getElem? (i := 573) (by decide +kernel), List.mem_of_getElem? (i := 800) (by decide +kernel), List.mem_of_getElem? (i := 801) (by decide +kernel)⟩
theorem lw_p26 : lw_okq (⟨"DuneMapsModel", "layWho", "()V"⟩, 26) := ⟨⟨by decide +kernel, by decide +kernel⟩, List.mem_of_getElem? (i := 573) (by decide +kernel), List.mem_of_getElem? (i := 804) (by decide +kernel), List.mem_of_getElem? (i := 805) (by decide +kernel)⟩
theorem lw_p27 : lw_okq (⟨"DuneMapsModel", "isOrder", "(I)Z"⟩, 26) := ⟨⟨by decide +kernel, by decide +kernel⟩, List.mem_of_getElem? (i := 573) (by decide +kernel), List.mem_of_getElem? (i := 808) (by decide +kernel), List.mem_of_getElem? (i := 809) (by decide +kernel)⟩
theorem lw_p28 : lw_okq (⟨"DuneMapsModel", "goes", "(I)V"⟩, 26) := ⟨⟨by decide +kernel, by decide +kernel⟩, List.mem_of_getElem? (i := 573) (by decide +kernel), List.mem_of_getElem? (i := 815) (by decide +kernel), List.mem_of_getElem? (i := 816) (by decide +kernel)⟩
theorem lw_p29 : lw_okq (⟨"DuneMapsModel", "feetOf", "(IIII)I"⟩, 26) := ⟨⟨by decide +kernel, by decide +kernel⟩, List.mem_of_getElem? (i := 573) (by decide +kernel), List.mem_of_getElem? (i := 824) (by decide +kernel), List.mem_of_getElem? (i := 825) (by decide +kernel)⟩
theorem lw_p30 : lw_okq (⟨"DuneMapsModel", "highBy", "(IIII)I"⟩, 26) := ⟨⟨by decide +kernel, by decide +kernel⟩, List.mem_of_getElem? (i := 573) (by decide +kernel), List.mem_of_getElem? (i := 828) (by decide +kernel), List.mem_of_getElem? (i := 829) (by decide +kernel)⟩
theorem lw_p31 : lw_okq (⟨"DuneMapsModel", "whoOf", "(I)I"⟩, 26) := ⟨⟨by decide +kernel, by decide +kernel⟩, List.mem_of_getElem? (i := 573) (by decide +kernel), List.mem_of_getElem? (i := 840) (by decide +kernel), List.mem_of_getElem? (i := 841) (by decide +kernel)⟩
def lw_privs_2 : List (MethodName × Nat) := [(⟨"DuneMapsModel", "leeOf", "(I)I"⟩, 26), (⟨"DuneMapsModel", "isWalker", "(I)Z"⟩, 26), (⟨"DuneMapsModel", "tell", "(II)I"⟩, 26), (⟨"DuneMapsModel", "hasMap", "(I)Z"⟩, 26), (⟨"DuneMapsModel", "isGood", "([II)Z"⟩, 26), (⟨"DuneMapsModel", "steps", "(II)I"⟩, 26), (⟨"DuneMapsModel", "treads", "([III)I"⟩, 26), (⟨"DuneMapsModel", "luffOf", "(I)I"⟩, 26), (⟨"DuneMapsModel", "tellOrder", "(I)I"⟩, 26), (⟨"DuneMapsModel", "layOrder", "()I"⟩, 26), (⟨"DuneMapsModel", "layWho", "()V"⟩, 26), (⟨"DuneMapsModel", "isOrder", "(I)Z"⟩, 26), (⟨"DuneMapsModel", "goes", "(I)V"⟩, 26), (⟨"DuneMapsModel", "feetOf", "(IIII)I"⟩, 26), (⟨"DuneMapsModel", "highBy", "(IIII)I"⟩, 26), (⟨"DuneMapsModel", "whoOf", "(I)I"⟩, 26)]
theorem lw_r2 : ∀ q ∈ lw_privs_2, lw_okq q := List.forall_mem_cons.mpr ⟨lw_p16, List.forall_mem_cons.mpr ⟨lw_p17, List.forall_mem_cons.mpr ⟨lw_p18, List.forall_mem_cons.mpr ⟨lw_p19, List.forall_mem_cons.mpr ⟨lw_p20, List.forall_mem_cons.mpr ⟨lw_p21, List.forall_mem_cons.mpr ⟨lw_p22, List.forall_mem_cons.mpr ⟨lw_p23, List.forall_mem_cons.mpr ⟨lw_p24, List.forall_mem_cons.mpr ⟨lw_p25, List.forall_mem_cons.mpr ⟨lw_p26, List.forall_mem_cons.mpr ⟨lw_p27, List.forall_mem_cons.mpr ⟨lw_p28, List.forall_mem_cons.mpr ⟨lw_p29, List.forall_mem_cons.mpr ⟨lw_p30, List.forall_mem_cons.mpr ⟨lw_p31, fun _ h => absurd h List.not_mem_nil⟩⟩⟩⟩⟩⟩⟩⟩⟩⟩⟩⟩⟩⟩⟩⟩
theorem lw_p32 : lw_okq (⟨"DuneMapsModel", "isAsNow", "()Z"⟩, 26) := ⟨⟨by decide +kernel, by decide +kernel⟩, List.mem_of_getElem? (i := 573) (by decide +kernel), List.mem_of_getElem? (i := 844) (by decide +kernel), List.mem_of_getElem? (i := 845) (by decide +kernel)⟩
theorem lw_p33 : lw_okq (⟨"DuneMapsModel", "draw", "(I)I"⟩, 26) := ⟨⟨by decide +kernel, by decide +kernel⟩, List.mem_of_getElem? (i := 573) (by decide +kernel), List.mem_of_getElem? (i := 854) (by decide +kernel), List.mem_of_getElem? (i := 855) (by decide +kernel)⟩
theorem lw_p34 : lw_okq (⟨"DuneMapsModel", "countOf", "(I)I"⟩, 26) := ⟨⟨by decide +kernel, by decide +kernel⟩, List.mem_of_getElem? (i := 573) (by decide +kernel), List.mem_of_getElem? (i := 874) (by decide +kernel), List.mem_of_getElem? (i := 875) (by decide +kernel)⟩
theorem lw_p35 : lw_okq (⟨"DuneMapsModel", "sumBy", "(I)I"⟩, 26) := ⟨⟨by decide +kernel, by decide +kernel⟩, List.mem_of_getElem? (i := 573) (by decide +kernel), List.mem_of_getElem? (i := 878) (by decide +kernel), List.mem_of_getElem? (i := 879) (by decide +kernel)⟩
theorem lw_p36 : lw_okq (⟨"DuneMapsModel", "sayDunes", "()V"⟩, 26) := ⟨⟨by decide +kernel, by decide +kernel⟩, List.mem_of_getElem? (i := 573) (by decide +kernel), List.mem_of_getElem? (i := 887) (by decide +kernel), List.mem_of_getElem? (i := 888) (by decide +kernel)⟩
theorem lw_p37 : lw_okq (⟨"DuneMapsModel", "say", "(J)V"⟩, 26) := ⟨⟨by decide +kernel, by decide +kernel⟩, List.mem_of_getElem? (i := 573) (by decide +kernel), List.mem_of_getElem? (i := 891) (by decide +kernel), List.mem_of_getElem? (i := 892) (by decide +kernel)⟩
def lw_privs_3 : List (MethodName × Nat) := [(⟨"DuneMapsModel", "isAsNow", "()Z"⟩, 26), (⟨"DuneMapsModel", "draw", "(I)I"⟩, 26), (⟨"DuneMapsModel", "countOf", "(I)I"⟩, 26), (⟨"DuneMapsModel", "sumBy", "(I)I"⟩, 26), (⟨"DuneMapsModel", "sayDunes", "()V"⟩, 26), (⟨"DuneMapsModel", "say", "(J)V"⟩, 26)]
theorem lw_r3 : ∀ q ∈ lw_privs_3, lw_okq q := List.forall_mem_cons.mpr ⟨lw_p32, List.forall_mem_cons.mpr ⟨lw_p33, List.forall_mem_cons.mpr ⟨lw_p34, List.forall_mem_cons.mpr ⟨lw_p35, List.forall_mem_cons.mpr ⟨lw_p36, List.forall_mem_cons.mpr ⟨lw_p37, fun _ h => absurd h List.not_mem_nil⟩⟩⟩⟩⟩⟩
def lw_privs : List (MethodName × Nat) := lw_privs_1 ++ (lw_privs_2 ++ (lw_privs_3))
def lw_tbl : List Cond := k2_sels lw_privs ++ tables_1
theorem lw_privs_ok : ∀ q ∈ lw_privs, lw_okq q := by
  show ∀ q ∈ lw_privs_1 ++ (lw_privs_2 ++ (lw_privs_3)), lw_okq q
  exact List.forall_mem_append.mpr ⟨lw_r1, List.forall_mem_append.mpr ⟨lw_r2, lw_r3⟩⟩
end
section
def RX0 : String := "DuneMaps$Dusk"
def TX0 : u_T := fun k => match k with
  | 0 => ("DuneMaps$Dusk", "found", "I", false)
  | _ => ("DuneMaps$Dusk", "least", "I", false)
def tyX0 : Nat → FieldType := fun k => match k with
  | 0 => .int
  | _ => .int
theorem nmX0 : ∀ a, a < 2 → ∀ b, b < 2 → a ≠ b → (TX0 a).2.1 ≠ (TX0 b).2.1 := by decide +kernel
theorem tyX0_ok : ∀ k, k < 2 → parseFieldDescriptor (TX0 k).2.2.1 = some (tyX0 k) := by decide +kernel
abbrev cX0_init : ByteArray := prog_2_method_1_code
def yX0_init : MethodName := ⟨RX0, "<init>", "()V"⟩
abbrev cX0_search : ByteArray := prog_2_method_2_code
def yX0_search : MethodName := ⟨RX0, "search", "(LDuneMaps$Sand;LDuneMaps$Sand;LDuneMaps$Sand;)V"⟩
abbrev cX0_tryWalk : ByteArray := prog_2_method_3_code
def yX0_tryWalk : MethodName := ⟨RX0, "tryWalk", "(ILDuneMaps$Sand;LDuneMaps$Sand;)V"⟩
def RX1 : String := "DuneMaps$Footing"
def TX1 : u_T := fun k => match k with
  | 0 => ("DuneMaps$Footing", "sands", "[LDuneMaps$Sand;", true)
  | 1 => ("DuneMaps$Footing", "kind", "I", false)
  | 2 => ("DuneMaps$Footing", "goal", "I", false)
  | 3 => ("DuneMaps$Footing", "goalHeight", "I", false)
  | 4 => ("DuneMaps$Footing", "stepsLeft", "I", false)
  | 5 => ("DuneMaps$Footing", "fewest", "I", false)
  | _ => ("DuneMaps$Footing", "bits", "I", false)
def tyX1 : Nat → FieldType := fun k => match k with
  | 0 => .array (.object "DuneMaps$Sand")
  | 1 => .int
  | 2 => .int
  | 3 => .int
  | 4 => .int
  | 5 => .int
  | _ => .int
theorem nmX1 : ∀ a, a < 7 → ∀ b, b < 7 → a ≠ b → (TX1 a).2.1 ≠ (TX1 b).2.1 := by decide +kernel
theorem tyX1_ok : ∀ k, k < 7 → parseFieldDescriptor (TX1 k).2.2.1 = some (tyX1 k) := by decide +kernel
abbrev cX1_init : ByteArray := prog_3_method_1_code
def yX1_init : MethodName := ⟨RX1, "<init>", "()V"⟩
abbrev cX1_search : ByteArray := prog_3_method_2_code
def yX1_search : MethodName := ⟨RX1, "search", "(LDuneMaps$Sand;LDuneMaps$Walker;II)V"⟩
abbrev cX1_tryFrom : ByteArray := prog_3_method_3_code
def yX1_tryFrom : MethodName := ⟨RX1, "tryFrom", "(III)V"⟩
def RX2 : String := "DuneMaps$Land"
def TX2 : u_T := fun k => match k with
  | 0 => ("DuneMaps$Land", "sand", "LDuneMaps$Sand;", true)
  | 1 => ("DuneMaps$Land", "walkers", "[LDuneMaps$Walker;", true)
  | 2 => ("DuneMaps$Land", "walkerCount", "I", false)
  | _ => ("DuneMaps$Land", "nights", "I", false)
def tyX2 : Nat → FieldType := fun k => match k with
  | 0 => .object "DuneMaps$Sand"
  | 1 => .array (.object "DuneMaps$Walker")
  | 2 => .int
  | _ => .int
theorem nmX2 : ∀ a, a < 4 → ∀ b, b < 4 → a ≠ b → (TX2 a).2.1 ≠ (TX2 b).2.1 := by decide +kernel
theorem tyX2_ok : ∀ k, k < 4 → parseFieldDescriptor (TX2 k).2.2.1 = some (tyX2 k) := by decide +kernel
abbrev cX2_init : ByteArray := prog_4_method_1_code
def yX2_init : MethodName := ⟨RX2, "<init>", "()V"⟩
abbrev cX2_empty : ByteArray := prog_4_method_2_code
def yX2_empty : MethodName := ⟨RX2, "empty", "()V"⟩
abbrev cX2_copyFrom : ByteArray := prog_4_method_3_code
def yX2_copyFrom : MethodName := ⟨RX2, "copyFrom", "(LDuneMaps$Land;)V"⟩
abbrev cX2_named : ByteArray := prog_4_method_4_code
def yX2_named : MethodName := ⟨RX2, "named", "(I)LDuneMaps$Walker;"⟩
abbrev cX2_arrive : ByteArray := prog_4_method_5_code
def yX2_arrive : MethodName := ⟨RX2, "arrive", "(II)I"⟩
abbrev cX2_walkersAt : ByteArray := prog_4_method_6_code
def yX2_walkersAt : MethodName := ⟨RX2, "walkersAt", "(I)I"⟩
abbrev cX2_maps : ByteArray := prog_4_method_7_code
def yX2_maps : MethodName := ⟨RX2, "maps", "()I"⟩
abbrev cX2_goodMaps : ByteArray := prog_4_method_8_code
def yX2_goodMaps : MethodName := ⟨RX2, "goodMaps", "()I"⟩
abbrev cX2_stepsGone : ByteArray := prog_4_method_9_code
def yX2_stepsGone : MethodName := ⟨RX2, "stepsGone", "()I"⟩
def RX3 : String := "DuneMaps$Ordering"
def TX3 : u_T := fun k => match k with
  | 0 => ("DuneMaps$Ordering", "sands", "[LDuneMaps$Sand;", true)
  | 1 => ("DuneMaps$Ordering", "turns", "[I", true)
  | 2 => ("DuneMaps$Ordering", "best", "[I", true)
  | 3 => ("DuneMaps$Ordering", "goers", "I", false)
  | _ => ("DuneMaps$Ordering", "mostGood", "I", false)
def tyX3 : Nat → FieldType := fun k => match k with
  | 0 => .array (.object "DuneMaps$Sand")
  | 1 => .array .int
  | 2 => .array .int
  | 3 => .int
  | _ => .int
theorem nmX3 : ∀ a, a < 5 → ∀ b, b < 5 → a ≠ b → (TX3 a).2.1 ≠ (TX3 b).2.1 := by decide +kernel
theorem tyX3_ok : ∀ k, k < 5 → parseFieldDescriptor (TX3 k).2.2.1 = some (tyX3 k) := by decide +kernel
abbrev cX3_init : ByteArray := prog_5_method_1_code
def yX3_init : MethodName := ⟨RX3, "<init>", "()V"⟩
abbrev cX3_goerAt : ByteArray := prog_5_method_2_code
def yX3_goerAt : MethodName := ⟨RX3, "goerAt", "(I)I"⟩
abbrev cX3_search : ByteArray := prog_5_method_3_code
def yX3_search : MethodName := ⟨RX3, "search", "(LDuneMaps$Land;)V"⟩
abbrev cX3_tryTurn : ByteArray := prog_5_method_4_code
def yX3_tryTurn : MethodName := ⟨RX3, "tryTurn", "(LDuneMaps$Land;III)V"⟩
abbrev cX3_keep : ByteArray := prog_5_method_5_code
def yX3_keep : MethodName := ⟨RX3, "keep", "(I)V"⟩
def RX4 : String := "DuneMaps$Page"
def TX4 : u_T := fun k => match k with
  | 0 => ("DuneMaps$Page", "codes", "[I", true)
  | _ => ("DuneMaps$Page", "length", "I", false)
def tyX4 : Nat → FieldType := fun k => match k with
  | 0 => .array .int
  | _ => .int
theorem nmX4 : ∀ a, a < 2 → ∀ b, b < 2 → a ≠ b → (TX4 a).2.1 ≠ (TX4 b).2.1 := by decide +kernel
theorem tyX4_ok : ∀ k, k < 2 → parseFieldDescriptor (TX4 k).2.2.1 = some (tyX4 k) := by decide +kernel
abbrev cX4_init : ByteArray := prog_6_method_1_code
def yX4_init : MethodName := ⟨RX4, "<init>", "()V"⟩
abbrev cX4_append : ByteArray := prog_6_method_2_code
def yX4_append : MethodName := ⟨RX4, "append", "(I)Z"⟩
abbrev cX4_codeAt : ByteArray := prog_6_method_3_code
def yX4_codeAt : MethodName := ⟨RX4, "codeAt", "(I)I"⟩
abbrev cX4_firstFault : ByteArray := prog_6_method_4_code
def yX4_firstFault : MethodName := ⟨RX4, "firstFault", "(I)I"⟩
abbrev cX4_isWhole : ByteArray := prog_6_method_5_code
def yX4_isWhole : MethodName := ⟨RX4, "isWhole", "(I)Z"⟩
abbrev cX4_readHeights : ByteArray := prog_6_method_6_code
def yX4_readHeights : MethodName := ⟨RX4, "readHeights", "(LDuneMaps$Sand;)V"⟩
abbrev cX4_tellsWindOn : ByteArray := prog_6_method_7_code
def yX4_tellsWindOn : MethodName := ⟨RX4, "tellsWindOn", "()Z"⟩
abbrev cX4_fits : ByteArray := prog_6_method_8_code
def yX4_fits : MethodName := ⟨RX4, "fits", "(III)Z"⟩
def RX5 : String := "DuneMaps$Sand"
def TX5 : u_T := fun k => match k with
  | 0 => ("DuneMaps$Sand", "heights", "[I", true)
  | _ => ("DuneMaps$Sand", "blowsOn", "Z", false)
def tyX5 : Nat → FieldType := fun k => match k with
  | 0 => .array .int
  | _ => .boolean
theorem nmX5 : ∀ a, a < 2 → ∀ b, b < 2 → a ≠ b → (TX5 a).2.1 ≠ (TX5 b).2.1 := by decide +kernel
theorem tyX5_ok : ∀ k, k < 2 → parseFieldDescriptor (TX5 k).2.2.1 = some (tyX5 k) := by decide +kernel
abbrev cX5_init : ByteArray := prog_7_method_1_code
def yX5_init : MethodName := ⟨RX5, "<init>", "()V"⟩
abbrev cX5_heightAt : ByteArray := prog_7_method_2_code
def yX5_heightAt : MethodName := ⟨RX5, "heightAt", "(I)I"⟩
abbrev cX5_setHeight : ByteArray := prog_7_method_3_code
def yX5_setHeight : MethodName := ⟨RX5, "setHeight", "(II)V"⟩
abbrev cX5_copyFrom : ByteArray := prog_7_method_4_code
def yX5_copyFrom : MethodName := ⟨RX5, "copyFrom", "(LDuneMaps$Sand;)V"⟩
abbrev cX5_copyHeights : ByteArray := prog_7_method_5_code
def yX5_copyHeights : MethodName := ⟨RX5, "copyHeights", "(LDuneMaps$Sand;)V"⟩
abbrev cX5_isAsHighAs : ByteArray := prog_7_method_6_code
def yX5_isAsHighAs : MethodName := ⟨RX5, "isAsHighAs", "(LDuneMaps$Sand;)Z"⟩
abbrev cX5_sum : ByteArray := prog_7_method_7_code
def yX5_sum : MethodName := ⟨RX5, "sum", "()I"⟩
abbrev cX5_highest : ByteArray := prog_7_method_8_code
def yX5_highest : MethodName := ⟨RX5, "highest", "()I"⟩
abbrev cX5_shapeAt : ByteArray := prog_7_method_9_code
def yX5_shapeAt : MethodName := ⟨RX5, "shapeAt", "(I)I"⟩
abbrev cX5_crests : ByteArray := prog_7_method_10_code
def yX5_crests : MethodName := ⟨RX5, "crests", "()I"⟩
abbrev cX5_passNight : ByteArray := prog_7_method_11_code
def yX5_passNight : MethodName := ⟨RX5, "passNight", "()I"⟩
abbrev cX5_tread : ByteArray := prog_7_method_12_code
def yX5_tread : MethodName := ⟨RX5, "tread", "(II)I"⟩
abbrev cX5_moveSand : ByteArray := prog_7_method_13_code
def yX5_moveSand : MethodName := ⟨RX5, "moveSand", "(III)I"⟩
abbrev cX5_leeOf : ByteArray := prog_7_method_14_code
def yX5_leeOf : MethodName := ⟨RX5, "leeOf", "(I)I"⟩
abbrev cX5_luffOf : ByteArray := prog_7_method_15_code
def yX5_luffOf : MethodName := ⟨RX5, "luffOf", "(I)I"⟩
def RX6 : String := "DuneMaps$Walker"
def TX6 : u_T := fun k => match k with
  | 0 => ("DuneMaps$Walker", "told", "[I", true)
  | 1 => ("DuneMaps$Walker", "kind", "I", false)
  | 2 => ("DuneMaps$Walker", "place", "I", false)
  | 3 => ("DuneMaps$Walker", "stepsGone", "I", false)
  | 4 => ("DuneMaps$Walker", "mapWay", "I", false)
  | _ => ("DuneMaps$Walker", "mapSteps", "I", false)
def tyX6 : Nat → FieldType := fun k => match k with
  | 0 => .array .int
  | 1 => .int
  | 2 => .int
  | 3 => .int
  | 4 => .int
  | _ => .int
theorem nmX6 : ∀ a, a < 6 → ∀ b, b < 6 → a ≠ b → (TX6 a).2.1 ≠ (TX6 b).2.1 := by decide +kernel
theorem tyX6_ok : ∀ k, k < 6 → parseFieldDescriptor (TX6 k).2.2.1 = some (tyX6 k) := by decide +kernel
abbrev cX6_init : ByteArray := prog_8_method_1_code
def yX6_init : MethodName := ⟨RX6, "<init>", "()V"⟩
abbrev cX6_arrive : ByteArray := prog_8_method_2_code
def yX6_arrive : MethodName := ⟨RX6, "arrive", "(II)V"⟩
abbrev cX6_copyFrom : ByteArray := prog_8_method_3_code
def yX6_copyFrom : MethodName := ⟨RX6, "copyFrom", "(LDuneMaps$Walker;)V"⟩
abbrev cX6_hasMap : ByteArray := prog_8_method_4_code
def yX6_hasMap : MethodName := ⟨RX6, "hasMap", "()Z"⟩
abbrev cX6_drawMap : ByteArray := prog_8_method_5_code
def yX6_drawMap : MethodName := ⟨RX6, "drawMap", "(LDuneMaps$Sand;II)I"⟩
abbrev cX6_hasGoodMap : ByteArray := prog_8_method_6_code
def yX6_hasGoodMap : MethodName := ⟨RX6, "hasGoodMap", "(LDuneMaps$Sand;)Z"⟩
abbrev cX6_stepOn : ByteArray := prog_8_method_7_code
def yX6_stepOn : MethodName := ⟨RX6, "stepOn", "(LDuneMaps$Sand;I)I"⟩
abbrev cX6_goByMap : ByteArray := prog_8_method_8_code
def yX6_goByMap : MethodName := ⟨RX6, "goByMap", "(LDuneMaps$Sand;)V"⟩
abbrev cX6_wouldGo : ByteArray := prog_8_method_9_code
def yX6_wouldGo : MethodName := ⟨RX6, "wouldGo", "(LDuneMaps$Sand;)V"⟩
def RX7 : String := "DuneMaps"
def TX7 : u_T := fun k => match k with
  | 0 => ("DuneMaps", "page", "LDuneMaps$Page;", true)
  | 1 => ("DuneMaps", "land", "LDuneMaps$Land;", true)
  | 2 => ("DuneMaps", "kept", "LDuneMaps$Land;", true)
  | 3 => ("DuneMaps", "before", "LDuneMaps$Sand;", true)
  | 4 => ("DuneMaps", "tried", "LDuneMaps$Sand;", true)
  | 5 => ("DuneMaps", "ordering", "LDuneMaps$Ordering;", true)
  | 6 => ("DuneMaps", "footing", "LDuneMaps$Footing;", true)
  | 7 => ("DuneMaps", "dusk", "LDuneMaps$Dusk;", true)
  | 8 => ("DuneMaps", "hasDunes", "Z", false)
  | 9 => ("DuneMaps", "hasImage", "Z", false)
  | 10 => ("DuneMaps", "hasBefore", "Z", false)
  | _ => ("DuneMaps", "timesRead", "I", false)
def tyX7 : Nat → FieldType := fun k => match k with
  | 0 => .object "DuneMaps$Page"
  | 1 => .object "DuneMaps$Land"
  | 2 => .object "DuneMaps$Land"
  | 3 => .object "DuneMaps$Sand"
  | 4 => .object "DuneMaps$Sand"
  | 5 => .object "DuneMaps$Ordering"
  | 6 => .object "DuneMaps$Footing"
  | 7 => .object "DuneMaps$Dusk"
  | 8 => .boolean
  | 9 => .boolean
  | 10 => .boolean
  | _ => .int
theorem nmX7 : ∀ a, a < 12 → ∀ b, b < 12 → a ≠ b → (TX7 a).2.1 ≠ (TX7 b).2.1 := by decide +kernel
theorem tyX7_ok : ∀ k, k < 12 → parseFieldDescriptor (TX7 k).2.2.1 = some (tyX7 k) := by decide +kernel
abbrev cX7_init : ByteArray := prog_1_method_1_code
def yX7_init : MethodName := ⟨RX7, "<init>", "()V"⟩
abbrev cX7_letter : ByteArray := prog_1_method_2_code
def yX7_letter : MethodName := ⟨RX7, "letter", "(I)I"⟩
abbrev cX7_blank : ByteArray := prog_1_method_3_code
def yX7_blank : MethodName := ⟨RX7, "blank", "()I"⟩
abbrev cX7_fault : ByteArray := prog_1_method_4_code
def yX7_fault : MethodName := ⟨RX7, "fault", "(I)I"⟩
abbrev cX7_dunes : ByteArray := prog_1_method_5_code
def yX7_dunes : MethodName := ⟨RX7, "dunes", "()I"⟩
abbrev cX7_cell : ByteArray := prog_1_method_6_code
def yX7_cell : MethodName := ⟨RX7, "cell", "(II)I"⟩
abbrev cX7_wind : ByteArray := prog_1_method_7_code
def yX7_wind : MethodName := ⟨RX7, "wind", "(Z)I"⟩
abbrev cX7_night : ByteArray := prog_1_method_8_code
def yX7_night : MethodName := ⟨RX7, "night", "()I"⟩
abbrev cX7_walker : ByteArray := prog_1_method_9_code
def yX7_walker : MethodName := ⟨RX7, "walker", "(II)I"⟩
abbrev cX7_about : ByteArray := prog_1_method_10_code
def yX7_about : MethodName := ⟨RX7, "about", "(II)I"⟩
abbrev cX7_as : ByteArray := prog_1_method_11_code
def yX7_as : MethodName := ⟨RX7, "as", "(II)I"⟩
abbrev cX7_step : ByteArray := prog_1_method_12_code
def yX7_step : MethodName := ⟨RX7, "step", "(II)I"⟩
abbrev cX7_map : ByteArray := prog_1_method_13_code
def yX7_map : MethodName := ⟨RX7, "map", "(III)I"⟩
abbrev cX7_go : ByteArray := prog_1_method_14_code
def yX7_go : MethodName := ⟨RX7, "go", "(I)I"⟩
abbrev cX7_order : ByteArray := prog_1_method_15_code
def yX7_order : MethodName := ⟨RX7, "order", "(I)I"⟩
abbrev cX7_feet : ByteArray := prog_1_method_16_code
def yX7_feet : MethodName := ⟨RX7, "feet", "(IIII)I"⟩
abbrev cX7_was : ByteArray := prog_1_method_17_code
def yX7_was : MethodName := ⟨RX7, "was", "()I"⟩
abbrev cX7_who : ByteArray := prog_1_method_18_code
def yX7_who : MethodName := ⟨RX7, "who", "(I)I"⟩
abbrev cX7_moons : ByteArray := prog_1_method_19_code
def yX7_moons : MethodName := ⟨RX7, "moons", "(III)I"⟩
abbrev cX7_image : ByteArray := prog_1_method_20_code
def yX7_image : MethodName := ⟨RX7, "image", "()I"⟩
abbrev cX7_restore : ByteArray := prog_1_method_21_code
def yX7_restore : MethodName := ⟨RX7, "restore", "()I"⟩
abbrev cX7_count : ByteArray := prog_1_method_22_code
def yX7_count : MethodName := ⟨RX7, "count", "(I)I"⟩
abbrev cX7_digest : ByteArray := prog_1_method_23_code
def yX7_digest : MethodName := ⟨RX7, "digest", "()J"⟩
abbrev cX7_withCells : ByteArray := prog_1_method_24_code
def yX7_withCells : MethodName := ⟨RX7, "withCells", "(J)J"⟩
abbrev cX7_withOrder : ByteArray := prog_1_method_25_code
def yX7_withOrder : MethodName := ⟨RX7, "withOrder", "(J)J"⟩
abbrev cX7_with : ByteArray := prog_1_method_26_code
def yX7_with : MethodName := ⟨RX7, "with", "(JI)J"⟩
abbrev cX7_isCell : ByteArray := prog_1_method_27_code
def yX7_isCell : MethodName := ⟨RX7, "isCell", "(I)Z"⟩
abbrev cX7_isKind : ByteArray := prog_1_method_28_code
def yX7_isKind : MethodName := ⟨RX7, "isKind", "(I)Z"⟩
abbrev cX7_isWay : ByteArray := prog_1_method_29_code
def yX7_isWay : MethodName := ⟨RX7, "isWay", "(I)Z"⟩
abbrev cX7_asNumber : ByteArray := prog_1_method_30_code
def yX7_asNumber : MethodName := ⟨RX7, "asNumber", "(Z)I"⟩
abbrev cX7_weightOf : ByteArray := prog_1_method_31_code
def yX7_weightOf : MethodName := ⟨RX7, "weightOf", "(I)I"⟩
abbrev cX7_beside : ByteArray := prog_1_method_32_code
def yX7_beside : MethodName := ⟨RX7, "beside", "(II)I"⟩
abbrev cX7_nextSeed : ByteArray := prog_1_method_33_code
def yX7_nextSeed : MethodName := ⟨RX7, "nextSeed", "(I)I"⟩
abbrev cX7_draw : ByteArray := prog_1_method_34_code
def yX7_draw : MethodName := ⟨RX7, "draw", "(II)I"⟩
def RX8 : String := "DuneMapsModel"
def TX8 : u_T := fun k => match k with
  | 0 => ("DuneMapsModel", "page", "[I", true)
  | 1 => ("DuneMapsModel", "pageMany", "I", false)
  | 2 => ("DuneMapsModel", "isThere", "Z", false)
  | 3 => ("DuneMapsModel", "windOn", "I", false)
  | 4 => ("DuneMapsModel", "nightsNow", "I", false)
  | 5 => ("DuneMapsModel", "dunesRead", "I", false)
  | 6 => ("DuneMapsModel", "heights", "[I", true)
  | 7 => ("DuneMapsModel", "isTold", "Z", false)
  | 8 => ("DuneMapsModel", "were", "[I", true)
  | 9 => ("DuneMapsModel", "walkers", "I", false)
  | 10 => ("DuneMapsModel", "rows", "[I", true)
  | 11 => ("DuneMapsModel", "maps", "[I", true)
  | 12 => ("DuneMapsModel", "then", "[I", true)
  | 13 => ("DuneMapsModel", "who", "[I", true)
  | 14 => ("DuneMapsModel", "whoMany", "I", false)
  | 15 => ("DuneMapsModel", "order", "[I", true)
  | 16 => ("DuneMapsModel", "bestOrder", "[I", true)
  | 17 => ("DuneMapsModel", "seedNow", "I", false)
  | 18 => ("DuneMapsModel", "keptDunes", "I", false)
  | 19 => ("DuneMapsModel", "keptWind", "I", false)
  | 20 => ("DuneMapsModel", "keptNights", "I", false)
  | 21 => ("DuneMapsModel", "keptWalkers", "I", false)
  | 22 => ("DuneMapsModel", "keptHeights", "[I", true)
  | 23 => ("DuneMapsModel", "keptRows", "[I", true)
  | 24 => ("DuneMapsModel", "keptMaps", "[I", true)
  | _ => ("DuneMapsModel", "hash", "J", false)
def tyX8 : Nat → FieldType := fun k => match k with
  | 0 => .array .int
  | 1 => .int
  | 2 => .boolean
  | 3 => .int
  | 4 => .int
  | 5 => .int
  | 6 => .array .int
  | 7 => .boolean
  | 8 => .array .int
  | 9 => .int
  | 10 => .array .int
  | 11 => .array .int
  | 12 => .array .int
  | 13 => .array .int
  | 14 => .int
  | 15 => .array .int
  | 16 => .array .int
  | 17 => .int
  | 18 => .int
  | 19 => .int
  | 20 => .int
  | 21 => .int
  | 22 => .array .int
  | 23 => .array .int
  | 24 => .array .int
  | _ => .long
theorem nmX8 : ∀ a, a < 26 → ∀ b, b < 26 → a ≠ b → (TX8 a).2.1 ≠ (TX8 b).2.1 := by decide +kernel
theorem tyX8_ok : ∀ k, k < 26 → parseFieldDescriptor (TX8 k).2.2.1 = some (tyX8 k) := by decide +kernel
abbrev cX8_init : ByteArray := prog_10_method_1_code
def yX8_init : MethodName := ⟨RX8, "<init>", "()V"⟩
abbrev cX8_in : ByteArray := prog_10_method_2_code
def yX8_in : MethodName := ⟨RX8, "in", "(JJJ)Z"⟩
abbrev cX8_copy : ByteArray := prog_10_method_3_code
def yX8_copy : MethodName := ⟨RX8, "copy", "([I[I)V"⟩
abbrev cX8_letter : ByteArray := prog_10_method_4_code
def yX8_letter : MethodName := ⟨RX8, "letter", "(I)I"⟩
abbrev cX8_blank : ByteArray := prog_10_method_5_code
def yX8_blank : MethodName := ⟨RX8, "blank", "()I"⟩
abbrev cX8_faultOf : ByteArray := prog_10_method_6_code
def yX8_faultOf : MethodName := ⟨RX8, "faultOf", "(I)I"⟩
abbrev cX8_fault : ByteArray := prog_10_method_7_code
def yX8_fault : MethodName := ⟨RX8, "fault", "(I)I"⟩
abbrev cX8_sumOf : ByteArray := prog_10_method_8_code
def yX8_sumOf : MethodName := ⟨RX8, "sumOf", "([I)I"⟩
abbrev cX8_dunes : ByteArray := prog_10_method_9_code
def yX8_dunes : MethodName := ⟨RX8, "dunes", "()I"⟩
abbrev cX8_isCell : ByteArray := prog_10_method_10_code
def yX8_isCell : MethodName := ⟨RX8, "isCell", "(I)Z"⟩
abbrev cX8_shapeOf : ByteArray := prog_10_method_11_code
def yX8_shapeOf : MethodName := ⟨RX8, "shapeOf", "([II)I"⟩
abbrev cX8_leeOf : ByteArray := prog_10_method_12_code
def yX8_leeOf : MethodName := ⟨RX8, "leeOf", "(I)I"⟩
abbrev cX8_luffOf : ByteArray := prog_10_method_13_code
def yX8_luffOf : MethodName := ⟨RX8, "luffOf", "(I)I"⟩
abbrev cX8_walkersAt : ByteArray := prog_10_method_14_code
def yX8_walkersAt : MethodName := ⟨RX8, "walkersAt", "(I)I"⟩
abbrev cX8_tellCell : ByteArray := prog_10_method_15_code
def yX8_tellCell : MethodName := ⟨RX8, "tellCell", "(II)I"⟩
abbrev cX8_cell : ByteArray := prog_10_method_16_code
def yX8_cell : MethodName := ⟨RX8, "cell", "(II)I"⟩
abbrev cX8_wind : ByteArray := prog_10_method_17_code
def yX8_wind : MethodName := ⟨RX8, "wind", "(Z)I"⟩
abbrev cX8_crests : ByteArray := prog_10_method_18_code
def yX8_crests : MethodName := ⟨RX8, "crests", "([I)I"⟩
abbrev cX8_ones : ByteArray := prog_10_method_19_code
def yX8_ones : MethodName := ⟨RX8, "ones", "(I)I"⟩
abbrev cX8_nightOf : ByteArray := prog_10_method_20_code
def yX8_nightOf : MethodName := ⟨RX8, "nightOf", "([I)I"⟩
abbrev cX8_night : ByteArray := prog_10_method_21_code
def yX8_night : MethodName := ⟨RX8, "night", "()I"⟩
abbrev cX8_isWalker : ByteArray := prog_10_method_22_code
def yX8_isWalker : MethodName := ⟨RX8, "isWalker", "(I)Z"⟩
abbrev cX8_weightOf : ByteArray := prog_10_method_23_code
def yX8_weightOf : MethodName := ⟨RX8, "weightOf", "(I)I"⟩
abbrev cX8_treads : ByteArray := prog_10_method_24_code
def yX8_treads : MethodName := ⟨RX8, "treads", "([III)I"⟩
abbrev cX8_stepTo : ByteArray := prog_10_method_25_code
def yX8_stepTo : MethodName := ⟨RX8, "stepTo", "(II)I"⟩
abbrev cX8_walker : ByteArray := prog_10_method_26_code
def yX8_walker : MethodName := ⟨RX8, "walker", "(II)I"⟩
abbrev cX8_hasMap : ByteArray := prog_10_method_27_code
def yX8_hasMap : MethodName := ⟨RX8, "hasMap", "(I)Z"⟩
abbrev cX8_isGood : ByteArray := prog_10_method_28_code
def yX8_isGood : MethodName := ⟨RX8, "isGood", "([II)Z"⟩
abbrev cX8_tell : ByteArray := prog_10_method_29_code
def yX8_tell : MethodName := ⟨RX8, "tell", "(II)I"⟩
abbrev cX8_about : ByteArray := prog_10_method_30_code
def yX8_about : MethodName := ⟨RX8, "about", "(II)I"⟩
abbrev cX8_as : ByteArray := prog_10_method_31_code
def yX8_as : MethodName := ⟨RX8, "as", "(II)I"⟩
abbrev cX8_steps : ByteArray := prog_10_method_32_code
def yX8_steps : MethodName := ⟨RX8, "steps", "(II)I"⟩
abbrev cX8_step : ByteArray := prog_10_method_33_code
def yX8_step : MethodName := ⟨RX8, "step", "(II)I"⟩
abbrev cX8_map : ByteArray := prog_10_method_34_code
def yX8_map : MethodName := ⟨RX8, "map", "(III)I"⟩
abbrev cX8_go : ByteArray := prog_10_method_35_code
def yX8_go : MethodName := ⟨RX8, "go", "(I)I"⟩
abbrev cX8_goes : ByteArray := prog_10_method_36_code
def yX8_goes : MethodName := ⟨RX8, "goes", "(I)V"⟩
abbrev cX8_layWho : ByteArray := prog_10_method_37_code
def yX8_layWho : MethodName := ⟨RX8, "layWho", "()V"⟩
abbrev cX8_isOrder : ByteArray := prog_10_method_38_code
def yX8_isOrder : MethodName := ⟨RX8, "isOrder", "(I)Z"⟩
abbrev cX8_layOrder : ByteArray := prog_10_method_39_code
def yX8_layOrder : MethodName := ⟨RX8, "layOrder", "()I"⟩
abbrev cX8_tellOrder : ByteArray := prog_10_method_40_code
def yX8_tellOrder : MethodName := ⟨RX8, "tellOrder", "(I)I"⟩
abbrev cX8_order : ByteArray := prog_10_method_41_code
def yX8_order : MethodName := ⟨RX8, "order", "(I)I"⟩
abbrev cX8_highBy : ByteArray := prog_10_method_42_code
def yX8_highBy : MethodName := ⟨RX8, "highBy", "(IIII)I"⟩
abbrev cX8_feetOf : ByteArray := prog_10_method_43_code
def yX8_feetOf : MethodName := ⟨RX8, "feetOf", "(IIII)I"⟩
abbrev cX8_feet : ByteArray := prog_10_method_44_code
def yX8_feet : MethodName := ⟨RX8, "feet", "(IIII)I"⟩
abbrev cX8_was : ByteArray := prog_10_method_45_code
def yX8_was : MethodName := ⟨RX8, "was", "()I"⟩
abbrev cX8_isAsNow : ByteArray := prog_10_method_46_code
def yX8_isAsNow : MethodName := ⟨RX8, "isAsNow", "()Z"⟩
abbrev cX8_whoOf : ByteArray := prog_10_method_47_code
def yX8_whoOf : MethodName := ⟨RX8, "whoOf", "(I)I"⟩
abbrev cX8_who : ByteArray := prog_10_method_48_code
def yX8_who : MethodName := ⟨RX8, "who", "(I)I"⟩
abbrev cX8_draw : ByteArray := prog_10_method_49_code
def yX8_draw : MethodName := ⟨RX8, "draw", "(I)I"⟩
abbrev cX8_moons : ByteArray := prog_10_method_50_code
def yX8_moons : MethodName := ⟨RX8, "moons", "(III)I"⟩
abbrev cX8_image : ByteArray := prog_10_method_51_code
def yX8_image : MethodName := ⟨RX8, "image", "()I"⟩
abbrev cX8_restore : ByteArray := prog_10_method_52_code
def yX8_restore : MethodName := ⟨RX8, "restore", "()I"⟩
abbrev cX8_sumBy : ByteArray := prog_10_method_53_code
def yX8_sumBy : MethodName := ⟨RX8, "sumBy", "(I)I"⟩
abbrev cX8_countOf : ByteArray := prog_10_method_54_code
def yX8_countOf : MethodName := ⟨RX8, "countOf", "(I)I"⟩
abbrev cX8_count : ByteArray := prog_10_method_55_code
def yX8_count : MethodName := ⟨RX8, "count", "(I)I"⟩
abbrev cX8_say : ByteArray := prog_10_method_56_code
def yX8_say : MethodName := ⟨RX8, "say", "(J)V"⟩
abbrev cX8_sayDunes : ByteArray := prog_10_method_57_code
def yX8_sayDunes : MethodName := ⟨RX8, "sayDunes", "()V"⟩
abbrev cX8_digest : ByteArray := prog_10_method_58_code
def yX8_digest : MethodName := ⟨RX8, "digest", "()J"⟩
def RJ6 : String := "java/lang/Integer"
def TJ6 : u_T := fun k => match k with
  | _ => ("", "", "", false)
def tyJ6 : Nat → FieldType := fun k => match k with
  | _ => .int
theorem nmJ6 : ∀ a, a < 0 → ∀ b, b < 0 → a ≠ b → (TJ6 a).2.1 ≠ (TJ6 b).2.1 := by decide +kernel
theorem tyJ6_ok : ∀ k, k < 0 → parseFieldDescriptor (TJ6 k).2.2.1 = some (tyJ6 k) := by decide +kernel
abbrev cJ6_bitCount_0f7a4 : ByteArray := prog_11_method_49_code
def yJ6_bitCount_0f7a4 : MethodName := ⟨RJ6, "bitCount", "(I)I"⟩
def RJ9 : String := "java/lang/Math"
def TJ9 : u_T := fun k => match k with
  | _ => ("", "", "", false)
def tyJ9 : Nat → FieldType := fun k => match k with
  | _ => .int
theorem nmJ9 : ∀ a, a < 0 → ∀ b, b < 0 → a ≠ b → (TJ9 a).2.1 ≠ (TJ9 b).2.1 := by decide +kernel
theorem tyJ9_ok : ∀ k, k < 0 → parseFieldDescriptor (TJ9 k).2.2.1 = some (tyJ9 k) := by decide +kernel
abbrev cJ9_max_7cf53 : ByteArray := prog_12_method_65_code
def yJ9_max_7cf53 : MethodName := ⟨RJ9, "max", "(II)I"⟩
abbrev cJ9_min_7cf53 : ByteArray := prog_12_method_69_code
def yJ9_min_7cf53 : MethodName := ⟨RJ9, "min", "(II)I"⟩
def RL : String := "DuneMapsLaw"
abbrev cL_law : ByteArray := code
def yL_law : MethodName := ⟨RL, "law", "([I)Z"⟩
abbrev vwCl : List vw_C := [(RX0, TX0, 2), (RX1, TX1, 7), (RX2, TX2, 4), (RX3, TX3, 5), (RX4, TX4, 2), (RX5, TX5, 2), (RX6, TX6, 6), (RX7, TX7, 12), (RX8, TX8, 26)]
end
section
/-! A pure machine beside the machine: a heap of cells by their places, locals, a stack; an instruction is a predicate transformer. -/
abbrev pC : Type := (List Int32) ⊕ ((Nat × List (Option Nat)) ⊕ (Nat × List Value))
abbrev pH : Type := List pC
abbrev pL : Type := List (Option Value)
abbrev pK : Type := Nat → pL → List Value → pH → Prop
abbrev pR : Type := Option Value → pH → Prop
abbrev pF : Type := Nat → List Value → pH → Option Value → pH → Prop
abbrev pO : Type := pF → pR → pK → pL → List Value → pH → Prop
def csz : pC → Nat
  | .inl xs => xs.length
  | .inr (.inl q) => q.2.length
  | .inr (.inr q) => q.2.length
def sz (h : pH) : Nat := (h.map csz).sum
theorem sz_app (h k : pH) : sz (h ++ k) = sz h + sz k := by simp [sz]
theorem sz_set {h : pH} {k : Nat} {c c' : pC} (hk : h[k]? = some c) (hc : csz c' = csz c) : sz (h.set k c') = sz h := by
  induction h generalizing k with
  | nil => simp at hk
  | cons a t ih =>
    cases k with
    | zero =>
      simp at hk
      subst hk
      simp [sz, hc]
    | succ k =>
      simp at hk
      have := ih hk
      simp [sz] at this ⊢
      omega
def kil : Option Value → Option Value
  | some (.long _) => none
  | some (.double _) => none
  | v => v
def st1 (L : pL) (i : Nat) (v : Value) : pL := match i with
  | 0 => L.set 0 (some v)
  | j + 1 => (L.set j (kil (L.getD j none))).set (j + 1) (some v)
def st2 (L : pL) (i : Nat) (v : Value) : pL := (st1 L i v).set (i + 1) none
def isR : Value → Bool
  | .ref _ => true
  | .null => true
  | .float _ => true
  | _ => false
def sOK (S : List Value) : Prop := (S.map fun v => v.category).sum ≤ 8
theorem sOK0 : sOK [] = True := by simp [sOK]
theorem sOK1 (a : Value) : sOK [a] = True := by cases a <;> simp [sOK, Value.category]
theorem sOK2 (a b : Value) : sOK [a, b] = True := by cases a <;> cases b <;> simp [sOK, Value.category]
theorem sOK3 (a b c : Value) : sOK [a, b, c] = True := by cases a <;> cases b <;> cases c <;> simp [sOK, Value.category]
theorem sOK4 (a b c d : Value) : sOK [a, b, c, d] = True := by
  have h : ∀ v : Value, v.category ≤ 2 := fun v => by cases v <;> simp [Value.category]
  have := h a; have := h b; have := h c; have := h d
  simp [sOK]; omega
def gf (h : pH) (k ci j : Nat) : Option Value := match h[k]? with
  | some (.inr (.inr q)) => if q.1 = ci then q.2[j]? else none
  | _ => none
def pfh (h : pH) (k ci j : Nat) (v : Value) : Option pH := match h[k]? with
  | some (.inr (.inr q)) => if q.1 = ci ∧ j < q.2.length then some (h.set k (.inr (.inr (ci, q.2.set j v)))) else none
  | _ => none
def ild (h : pH) (k : Nat) (i : Int32) : Option Int32 := match h[k]? with
  | some (.inl xs) => if i < 0 then none else xs[i.toNatClampNeg]?
  | _ => none
def ist (h : pH) (k : Nat) (i x : Int32) : Option pH := match h[k]? with
  | some (.inl xs) => if i < 0 ∨ xs.length ≤ i.toNatClampNeg then none else some (h.set k (.inl (xs.set i.toNatClampNeg x)))
  | _ => none
def vq : Option Nat → Value
  | none => .null
  | some k => .ref k
def ald (h : pH) (k : Nat) (i : Int32) : Option Value := match h[k]? with
  | some (.inr (.inl q)) => if i < 0 ∨ 2 ≤ q.1 then none else q.2[i.toNatClampNeg]?.map vq
  | _ => none
def asth (h : pH) (k : Nat) (i : Int32) (v t ci : Nat) : Option pH := match h[k]?, h[v]? with
  | some (.inr (.inl q)), some (.inr (.inr o)) => if q.1 = t ∧ o.1 = ci ∧ ¬ (i < 0 ∨ q.2.length ≤ i.toNatClampNeg) then some (h.set k (.inr (.inl (t, q.2.set i.toNatClampNeg (some v))))) else none
  | _, _ => none
def alen (h : pH) (k : Nat) : Option Nat := match h[k]? with
  | some (.inl xs) => some xs.length
  | some (.inr (.inl q)) => if q.1 < 2 then some q.2.length else none
  | _ => none
def rcv (h : pH) (ci : Nat) (as : List Value) : Prop := ∃ (k : Nat) (rest : List Value) (fs : List Value), as = .ref k :: rest ∧ h[k]? = some (.inr (.inr (ci, fs)))
def wts (j : Nat) : Int32 := ([1, 2, 0, 1, 4] : List Int32).getD j 0
/-! the instructions -/
def o_const (v : Value) (nx : Nat) : pO := fun _ _ K L S h => K nx L (v :: S) h
def o_il (i nx : Nat) : pO := fun _ _ K L S h => ∃ x, L[i]? = some (some (.int x)) ∧ K nx L (.int x :: S) h
def o_ll (i nx : Nat) : pO := fun _ _ K L S h => ∃ x, L[i]? = some (some (.long x)) ∧ K nx L (.long x :: S) h
def o_al (i nx : Nat) : pO := fun _ _ K L S h => ∃ v, L[i]? = some (some v) ∧ isR v = true ∧ K nx L (v :: S) h
def o_is (i nx : Nat) : pO := fun _ _ K L S h => ∃ x S', S = .int x :: S' ∧ i < L.length ∧ K nx (st1 L i (.int x)) S' h
def o_as (i nx : Nat) : pO := fun _ _ K L S h => ∃ v S', S = v :: S' ∧ isR v = true ∧ i < L.length ∧ K nx (st1 L i v) S' h
def o_ls (i nx : Nat) : pO := fun _ _ K L S h => ∃ x S', S = .long x :: S' ∧ i + 1 < L.length ∧ K nx (st2 L i (.long x)) S' h
def o_inc (i : Nat) (n : Int32) (nx : Nat) : pO := fun _ _ K L S h => ∃ x, L[i]? = some (some (.int x)) ∧ K nx (L.set i (some (.int (x + n)))) S h
def o_bin (f : Int32 → Int32 → Int32) (nx : Nat) : pO := fun _ _ K L S h => ∃ x y S', S = .int y :: .int x :: S' ∧ K nx L (.int (f x y) :: S') h
def o_binz (f : Int32 → Int32 → Int32) (nx : Nat) : pO := fun _ _ K L S h => ∃ x y S', S = .int y :: .int x :: S' ∧ ¬ y = 0 ∧ K nx L (.int (f x y) :: S') h
def o_lbin (f : Int64 → Int64 → Int64) (nx : Nat) : pO := fun _ _ K L S h => ∃ x y S', S = .long y :: .long x :: S' ∧ K nx L (.long (f x y) :: S') h
def o_lcmp (nx : Nat) : pO := fun _ _ K L S h => ∃ x y S', S = .long y :: .long x :: S' ∧ K nx L (.int (lg_cmp x y) :: S') h
def o_i2l (nx : Nat) : pO := fun _ _ K L S h => ∃ x S', S = .int x :: S' ∧ K nx L (.long x.toInt64 :: S') h
def o_l2i (nx : Nat) : pO := fun _ _ K L S h => ∃ x S', S = .long x :: S' ∧ K nx L (.int x.toInt32 :: S') h
def o_dup (nx : Nat) : pO := fun _ _ K L S h => ∃ v S', S = v :: S' ∧ v.category = 1 ∧ K nx L (v :: v :: S') h
def o_dup2 (nx : Nat) : pO := fun _ _ K L S h => ∃ v w S', S = v :: w :: S' ∧ v.category = 1 ∧ w.category = 1 ∧ K nx L (v :: w :: v :: w :: S') h
def o_pop (nx : Nat) : pO := fun _ _ K L S h => ∃ v S', S = v :: S' ∧ v.category = 1 ∧ K nx L S' h
def o_goto (tg : Nat) : pO := fun _ _ K L S h => K tg L S h
def o_if (c : Int32 → Prop) (tg nx : Nat) : pO := fun _ _ K L S h => ∃ x S', S = .int x :: S' ∧ (c x → K tg L S' h) ∧ (¬ c x → K nx L S' h)
def o_cmp (c : Int32 → Int32 → Prop) (tg nx : Nat) : pO := fun _ _ K L S h => ∃ x y S', S = .int y :: .int x :: S' ∧ (c x y → K tg L S' h) ∧ (¬ c x y → K nx L S' h)
def o_nul (tg nx : Nat) : pO := fun _ _ K L S h => (∃ S', S = .null :: S' ∧ K tg L S' h) ∨ (∃ k S', S = .ref k :: S' ∧ K nx L S' h)
def o_sw (ps : List (Int32 × Nat)) (df : Nat) : pO := fun _ _ K L S h => ∃ x S', S = .int x :: S' ∧ (∀ q ∈ ps, x = q.1 → K q.2 L S' h) ∧ ((∀ q ∈ ps, ¬ x = q.1) → K df L S' h)
def o_gf (ci j nx : Nat) : pO := fun _ _ K L S h => ∃ k S' v, S = .ref k :: S' ∧ gf h k ci j = some v ∧ K nx L (v :: S') h
def o_pf (ok : Value → Prop) (ci j nx : Nat) : pO := fun _ _ K L S h => ∃ v k S' h', S = v :: .ref k :: S' ∧ ok v ∧ pfh h k ci j v = some h' ∧ K nx L S' h'
def o_ia (nx : Nat) : pO := fun _ _ K L S h => ∃ i k S' x, S = .int i :: .ref k :: S' ∧ ild h k i = some x ∧ K nx L (.int x :: S') h
def o_ist (nx : Nat) : pO := fun _ _ K L S h => ∃ x i k S' h', S = .int x :: .int i :: .ref k :: S' ∧ ist h k i x = some h' ∧ K nx L S' h'
def o_aa (nx : Nat) : pO := fun _ _ K L S h => ∃ i k S' v, S = .int i :: .ref k :: S' ∧ ald h k i = some v ∧ K nx L (v :: S') h
def o_ast (t ci nx : Nat) : pO := fun _ _ K L S h => ∃ v i k S' h', S = .ref v :: .int i :: .ref k :: S' ∧ asth h k i v t ci = some h' ∧ K nx L S' h'
def o_len (nx : Nat) : pO := fun _ _ K L S h => ∃ k S' n, S = .ref k :: S' ∧ alen h k = some n ∧ K nx L (.int (Int32.ofNat n) :: S') h
def o_iaT (nx : Nat) : pO := fun _ _ K L S h => ∃ i S', S = .int i :: .float 0 :: S' ∧ vp_in i 5 ∧ K nx L (.int (wts i.toNatClampNeg) :: S') h
def o_lenT (nx : Nat) : pO := fun _ _ K L S h => ∃ S', S = .float 0 :: S' ∧ K nx L (.int 5 :: S') h
def o_iaS (n : Nat) (xs : Nat → Int32) (nx : Nat) : pO := fun _ _ K L S h => ∃ i S', S = .int i :: .float 1 :: S' ∧ vp_in i n ∧ K nx L (.int (xs i.toNatClampNeg) :: S') h
def o_lenS (n : Nat) (nx : Nat) : pO := fun _ _ K L S h => ∃ S', S = .float 1 :: S' ∧ K nx L (.int (Int32.ofNat n) :: S') h
def o_new (ci : Nat) (fs : List Value) (nx : Nat) : pO := fun _ _ K L S h => K nx L (.ref h.length :: S) (h ++ [.inr (.inr (ci, fs))])
def o_newa (nx : Nat) : pO := fun _ _ K L S h => ∃ n S', S = .int n :: S' ∧ ¬ n < 0 ∧ n.toNatClampNeg ≤ 1000 ∧ K nx L (.ref h.length :: S') (h ++ [.inl (List.replicate n.toNatClampNeg 0)])
def o_anew (t nx : Nat) : pO := fun _ _ K L S h => ∃ n S', S = .int n :: S' ∧ ¬ n < 0 ∧ n.toNatClampNeg ≤ 1000 ∧ K nx L (.ref h.length :: S') (h ++ [.inr (.inl (t, List.replicate n.toNatClampNeg none))])
def o_obj (nx : Nat) : pO := fun _ _ K L S h => ∃ k S', S = .ref k :: S' ∧ sOK S' ∧ K nx L S' h
def o_call (rc : pH → List Value → Prop) (y n nx : Nat) : pO := fun F _ K L S h => n ≤ S.length ∧ sOK (S.drop n) ∧ rc h (S.take n).reverse ∧ ∃ r h1, F y (S.take n).reverse h r h1 ∧ K nx L (r.toList ++ S.drop n) h1
def o_iret : pO := fun _ R _ _ S h => ∃ x, S = [.int x] ∧ R (some (.int x)) h
def o_zret : pO := fun _ R _ _ S h => ∃ x, S = [.int x] ∧ (x = 0 ∨ x = 1) ∧ R (some (.int x)) h
def o_lret : pO := fun _ R _ _ S h => ∃ x, S = [.long x] ∧ R (some (.long x)) h
def o_aret : pO := fun _ R _ _ S h => ∃ v, S = [v] ∧ (v = .null ∨ ∃ k, v = .ref k) ∧ R (some v) h
def o_vret : pO := fun _ R _ _ S h => S = [] ∧ R none h
def o_fail : pO := fun _ _ _ _ _ _ => False
/-! a run: the least predicate that the instructions keep -/
def rRun (T : Nat → pO) (F : pF) (R : pR) (pc : Nat) (L : pL) (S : List Value) (h : pH) : Prop := ∀ P : pK, (∀ pc L S h, T pc F R P L S h → P pc L S h) → P pc L S h
def ent : List Value → pL
  | [] => []
  | v :: vs => if v.category = 2 then some v :: none :: ent vs else some v :: ent vs
def entL (n : Nat) (vs : List Value) : pL := ent vs ++ List.replicate (n - (ent vs).length) none
def rCall (T : Nat → Nat → pO) (ml : Nat → Nat) : Nat → pF
  | 0 => fun _ _ _ _ _ => False
  | d + 1 => fun y as h r h' => (ent as).length ≤ ml y ∧ rRun (T y) (rCall T ml d) (fun r1 h1 => r1 = r ∧ h1 = h') 0 (entL (ml y) as) [] h
def moO (o : pO) : Prop := ∀ (F : pF) (R : pR) (P P' : pK) (L : pL) (S : List Value) (h : pH), (∀ pc L S h, P pc L S h → P' pc L S h) → o F R P L S h → o F R P' L S h
theorem run_eq {T : Nat → pO} (hT : ∀ pc, moO (T pc)) (F : pF) (R : pR) (pc : Nat) (L : pL) (S : List Value) (h : pH) : rRun T F R pc L S h = T pc F R (rRun T F R) L S h := by
  have fold : ∀ pc L S h, T pc F R (rRun T F R) L S h → rRun T F R pc L S h := by
    intro pc L S h hh P hP
    exact hP pc L S h (hT pc F R _ P L S h (fun pc L S h hr => hr P hP) hh)
  refine propext ⟨fun hr => ?_, fold pc L S h⟩
  exact hr (fun pc L S h => T pc F R (rRun T F R) L S h) (fun pc L S h hh => hT pc F R _ _ L S h fold hh)
def leO (o : pO) : Prop := ∀ (F : pF) (R : pR) (N Z : Nat), (∀ y as h r h1, F y as h r h1 → h.length ≤ h1.length ∧ sz h ≤ sz h1) → (∀ r h, R r h → h.length ≤ N ∧ sz h ≤ Z) → ∀ (L : pL) (S : List Value) (h : pH), o F R (fun _ _ _ h => h.length ≤ N ∧ sz h ≤ Z) L S h → h.length ≤ N ∧ sz h ≤ Z
theorem m_const (v : Value) (nx : Nat) : moO (o_const v nx) ∧ leO (o_const v nx) := ⟨fun _ _ _ _ _ _ _ hP h => hP _ _ _ _ h, fun _ _ _ _ _ _ _ _ _ h => h⟩
theorem m_il (i nx : Nat) : moO (o_il i nx) ∧ leO (o_il i nx) := ⟨fun _ _ _ _ _ _ _ hP ⟨x, a, h⟩ => ⟨x, a, hP _ _ _ _ h⟩, fun _ _ _ _ _ _ _ _ _ ⟨_, _, h⟩ => h⟩
theorem m_ll (i nx : Nat) : moO (o_ll i nx) ∧ leO (o_ll i nx) := ⟨fun _ _ _ _ _ _ _ hP ⟨x, a, h⟩ => ⟨x, a, hP _ _ _ _ h⟩, fun _ _ _ _ _ _ _ _ _ ⟨_, _, h⟩ => h⟩
theorem m_al (i nx : Nat) : moO (o_al i nx) ∧ leO (o_al i nx) := ⟨fun _ _ _ _ _ _ _ hP ⟨x, a, b, h⟩ => ⟨x, a, b, hP _ _ _ _ h⟩, fun _ _ _ _ _ _ _ _ _ ⟨_, _, _, h⟩ => h⟩
theorem m_is (i nx : Nat) : moO (o_is i nx) ∧ leO (o_is i nx) := ⟨fun _ _ _ _ _ _ _ hP ⟨x, s, a, b, h⟩ => ⟨x, s, a, b, hP _ _ _ _ h⟩, fun _ _ _ _ _ _ _ _ _ ⟨_, _, _, _, h⟩ => h⟩
theorem m_as (i nx : Nat) : moO (o_as i nx) ∧ leO (o_as i nx) := ⟨fun _ _ _ _ _ _ _ hP ⟨x, s, a, b, c, h⟩ => ⟨x, s, a, b, c, hP _ _ _ _ h⟩, fun _ _ _ _ _ _ _ _ _ ⟨_, _, _, _, _, h⟩ => h⟩
theorem m_ls (i nx : Nat) : moO (o_ls i nx) ∧ leO (o_ls i nx) := ⟨fun _ _ _ _ _ _ _ hP ⟨x, s, a, b, h⟩ => ⟨x, s, a, b, hP _ _ _ _ h⟩, fun _ _ _ _ _ _ _ _ _ ⟨_, _, _, _, h⟩ => h⟩
theorem m_inc (i : Nat) (n : Int32) (nx : Nat) : moO (o_inc i n nx) ∧ leO (o_inc i n nx) := ⟨fun _ _ _ _ _ _ _ hP ⟨x, a, h⟩ => ⟨x, a, hP _ _ _ _ h⟩, fun _ _ _ _ _ _ _ _ _ ⟨_, _, h⟩ => h⟩
theorem m_bin (f : Int32 → Int32 → Int32) (nx : Nat) : moO (o_bin f nx) ∧ leO (o_bin f nx) := ⟨fun _ _ _ _ _ _ _ hP ⟨x, y, s, a, h⟩ => ⟨x, y, s, a, hP _ _ _ _ h⟩, fun _ _ _ _ _ _ _ _ _ ⟨_, _, _, _, h⟩ => h⟩
theorem m_binz (f : Int32 → Int32 → Int32) (nx : Nat) : moO (o_binz f nx) ∧ leO (o_binz f nx) := ⟨fun _ _ _ _ _ _ _ hP ⟨x, y, s, a, b, h⟩ => ⟨x, y, s, a, b, hP _ _ _ _ h⟩, fun _ _ _ _ _ _ _ _ _ ⟨_, _, _, _, _, h⟩ => h⟩
theorem m_lbin (f : Int64 → Int64 → Int64) (nx : Nat) : moO (o_lbin f nx) ∧ leO (o_lbin f nx) := ⟨fun _ _ _ _ _ _ _ hP ⟨x, y, s, a, h⟩ => ⟨x, y, s, a, hP _ _ _ _ h⟩, fun _ _ _ _ _ _ _ _ _ ⟨_, _, _, _, h⟩ => h⟩
theorem m_lcmp (nx : Nat) : moO (o_lcmp nx) ∧ leO (o_lcmp nx) := ⟨fun _ _ _ _ _ _ _ hP ⟨x, y, s, a, h⟩ => ⟨x, y, s, a, hP _ _ _ _ h⟩, fun _ _ _ _ _ _ _ _ _ ⟨_, _, _, _, h⟩ => h⟩
theorem m_i2l (nx : Nat) : moO (o_i2l nx) ∧ leO (o_i2l nx) := ⟨fun _ _ _ _ _ _ _ hP ⟨x, s, a, h⟩ => ⟨x, s, a, hP _ _ _ _ h⟩, fun _ _ _ _ _ _ _ _ _ ⟨_, _, _, h⟩ => h⟩
theorem m_l2i (nx : Nat) : moO (o_l2i nx) ∧ leO (o_l2i nx) := ⟨fun _ _ _ _ _ _ _ hP ⟨x, s, a, h⟩ => ⟨x, s, a, hP _ _ _ _ h⟩, fun _ _ _ _ _ _ _ _ _ ⟨_, _, _, h⟩ => h⟩
theorem m_dup (nx : Nat) : moO (o_dup nx) ∧ leO (o_dup nx) := ⟨fun _ _ _ _ _ _ _ hP ⟨x, s, a, b, h⟩ => ⟨x, s, a, b, hP _ _ _ _ h⟩, fun _ _ _ _ _ _ _ _ _ ⟨_, _, _, _, h⟩ => h⟩
theorem m_dup2 (nx : Nat) : moO (o_dup2 nx) ∧ leO (o_dup2 nx) := ⟨fun _ _ _ _ _ _ _ hP ⟨x, y, s, a, b, c, h⟩ => ⟨x, y, s, a, b, c, hP _ _ _ _ h⟩, fun _ _ _ _ _ _ _ _ _ ⟨_, _, _, _, _, _, h⟩ => h⟩
theorem m_pop (nx : Nat) : moO (o_pop nx) ∧ leO (o_pop nx) := ⟨fun _ _ _ _ _ _ _ hP ⟨x, s, a, b, h⟩ => ⟨x, s, a, b, hP _ _ _ _ h⟩, fun _ _ _ _ _ _ _ _ _ ⟨_, _, _, _, h⟩ => h⟩
theorem m_goto (tg : Nat) : moO (o_goto tg) ∧ leO (o_goto tg) := ⟨fun _ _ _ _ _ _ _ hP h => hP _ _ _ _ h, fun _ _ _ _ _ _ _ _ _ h => h⟩
theorem m_if (c : Int32 → Prop) (tg nx : Nat) : moO (o_if c tg nx) ∧ leO (o_if c tg nx) := ⟨fun _ _ _ _ _ _ _ hP ⟨x, s, a, b, d⟩ => ⟨x, s, a, fun q => hP _ _ _ _ (b q), fun q => hP _ _ _ _ (d q)⟩, fun _ _ _ _ _ _ _ _ _ ⟨x, _, _, b, d⟩ => (Classical.em (c x)).elim b d⟩
theorem m_cmp (c : Int32 → Int32 → Prop) (tg nx : Nat) : moO (o_cmp c tg nx) ∧ leO (o_cmp c tg nx) := ⟨fun _ _ _ _ _ _ _ hP ⟨x, y, s, a, b, d⟩ => ⟨x, y, s, a, fun q => hP _ _ _ _ (b q), fun q => hP _ _ _ _ (d q)⟩, fun _ _ _ _ _ _ _ _ _ ⟨x, y, _, _, b, d⟩ => (Classical.em (c x y)).elim b d⟩
theorem m_nul (tg nx : Nat) : moO (o_nul tg nx) ∧ leO (o_nul tg nx) := ⟨fun _ _ _ _ _ _ _ hP q => q.elim (fun ⟨s, a, b⟩ => Or.inl ⟨s, a, hP _ _ _ _ b⟩) (fun ⟨k, s, a, b⟩ => Or.inr ⟨k, s, a, hP _ _ _ _ b⟩), fun _ _ _ _ _ _ _ _ _ q => q.elim (fun ⟨_, _, b⟩ => b) (fun ⟨_, _, _, b⟩ => b)⟩
theorem m_sw (ps : List (Int32 × Nat)) (df : Nat) : moO (o_sw ps df) ∧ leO (o_sw ps df) := ⟨fun _ _ _ _ _ _ _ hP ⟨x, s, a, b, d⟩ => ⟨x, s, a, fun q hq e => hP _ _ _ _ (b q hq e), fun q => hP _ _ _ _ (d q)⟩, fun _ _ _ _ _ _ _ _ _ ⟨x, _, _, b, d⟩ => (Classical.em (∃ q ∈ ps, x = q.1)).elim (fun ⟨q, hq, e⟩ => b q hq e) (fun z => d (fun q hq e => z ⟨q, hq, e⟩))⟩
theorem m_gf (ci j nx : Nat) : moO (o_gf ci j nx) ∧ leO (o_gf ci j nx) := ⟨fun _ _ _ _ _ _ _ hP ⟨x, s, v, a, b, h⟩ => ⟨x, s, v, a, b, hP _ _ _ _ h⟩, fun _ _ _ _ _ _ _ _ _ ⟨_, _, _, _, _, h⟩ => h⟩
theorem pfh_some {h h' : pH} {k ci j : Nat} {v : Value} (e : pfh h k ci j v = some h') : ∃ fs, h[k]? = some (.inr (.inr (ci, fs))) ∧ j < fs.length ∧ h' = h.set k (.inr (.inr (ci, fs.set j v))) := by
  unfold pfh at e
  split at e
  · next q hq =>
    split at e
    · next hc =>
      obtain ⟨c0, fs⟩ := q
      obtain ⟨rfl, hj⟩ := hc
      exact ⟨fs, hq, hj, (Option.some.inj e).symm⟩
    · cases e
  · cases e
theorem gf_some {h : pH} {k ci j : Nat} {v : Value} (e : gf h k ci j = some v) : ∃ fs, h[k]? = some (.inr (.inr (ci, fs))) ∧ fs[j]? = some v := by
  unfold gf at e
  split at e
  · next q hq =>
    split at e
    · next hc =>
      obtain ⟨c0, fs⟩ := q
      subst hc
      exact ⟨fs, hq, e⟩
    · cases e
  · cases e
theorem ild_some {h : pH} {k : Nat} {i x : Int32} (e : ild h k i = some x) : ∃ xs, h[k]? = some (.inl xs) ∧ vp_in i xs.length ∧ xs.getD i.toNatClampNeg 0 = x := by
  unfold ild at e
  split at e
  · next xs hq =>
    split at e
    · cases e
    · next hc =>
      obtain ⟨h1, h2⟩ := List.getElem?_eq_some_iff.mp e
      exact ⟨xs, hq, fun z => z.elim hc (fun z => by omega), by simp [List.getD, e]⟩
  · cases e
theorem ist_some {h h' : pH} {k : Nat} {i x : Int32} (e : ist h k i x = some h') : ∃ xs, h[k]? = some (.inl xs) ∧ vp_in i xs.length ∧ h' = h.set k (.inl (xs.set i.toNatClampNeg x)) := by
  unfold ist at e
  split at e
  · next xs hq =>
    split at e
    · cases e
    · next hc => exact ⟨xs, hq, hc, (Option.some.inj e).symm⟩
  · cases e
theorem ald_some {h : pH} {k : Nat} {i : Int32} {v : Value} (e : ald h k i = some v) : ∃ t rs r, h[k]? = some (.inr (.inl (t, rs))) ∧ t < 2 ∧ vp_in i rs.length ∧ rs[i.toNatClampNeg]? = some r ∧ vq r = v := by
  unfold ald at e
  split at e
  · next q hq =>
    split at e
    · cases e
    · next hc =>
      obtain ⟨t, rs⟩ := q
      obtain ⟨r, h1, h2⟩ := Option.map_eq_some_iff.mp e
      have h3 := (List.getElem?_eq_some_iff.mp h1).1
      exact ⟨t, rs, r, hq, by dsimp only at hc; omega, fun z => z.elim (fun z => hc (Or.inl z)) (fun z => by dsimp only at h3; omega), h1, h2⟩
  · cases e
theorem asth_some {h h' : pH} {k : Nat} {i : Int32} {v t ci : Nat} (e : asth h k i v t ci = some h') : ∃ rs fs, h[k]? = some (.inr (.inl (t, rs))) ∧ h[v]? = some (.inr (.inr (ci, fs))) ∧ vp_in i rs.length ∧ h' = h.set k (.inr (.inl (t, rs.set i.toNatClampNeg (some v)))) := by
  unfold asth at e
  split at e
  · next q o hq ho =>
    split at e
    · next hc =>
      obtain ⟨t, rs⟩ := q
      obtain ⟨ci, fs⟩ := o
      obtain ⟨rfl, rfl, hj⟩ := hc
      exact ⟨rs, fs, hq, ho, hj, (Option.some.inj e).symm⟩
    · cases e
  · cases e
theorem alen_some {h : pH} {k n : Nat} (e : alen h k = some n) : (∃ xs, h[k]? = some (.inl xs) ∧ n = xs.length) ∨ (∃ t rs, h[k]? = some (.inr (.inl (t, rs))) ∧ t < 2 ∧ n = rs.length) := by
  unfold alen at e
  split at e
  · next xs hq => exact Or.inl ⟨xs, hq, (Option.some.inj e).symm⟩
  · next q hq =>
    split at e
    · next hc => exact Or.inr ⟨q.1, q.2, hq, hc, (Option.some.inj e).symm⟩
    · cases e
  · cases e
theorem m_pf (ok : Value → Prop) (ci j nx : Nat) : moO (o_pf ok ci j nx) ∧ leO (o_pf ok ci j nx) := by
  refine ⟨fun _ _ _ _ _ _ _ hP ⟨x, s, v, h', a, b, c, h⟩ => ⟨x, s, v, h', a, b, c, hP _ _ _ _ h⟩, fun _ _ _ _ _ _ _ _ _ ⟨_, _, _, _, _, _, c, h⟩ => ?_⟩
  obtain ⟨fs, h1, -, rfl⟩ := pfh_some c
  try dsimp only at h
  rw [List.length_set, sz_set h1 (by simp [csz])] at h
  exact h
theorem m_ia (nx : Nat) : moO (o_ia nx) ∧ leO (o_ia nx) := ⟨fun _ _ _ _ _ _ _ hP ⟨x, s, v, z, a, b, h⟩ => ⟨x, s, v, z, a, b, hP _ _ _ _ h⟩, fun _ _ _ _ _ _ _ _ _ ⟨_, _, _, _, _, _, h⟩ => h⟩
theorem m_ist (nx : Nat) : moO (o_ist nx) ∧ leO (o_ist nx) := by
  refine ⟨fun _ _ _ _ _ _ _ hP ⟨x, i, k, s, h', a, c, h⟩ => ⟨x, i, k, s, h', a, c, hP _ _ _ _ h⟩, fun _ _ _ _ _ _ _ _ _ ⟨_, _, _, _, _, _, c, h⟩ => ?_⟩
  obtain ⟨xs, h1, -, rfl⟩ := ist_some c
  try dsimp only at h
  rw [List.length_set, sz_set h1 (by simp [csz])] at h
  exact h
theorem m_aa (nx : Nat) : moO (o_aa nx) ∧ leO (o_aa nx) := ⟨fun _ _ _ _ _ _ _ hP ⟨x, s, v, z, a, b, h⟩ => ⟨x, s, v, z, a, b, hP _ _ _ _ h⟩, fun _ _ _ _ _ _ _ _ _ ⟨_, _, _, _, _, _, h⟩ => h⟩
theorem m_ast (t ci nx : Nat) : moO (o_ast t ci nx) ∧ leO (o_ast t ci nx) := by
  refine ⟨fun _ _ _ _ _ _ _ hP ⟨x, i, k, s, h', a, c, h⟩ => ⟨x, i, k, s, h', a, c, hP _ _ _ _ h⟩, fun _ _ _ _ _ _ _ _ _ ⟨_, _, _, _, _, _, c, h⟩ => ?_⟩
  obtain ⟨rs, fs, h1, -, -, rfl⟩ := asth_some c
  try dsimp only at h
  rw [List.length_set, sz_set h1 (by simp [csz])] at h
  exact h
theorem m_len (nx : Nat) : moO (o_len nx) ∧ leO (o_len nx) := ⟨fun _ _ _ _ _ _ _ hP ⟨x, s, v, a, b, h⟩ => ⟨x, s, v, a, b, hP _ _ _ _ h⟩, fun _ _ _ _ _ _ _ _ _ ⟨_, _, _, _, _, h⟩ => h⟩
theorem m_iaT (nx : Nat) : moO (o_iaT nx) ∧ leO (o_iaT nx) := ⟨fun _ _ _ _ _ _ _ hP ⟨x, s, a, b, h⟩ => ⟨x, s, a, b, hP _ _ _ _ h⟩, fun _ _ _ _ _ _ _ _ _ ⟨_, _, _, _, h⟩ => h⟩
theorem m_lenT (nx : Nat) : moO (o_lenT nx) ∧ leO (o_lenT nx) := ⟨fun _ _ _ _ _ _ _ hP ⟨s, a, h⟩ => ⟨s, a, hP _ _ _ _ h⟩, fun _ _ _ _ _ _ _ _ _ ⟨_, _, h⟩ => h⟩
theorem m_iaS (n : Nat) (xs : Nat → Int32) (nx : Nat) : moO (o_iaS n xs nx) ∧ leO (o_iaS n xs nx) := ⟨fun _ _ _ _ _ _ _ hP ⟨x, s, a, b, h⟩ => ⟨x, s, a, b, hP _ _ _ _ h⟩, fun _ _ _ _ _ _ _ _ _ ⟨_, _, _, _, h⟩ => h⟩
theorem m_lenS (n nx : Nat) : moO (o_lenS n nx) ∧ leO (o_lenS n nx) := ⟨fun _ _ _ _ _ _ _ hP ⟨s, a, h⟩ => ⟨s, a, hP _ _ _ _ h⟩, fun _ _ _ _ _ _ _ _ _ ⟨_, _, h⟩ => h⟩
theorem m_new (ci : Nat) (fs : List Value) (nx : Nat) : moO (o_new ci fs nx) ∧ leO (o_new ci fs nx) := ⟨fun _ _ _ _ _ _ _ hP h => hP _ _ _ _ h, fun _ _ _ _ _ _ _ _ _ h => by
  dsimp only [o_new] at h
  rw [List.length_append, sz_app] at h
  omega⟩
theorem m_newa (nx : Nat) : moO (o_newa nx) ∧ leO (o_newa nx) := ⟨fun _ _ _ _ _ _ _ hP ⟨n, s, a, b, c, h⟩ => ⟨n, s, a, b, c, hP _ _ _ _ h⟩, fun _ _ _ _ _ _ _ _ _ ⟨_, _, _, _, _, h⟩ => by
  try dsimp only at h
  rw [List.length_append, sz_app] at h
  omega⟩
theorem m_anew (t nx : Nat) : moO (o_anew t nx) ∧ leO (o_anew t nx) := ⟨fun _ _ _ _ _ _ _ hP ⟨n, s, a, b, c, h⟩ => ⟨n, s, a, b, c, hP _ _ _ _ h⟩, fun _ _ _ _ _ _ _ _ _ ⟨_, _, _, _, _, h⟩ => by
  try dsimp only at h
  rw [List.length_append, sz_app] at h
  omega⟩
theorem m_obj (nx : Nat) : moO (o_obj nx) ∧ leO (o_obj nx) := ⟨fun _ _ _ _ _ _ _ hP ⟨x, s, a, b, h⟩ => ⟨x, s, a, b, hP _ _ _ _ h⟩, fun _ _ _ _ _ _ _ _ _ ⟨_, _, _, _, h⟩ => h⟩
theorem m_call (rc : pH → List Value → Prop) (y n nx : Nat) : moO (o_call rc y n nx) ∧ leO (o_call rc y n nx) := by
  refine ⟨fun _ _ _ _ _ _ _ hP ⟨a, b, c, r, h1, d, h⟩ => ⟨a, b, c, r, h1, d, hP _ _ _ _ h⟩, fun _ _ _ _ hF _ _ _ _ ⟨_, _, _, r, h1, d, h⟩ => ?_⟩
  have := hF _ _ _ _ _ d
  omega
theorem m_iret : moO o_iret ∧ leO o_iret := ⟨fun _ _ _ _ _ _ _ _ h => h, fun _ _ _ _ _ hR _ _ _ ⟨_, _, h⟩ => hR _ _ h⟩
theorem m_zret : moO o_zret ∧ leO o_zret := ⟨fun _ _ _ _ _ _ _ _ h => h, fun _ _ _ _ _ hR _ _ _ ⟨_, _, _, h⟩ => hR _ _ h⟩
theorem m_lret : moO o_lret ∧ leO o_lret := ⟨fun _ _ _ _ _ _ _ _ h => h, fun _ _ _ _ _ hR _ _ _ ⟨_, _, h⟩ => hR _ _ h⟩
theorem m_aret : moO o_aret ∧ leO o_aret := ⟨fun _ _ _ _ _ _ _ _ h => h, fun _ _ _ _ _ hR _ _ _ ⟨_, _, _, h⟩ => hR _ _ h⟩
theorem m_vret : moO o_vret ∧ leO o_vret := ⟨fun _ _ _ _ _ _ _ _ h => h, fun _ _ _ _ _ hR _ _ _ ⟨_, h⟩ => hR _ _ h⟩
theorem m_fail : moO o_fail ∧ leO o_fail := ⟨fun _ _ _ _ _ _ _ _ h => h, fun _ _ _ _ _ _ _ _ _ h => False.elim h⟩
end
section
def cG : List Cond := lw_tbl.filter goodWord
/-! how the pure machine lies in the machine: places from a base on -/
abbrev gG : Type := Nat × Nat × Nat × ClassId × (Nat → ClassId) × va_G
def rn (g : gG) : Value → Value
  | .ref k => .ref (g.1 + k)
  | .float w => .ref (if w = 0 then g.2.1 else g.2.2.1)
  | v => v
theorem rn_cat (g : gG) (v : Value) : (rn g v).category = v.category := by cases v <;> rfl
def wE (g : gG) : pC → va_E
  | .inl xs => .inl (g.2.2.2.1, xs.length, .inl (fun j => xs.getD j 0))
  | .inr (.inl q) => .inl (g.2.2.2.2.1 q.1, q.2.length, .inr (.inr (.inr (.inr (fun j => (q.2.getD j none).map (fun k => g.1 + k))))))
  | .inr (.inr q) => .inr (q.1, q.2.map (rn g))
def wR (g : gG) (h : pH) (H : Heap) : Prop := H.size = g.1 + h.length ∧ ∀ (k : Nat) (c : pC), h[k]? = some c → va_at g.2.2.2.2.2 vwCl (g.1 + k, wE g c) H
abbrev nA (g : gG) : Nat → Prop := fun q => g.1 ≤ q
def nests : List (String × Nat × MethodName × String) := [("DuneMaps", 11, { cls := "DuneMaps$Page", name := "<init>", desc := "()V" }, "DuneMaps"), ("DuneMaps$Land", 11, { cls := "DuneMaps$Sand", name := "<init>", desc := "()V" }, "DuneMaps"), ("DuneMaps$Land", 24, { cls := "DuneMaps$Walker", name := "<init>", desc := "()V" }, "DuneMaps"), ("DuneMaps", 28, { cls := "DuneMaps$Sand", name := "<init>", desc := "()V" }, "DuneMaps"), ("DuneMaps$Ordering", 24, { cls := "DuneMaps$Sand", name := "<init>", desc := "()V" }, "DuneMaps"), ("DuneMaps$Footing", 17, { cls := "DuneMaps$Sand", name := "<init>", desc := "()V" }, "DuneMaps"), ("DuneMaps", 52, { cls := "DuneMaps$Dusk", name := "<init>", desc := "()V" }, "DuneMaps"), ("DuneMaps$Land", 46, { cls := "DuneMaps", name := "asNumber", desc := "(Z)I" }, "DuneMaps"), ("DuneMaps$Walker", 31, { cls := "DuneMaps", name := "beside", desc := "(II)I" }, "DuneMaps"), ("DuneMaps$Sand", 52, { cls := "DuneMaps", name := "weightOf", desc := "(I)I" }, "DuneMaps"), ("DuneMaps$Ordering", 71, { cls := "DuneMaps", name := "asNumber", desc := "(Z)I" }, "DuneMaps"), ("DuneMaps$Footing", 55, { cls := "DuneMaps", name := "beside", desc := "(II)I" }, "DuneMaps"), ("DuneMaps$Dusk", 32, { cls := "DuneMaps", name := "beside", desc := "(II)I" }, "DuneMaps")]
abbrev tyl (g : gG) : List (ClassId × FieldType) := [(g.2.2.2.1, .int), (g.2.2.2.2.1 0, .object RX5), (g.2.2.2.2.1 1, .object RX6)]
def cxK (g : gG) (U : State) : Prop := va_K g.2.2.2.2.2 vwCl (tyl g) U ∧ (∀ q ∈ nests, va_Nw (.methodLinkNest q.1 q.2.1 q.2.2.1 q.2.2.2) U) ∧ va_AO RX5 U ∧ va_AO RX6 U
def cxZ (g : gG) (U : State) (H : Heap) : Prop := va_Z "DuneMaps" "WEIGHTS" "[I" (.ref g.2.1) (nA g) U H ∧ va_T .int g.2.1 5 (fun j => .int (wts j)) (nA g) U H
theorem cxK.warm {g : gG} {s U : State} (hW : s.WarmedH U.vm) (h : cxK g s) : cxK g U := ⟨h.1.moved hW.alike, fun q hq => va_Nw.warmM hW (h.2.1 q hq), va_AO.moved hW.alike h.2.2.1, va_AO.moved hW.alike h.2.2.2⟩
theorem cxK.same {g : gG} {s U : State} (hv : s.vm = U.vm) (h : cxK g s) : cxK g U := by
  have ha : s.vm.Alike U.vm := hv ▸ Vm.Alike.refl s.vm
  exact ⟨h.1.moved ha, fun q hq => va_Nw.same rfl hv (h.2.1 q hq), va_AO.moved ha h.2.2.1, va_AO.moved ha h.2.2.2⟩
theorem cxZ.moved {g : gG} {s U : State} {H : Heap} (hv : s.vm.Alike U.vm) (h : cxZ g s H) : cxZ g U H := ⟨h.1.moved hv, h.2.moved hv⟩
theorem cxZ.kept {g : gG} {U : State} {H H1 : Heap} (h : cxZ g U H) (hq : ∀ a : Nat, a < H.size → ¬ nA g a → H1[a]? = H[a]?) : cxZ g U H1 := ⟨h.1.kept hq, h.2.kept hq⟩
theorem wR.at {g : gG} {h : pH} {H : Heap} (w : wR g h H) {k : Nat} {c : pC} (hk : h[k]? = some c) : va_P g.2.2.2.2.2 vwCl [(g.1 + k, wE g c)] H := by
  intro i q hi
  cases i with
  | zero => cases hi; exact w.2 k c hk
  | succ i => simp at hi
theorem wR.set {g : gG} {h : pH} {H H1 : Heap} (w : wR g h H) {k : Nat} {c0 c : pC} (hk : h[k]? = some c0) (hz : H1.size = H.size) (oq : ∀ q : Nat, q ≠ g.1 + k → H1[q]? = H[q]?) (he : va_at g.2.2.2.2.2 vwCl (g.1 + k, wE g c) H1) : wR g (h.set k c) H1 := by
  have hl := (List.getElem?_eq_some_iff.mp hk).1
  refine ⟨by rw [hz, List.length_set]; exact w.1, fun j d hj => ?_⟩
  by_cases e : j = k
  · subst e
    rw [List.getElem?_set_self hl] at hj
    cases hj
    exact he
  · rw [List.getElem?_set_ne (Ne.symm e)] at hj
    exact (w.2 j d hj).kept (oq _ (fun z => e (by simpa using z)))
theorem wR.push {g : gG} {h : pH} {H H1 : Heap} (w : wR g h H) {c : pC} (hz : H1.size = H.size + 1) (oq : ∀ q : Nat, q < H.size → H1[q]? = H[q]?) (he : va_at g.2.2.2.2.2 vwCl (H.size, wE g c) H1) : wR g (h ++ [c]) H1 := by
  refine ⟨by rw [hz, List.length_append, w.1]; simp; omega, fun j d hj => ?_⟩
  by_cases e : j < h.length
  · rw [List.getElem?_append_left e] at hj
    exact (w.2 j d hj).kept (oq _ (by rw [w.1]; show g.1 + j < _; omega))
  · rw [List.getElem?_append_right (by omega)] at hj
    have hz : j - h.length < 1 := (List.getElem?_eq_some_iff.mp hj).1
    have hj0 : j = h.length := by omega
    subst hj0
    rw [Nat.sub_self] at hj
    cases hj
    rw [w.1] at he
    exact he
/-! locals -/
def lvh (g : gG) (ls : Array Slot) (nL : Nat) (L : pL) : Prop := ls.size = nL ∧ L.length = nL ∧ lv_wf ls ∧ ∀ (i : Nat) (v : Value), L[i]? = some (some v) → ls[i]? = some (.val (rn g v))
def asc (g : gG) (L : pL) : List (Nat × Value) := (List.range L.length).filterMap (fun i => (L.getD i none).map (fun v => (i, rn g v)))
theorem asc_mem {g : gG} {L : pL} {i : Nat} {v : Value} (h : L[i]? = some (some v)) : (i, rn g v) ∈ asc g L := by
  refine List.mem_filterMap.mpr ⟨i, List.mem_range.mpr (List.getElem?_eq_some_iff.mp h).1, ?_⟩
  simp [List.getD, h]
theorem lvh.has {g : gG} {ls : Array Slot} {nL : Nat} {L : pL} (h : lvh g ls nL L) : lv_has ls nL (asc g L) := by
  refine ⟨h.1, h.2.2.1, fun q hq => ?_⟩
  obtain ⟨i, -, hi⟩ := List.mem_filterMap.mp hq
  obtain ⟨v, hv, rfl⟩ := Option.map_eq_some_iff.mp hi
  refine h.2.2.2 i v ?_
  cases hL : L[i]? with
  | none => simp [List.getD, hL] at hv
  | some o => simp [List.getD, hL] at hv; rw [hv]
theorem kil_some {o : Option Value} {v : Value} (h : kil o = some v) : o = some v ∧ v.category = 1 := by
  cases o with
  | none => cases h
  | some w => cases w <;> first | (cases h; done) | (cases h; exact ⟨rfl, rfl⟩)
theorem st1_len (L : pL) (i : Nat) (v : Value) : (st1 L i v).length = L.length := by cases i <;> simp [st1]
theorem st1_get {L : pL} {i j : Nat} {v w : Value} (hi : i < L.length) (h : (st1 L i v)[j]? = some (some w)) : (j = i ∧ w = v) ∨ (j ≠ i ∧ L[j]? = some (some w) ∧ (j + 1 = i → w.category = 1)) := by
  cases i with
  | zero =>
    by_cases e : j = 0
    · subst e
      simp only [st1] at h
      rw [List.getElem?_set_self hi] at h
      cases h
      exact Or.inl ⟨rfl, rfl⟩
    · simp only [st1] at h
      rw [List.getElem?_set_ne (Ne.symm e)] at h
      exact Or.inr ⟨e, h, fun z => by omega⟩
  | succ i =>
    by_cases e : j = i + 1
    · subst e
      simp only [st1] at h
      rw [List.getElem?_set_self (by simpa using hi)] at h
      cases h
      exact Or.inl ⟨rfl, rfl⟩
    · simp only [st1] at h
      rw [List.getElem?_set_ne (Ne.symm e)] at h
      by_cases e2 : j = i
      · subst e2
        rw [List.getElem?_set_self (by omega)] at h
        obtain ⟨h1, h2⟩ := kil_some (Option.some.inj h)
        refine Or.inr ⟨e, ?_, fun _ => h2⟩
        have hj : j < L.length := by omega
        rw [List.getElem?_eq_getElem hj]
        simp [List.getD, hj] at h1
        rw [h1]
      · rw [List.getElem?_set_ne (Ne.symm e2)] at h
        exact Or.inr ⟨e, h, fun z => absurd (by omega) e2⟩
theorem lvh_st1 {g : gG} {ls ls' : Array Slot} {nL : Nat} {L : pL} {i : Nat} {v : Value} (h : lvh g ls nL L) (hi : i < L.length) (h' : lv_has ls' nL ((i, rn g v) :: (asc g L).filter (fun q => !(q.1 == i) && !(q.1 + 1 == i && q.2.category == 2)))) : lvh g ls' nL (st1 L i v) := by
  refine ⟨h'.1, by rw [st1_len]; exact h.2.1, h'.2.1, fun j w hj => ?_⟩
  rcases st1_get hi hj with ⟨rfl, rfl⟩ | ⟨h1, h2, h3⟩
  · exact h'.2.2 _ List.mem_cons_self
  · refine h'.2.2 (j, rn g w) (List.mem_cons_of_mem _ (List.mem_filter.mpr ⟨asc_mem h2, ?_⟩))
    by_cases e : j + 1 = i
    · simp [h1, rn_cat, h3 e]
    · simp [h1, e]
theorem lvh_st2 {g : gG} {ls ls' : Array Slot} {nL : Nat} {L : pL} {i : Nat} {v : Value} (h : lvh g ls nL L) (hi : i + 1 < L.length) (h' : lv_has ls' nL ((i, rn g v) :: (asc g L).filter (fun q => !(q.1 == i) && (!(q.1 == i + 1) && !(q.1 + 1 == i && q.2.category == 2))))) : lvh g ls' nL (st2 L i v) := by
  refine ⟨h'.1, by unfold st2; rw [List.length_set, st1_len]; exact h.2.1, h'.2.1, fun j w hj => ?_⟩
  have hne : j ≠ i + 1 := by
    rintro rfl
    unfold st2 at hj
    rw [List.getElem?_set_self (by rw [st1_len]; exact hi)] at hj
    cases hj
  unfold st2 at hj
  rw [List.getElem?_set_ne (Ne.symm hne)] at hj
  rcases st1_get (by omega) hj with ⟨rfl, rfl⟩ | ⟨h1, h2, h3⟩
  · exact h'.2.2 _ List.mem_cons_self
  · refine h'.2.2 (j, rn g w) (List.mem_cons_of_mem _ (List.mem_filter.mpr ⟨asc_mem h2, ?_⟩))
    by_cases e : j + 1 = i
    · simp [h1, hne, rn_cat, h3 e]
    · simp [h1, hne, e]
theorem lvh_inc {g : gG} {ls ls' : Array Slot} {nL : Nat} {L : pL} {i : Nat} {x y : Int32} (h : lvh g ls nL L) (hx : L[i]? = some (some (.int x))) (h' : lv_has ls' nL ((i, .int y) :: (asc g L).filter (fun q => !(q.1 == i) && !(q.1 + 1 == i && q.2.category == 2)))) : lvh g ls' nL (L.set i (some (.int y))) := by
  have hi := (List.getElem?_eq_some_iff.mp hx).1
  refine ⟨h'.1, by rw [List.length_set]; exact h.2.1, h'.2.1, fun j w hj => ?_⟩
  by_cases e : j = i
  · subst e
    rw [List.getElem?_set_self hi] at hj
    cases hj
    exact h'.2.2 _ List.mem_cons_self
  · rw [List.getElem?_set_ne (Ne.symm e)] at hj
    refine h'.2.2 (j, rn g w) (List.mem_cons_of_mem _ (List.mem_filter.mpr ⟨asc_mem hj, ?_⟩))
    have h1 := h.2.2.2 j w hj
    have h2 := h.2.2.2 i _ hx
    have h3 : j + 1 = i → ¬ (rn g w).category = 2 := by
      rintro rfl hc
      have := h.2.2.1.1 j _ h1 hc
      rw [h2] at this
      cases this
    by_cases e2 : j + 1 = i
    · simp [e, h3 e2]
    · simp [e, e2]
theorem ent_lvh (g : gG) (vs : List Value) (n : Nat) (h : (ent vs).length ≤ n) : lvh g ((lg_sl (vs.map (rn g)) ++ List.replicate (n - (lg_sl (vs.map (rn g))).length) Slot.unset).toArray) n (entL n vs) := by
  have hlen : ∀ vs : List Value, (lg_sl (vs.map (rn g))).length = (ent vs).length := by
    intro vs
    induction vs with
    | nil => rfl
    | cons v vs ih =>
      by_cases hc : v.category = 2
      · simp [lg_sl, ent, rn_cat, hc] at ih ⊢; exact ih
      · simp [lg_sl, ent, rn_cat, hc] at ih ⊢; exact ih
  have he := lv_entry (vs.map (rn g)) (n := n) (by rw [hlen]; exact h)
  refine ⟨he.1, by simp [entL]; omega, he.2.1, ?_⟩
  have key : ∀ (vs : List Value) (i : Nat) (v : Value) (o : Nat), (ent vs)[i]? = some (some v) → (o + i, rn g v) ∈ lv_args o (vs.map (rn g)) := by
    intro vs
    induction vs with
    | nil => intro i v o h; simp [ent] at h
    | cons a vs ih =>
      intro i v o h
      by_cases hc : a.category = 2
      · simp only [ent, hc, if_true] at h
        simp only [List.map_cons, lv_args, rn_cat, hc, if_true]
        match i, h with
        | 0, h => simp at h; subst h; exact List.mem_cons_self
        | 1, h => simp at h
        | i + 2, h =>
          simp at h
          have := ih i v (o + 2) h
          rw [show o + (i + 2) = o + 2 + i by omega]
          exact List.mem_cons_of_mem _ this
      · simp only [ent, hc, if_false] at h
        simp only [List.map_cons, lv_args, rn_cat, hc, if_false]
        match i, h with
        | 0, h => simp at h; subst h; exact List.mem_cons_self
        | i + 1, h =>
          simp at h
          have := ih i v (o + 1) h
          rw [show o + (i + 1) = o + 1 + i by omega]
          exact List.mem_cons_of_mem _ this
  intro i v hi
  refine he.2.2 (i, rn g v) ?_
  have hi2 : (ent vs)[i]? = some (some v) := by
    by_cases hl : i < (ent vs).length
    · rw [entL, List.getElem?_append_left hl] at hi; exact hi
    · rw [entL, List.getElem?_append_right (by omega)] at hi
      have := List.mem_of_getElem? hi
      rw [List.mem_replicate] at this
      cases this.2
  have := key vs i v 0 hi2
  rwa [Nat.zero_add] at this
end
section
/-! what a method is: its code, its class, how many locals, what it answers, whether it is a constructor -/
abbrev sI : Type := ByteArray × String × Nat × Option FieldType × Bool
def wst (p : Program) (l : Launch) (e : Env) (R : Room) (s : State) (m : MethodId) (args : Array Value) (below : List Frame) (meth : Method) (c : Code) (Q : State → Prop) (g : gG) (nL n0 z0 N Z : Nat) : pK := fun pc L S h => (h.length ≤ N ∧ sz h ≤ Z) ∧ ∀ (H : Heap) (locs : List Loc) (cells slots : Nat) (ls : Array Slot), wR g h H → va_S (nA g) s.heap H locs → lvh g ls nL L → cells + n0 = h.length → slots + z0 = sz h → W p l e R s m args below meth c H locs cells slots Q (F0 m pc ls (S.map (rn g)))
def rOk (mr : Option FieldType) (r : Option Value) (ins : Instr) : Prop := (∃ x ty, r = some (.int x) ∧ ins = .ireturn ∧ mr = some ty ∧ narrow ty (.int x) = .int x) ∨ (∃ x, r = some (.long x) ∧ ins = .lreturn ∧ mr = some .long) ∨ (r = none ∧ ins = .return_ ∧ mr = none) ∨ (∃ v n, r = some v ∧ (v = .null ∨ ∃ k, v = .ref k) ∧ ins = .areturn ∧ mr = some (.object n))
def cPre (g : gG) (h : pH) (U : State) : Prop := wR g h U.heap ∧ cxK g U ∧ cxZ g U U.heap
def cPost (g : gG) (r : Option Value) (h1 : pH) : Array Value → State → Outcome → State → Prop := fun _ st oc t => oc = .returned (r.map (rn g)) ∧ wR g h1 t.heap ∧ va_F (nA g) st t
abbrev mI : Type := Nat → MethodName × sI
def mW (M : mI) (y : Nat) : List Cond := Cond.code (M y).1 (M y).2.1 (M y).2.2.2.1 (M y).2.2.2.2.1 :: cG
/-- the context in which a method's instructions stand -/
def cx (SC : Nat → (Nat → Int32) → Prop) (M : mI) (p : Program) (l : Launch) (e : Env) (R : Room) (s : State) (m : MethodId) (args : Array Value) (below : List Frame) (meth : Method) (c : Code) (Q : State → Prop) (g : gG) (n0 z0 N Z : Nat) (F : pF) (Rt : pR) (si : sI) : Prop :=
  (p.tables.exec = Jvm.exec ∧ c.code = si.1 ∧ c.maxLocals = si.2.2.1 ∧ s.vm.findClass si.2.1 = some m.cls ∧ ∀ w ∈ cG, w.before args s = true) ∧ cxK g s ∧ (cxZ g s s.heap ∧ ∀ n xs, SC n xs → va_X g.2.2.1 n xs s s.heap ∧ g.2.2.1 < g.1) ∧ (g.1 ≤ s.heap.size ∧ N ≤ R.cells + n0 ∧ Z ≤ R.slots + z0 ∧ 1 ≤ R.frames ∧ 32 ≤ R.locals) ∧ (si.2.2.2.2 = true → meth.name = "<init>") ∧
  (∀ y as h r h1, F y as h r h1 → (h.length ≤ h1.length ∧ sz h ≤ sz h1) ∧ ∃ rm : Room, rm.cells = h1.length - h.length ∧ rm.slots = sz h1 - sz h ∧ rm.frames + 1 ≤ R.frames ∧ 64 + rm.locals ≤ R.locals ∧ Met l (M y).1 (mW M y) rm (va_Pc (as.map (rn g)) (cPre g h)) (cPost g r h1) (h1.length - h.length) (sz h1 - sz h) (nA g)) ∧
  (∀ r h, Rt r h → (h.length ≤ N ∧ sz h ≤ Z) ∧ ∀ (pc : Nat) (ins : Instr) (H : Heap) (locs : List Loc) (cells slots : Nat) (ls : Array Slot), wR g h H → va_S (nA g) s.heap H locs → cells + n0 = h.length → slots + z0 = sz h → decode si.1 pc = .ok (ins, 1) → rOk si.2.2.2.1 r ins → W p l e R s m args below meth c H locs cells slots Q (F0 m pc ls ((r.map (rn g)).toList)))
/-- an instruction is sound where it stands -/
def soO (SC : Nat → (Nat → Int32) → Prop) (M : mI) (si : sI) (pc : Nat) (o : pO) : Prop := ∀ (p : Program) (l : Launch) (e : Env) (R : Room) (s : State) (m : MethodId) (args : Array Value) (below : List Frame) (meth : Method) (c : Code) (Q : State → Prop) (g : gG) (n0 z0 N Z : Nat) (F : pF) (Rt : pR), cx SC M p l e R s m args below meth c Q g n0 z0 N Z F Rt si → ∀ (L : pL) (S : List Value) (h : pH), o F Rt (wst p l e R s m args below meth c Q g si.2.2.1 n0 z0 N Z) L S h → ∀ (H : Heap) (locs : List Loc) (cells slots : Nat) (ls : Array Slot), wR g h H → va_S (nA g) s.heap H locs → lvh g ls si.2.2.1 L → cells + n0 = h.length → slots + z0 = sz h → W p l e R s m args below meth c H locs cells slots Q (F0 m pc ls (S.map (rn g)))
def okA (SC : Nat → (Nat → Int32) → Prop) (M : mI) (si : sI) (pc : Nat) (o : pO) : Prop := (moO o ∧ leO o) ∧ soO SC M si pc o
section SO
variable {SC : Nat → (Nat → Int32) → Prop} {M : mI} {cc : ByteArray} {own : String} {nL : Nat} {mr : Option FieldType} {ini : Bool} {pc : Nat}
theorem k_iconst {n : Int} (v : Int32) (hd : decode cc pc = .ok (.iconst n, 1)) (hv : Int32.ofInt n = v) : okA SC M (cc, own, nL, mr, ini) pc (o_const (.int v) (pc + 1)) := by
  refine ⟨m_const _ _, ?_⟩
  intro p l e R s m args below meth c Q g n0 z0 N Z F Rt C L S h ho H locs cells slots ls a1 a2 a3 a4 a5
  exact lv_iconst C.1.1 C.1.2.1 hd hv (ho.2 H locs cells slots ls a1 a2 a3 a4 a5)
theorem k_bipush {n : Int} (v : Int32) (hd : decode cc pc = .ok (.bipush n, 2)) (hv : (Int8.ofInt n).toInt32 = v) : okA SC M (cc, own, nL, mr, ini) pc (o_const (.int v) (pc + 2)) := by
  refine ⟨m_const _ _, ?_⟩
  intro p l e R s m args below meth c Q g n0 z0 N Z F Rt C L S h ho H locs cells slots ls a1 a2 a3 a4 a5
  exact lv_bipush C.1.1 C.1.2.1 hd hv (ho.2 H locs cells slots ls a1 a2 a3 a4 a5)
theorem k_sipush {n : Int} (v : Int32) (hd : decode cc pc = .ok (.sipush n, 3)) (hv : (Int16.ofInt n).toInt32 = v) : okA SC M (cc, own, nL, mr, ini) pc (o_const (.int v) (pc + 3)) := by
  refine ⟨m_const _ _, ?_⟩
  intro p l e R s m args below meth c Q g n0 z0 N Z F Rt C L S h ho H locs cells slots ls a1 a2 a3 a4 a5
  exact lv_sipush C.1.1 C.1.2.1 hd hv (ho.2 H locs cells slots ls a1 a2 a3 a4 a5)
theorem k_lconst {n : Fin 2} (v : Int64) (hd : decode cc pc = .ok (.lconst n, 1)) (hv : Int64.ofNat (n : Nat) = v) : okA SC M (cc, own, nL, mr, ini) pc (o_const (.long v) (pc + 1)) := by
  refine ⟨m_const _ _, ?_⟩
  intro p l e R s m args below meth c Q g n0 z0 N Z F Rt C L S h ho H locs cells slots ls a1 a2 a3 a4 a5
  exact lv_lconst C.1.1 C.1.2.1 hd hv (ho.2 H locs cells slots ls a1 a2 a3 a4 a5)
theorem k_ldc {idx : Nat} {v : Int32} (hw : Cond.constant own idx v ∈ cG) (hd : decode cc pc = .ok (.ldc idx, 2)) : okA SC M (cc, own, nL, mr, ini) pc (o_const (.int v) (pc + 2)) := by
  refine ⟨m_const _ _, ?_⟩
  intro p l e R s m args below meth c Q g n0 z0 N Z F Rt C L S h ho H locs cells slots ls a1 a2 a3 a4 a5
  exact lv_ldc C.1.1 C.1.2.1 C.1.2.2.2.1 (C.1.2.2.2.2 _ hw) hd (ho.2 H locs cells slots ls a1 a2 a3 a4 a5)
theorem k_ldcw {idx : Nat} {v : Int32} (hw : Cond.constant own idx v ∈ cG) (hd : decode cc pc = .ok (.ldc_w idx, 3)) : okA SC M (cc, own, nL, mr, ini) pc (o_const (.int v) (pc + 3)) := by
  refine ⟨m_const _ _, ?_⟩
  intro p l e R s m args below meth c Q g n0 z0 N Z F Rt C L S h ho H locs cells slots ls a1 a2 a3 a4 a5
  exact lv_ldcw C.1.1 C.1.2.1 C.1.2.2.2.1 (C.1.2.2.2.2 _ hw) hd (ho.2 H locs cells slots ls a1 a2 a3 a4 a5)
theorem k_ldc2 {idx : Nat} {v : Int64} (hw : Cond.constantLong own idx v ∈ cG) (hd : decode cc pc = .ok (.ldc2_w idx, 3)) : okA SC M (cc, own, nL, mr, ini) pc (o_const (.long v) (pc + 3)) := by
  refine ⟨m_const _ _, ?_⟩
  intro p l e R s m args below meth c Q g n0 z0 N Z F Rt C L S h ho H locs cells slots ls a1 a2 a3 a4 a5
  exact lv_ldc2 C.1.1 C.1.2.1 C.1.2.2.2.1 (C.1.2.2.2.2 _ hw) hd (ho.2 H locs cells slots ls a1 a2 a3 a4 a5)
theorem k_null (hd : decode cc pc = .ok (.aconst_null, 1)) : okA SC M (cc, own, nL, mr, ini) pc (o_const .null (pc + 1)) := by
  refine ⟨m_const _ _, ?_⟩
  intro p l e R s m args below meth c Q g n0 z0 N Z F Rt C L S h ho H locs cells slots ls a1 a2 a3 a4 a5
  exact lv_null C.1.1 C.1.2.1 hd (ho.2 H locs cells slots ls a1 a2 a3 a4 a5)
theorem k_ilN {i : Fin 4} {k : Nat} (hd : decode cc pc = .ok (.iload_n i, 1)) (hi : (i : Nat) = k) : okA SC M (cc, own, nL, mr, ini) pc (o_il k (pc + 1)) := by
  refine ⟨m_il _ _, ?_⟩
  intro p l e R s m args below meth c Q g n0 z0 N Z F Rt C L S h ⟨x, hL, ho⟩ H locs cells slots ls a1 a2 a3 a4 a5
  exact lv_iload_n C.1.1 C.1.2.1 hd hi (a3.2.2.2 _ _ hL) (ho.2 H locs cells slots ls a1 a2 a3 a4 a5)
theorem k_il {k : Nat} (hd : decode cc pc = .ok (.iload k, 2)) : okA SC M (cc, own, nL, mr, ini) pc (o_il k (pc + 2)) := by
  refine ⟨m_il _ _, ?_⟩
  intro p l e R s m args below meth c Q g n0 z0 N Z F Rt C L S h ⟨x, hL, ho⟩ H locs cells slots ls a1 a2 a3 a4 a5
  exact lv_iload C.1.1 C.1.2.1 hd (a3.2.2.2 _ _ hL) (ho.2 H locs cells slots ls a1 a2 a3 a4 a5)
theorem k_llN {i : Fin 4} {k : Nat} (hd : decode cc pc = .ok (.lload_n i, 1)) (hi : (i : Nat) = k) : okA SC M (cc, own, nL, mr, ini) pc (o_ll k (pc + 1)) := by
  refine ⟨m_ll _ _, ?_⟩
  intro p l e R s m args below meth c Q g n0 z0 N Z F Rt C L S h ⟨x, hL, ho⟩ H locs cells slots ls a1 a2 a3 a4 a5
  exact lv_lload_n C.1.1 C.1.2.1 hd hi (a3.2.2.2 _ _ hL) (ho.2 H locs cells slots ls a1 a2 a3 a4 a5)
theorem k_ll {k : Nat} (hd : decode cc pc = .ok (.lload k, 2)) : okA SC M (cc, own, nL, mr, ini) pc (o_ll k (pc + 2)) := by
  refine ⟨m_ll _ _, ?_⟩
  intro p l e R s m args below meth c Q g n0 z0 N Z F Rt C L S h ⟨x, hL, ho⟩ H locs cells slots ls a1 a2 a3 a4 a5
  exact lv_lload C.1.1 C.1.2.1 hd (a3.2.2.2 _ _ hL) (ho.2 H locs cells slots ls a1 a2 a3 a4 a5)
theorem k_alN {i : Fin 4} {k : Nat} (hd : decode cc pc = .ok (.aload_n i, 1)) (hi : (i : Nat) = k) : okA SC M (cc, own, nL, mr, ini) pc (o_al k (pc + 1)) := by
  refine ⟨m_al _ _, ?_⟩
  intro p l e R s m args below meth c Q g n0 z0 N Z F Rt C L S h ⟨x, hL, hr, ho⟩ H locs cells slots ls a1 a2 a3 a4 a5
  have hg := a3.2.2.2 _ _ hL
  have hk := ho.2 H locs cells slots ls a1 a2 a3 a4 a5
  cases x with
  | ref q => exact lv_aload_n C.1.1 C.1.2.1 hd hi hg hk
  | null => exact lv_aload_nN C.1.1 C.1.2.1 hd hi hg hk
  | float q => exact lv_aload_n C.1.1 C.1.2.1 hd hi hg hk
  | _ => cases hr
theorem k_al {k : Nat} (hd : decode cc pc = .ok (.aload k, 2)) : okA SC M (cc, own, nL, mr, ini) pc (o_al k (pc + 2)) := by
  refine ⟨m_al _ _, ?_⟩
  intro p l e R s m args below meth c Q g n0 z0 N Z F Rt C L S h ⟨x, hL, hr, ho⟩ H locs cells slots ls a1 a2 a3 a4 a5
  have hg := a3.2.2.2 _ _ hL
  have hk := ho.2 H locs cells slots ls a1 a2 a3 a4 a5
  cases x with
  | ref q => exact lv_aload C.1.1 C.1.2.1 hd hg hk
  | null => exact lv_aloadN C.1.1 C.1.2.1 hd hg hk
  | float q => exact lv_aload C.1.1 C.1.2.1 hd hg hk
  | _ => cases hr
theorem k_isN {i : Fin 4} {k : Nat} (hd : decode cc pc = .ok (.istore_n i, 1)) (hi : (i : Nat) = k) : okA SC M (cc, own, nL, mr, ini) pc (o_is k (pc + 1)) := by
  refine ⟨m_is _ _, ?_⟩
  rintro p l e R s m args below meth c Q g n0 z0 N Z F Rt C L S h ⟨x, S', rfl, hn, ho⟩ H locs cells slots ls a1 a2 a3 a4 a5
  exact lv_istore_n C.1.1 C.1.2.1 hd hi a3.has (by rw [← a3.2.1]; exact hn) rfl (fun ls' h' => ho.2 H locs cells slots ls' a1 a2 (lvh_st1 a3 hn h') a4 a5)
theorem k_is {k : Nat} (hd : decode cc pc = .ok (.istore k, 2)) : okA SC M (cc, own, nL, mr, ini) pc (o_is k (pc + 2)) := by
  refine ⟨m_is _ _, ?_⟩
  rintro p l e R s m args below meth c Q g n0 z0 N Z F Rt C L S h ⟨x, S', rfl, hn, ho⟩ H locs cells slots ls a1 a2 a3 a4 a5
  exact lv_istore C.1.1 C.1.2.1 hd a3.has (by rw [← a3.2.1]; exact hn) rfl (fun ls' h' => ho.2 H locs cells slots ls' a1 a2 (lvh_st1 a3 hn h') a4 a5)
theorem k_lsN {i : Fin 4} {k : Nat} (hd : decode cc pc = .ok (.lstore_n i, 1)) (hi : (i : Nat) = k) : okA SC M (cc, own, nL, mr, ini) pc (o_ls k (pc + 1)) := by
  refine ⟨m_ls _ _, ?_⟩
  rintro p l e R s m args below meth c Q g n0 z0 N Z F Rt C L S h ⟨x, S', rfl, hn, ho⟩ H locs cells slots ls a1 a2 a3 a4 a5
  exact lv_lstore_n C.1.1 C.1.2.1 hd hi a3.has (by rw [← a3.2.1]; exact hn) rfl (fun ls' h' => ho.2 H locs cells slots ls' a1 a2 (lvh_st2 a3 hn h') a4 a5)
theorem k_asN {i : Fin 4} {k : Nat} (hd : decode cc pc = .ok (.astore_n i, 1)) (hi : (i : Nat) = k) : okA SC M (cc, own, nL, mr, ini) pc (o_as k (pc + 1)) := by
  refine ⟨m_as _ _, ?_⟩
  rintro p l e R s m args below meth c Q g n0 z0 N Z F Rt C L S h ⟨x, S', rfl, hr, hn, ho⟩ H locs cells slots ls a1 a2 a3 a4 a5
  have hk := fun (ls' : Array Slot) (h' : lv_has ls' nL ((k, rn g x) :: (asc g L).filter (fun q => !(q.1 == k) && !(q.1 + 1 == k && q.2.category == 2)))) => ho.2 H locs cells slots ls' a1 a2 (lvh_st1 a3 hn h') a4 a5
  cases x with
  | ref q => exact lv_astore_n C.1.1 C.1.2.1 hd hi a3.has (by rw [← a3.2.1]; exact hn) rfl hk
  | null => exact lv_astore_nN C.1.1 C.1.2.1 hd hi a3.has (by rw [← a3.2.1]; exact hn) rfl hk
  | float q => exact lv_astore_n C.1.1 C.1.2.1 hd hi a3.has (by rw [← a3.2.1]; exact hn) rfl hk
  | _ => cases hr
theorem k_as {k : Nat} (hd : decode cc pc = .ok (.astore k, 2)) : okA SC M (cc, own, nL, mr, ini) pc (o_as k (pc + 2)) := by
  refine ⟨m_as _ _, ?_⟩
  rintro p l e R s m args below meth c Q g n0 z0 N Z F Rt C L S h ⟨x, S', rfl, hr, hn, ho⟩ H locs cells slots ls a1 a2 a3 a4 a5
  have hk := fun (ls' : Array Slot) (h' : lv_has ls' nL ((k, rn g x) :: (asc g L).filter (fun q => !(q.1 == k) && !(q.1 + 1 == k && q.2.category == 2)))) => ho.2 H locs cells slots ls' a1 a2 (lvh_st1 a3 hn h') a4 a5
  cases x with
  | ref q => exact lv_astore C.1.1 C.1.2.1 hd a3.has (by rw [← a3.2.1]; exact hn) rfl hk
  | null => exact lv_astoreN C.1.1 C.1.2.1 hd a3.has (by rw [← a3.2.1]; exact hn) rfl hk
  | float q => exact lv_astore C.1.1 C.1.2.1 hd a3.has (by rw [← a3.2.1]; exact hn) rfl hk
  | _ => cases hr
theorem k_inc {k : Nat} {n : Int} (v : Int32) (hd : decode cc pc = .ok (.iinc k n, 3)) (hv : Int32.ofInt n = v) : okA SC M (cc, own, nL, mr, ini) pc (o_inc k v (pc + 3)) := by
  refine ⟨m_inc _ _ _, ?_⟩
  rintro p l e R s m args below meth c Q g n0 z0 N Z F Rt C L S h ⟨x, hL, ho⟩ H locs cells slots ls a1 a2 a3 a4 a5
  subst hv
  obtain ⟨i, hi⟩ := List.getElem?_of_mem (asc_mem (g := g) hL)
  exact lv_iinc C.1.1 C.1.2.1 hd a3.has hi rfl (by rw [← a3.2.1]; exact (List.getElem?_eq_some_iff.mp hL).1) rfl (fun ls' h' => ho.2 H locs cells slots ls' a1 a2 (lvh_inc a3 hL h') a4 a5)
theorem k_iadd (hd : decode cc pc = .ok (.iadd, 1)) : okA SC M (cc, own, nL, mr, ini) pc (o_bin (fun x y => x + y) (pc + 1)) := by
  refine ⟨m_bin _ _, ?_⟩
  rintro p l e R s m args below meth c Q g n0 z0 N Z F Rt C L S h ⟨x, y, S', rfl, ho⟩ H locs cells slots ls a1 a2 a3 a4 a5
  exact lv_iadd C.1.1 C.1.2.1 hd (ho.2 H locs cells slots ls a1 a2 a3 a4 a5)
theorem k_isub (hd : decode cc pc = .ok (.isub, 1)) : okA SC M (cc, own, nL, mr, ini) pc (o_bin (fun x y => x - y) (pc + 1)) := by
  refine ⟨m_bin _ _, ?_⟩
  rintro p l e R s m args below meth c Q g n0 z0 N Z F Rt C L S h ⟨x, y, S', rfl, ho⟩ H locs cells slots ls a1 a2 a3 a4 a5
  exact lv_isub C.1.1 C.1.2.1 hd (ho.2 H locs cells slots ls a1 a2 a3 a4 a5)
theorem k_imul (hd : decode cc pc = .ok (.imul, 1)) : okA SC M (cc, own, nL, mr, ini) pc (o_bin (fun x y => x * y) (pc + 1)) := by
  refine ⟨m_bin _ _, ?_⟩
  rintro p l e R s m args below meth c Q g n0 z0 N Z F Rt C L S h ⟨x, y, S', rfl, ho⟩ H locs cells slots ls a1 a2 a3 a4 a5
  exact lv_imul C.1.1 C.1.2.1 hd (ho.2 H locs cells slots ls a1 a2 a3 a4 a5)
theorem k_iand (hd : decode cc pc = .ok (.iand, 1)) : okA SC M (cc, own, nL, mr, ini) pc (o_bin (fun x y => x &&& y) (pc + 1)) := by
  refine ⟨m_bin _ _, ?_⟩
  rintro p l e R s m args below meth c Q g n0 z0 N Z F Rt C L S h ⟨x, y, S', rfl, ho⟩ H locs cells slots ls a1 a2 a3 a4 a5
  exact lv_iand C.1.1 C.1.2.1 hd (ho.2 H locs cells slots ls a1 a2 a3 a4 a5)
theorem k_ior (hd : decode cc pc = .ok (.ior, 1)) : okA SC M (cc, own, nL, mr, ini) pc (o_bin (fun x y => x ||| y) (pc + 1)) := by
  refine ⟨m_bin _ _, ?_⟩
  rintro p l e R s m args below meth c Q g n0 z0 N Z F Rt C L S h ⟨x, y, S', rfl, ho⟩ H locs cells slots ls a1 a2 a3 a4 a5
  exact lv_ior C.1.1 C.1.2.1 hd (ho.2 H locs cells slots ls a1 a2 a3 a4 a5)
theorem k_ishl (hd : decode cc pc = .ok (.ishl, 1)) : okA SC M (cc, own, nL, mr, ini) pc (o_bin (fun x y => x <<< (y &&& 31)) (pc + 1)) := by
  refine ⟨m_bin _ _, ?_⟩
  rintro p l e R s m args below meth c Q g n0 z0 N Z F Rt C L S h ⟨x, y, S', rfl, ho⟩ H locs cells slots ls a1 a2 a3 a4 a5
  exact lv_ishl C.1.1 C.1.2.1 hd (ho.2 H locs cells slots ls a1 a2 a3 a4 a5)
theorem k_ishr (hd : decode cc pc = .ok (.ishr, 1)) : okA SC M (cc, own, nL, mr, ini) pc (o_bin (fun x y => x >>> (y &&& 31)) (pc + 1)) := by
  refine ⟨m_bin _ _, ?_⟩
  rintro p l e R s m args below meth c Q g n0 z0 N Z F Rt C L S h ⟨x, y, S', rfl, ho⟩ H locs cells slots ls a1 a2 a3 a4 a5
  exact lv_ishr C.1.1 C.1.2.1 hd (ho.2 H locs cells slots ls a1 a2 a3 a4 a5)
theorem k_iushr (hd : decode cc pc = .ok (.iushr, 1)) : okA SC M (cc, own, nL, mr, ini) pc (o_bin (fun x y => (x.toUInt32 >>> (y.toUInt32 &&& Int32.toUInt32 31)).toInt32) (pc + 1)) := by
  refine ⟨m_bin _ _, ?_⟩
  rintro p l e R s m args below meth c Q g n0 z0 N Z F Rt C L S h ⟨x, y, S', rfl, ho⟩ H locs cells slots ls a1 a2 a3 a4 a5
  exact lv_iushr C.1.1 C.1.2.1 hd rfl (ho.2 H locs cells slots ls a1 a2 a3 a4 a5)
theorem k_ladd (hd : decode cc pc = .ok (.ladd, 1)) : okA SC M (cc, own, nL, mr, ini) pc (o_lbin (fun x y => x + y) (pc + 1)) := by
  refine ⟨m_lbin _ _, ?_⟩
  rintro p l e R s m args below meth c Q g n0 z0 N Z F Rt C L S h ⟨x, y, S', rfl, ho⟩ H locs cells slots ls a1 a2 a3 a4 a5
  exact lv_ladd C.1.1 C.1.2.1 hd (ho.2 H locs cells slots ls a1 a2 a3 a4 a5)
theorem k_lmul (hd : decode cc pc = .ok (.lmul, 1)) : okA SC M (cc, own, nL, mr, ini) pc (o_lbin (fun x y => x * y) (pc + 1)) := by
  refine ⟨m_lbin _ _, ?_⟩
  rintro p l e R s m args below meth c Q g n0 z0 N Z F Rt C L S h ⟨x, y, S', rfl, ho⟩ H locs cells slots ls a1 a2 a3 a4 a5
  exact lv_lmul C.1.1 C.1.2.1 hd (ho.2 H locs cells slots ls a1 a2 a3 a4 a5)
theorem k_land (hd : decode cc pc = .ok (.land, 1)) : okA SC M (cc, own, nL, mr, ini) pc (o_lbin (fun x y => x &&& y) (pc + 1)) := by
  refine ⟨m_lbin _ _, ?_⟩
  rintro p l e R s m args below meth c Q g n0 z0 N Z F Rt C L S h ⟨x, y, S', rfl, ho⟩ H locs cells slots ls a1 a2 a3 a4 a5
  exact lv_land C.1.1 C.1.2.1 hd (ho.2 H locs cells slots ls a1 a2 a3 a4 a5)
theorem k_idiv (hd : decode cc pc = .ok (.idiv, 1)) : okA SC M (cc, own, nL, mr, ini) pc (o_binz (fun x y => x / y) (pc + 1)) := by
  refine ⟨m_binz _ _, ?_⟩
  rintro p l e R s m args below meth c Q g n0 z0 N Z F Rt C L S h ⟨x, y, S', rfl, hy, ho⟩ H locs cells slots ls a1 a2 a3 a4 a5
  exact lv_idiv C.1.1 C.1.2.1 hd hy (ho.2 H locs cells slots ls a1 a2 a3 a4 a5)
theorem k_irem (hd : decode cc pc = .ok (.irem, 1)) : okA SC M (cc, own, nL, mr, ini) pc (o_binz (fun x y => x - x / y * y) (pc + 1)) := by
  refine ⟨m_binz _ _, ?_⟩
  rintro p l e R s m args below meth c Q g n0 z0 N Z F Rt C L S h ⟨x, y, S', rfl, hy, ho⟩ H locs cells slots ls a1 a2 a3 a4 a5
  exact lv_irem C.1.1 C.1.2.1 hd hy (ho.2 H locs cells slots ls a1 a2 a3 a4 a5)
theorem k_lcmp (hd : decode cc pc = .ok (.lcmp, 1)) : okA SC M (cc, own, nL, mr, ini) pc (o_lcmp (pc + 1)) := by
  refine ⟨m_lcmp _, ?_⟩
  rintro p l e R s m args below meth c Q g n0 z0 N Z F Rt C L S h ⟨x, y, S', rfl, ho⟩ H locs cells slots ls a1 a2 a3 a4 a5
  exact W.lcmp C.1.1 C.1.2.1 hd (ho.2 H locs cells slots ls a1 a2 a3 a4 a5)
theorem k_i2l (hd : decode cc pc = .ok (.i2l, 1)) : okA SC M (cc, own, nL, mr, ini) pc (o_i2l (pc + 1)) := by
  refine ⟨m_i2l _, ?_⟩
  rintro p l e R s m args below meth c Q g n0 z0 N Z F Rt C L S h ⟨x, S', rfl, ho⟩ H locs cells slots ls a1 a2 a3 a4 a5
  exact lv_i2l C.1.1 C.1.2.1 hd rfl (ho.2 H locs cells slots ls a1 a2 a3 a4 a5)
theorem k_l2i (hd : decode cc pc = .ok (.l2i, 1)) : okA SC M (cc, own, nL, mr, ini) pc (o_l2i (pc + 1)) := by
  refine ⟨m_l2i _, ?_⟩
  rintro p l e R s m args below meth c Q g n0 z0 N Z F Rt C L S h ⟨x, S', rfl, ho⟩ H locs cells slots ls a1 a2 a3 a4 a5
  exact lv_l2i C.1.1 C.1.2.1 hd rfl (ho.2 H locs cells slots ls a1 a2 a3 a4 a5)
theorem k_dup (hd : decode cc pc = .ok (.dup, 1)) : okA SC M (cc, own, nL, mr, ini) pc (o_dup (pc + 1)) := by
  refine ⟨m_dup _, ?_⟩
  rintro p l e R s m args below meth c Q g n0 z0 N Z F Rt C L S h ⟨x, S', rfl, hc, ho⟩ H locs cells slots ls a1 a2 a3 a4 a5
  exact lv_dup C.1.1 C.1.2.1 hd (by rw [rn_cat]; exact hc) (ho.2 H locs cells slots ls a1 a2 a3 a4 a5)
theorem k_dup2 (hd : decode cc pc = .ok (.dup2, 1)) : okA SC M (cc, own, nL, mr, ini) pc (o_dup2 (pc + 1)) := by
  refine ⟨m_dup2 _, ?_⟩
  rintro p l e R s m args below meth c Q g n0 z0 N Z F Rt C L S h ⟨x, y, S', rfl, hc, hc2, ho⟩ H locs cells slots ls a1 a2 a3 a4 a5
  exact lv_dup2_11 C.1.1 C.1.2.1 hd (by rw [rn_cat]; exact hc) (by rw [rn_cat]; exact hc2) (ho.2 H locs cells slots ls a1 a2 a3 a4 a5)
theorem k_pop (hd : decode cc pc = .ok (.pop, 1)) : okA SC M (cc, own, nL, mr, ini) pc (o_pop (pc + 1)) := by
  refine ⟨m_pop _, ?_⟩
  rintro p l e R s m args below meth c Q g n0 z0 N Z F Rt C L S h ⟨x, S', rfl, hc, ho⟩ H locs cells slots ls a1 a2 a3 a4 a5
  exact lv_pop C.1.1 C.1.2.1 hd (by rw [rn_cat]; exact hc) (ho.2 H locs cells slots ls a1 a2 a3 a4 a5)
theorem k_goto {off : Int} {tg : Nat} (hd : decode cc pc = .ok (.goto off, 3)) (ht : (pc : Int) + off = (tg : Int)) : okA SC M (cc, own, nL, mr, ini) pc (o_goto tg) := by
  refine ⟨m_goto _, ?_⟩
  rintro p l e R s m args below meth c Q g n0 z0 N Z F Rt C L S h ho H locs cells slots ls a1 a2 a3 a4 a5
  exact lv_goto C.1.1 C.1.2.1 hd ht (ho.2 H locs cells slots ls a1 a2 a3 a4 a5)
theorem k_if_eq {off : Int} {tg : Nat} (hd : decode cc pc = .ok (.ifCond .eq off, 3)) (ht : (pc : Int) + off = (tg : Int)) : okA SC M (cc, own, nL, mr, ini) pc (o_if (fun x => x = 0) tg (pc + 3)) := by
  refine ⟨m_if _ _ _, ?_⟩
  rintro p l e R s m args below meth c Q g n0 z0 N Z F Rt C L S h ⟨x, S', rfl, h1, h2⟩ H locs cells slots ls a1 a2 a3 a4 a5
  exact lv_if_eq C.1.1 C.1.2.1 hd ht (fun q => (h1 q).2 H locs cells slots ls a1 a2 a3 a4 a5) (fun q => (h2 q).2 H locs cells slots ls a1 a2 a3 a4 a5)
theorem k_icmp_eq {off : Int} {tg : Nat} (hd : decode cc pc = .ok (.if_icmp .eq off, 3)) (ht : (pc : Int) + off = (tg : Int)) : okA SC M (cc, own, nL, mr, ini) pc (o_cmp (fun x y => x = y) tg (pc + 3)) := by
  refine ⟨m_cmp _ _ _, ?_⟩
  rintro p l e R s m args below meth c Q g n0 z0 N Z F Rt C L S h ⟨x, y, S', rfl, h1, h2⟩ H locs cells slots ls a1 a2 a3 a4 a5
  exact lv_icmp_eq C.1.1 C.1.2.1 hd ht (fun q => (h1 q).2 H locs cells slots ls a1 a2 a3 a4 a5) (fun q => (h2 q).2 H locs cells slots ls a1 a2 a3 a4 a5)
theorem k_if_ne {off : Int} {tg : Nat} (hd : decode cc pc = .ok (.ifCond .ne off, 3)) (ht : (pc : Int) + off = (tg : Int)) : okA SC M (cc, own, nL, mr, ini) pc (o_if (fun x => ¬ x = 0) tg (pc + 3)) := by
  refine ⟨m_if _ _ _, ?_⟩
  rintro p l e R s m args below meth c Q g n0 z0 N Z F Rt C L S h ⟨x, S', rfl, h1, h2⟩ H locs cells slots ls a1 a2 a3 a4 a5
  exact lv_if_ne C.1.1 C.1.2.1 hd ht (fun q => (h1 q).2 H locs cells slots ls a1 a2 a3 a4 a5) (fun q => (h2 (fun z => z q)).2 H locs cells slots ls a1 a2 a3 a4 a5)
theorem k_icmp_ne {off : Int} {tg : Nat} (hd : decode cc pc = .ok (.if_icmp .ne off, 3)) (ht : (pc : Int) + off = (tg : Int)) : okA SC M (cc, own, nL, mr, ini) pc (o_cmp (fun x y => ¬ x = y) tg (pc + 3)) := by
  refine ⟨m_cmp _ _ _, ?_⟩
  rintro p l e R s m args below meth c Q g n0 z0 N Z F Rt C L S h ⟨x, y, S', rfl, h1, h2⟩ H locs cells slots ls a1 a2 a3 a4 a5
  exact lv_icmp_ne C.1.1 C.1.2.1 hd ht (fun q => (h1 q).2 H locs cells slots ls a1 a2 a3 a4 a5) (fun q => (h2 (fun z => z q)).2 H locs cells slots ls a1 a2 a3 a4 a5)
theorem k_if_lt {off : Int} {tg : Nat} (hd : decode cc pc = .ok (.ifCond .lt off, 3)) (ht : (pc : Int) + off = (tg : Int)) : okA SC M (cc, own, nL, mr, ini) pc (o_if (fun x => x < 0) tg (pc + 3)) := by
  refine ⟨m_if _ _ _, ?_⟩
  rintro p l e R s m args below meth c Q g n0 z0 N Z F Rt C L S h ⟨x, S', rfl, h1, h2⟩ H locs cells slots ls a1 a2 a3 a4 a5
  exact lv_if_lt C.1.1 C.1.2.1 hd ht (fun q => (h1 q).2 H locs cells slots ls a1 a2 a3 a4 a5) (fun q => (h2 q).2 H locs cells slots ls a1 a2 a3 a4 a5)
theorem k_icmp_lt {off : Int} {tg : Nat} (hd : decode cc pc = .ok (.if_icmp .lt off, 3)) (ht : (pc : Int) + off = (tg : Int)) : okA SC M (cc, own, nL, mr, ini) pc (o_cmp (fun x y => x < y) tg (pc + 3)) := by
  refine ⟨m_cmp _ _ _, ?_⟩
  rintro p l e R s m args below meth c Q g n0 z0 N Z F Rt C L S h ⟨x, y, S', rfl, h1, h2⟩ H locs cells slots ls a1 a2 a3 a4 a5
  exact lv_icmp_lt C.1.1 C.1.2.1 hd ht (fun q => (h1 q).2 H locs cells slots ls a1 a2 a3 a4 a5) (fun q => (h2 q).2 H locs cells slots ls a1 a2 a3 a4 a5)
theorem k_if_ge {off : Int} {tg : Nat} (hd : decode cc pc = .ok (.ifCond .ge off, 3)) (ht : (pc : Int) + off = (tg : Int)) : okA SC M (cc, own, nL, mr, ini) pc (o_if (fun x => 0 ≤ x) tg (pc + 3)) := by
  refine ⟨m_if _ _ _, ?_⟩
  rintro p l e R s m args below meth c Q g n0 z0 N Z F Rt C L S h ⟨x, S', rfl, h1, h2⟩ H locs cells slots ls a1 a2 a3 a4 a5
  exact lv_if_ge C.1.1 C.1.2.1 hd ht (fun q => (h1 q).2 H locs cells slots ls a1 a2 a3 a4 a5) (fun q => (h2 q).2 H locs cells slots ls a1 a2 a3 a4 a5)
theorem k_icmp_ge {off : Int} {tg : Nat} (hd : decode cc pc = .ok (.if_icmp .ge off, 3)) (ht : (pc : Int) + off = (tg : Int)) : okA SC M (cc, own, nL, mr, ini) pc (o_cmp (fun x y => y ≤ x) tg (pc + 3)) := by
  refine ⟨m_cmp _ _ _, ?_⟩
  rintro p l e R s m args below meth c Q g n0 z0 N Z F Rt C L S h ⟨x, y, S', rfl, h1, h2⟩ H locs cells slots ls a1 a2 a3 a4 a5
  exact lv_icmp_ge C.1.1 C.1.2.1 hd ht (fun q => (h1 q).2 H locs cells slots ls a1 a2 a3 a4 a5) (fun q => (h2 q).2 H locs cells slots ls a1 a2 a3 a4 a5)
theorem k_if_gt {off : Int} {tg : Nat} (hd : decode cc pc = .ok (.ifCond .gt off, 3)) (ht : (pc : Int) + off = (tg : Int)) : okA SC M (cc, own, nL, mr, ini) pc (o_if (fun x => 0 < x) tg (pc + 3)) := by
  refine ⟨m_if _ _ _, ?_⟩
  rintro p l e R s m args below meth c Q g n0 z0 N Z F Rt C L S h ⟨x, S', rfl, h1, h2⟩ H locs cells slots ls a1 a2 a3 a4 a5
  exact lv_if_gt C.1.1 C.1.2.1 hd ht (fun q => (h1 q).2 H locs cells slots ls a1 a2 a3 a4 a5) (fun q => (h2 q).2 H locs cells slots ls a1 a2 a3 a4 a5)
theorem k_icmp_gt {off : Int} {tg : Nat} (hd : decode cc pc = .ok (.if_icmp .gt off, 3)) (ht : (pc : Int) + off = (tg : Int)) : okA SC M (cc, own, nL, mr, ini) pc (o_cmp (fun x y => y < x) tg (pc + 3)) := by
  refine ⟨m_cmp _ _ _, ?_⟩
  rintro p l e R s m args below meth c Q g n0 z0 N Z F Rt C L S h ⟨x, y, S', rfl, h1, h2⟩ H locs cells slots ls a1 a2 a3 a4 a5
  exact lv_icmp_gt C.1.1 C.1.2.1 hd ht (fun q => (h1 q).2 H locs cells slots ls a1 a2 a3 a4 a5) (fun q => (h2 q).2 H locs cells slots ls a1 a2 a3 a4 a5)
theorem k_if_le {off : Int} {tg : Nat} (hd : decode cc pc = .ok (.ifCond .le off, 3)) (ht : (pc : Int) + off = (tg : Int)) : okA SC M (cc, own, nL, mr, ini) pc (o_if (fun x => x ≤ 0) tg (pc + 3)) := by
  refine ⟨m_if _ _ _, ?_⟩
  rintro p l e R s m args below meth c Q g n0 z0 N Z F Rt C L S h ⟨x, S', rfl, h1, h2⟩ H locs cells slots ls a1 a2 a3 a4 a5
  exact lv_if_le C.1.1 C.1.2.1 hd ht (fun q => (h1 q).2 H locs cells slots ls a1 a2 a3 a4 a5) (fun q => (h2 q).2 H locs cells slots ls a1 a2 a3 a4 a5)
theorem k_icmp_le {off : Int} {tg : Nat} (hd : decode cc pc = .ok (.if_icmp .le off, 3)) (ht : (pc : Int) + off = (tg : Int)) : okA SC M (cc, own, nL, mr, ini) pc (o_cmp (fun x y => x ≤ y) tg (pc + 3)) := by
  refine ⟨m_cmp _ _ _, ?_⟩
  rintro p l e R s m args below meth c Q g n0 z0 N Z F Rt C L S h ⟨x, y, S', rfl, h1, h2⟩ H locs cells slots ls a1 a2 a3 a4 a5
  exact lv_icmp_le C.1.1 C.1.2.1 hd ht (fun q => (h1 q).2 H locs cells slots ls a1 a2 a3 a4 a5) (fun q => (h2 q).2 H locs cells slots ls a1 a2 a3 a4 a5)
theorem k_ifnull {off : Int} {tg : Nat} (hd : decode cc pc = .ok (.ifnull off, 3)) (ht : (pc : Int) + off = (tg : Int)) : okA SC M (cc, own, nL, mr, ini) pc (o_nul tg (pc + 3)) := by
  refine ⟨m_nul _ _, ?_⟩
  rintro p l e R s m args below meth c Q g n0 z0 N Z F Rt C L S h (⟨S', rfl, ho⟩ | ⟨k, S', rfl, ho⟩) H locs cells slots ls a1 a2 a3 a4 a5
  · exact lv_ifnullN C.1.1 C.1.2.1 hd ht (ho.2 H locs cells slots ls a1 a2 a3 a4 a5)
  · exact lv_ifnull C.1.1 C.1.2.1 hd (ho.2 H locs cells slots ls a1 a2 a3 a4 a5)
/-- ifnonnull: null goes on, another jumps -/
def o_nnul (tg nx : Nat) : pO := fun _ _ K L S h => (∃ S', S = .null :: S' ∧ K nx L S' h) ∨ (∃ k S', S = .ref k :: S' ∧ K tg L S' h)
theorem m_nnul (tg nx : Nat) : moO (o_nnul tg nx) ∧ leO (o_nnul tg nx) := ⟨fun _ _ _ _ _ _ _ hP q => q.elim (fun ⟨s, a, b⟩ => Or.inl ⟨s, a, hP _ _ _ _ b⟩) (fun ⟨k, s, a, b⟩ => Or.inr ⟨k, s, a, hP _ _ _ _ b⟩), fun _ _ _ _ _ _ _ _ _ q => q.elim (fun ⟨_, _, b⟩ => b) (fun ⟨_, _, _, b⟩ => b)⟩
theorem k_ifnonnull {off : Int} {tg : Nat} (hd : decode cc pc = .ok (.ifnonnull off, 3)) (ht : (pc : Int) + off = (tg : Int)) : okA SC M (cc, own, nL, mr, ini) pc (o_nnul tg (pc + 3)) := by
  refine ⟨m_nnul _ _, ?_⟩
  rintro p l e R s m args below meth c Q g n0 z0 N Z F Rt C L S h (⟨S', rfl, ho⟩ | ⟨k, S', rfl, ho⟩) H locs cells slots ls a1 a2 a3 a4 a5
  · exact lv_ifnonnullN C.1.1 C.1.2.1 hd (ho.2 H locs cells slots ls a1 a2 a3 a4 a5)
  · exact lv_ifnonnull C.1.1 C.1.2.1 hd ht (ho.2 H locs cells slots ls a1 a2 a3 a4 a5)
theorem k_tsw {dflt lo hi : Int} {offs : Array Int} {len df : Nat} (ps : List (Int32 × Nat)) (hd : decode cc pc = .ok (.tableswitch dflt lo hi offs, len)) (hdf : (pc : Int) + dflt = (df : Int)) (hlo : -2147483648 ≤ lo) (hhi : hi ≤ 2147483647)
    (hp : ∀ i, i < ps.length → ∃ off : Int, offs[i]? = some off ∧ (pc : Int) + off = ((ps.getD i (0, 0)).2 : Int) ∧ (ps.getD i (0, 0)).1 = Int32.ofInt (lo + i)) (hn : (ps.length : Int) = hi - lo + 1) : okA SC M (cc, own, nL, mr, ini) pc (o_sw ps df) := by
  refine ⟨m_sw _ _, ?_⟩
  rintro p l e R s m args below meth c Q g n0 z0 N Z F Rt C L S h ⟨x, S', rfl, h1, h2⟩ H locs cells slots ls a1 a2 a3 a4 a5
  by_cases hx : x.toInt < lo ∨ hi < x.toInt
  · refine lv_tableOut C.1.1 C.1.2.1 hd hx hdf ((h2 ?_).2 H locs cells slots ls a1 a2 a3 a4 a5)
    intro q hq e
    obtain ⟨i, hi1⟩ := List.getElem?_of_mem hq
    have hil := (List.getElem?_eq_some_iff.mp hi1).1
    obtain ⟨off, -, -, h3⟩ := hp i hil
    have hg : ps.getD i (0, 0) = q := by simp [List.getD, hi1]
    rw [hg] at h3
    rw [e, h3, Int32.toInt_ofInt_of_le (by omega) (by omega)] at hx
    omega
  · have hx1 : ¬ x.toInt < lo := fun z => hx (Or.inl z)
    have hx2 : ¬ hi < x.toInt := fun z => hx (Or.inr z)
    have hil : (x.toInt - lo).toNat < ps.length := by omega
    obtain ⟨off, h3, h4, h5⟩ := hp _ hil
    refine lv_tableIn C.1.1 C.1.2.1 hd hx1 hx2 h3 h4 ((h1 (ps.getD (x.toInt - lo).toNat (0, 0)) ?_ ?_).2 H locs cells slots ls a1 a2 a3 a4 a5)
    · simp [List.getD, hil]
    · rw [h5]
      rw [show lo + ((x.toInt - lo).toNat : Int) = x.toInt by omega]
      exact (Int32.ofInt_toInt x).symm
theorem k_lsw {dflt : Int} {qs : Array (Int × Int)} {len df : Nat} (ps : List (Int32 × Nat)) (hd : decode cc pc = .ok (.lookupswitch dflt qs, len)) (hdf : (pc : Int) + dflt = (df : Int)) (hs : (qs.toList.zip (qs.toList.drop 1)).all (fun (a, next) => a.1 < next.1) = true)
    (hp : ps.map (fun q => (q.1.toInt, (q.2 : Int))) = qs.toList.map (fun q => (q.1, (pc : Int) + q.2))) : okA SC M (cc, own, nL, mr, ini) pc (o_sw ps df) := by
  refine ⟨m_sw _ _, ?_⟩
  rintro p l e R s m args below meth c Q g n0 z0 N Z F Rt C L S h ⟨x, S', rfl, h1, h2⟩ H locs cells slots ls a1 a2 a3 a4 a5
  have key : ∀ (qs : List (Int × Int)) (ps : List (Int32 × Nat)), ps.map (fun q => (q.1.toInt, (q.2 : Int))) = qs.map (fun q => (q.1, (pc : Int) + q.2)) → (∃ q ∈ ps, x = q.1 ∧ (pc : Int) + Op.lookupswitch.offset qs dflt x.toInt = (q.2 : Int)) ∨ ((∀ q ∈ ps, ¬ x = q.1) ∧ Op.lookupswitch.offset qs dflt x.toInt = dflt) := by
    intro qs
    induction qs with
    | nil =>
      intro ps hps
      cases ps with
      | nil => exact Or.inr ⟨fun q hq => (by cases hq), rfl⟩
      | cons a t => simp at hps
    | cons b t ih =>
      intro ps hps
      cases ps with
      | nil => simp at hps
      | cons a u =>
        obtain ⟨b1, b2⟩ := b
        simp only [List.map_cons, List.cons.injEq, Prod.mk.injEq] at hps
        obtain ⟨⟨e1, e2⟩, e3⟩ := hps
        rw [Op.lookupswitch.offset_cons]
        by_cases hx : b1 = x.toInt
        · rw [if_pos hx]
          exact Or.inl ⟨a, List.mem_cons_self, Int32.toInt_inj.mp (by rw [← hx, e1]), e2.symm⟩
        · rw [if_neg hx]
          rcases ih u e3 with ⟨q, g1, g2, g3⟩ | ⟨g1, g2⟩
          · exact Or.inl ⟨q, List.mem_cons_of_mem _ g1, g2, g3⟩
          · refine Or.inr ⟨fun q hq => ?_, g2⟩
            rcases List.mem_cons.mp hq with rfl | hq
            · intro z
              exact hx (by rw [z, e1])
            · exact g1 q hq
  rcases key qs.toList ps hp with ⟨q, g1, g2, g3⟩ | ⟨g1, g2⟩
  · exact lv_lookup C.1.1 C.1.2.1 hd hs rfl g3 ((h1 q g1 g2).2 H locs cells slots ls a1 a2 a3 a4 a5)
  · exact lv_lookup C.1.1 C.1.2.1 hd hs g2 hdf ((h2 g1).2 H locs cells slots ls a1 a2 a3 a4 a5)
theorem k_iret (hd : decode cc pc = .ok (.ireturn, 1)) : okA SC M (cc, own, nL, some .int, ini) pc o_iret := by
  refine ⟨m_iret, ?_⟩
  rintro p l e R s m args below meth c Q g n0 z0 N Z F Rt C L S h ⟨x, rfl, ho⟩ H locs cells slots ls a1 a2 a3 a4 a5
  exact (C.2.2.2.2.2.2 _ _ ho).2 pc _ H locs cells slots ls a1 a2 a4 a5 hd (Or.inl ⟨x, _, rfl, rfl, rfl, rfl⟩)
theorem k_zret (hd : decode cc pc = .ok (.ireturn, 1)) : okA SC M (cc, own, nL, some .boolean, ini) pc o_zret := by
  refine ⟨m_zret, ?_⟩
  rintro p l e R s m args below meth c Q g n0 z0 N Z F Rt C L S h ⟨x, rfl, hx, ho⟩ H locs cells slots ls a1 a2 a3 a4 a5
  exact (C.2.2.2.2.2.2 _ _ ho).2 pc _ H locs cells slots ls a1 a2 a4 a5 hd (Or.inl ⟨x, _, rfl, rfl, rfl, by rcases hx with rfl | rfl <;> rfl⟩)
theorem k_lret (hd : decode cc pc = .ok (.lreturn, 1)) : okA SC M (cc, own, nL, some .long, ini) pc o_lret := by
  refine ⟨m_lret, ?_⟩
  rintro p l e R s m args below meth c Q g n0 z0 N Z F Rt C L S h ⟨x, rfl, ho⟩ H locs cells slots ls a1 a2 a3 a4 a5
  exact (C.2.2.2.2.2.2 _ _ ho).2 pc _ H locs cells slots ls a1 a2 a4 a5 hd (Or.inr (Or.inl ⟨x, rfl, rfl, rfl⟩))
theorem k_aret {nm : String} (hd : decode cc pc = .ok (.areturn, 1)) : okA SC M (cc, own, nL, some (.object nm), ini) pc o_aret := by
  refine ⟨m_aret, ?_⟩
  rintro p l e R s m args below meth c Q g n0 z0 N Z F Rt C L S h ⟨x, rfl, hx, ho⟩ H locs cells slots ls a1 a2 a3 a4 a5
  exact (C.2.2.2.2.2.2 _ _ ho).2 pc _ H locs cells slots ls a1 a2 a4 a5 hd (Or.inr (Or.inr (Or.inr ⟨x, nm, rfl, hx, rfl, rfl⟩)))
theorem k_vret (hd : decode cc pc = .ok (.return_, 1)) : okA SC M (cc, own, nL, none, ini) pc o_vret := by
  refine ⟨m_vret, ?_⟩
  rintro p l e R s m args below meth c Q g n0 z0 N Z F Rt C L S h ⟨rfl, ho⟩ H locs cells slots ls a1 a2 a3 a4 a5
  exact (C.2.2.2.2.2.2 _ _ ho).2 pc _ H locs cells slots ls a1 a2 a4 a5 hd (Or.inr (Or.inr (Or.inl ⟨rfl, rfl, rfl⟩)))
end SO
end
section
theorem cG_good {w : Cond} (h : w ∈ cG) : (w.onTables && w.keeps) = true ∨ ∃ ty, w = .arrayClass ty := good_of_word (List.mem_filter.mp h).2
theorem mW_good {M : mI} {y : Nat} (hc : Cond.code (M y).1 (M y).2.1 (M y).2.2.2.1 (M y).2.2.2.2.1 ∈ cG) : GoodIn cG (mW M y) := fun w hw => by
  rcases List.mem_cons.mp hw with rfl | hw
  · exact ⟨hc, cG_good hc⟩
  · exact ⟨hw, cG_good hw⟩
def okI (v : Value) : Prop := ∃ x, v = .int x
def okZ (v : Value) : Prop := v = .int 0 ∨ v = .int 1
def okJ (v : Value) : Prop := ∃ x, v = .long x
def okR (v : Value) : Prop := ∃ k, v = .ref k
theorem okI_fit (g : gG) (v : Value) (h : okI v) : narrow .int (rn g v) = rn g v ∧ fits .int (rn g v) = true := by obtain ⟨x, rfl⟩ := h; exact ⟨rfl, rfl⟩
theorem okZ_fit (g : gG) (v : Value) (h : okZ v) : narrow .boolean (rn g v) = rn g v ∧ fits .boolean (rn g v) = true := by rcases h with rfl | rfl <;> exact ⟨rfl, rfl⟩
theorem okJ_fit (g : gG) (v : Value) (h : okJ v) : narrow .long (rn g v) = rn g v ∧ fits .long (rn g v) = true := by obtain ⟨x, rfl⟩ := h; exact ⟨rfl, rfl⟩
theorem okR_fitO (n : String) (g : gG) (v : Value) (h : okR v) : narrow (.object n) (rn g v) = rn g v ∧ fits (.object n) (rn g v) = true := by obtain ⟨x, rfl⟩ := h; exact ⟨rfl, rfl⟩
theorem okR_fitA (t : FieldType) (g : gG) (v : Value) (h : okR v) : narrow (.array t) (rn g v) = rn g v ∧ fits (.array t) (rn g v) = true := by obtain ⟨x, rfl⟩ := h; exact ⟨rfl, rfl⟩
section SH
variable {SC : Nat → (Nat → Int32) → Prop} {M : mI} {cc : ByteArray} {own : String} {nL : Nat} {mr : Option FieldType} {ini : Bool} {pc : Nat}
theorem k_gf {idx ci j Nf : Nat} {Cn : String} {T : u_T} (hc : vwCl[ci]? = some (Cn, T, Nf)) (hin : ∀ w ∈ u_ws Cn T Nf, w ∈ cG) (hj : j < Nf) (hl : Cond.fieldLink own idx (T j).1 (T j).2.1 (T j).2.2.1 ∈ cG) (hd : decode cc pc = .ok (.getfield idx, 3)) : okA SC M (cc, own, nL, mr, ini) pc (o_gf ci j (pc + 3)) := by
  refine ⟨m_gf _ _ _, ?_⟩
  rintro p l e R s m args below meth c Q g n0 z0 N Z F Rt C L S h ⟨k, S', v, rfl, hg, ho⟩ H locs cells slots ls a1 a2 a3 a4 a5
  obtain ⟨fs, h1, h2⟩ := gf_some hg
  exact va_get C.1.1 C.1.2.1 C.1.2.2.2.2 hin C.1.2.2.2.1 C.2.1.1 (a1.at h1) 0 rfl hc j hj (C.1.2.2.2.2 _ hl) (fun _ z => z) (v := rn g v) (by rw [List.getElem?_map, h2]; rfl) hd (ho.2 H locs cells slots ls a1 a2 a3 a4 a5)
theorem k_pf {ok : Value → Prop} {idx ci j Nf : Nat} {Cn : String} {T : u_T} {ty : FieldType} (ty0 : Nat → FieldType) (hty : ∀ k, k < Nf → parseFieldDescriptor (T k).2.2.1 = some (ty0 k)) (hnm : ∀ a, a < Nf → ∀ b, b < Nf → a ≠ b → (T a).2.1 ≠ (T b).2.1) (hok : ∀ g v, ok v → narrow ty (rn g v) = rn g v ∧ fits ty (rn g v) = true) (hc : vwCl[ci]? = some (Cn, T, Nf)) (hin : ∀ w ∈ u_ws Cn T Nf, w ∈ cG) (hj : j < Nf) (hfin : (T j).2.2.2 = false) (hdt : parseFieldDescriptor (T j).2.2.1 = some ty) (hl : Cond.fieldLink own idx (T j).1 (T j).2.1 (T j).2.2.1 ∈ cG) (hd : decode cc pc = .ok (.putfield idx, 3)) : okA SC M (cc, own, nL, mr, ini) pc (o_pf ok ci j (pc + 3)) := by
  refine ⟨m_pf _ _ _ _, ?_⟩
  rintro p l e R s m args below meth c Q g n0 z0 N Z F Rt C L S h ⟨v, k, S', h', rfl, hv, hg, ho⟩ H locs cells slots ls a1 a2 a3 a4 a5
  obtain ⟨fs, h1, h2, rfl⟩ := pfh_some hg
  have hap := va_apart (own := own) C.1.2.2.2.2 hin ty0 hty hnm C.2.1.1 hc
  obtain ⟨r, r1, cell, q1, q2, q3, q4⟩ := a1.2 k _ h1
  have hr : r = (Cn, T, Nf) := Option.some.inj (r1.symm.trans hc)
  subst hr
  obtain ⟨hS, hfc, kC, hkC, hkind⟩ := C.2.1.1.1 ci _ hc
  obtain ⟨cf, kf, fi, f, hi, hsl⟩ := hS j hj
  have hlay := C.1.2.2.2.2 _ (hin _ (u_in_lay hj))
  unfold u_lay at hlay
  rw [if_neg (by rw [hfin]; decide)] at hlay
  have hst := (u_facts hfc hkC (u_lays C.1.2.2.2.2 hin hj) hi).1
  have h6 := u_store hfc hkC hkind hlay hi hdt (hok g v hv).1 (hok g v hv).2
  refine W.putK C.1.1 C.1.2.1 (f := f) ⟨C.1.2.2.2.1, C.1.2.2.2.2 _ hl, ⟨_, _, _, hi⟩, hst⟩ (by rw [q2]; exact h6) q1 q3 (by rw [hsl]; exact k2_hasslot (q4 j hj)) rfl rfl hd fun H' e1 e2 e3 => ?_
  rw [hsl] at e1 ⊢
  refine ho.2 H' _ cells slots ls (a1.set h1 e2 e3 ⟨_, hc, t_OB.to (V := updV (vp_V (fs.map (rn g))) j (rn g v)) ⟨_, e1, q2, q3, t_set q4 hap hj (rn g v)⟩ (fun i _ => ?_)⟩) (a2.put e2 e3 (Nat.le_add_right _ _)) a3 (by rw [List.length_set]; exact a4) (by rw [sz_set h1 (by simp [csz])]; exact a5)
  rw [vp_updV_set (by rw [List.length_map]; exact h2)]
  show _ = vp_V ((fs.set j v).map (rn g)) i
  rw [List.map_set]
theorem k_pfF {ok : Value → Prop} {idx ci j Nf : Nat} {Cn : String} {T : u_T} {ty : FieldType} (ty0 : Nat → FieldType) (hty : ∀ k, k < Nf → parseFieldDescriptor (T k).2.2.1 = some (ty0 k)) (hnm : ∀ a, a < Nf → ∀ b, b < Nf → a ≠ b → (T a).2.1 ≠ (T b).2.1) (hok : ∀ g v, ok v → narrow ty (rn g v) = rn g v ∧ fits ty (rn g v) = true) (hc : vwCl[ci]? = some (Cn, T, Nf)) (hin : ∀ w ∈ u_ws Cn T Nf, w ∈ cG) (hj : j < Nf) (hfin : (T j).2.2.2 = true) (hdecl : (T j).1 = own) (hdt : parseFieldDescriptor (T j).2.2.1 = some ty) (hl : Cond.fieldLink own idx (T j).1 (T j).2.1 (T j).2.2.1 ∈ cG) (hd : decode cc pc = .ok (.putfield idx, 3)) : okA SC M (cc, own, nL, mr, true) pc (o_pf ok ci j (pc + 3)) := by
  refine ⟨m_pf _ _ _ _, ?_⟩
  rintro p l e R s m args below meth c Q g n0 z0 N Z F Rt C L S h ⟨v, k, S', h', rfl, hv, hg, ho⟩ H locs cells slots ls a1 a2 a3 a4 a5
  obtain ⟨fs, h1, h2, rfl⟩ := pfh_some hg
  have hap := va_apart (own := own) C.1.2.2.2.2 hin ty0 hty hnm C.2.1.1 hc
  obtain ⟨r, r1, cell, q1, q2, q3, q4⟩ := a1.2 k _ h1
  have hr : r = (Cn, T, Nf) := Option.some.inj (r1.symm.trans hc)
  subst hr
  obtain ⟨hS, hfc, kC, hkC, hkind⟩ := C.2.1.1.1 ci _ hc
  obtain ⟨cf, kf, fi, f, hi, hsl⟩ := hS j hj
  have hlay := C.1.2.2.2.2 _ (hin _ (u_in_lay hj))
  unfold u_lay at hlay
  rw [if_pos hfin] at hlay
  have hst := (u_facts hfc hkC (u_lays C.1.2.2.2.2 hin hj) hi).1
  have hcf : m.cls = cf := by
    obtain ⟨_, _, c', _, _, _, -, -, hf', -, -, -, hown2, -⟩ := Cond.laysFinal_spec hlay
    have e1 : c' = cf := by have := hi.symm.trans hf'; simp at this; exact this.1.symm
    rw [hdecl] at hown2
    rw [← e1]; exact Option.some.inj (C.1.2.2.2.1.symm.trans hown2)
  have h6 := u_fits hfc hkC hkind (Or.inr hlay) hi hdt (hok g v hv).1 (hok g v hv).2
  refine W.putFinK C.1.1 C.1.2.1 C.1.2.2.2.1 (C.1.2.2.2.2 _ hl) hi hst hcf (C.2.2.2.2.1 rfl) (by rw [q2]; exact h6) q1 q3 (by rw [hsl]; exact k2_hasslot (q4 j hj)) rfl rfl hd fun H' e1 e2 e3 => ?_
  rw [hsl] at e1 ⊢
  refine ho.2 H' _ cells slots ls (a1.set h1 e2 e3 ⟨_, hc, t_OB.to (V := updV (vp_V (fs.map (rn g))) j (rn g v)) ⟨_, e1, q2, q3, t_set q4 hap hj (rn g v)⟩ (fun i _ => ?_)⟩) (a2.put e2 e3 (Nat.le_add_right _ _)) a3 (by rw [List.length_set]; exact a4) (by rw [sz_set h1 (by simp [csz])]; exact a5)
  rw [vp_updV_set (by rw [List.length_map]; exact h2)]
  show _ = vp_V ((fs.set j v).map (rn g)) i
  rw [List.map_set]
theorem k_ia (hd : decode cc pc = .ok (.iaload, 1)) : okA SC M (cc, own, nL, mr, ini) pc (o_ia (pc + 1)) := by
  refine ⟨m_ia _, ?_⟩
  rintro p l e R s m args below meth c Q g n0 z0 N Z F Rt C L S h ⟨i, k, S', x, rfl, hg, ho⟩ H locs cells slots ls a1 a2 a3 a4 a5
  obtain ⟨xs, h1, h2, rfl⟩ := ild_some hg
  exact va_iald C.1.1 C.1.2.1 C.2.1.1 (a1.at h1) 0 0 rfl rfl h2 hd (ho.2 H locs cells slots ls a1 a2 a3 a4 a5)
theorem k_ist (hd : decode cc pc = .ok (.iastore, 1)) : okA SC M (cc, own, nL, mr, ini) pc (o_ist (pc + 1)) := by
  refine ⟨m_ist _, ?_⟩
  rintro p l e R s m args below meth c Q g n0 z0 N Z F Rt C L S h ⟨x, i, k, S', h', rfl, hg, ho⟩ H locs cells slots ls a1 a2 a3 a4 a5
  obtain ⟨xs, h1, h2, rfl⟩ := ist_some hg
  have hlt : i.toNatClampNeg < xs.length := Nat.not_le.mp fun q => h2 (Or.inr q)
  refine W.iast C.1.1 C.1.2.1 (a1.2 k _ h1) ((C.2.1.1.2 0 _ rfl).1 xs.length (fun j => .int (xs.getD j 0))) (fun q => by cases q) (by show ¬ (i < 0 ∨ (arrV _ _ _).slots.size ≤ _); rw [arrV_size]; exact h2) rfl rfl hd fun H1 e1 e2 e3 => ?_
  refine ho.2 H1 _ cells slots ls (a1.set h1 e2 e3 ?_) (a2.put e2 e3 (Nat.le_add_right _ _)) a3 (by rw [List.length_set]; exact a4) (by rw [sz_set h1 (by simp [csz])]; exact a5)
  show H1[_]? = some (vp_cell _ _)
  rw [e1]
  show some ((vp_cell _ (_, Sum.inl _)).setSlot _ _) = some (vp_cell _ (_, Sum.inl _))
  rw [vp_cell_i, vp_cell_i, arrV_store, List.length_set]
  congr 2
  funext q
  by_cases hq : q = i.toNatClampNeg
  · subst hq
    simp [updV, hlt]
  · simp [updV, hq, List.getElem?_set_ne (Ne.symm hq)]
theorem k_aa (hd : decode cc pc = .ok (.aaload, 1)) : okA SC M (cc, own, nL, mr, ini) pc (o_aa (pc + 1)) := by
  refine ⟨m_aa _, ?_⟩
  rintro p l e R s m args below meth c Q g n0 z0 N Z F Rt C L S h ⟨i, k, S', v, rfl, hg, ho⟩ H locs cells slots ls a1 a2 a3 a4 a5
  obtain ⟨t, rs, r, h1, ht, h2, h3, rfl⟩ := ald_some hg
  have hk := ho.2 H locs cells slots ls a1 a2 a3 a4 a5
  have ee : va_rf ((rs.getD i.toNatClampNeg none).map (fun k => g.1 + k)) = rn g (vq r) := by
    rw [show rs.getD i.toNatClampNeg none = r by simp [List.getD, h3]]
    cases r <;> rfl
  have hk2 : W p l e R s m args below meth c H locs cells slots Q (F0 m (pc + 1) ls (va_rf ((rs.getD i.toNatClampNeg none).map (fun k => g.1 + k)) :: S'.map (rn g))) := by rw [ee]; exact hk
  match t, ht with
  | 0, _ => exact va_aldq C.1.1 C.1.2.1 C.2.1.1 (a1.at h1) 0 1 rfl rfl h2 hd hk2
  | 1, _ => exact va_aldq C.1.1 C.1.2.1 C.2.1.1 (a1.at h1) 0 2 rfl rfl h2 hd hk2
theorem k_ast {t ci : Nat} {r : vw_C} (t0 : Nat) (ht : ∀ g : gG, (tyl g)[t0]? = some (g.2.2.2.2.1 t, .object r.1)) (hc : vwCl[ci]? = some r) (hd : decode cc pc = .ok (.aastore, 1)) : okA SC M (cc, own, nL, mr, ini) pc (o_ast t ci (pc + 1)) := by
  refine ⟨m_ast _ _ _, ?_⟩
  rintro p l e R s m args below meth c Q g n0 z0 N Z F Rt C L S h ⟨v, i, k, S', h', rfl, hg, ho⟩ H locs cells slots ls a1 a2 a3 a4 a5
  obtain ⟨rs, fs, h1, h2, h3, rfl⟩ := asth_some hg
  have hlt : i.toNatClampNeg < rs.length := Nat.not_le.mp fun q => h3 (Or.inr q)
  have h0 : ¬ i < 0 := fun q => h3 (Or.inl q)
  obtain ⟨r', hr', cellV, g1, g2, g3, -⟩ := a1.2 v _ h2
  have hcls := (C.2.1.1.1 ci r hc).2
  obtain ⟨kA, comp, k1, k2, k3, -⟩ := (C.2.1.1.2 t0 _ (ht g)).2
  have hcomp : comp = g.2.2.2.2.2.1 ci := Option.some.inj (k3.symm.trans hcls.1)
  subst hcomp
  obtain ⟨kC, hkC, -⟩ := hcls.2
  refine W.aast C.1.1 C.1.2.1 (a1.2 k _ h1) (fun q h => by cases h) (fun h => by cases h) k1 k2 rfl hkC ⟨h0, by show _ < (arrV _ _ _).slots.size; rw [arrV_size]; exact hlt⟩ g1 (fun q h => by rw [g3] at h; cases h) (by rw [g2]; exact hkC) (by rw [g2]; exact va_assign hcls) rfl rfl hd fun H1 e1 e2 e3 => ?_
  refine ho.2 H1 _ cells slots ls (a1.set h1 e2 e3 ?_) (a2.put e2 e3 (Nat.le_add_right _ _)) a3 (by rw [List.length_set]; exact a4) (by rw [sz_set h1 (by simp [csz])]; exact a5)
  show H1[_]? = some (vp_cell _ _)
  rw [e1]
  show some ((vp_cell _ (_, Sum.inr (Sum.inr (Sum.inr (Sum.inr _))))).setSlot _ _) = some (vp_cell _ (_, Sum.inr (Sum.inr (Sum.inr (Sum.inr _)))))
  rw [vp_cell_q, vp_cell_q, arrV_store, List.length_set]
  congr 2
  funext q
  by_cases hq : q = i.toNatClampNeg
  · subst hq
    simp [updV, hlt, va_rf]
  · simp [updV, hq, List.getElem?_set_ne (Ne.symm hq)]
theorem k_len (hd : decode cc pc = .ok (.arraylength, 1)) : okA SC M (cc, own, nL, mr, ini) pc (o_len (pc + 1)) := by
  refine ⟨m_len _, ?_⟩
  rintro p l e R s m args below meth c Q g n0 z0 N Z F Rt C L S h ⟨k, S', n, rfl, hg, ho⟩ H locs cells slots ls a1 a2 a3 a4 a5
  have hk := ho.2 H locs cells slots ls a1 a2 a3 a4 a5
  rcases alen_some hg with ⟨xs, h1, rfl⟩ | ⟨t, rs, h1, ht, rfl⟩
  · exact va_alen C.1.1 C.1.2.1 C.2.1.1 (a1.at h1) 0 0 rfl rfl rfl hd hk
  · match t, ht with
    | 0, _ => exact va_alen C.1.1 C.1.2.1 C.2.1.1 (a1.at h1) 0 1 rfl rfl rfl hd hk
    | 1, _ => exact va_alen C.1.1 C.1.2.1 C.2.1.1 (a1.at h1) 0 2 rfl rfl rfl hd hk
theorem k_gs {idx : Nat} (hl : Cond.fieldLink own idx "DuneMaps" "WEIGHTS" "[I" ∈ cG) (hd : decode cc pc = .ok (.getstatic idx, 3)) : okA SC M (cc, own, nL, mr, ini) pc (o_const (.float 0) (pc + 3)) := by
  refine ⟨m_const _ _, ?_⟩
  intro p l e R s m args below meth c Q g n0 z0 N Z F Rt C L S h ho H locs cells slots ls a1 a2 a3 a4 a5
  exact va_gets C.1.1 C.1.2.1 C.2.2.1.1.1 a2 C.1.2.2.2.1 (C.1.2.2.2.2 _ hl) (fun _ z => z) hd (ho.2 H locs cells slots ls a1 a2 a3 a4 a5)
theorem k_iaT (hd : decode cc pc = .ok (.iaload, 1)) : okA SC M (cc, own, nL, mr, ini) pc (o_iaT (pc + 1)) := by
  refine ⟨m_iaT _, ?_⟩
  rintro p l e R s m args below meth c Q g n0 z0 N Z F Rt C L S h ⟨i, S', rfl, hi, ho⟩ H locs cells slots ls a1 a2 a3 a4 a5
  exact va_ti C.1.1 C.1.2.1 C.2.2.1.1.2 a2 hi rfl hd (ho.2 H locs cells slots ls a1 a2 a3 a4 a5)
theorem k_lenT (hd : decode cc pc = .ok (.arraylength, 1)) : okA SC M (cc, own, nL, mr, ini) pc (o_lenT (pc + 1)) := by
  refine ⟨m_lenT _, ?_⟩
  rintro p l e R s m args below meth c Q g n0 z0 N Z F Rt C L S h ⟨S', rfl, ho⟩ H locs cells slots ls a1 a2 a3 a4 a5
  exact va_tlen C.1.1 C.1.2.1 C.2.2.1.1.2 a2 rfl hd (ho.2 H locs cells slots ls a1 a2 a3 a4 a5)
theorem k_iaS {n : Nat} {xs : Nat → Int32} (hS : SC n xs) (hd : decode cc pc = .ok (.iaload, 1)) : okA SC M (cc, own, nL, mr, ini) pc (o_iaS n xs (pc + 1)) := by
  refine ⟨m_iaS _ _ _, ?_⟩
  rintro p l e R s m args below meth c Q g n0 z0 N Z F Rt C L S h ⟨i, S', rfl, hi, ho⟩ H locs cells slots ls a1 a2 a3 a4 a5
  obtain ⟨hX, hb⟩ := C.2.2.1.2 n xs hS
  exact va_sld C.1.1 C.1.2.1 hX (Nat.lt_of_lt_of_le hb C.2.2.2.1.1) (Nat.not_le.mpr hb) a2 hi hd (ho.2 H locs cells slots ls a1 a2 a3 a4 a5)
theorem k_lenS {n : Nat} {xs : Nat → Int32} (hS : SC n xs) (hd : decode cc pc = .ok (.arraylength, 1)) : okA SC M (cc, own, nL, mr, ini) pc (o_lenS n (pc + 1)) := by
  refine ⟨m_lenS _ _, ?_⟩
  rintro p l e R s m args below meth c Q g n0 z0 N Z F Rt C L S h ⟨S', rfl, ho⟩ H locs cells slots ls a1 a2 a3 a4 a5
  obtain ⟨hX, hb⟩ := C.2.2.1.2 n xs hS
  exact va_slen C.1.1 C.1.2.1 hX (Nat.lt_of_lt_of_le hb C.2.2.2.1.1) (Nat.not_le.mpr hb) a2 hd (ho.2 H locs cells slots ls a1 a2 a3 a4 a5)
theorem k_new {idx ci Nf : Nat} {Cn : String} {T : u_T} (ty : Nat → FieldType) (fs : List Value) (hty : ∀ k, k < Nf → parseFieldDescriptor (T k).2.2.1 = some (ty k)) (hc : vwCl[ci]? = some (Cn, T, Nf)) (hin : ∀ w ∈ u_ws Cn T Nf, w ∈ cG) (hcl : Cond.classLink own idx Cn ∈ cG) (hins : Cond.instantiable Cn Nf ∈ cG) (hini : Cond.initialized Cn ∈ cG) (hfl : fs.length = Nf) (hfs : ∀ (g : gG) (j : Nat), j < Nf → defaultValue (ty j) = vp_V (fs.map (rn g)) j) (hd : decode cc pc = .ok (.new idx, 3)) : okA SC M (cc, own, nL, mr, ini) pc (o_new ci fs (pc + 3)) := by
  refine ⟨m_new _ _ _, ?_⟩
  rintro p l e R s m args below meth c Q g n0 z0 N Z F Rt C L S h ho H locs cells slots ls a1 a2 a3 a4 a5
  have hKn := C.2.1.1.1 ci _ hc
  have hz := ho.1
  rw [List.length_append, sz_app] at hz
  have hz2 : sz [(.inr (.inr (ci, fs)) : pC)] = Nf := by simp [sz, csz, hfl]
  have hR := C.2.2.2.1
  simp only [List.length_singleton, hz2] at hz
  refine W.newcK C.1.1 C.1.2.1 C.1.2.2.2.1 (C.1.2.2.2.2 _ hcl) (C.1.2.2.2.2 _ hins) (C.1.2.2.2.2 _ hini) rfl hd (by omega) (by omega) hKn.2.1 rfl fun H1 kC hkC e1 z1 o1 => ?_
  have hw : wR g (h ++ [.inr (.inr (ci, fs))]) H1 := a1.push z1 o1 ⟨_, hc, (u_born ty C.1.2.2.2.2 hin hKn hkC e1 hty).to (hfs g)⟩
  have hk := ho.2 H1 locs (cells + 1) (slots + Nf) ls hw ⟨Nat.le_trans a2.1 (by omega), fun x h1 h2 => (o1 x (Nat.lt_of_lt_of_le h1 a2.1)).trans (a2.2.1 x h1 h2), a2.2.2⟩ a3 (by rw [List.length_append]; simp; omega) (by rw [sz_app, hz2]; omega)
  rw [a1.1]
  exact hk
theorem k_newa (ha : Cond.arrayClass .int ∈ cG) (hd : decode cc pc = .ok (.newarray .int, 2)) : okA SC M (cc, own, nL, mr, ini) pc (o_newa (pc + 2)) := by
  refine ⟨m_newa _, ?_⟩
  rintro p l e R s m args below meth c Q g n0 z0 N Z F Rt C L S h ⟨n, S', rfl, hn, hn2, ho⟩ H locs cells slots ls a1 a2 a3 a4 a5
  have hz := ho.1
  rw [List.length_append, sz_app] at hz
  have hz2 : sz [(.inl (List.replicate n.toNatClampNeg 0) : pC)] = n.toNatClampNeg := by simp [sz, csz]
  have hR := C.2.2.2.1
  simp only [List.length_singleton, hz2] at hz
  refine va_newaK (atype := .int) C.1.1 C.1.2.1 (C.1.2.2.2.2 _ ha) rfl hd rfl hn rfl (by show _ * 4 ≤ _; omega) (by omega) (by omega) rfl fun H1 cA e1 z1 o1 hAr hNm => ?_
  have hcA : cA = g.2.2.2.1 := Option.some.inj (hNm.symm.trans (C.2.1.1.2 0 _ rfl).2)
  subst hcA
  have hw : wR g (h ++ [.inl (List.replicate n.toNatClampNeg 0)]) H1 := a1.push z1 o1 (by
    show H1[H.size]? = some (vp_cell _ (_, Sum.inl _))
    rw [e1, vp_cell_i, List.length_replicate]
    congr 2
    funext q
    by_cases hq : q < n.toNatClampNeg <;> simp [hq, defaultValue, newarray.typeOf])
  have hk := ho.2 H1 locs (cells + 1) (slots + n.toNatClampNeg) ls hw ⟨Nat.le_trans a2.1 (by omega), fun x h1 h2 => (o1 x (Nat.lt_of_lt_of_le h1 a2.1)).trans (a2.2.1 x h1 h2), a2.2.2⟩ a3 (by rw [List.length_append]; simp; omega) (by rw [sz_app, hz2]; omega)
  rw [a1.1]
  exact hk
theorem k_anew {idx t : Nat} {Cn : String} (t0 : Nat) (ht : ∀ g : gG, (tyl g)[t0]? = some (g.2.2.2.2.1 t, .object Cn)) (hao : ∀ (g : gG) (U : State), cxK g U → va_AO Cn U) (hcl : Cond.classLink own idx Cn ∈ cG) (hd : decode cc pc = .ok (.anewarray idx, 3)) : okA SC M (cc, own, nL, mr, ini) pc (o_anew t (pc + 3)) := by
  refine ⟨m_anew _ _, ?_⟩
  rintro p l e R s m args below meth c Q g n0 z0 N Z F Rt C L S h ⟨n, S', rfl, hn, hn2, ho⟩ H locs cells slots ls a1 a2 a3 a4 a5
  have hz := ho.1
  rw [List.length_append, sz_app] at hz
  have hz2 : sz [(.inr (.inl (t, List.replicate n.toNatClampNeg none)) : pC)] = n.toNatClampNeg := by simp [sz, csz]
  have hR := C.2.2.2.1
  simp only [List.length_singleton, hz2] at hz
  refine W.anew C.1.1 C.1.2.1 C.1.2.2.2.1 (C.1.2.2.2.2 _ hcl) (va_AO.use (hao g s C.2.1)) rfl hd rfl hn (by omega) (by omega) (by omega) fun cA kA comp f1 f2 f3 f4 => ?_
  obtain ⟨kA2, comp2, -, -, -, f5⟩ := (C.2.1.1.2 t0 _ (ht g)).2
  have hcA : cA = g.2.2.2.2.1 t := Option.some.inj (f1.symm.trans f5)
  subst hcA
  generalize hH1 : H.push ({ cls := g.2.2.2.2.1 t, slots := Array.replicate n.toNatClampNeg .null, vm := .none } : Cell) = H1
  have z1 : H1.size = H.size + 1 := by rw [← hH1, Array.size_push]
  have e1 : H1[H.size]? = some (arrV (g.2.2.2.2.1 t) n.toNatClampNeg (fun _ => .null)) := by rw [← hH1, Array.getElem?_push_size, ← arrV_new]
  have o1 : ∀ q : Nat, q < H.size → H1[q]? = H[q]? := fun q hq => by rw [← hH1, Array.getElem?_push, if_neg (Nat.ne_of_lt hq)]
  have hw : wR g (h ++ [.inr (.inl (t, List.replicate n.toNatClampNeg none))]) H1 := a1.push z1 o1 (by
    show H1[H.size]? = some (vp_cell _ (_, Sum.inr (Sum.inr (Sum.inr (Sum.inr _)))))
    rw [e1, vp_cell_q]
    show _ = some (arrV _ (List.replicate n.toNatClampNeg none).length _)
    rw [List.length_replicate]
    congr 2
    funext q
    by_cases hq : q < n.toNatClampNeg <;> simp [hq, va_rf])
  have hk := ho.2 H1 locs (cells + 1) (slots + n.toNatClampNeg) ls hw ⟨Nat.le_trans a2.1 (by omega), fun x h1 h2 => (o1 x (Nat.lt_of_lt_of_le h1 a2.1)).trans (a2.2.1 x h1 h2), a2.2.2⟩ a3 (by rw [List.length_append]; simp; omega) (by rw [sz_app, hz2]; omega)
  rw [a1.1]
  exact hk
theorem k_obj {idx : Nat} (h1 : Cond.methodLink own idx objectInit ∈ cG) (h2 : Cond.instanceMethod objectInit ∈ cG) (h3 : Cond.code objectInit ⟨#[0xb1]⟩ 1 none ∈ cG) (hd : decode cc pc = .ok (.invokespecial idx, 3)) : okA SC M (cc, own, nL, mr, ini) pc (o_obj (pc + 3)) := by
  refine ⟨m_obj _, ?_⟩
  rintro p l e R s m args below meth c Q g n0 z0 N Z F Rt C L S h ⟨k, S', rfl, hs, ho⟩ H locs cells slots ls a1 a2 a3 a4 a5
  have hR := C.2.2.2.1
  have hs' : ((S'.map (rn g)).map fun v => v.category).sum ≤ 8 := by
    rw [List.map_map]
    have : ((fun v => v.category) ∘ rn g) = fun v : Value => v.category := funext fun v => rn_cat g v
    rw [this]; exact hs
  exact W.objInit C.1.1 C.1.2.1 C.1.2.2.2.1 (C.1.2.2.2.2 _ h1) (C.1.2.2.2.2 _ h2) (C.1.2.2.2.2 _ h3) rfl (by rw [C.1.2.2.1]; exact a3.1) rfl hd hR.2.2.2.1 (by show 2 * 0 + _ + 12 ≤ _; omega) (ho.2 H locs cells slots ls a1 a2 a3 a4 a5)
end SH
end
section
theorem cPre_blind (g : gG) (h : pH) (as : List Value) : FrameBlind (va_Pc (as.map (rn g)) (cPre g h)) := by
  rintro a U gf mk ⟨q0, q1, q2, q3⟩
  exact ⟨q0, q1, q2.same rfl, q3.moved (Vm.Alike.refl U.vm)⟩
theorem cPre_at {g : gG} {h : pH} {s : State} {H : Heap} {locs : List Loc} (a1 : wR g h H) (a2 : va_S (nA g) s.heap H locs) (k1 : cxK g s) (k2 : cxZ g s s.heap) : ∀ U : State, U.heap = H → s.WarmedH U.vm → cPre g h U := by
  intro U hU hW
  refine ⟨by rw [hU]; exact a1, k1.warm hW, ?_⟩
  rw [hU]
  exact (k2.kept a2.2.1).moved hW.alike
section SC1
variable {p : Program} {l : Launch} {e : Env} {R : Room} {s : State} {m : MethodId} {args : Array Value} {below : List Frame} {meth : Method} {c : Code} {H : Heap} {locs : List Loc} {cells slots : Nat} {Q : State → Prop}
theorem run_to {g : gG} {r : Option Value} {h1 : pH} {mc ms pc : Nat} {ls : Array Slot} {st0 rest : List Value} {a : Array Value} (hr : va_Run p l e R s m args below meth c H locs cells slots mc ms (F0 m pc ls st0) rest (cPost g r h1 a) (nA g)) (hS : va_S (nA g) s.heap H locs)
    (kk : ∀ (H1 : Heap) (locs1 : List Loc), wR g h1 H1 → va_S (nA g) s.heap H1 locs1 → W p l e R s m args below meth c H1 locs1 (cells + mc) (slots + ms) Q (F0 m (pc + 3) ls ((r.map (rn g)).toList ++ rest))) : W p l e R s m args below meth c H locs cells slots Q (F0 m pc ls st0) := by
  intro T hT X
  obtain ⟨v, st₀, t, T', L, h0, X', hL, e1, e2, ⟨hv, hw, hz, hk⟩, st⟩ := hr T hT X
  cases hv
  rw [h0] at hz hk
  obtain ⟨t2, b1, b2⟩ := kk T'.heap (locs ++ L) (by rw [e1]; exact hw) ⟨Nat.le_trans hS.1 (by rw [e1]; exact hz), fun q h1 h2 => by rw [e1, hk q (Nat.lt_of_lt_of_le h1 hS.1) h2]; exact hS.2.1 q h1 h2, fun q hq => by
      rcases List.mem_append.mp hq with h | h
      · exact hS.2.2 q h
      · exact hL q h⟩ T' rfl X'
  exact ⟨t2, st t2 b1, b2⟩
end SC1
theorem rn_sum (g : gG) (S : List Value) : ((S.map (rn g)).map fun v => v.category).sum = (S.map fun v => v.category).sum := by
  rw [List.map_map]
  have : ((fun v => v.category) ∘ rn g) = fun v : Value => v.category := funext fun v => rn_cat g v
  rw [this]
theorem S_split (g : gG) (S : List Value) (n : Nat) : S.map (rn g) = (((S.take n).reverse).map (rn g)).reverse ++ (S.drop n).map (rn g) := by
  rw [← List.map_reverse, List.reverse_reverse, ← List.map_append, List.take_append_drop]
theorem r_push (g : gG) (r : Option Value) (S : List Value) : (r.toList ++ S).map (rn g) = (r.map (rn g)).toList ++ S.map (rn g) := by cases r <;> rfl
def rc0 (_ : pH) (_ : List Value) : Prop := True
def rcI (_ : pH) (as : List Value) : Prop := ∃ k rest, as = .ref k :: rest
def rcV (ci : Nat) (h : pH) (as : List Value) : Prop := rcv h ci as
section SK
variable {SC : Nat → (Nat → Int32) → Prop} {M : mI} {cc : ByteArray} {own : String} {nL : Nat} {mr : Option FieldType} {ini : Bool} {pc : Nat}
theorem k_callV {idx y n ci : Nat} {C : String} {T : u_T} {Nf : Nat} (hc : vwCl[ci]? = some (C, T, Nf)) (w1 : Cond.methodLink own idx (M y).1 ∈ cG) (w2 : Cond.instanceMethod (M y).1 ∈ cG) (w3 : Cond.selects C (M y).1 (M y).1 ∈ cG) (w4 : Cond.initialized C ∈ cG) (w5 : Cond.code (M y).1 (M y).2.1 (M y).2.2.2.1 (M y).2.2.2.2.1 ∈ cG)
    (hy : (M y).1.cls = C ∧ (M y).1.cls ≠ "java/lang/invoke/MethodHandle" ∧ (M y).1.cls ≠ "java/lang/invoke/VarHandle" ∧ (parseMethodDescriptor (M y).1.desc).map (fun d => d.parameters.length) = some n) (hm : (M y).2.2.2.1 ≤ 45) (hd : decode cc pc = .ok (.invokevirtual idx, 3)) : okA SC M (cc, own, nL, mr, ini) pc (o_call (rcV ci) y (n + 1) (pc + 3)) := by
  refine ⟨m_call _ _ _ _, ?_⟩
  rintro p l e R s m args below meth c Q g n0 z0 N Z F Rt Cx L S h ⟨hn, hs, ⟨k, rest, fs, hk, hob⟩, r, h1, hF, ho⟩ H locs cells slots ls a1 a2 a3 a4 a5
  obtain ⟨hz, rm, r1, r2, r3, r4, hM⟩ := Cx.2.2.2.2.2.1 _ _ _ _ _ hF
  have hz1 := ho.1
  have hR := Cx.2.2.2.1
  have hlen : rest.length = n := by
    have e1 := congrArg List.length hk
    simp only [List.length_reverse, List.length_take, List.length_cons] at e1
    omega
  rw [S_split g S (n + 1), hk]
  rw [hk] at hM
  refine run_to (va_runV (As := rest.map (rn g)) (rest := (S.drop (n + 1)).map (rn g)) (b := g.1 + k) (C := C) (n := n) Cx.1 hM (cwV n Cx.1.2.2.2.2 (fun w hw => ?_) rfl r1 r2 hy ⟨r3, by omega⟩) ⟨cPre_blind g h _, ?_, fun U hU hW => ⟨rfl, cPre_at a1 a2 Cx.2.1 Cx.2.2.1.1 U hU hW⟩⟩ rfl (by rw [List.length_map]; exact hlen) a3.1 ?_ (lv_room (by rw [rn_sum]; exact hs)) hd ⟨by omega, by omega⟩) a2 (fun H1 locs1 hw hS1 => ?_)
  · unfold wsV at hw
    rcases List.mem_append.mp hw with hw | hw
    · simp only [List.mem_cons, List.not_mem_nil, or_false] at hw
      rcases hw with rfl | rfl | rfl | rfl
      · exact ⟨w1, cG_good w1⟩
      · exact ⟨w2, cG_good w2⟩
      · exact ⟨w3, cG_good w3⟩
      · exact ⟨w4, cG_good w4⟩
    · exact mW_good w5 w hw
  · exact va_recv Cx.2.1.1 (a1.at hob) (ci := ci) (q := (C, T, Nf)) (q0 := 0) hc rfl
  · simp [rn]
  · rw [← r_push]
    exact ho.2 H1 locs1 _ _ ls hw hS1 a3 (by omega) (by omega)
theorem k_callS {idx y n : Nat} (w1 : Cond.methodLink own idx (M y).1 ∈ cG) (w2 : Cond.static (M y).1 ∈ cG) (w4 : Cond.initialized (M y).1.cls ∈ cG) (w5 : Cond.code (M y).1 (M y).2.1 (M y).2.2.2.1 (M y).2.2.2.2.1 ∈ cG)
    (hy : (M y).1.cls ≠ "java/lang/invoke/MethodHandle" ∧ (M y).1.cls ≠ "java/lang/invoke/VarHandle" ∧ (parseMethodDescriptor (M y).1.desc).map (fun d => d.parameters.length) = some n) (hm : (M y).2.2.2.1 ≤ 45) (hd : decode cc pc = .ok (.invokestatic idx, 3)) : okA SC M (cc, own, nL, mr, ini) pc (o_call rc0 y n (pc + 3)) := by
  refine ⟨m_call _ _ _ _, ?_⟩
  rintro p l e R s m args below meth c Q g n0 z0 N Z F Rt Cx L S h ⟨hn, hs, -, r, h1, hF, ho⟩ H locs cells slots ls a1 a2 a3 a4 a5
  obtain ⟨hz, rm, r1, r2, r3, r4, hM⟩ := Cx.2.2.2.2.2.1 _ _ _ _ _ hF
  have hz1 := ho.1
  have hR := Cx.2.2.2.1
  rw [S_split g S n]
  refine run_to (va_runS (As := ((S.take n).reverse).map (rn g)) (rest := (S.drop n).map (rn g)) (n := n) Cx.1 hM (va_cwS n Cx.1.2.2.2.2 (fun w hw => ?_) rfl r1 r2 hy ⟨r3, by omega⟩) ⟨cPre_blind g h _, fun U hU hW => ⟨rfl, cPre_at a1 a2 Cx.2.1 Cx.2.2.1.1 U hU hW⟩⟩ rfl (by simp; omega) a3.1 rfl (lv_room (by rw [rn_sum]; exact hs)) hd ⟨by omega, by omega⟩) a2 (fun H1 locs1 hw hS1 => ?_)
  · unfold va_wsS at hw
    rcases List.mem_append.mp hw with hw | hw
    · simp only [List.mem_cons, List.not_mem_nil, or_false] at hw
      rcases hw with rfl | rfl | rfl
      · exact ⟨w1, cG_good w1⟩
      · exact ⟨w2, cG_good w2⟩
      · exact ⟨w4, cG_good w4⟩
    · exact mW_good w5 w hw
  · rw [← r_push]
    exact ho.2 H1 locs1 _ _ ls hw hS1 a3 (by omega) (by omega)
theorem k_callSN {idx y n : Nat} {host : String} (w1 : (own, idx, (M y).1, host) ∈ nests) (w2 : Cond.static (M y).1 ∈ cG) (w4 : Cond.initialized (M y).1.cls ∈ cG) (w5 : Cond.code (M y).1 (M y).2.1 (M y).2.2.2.1 (M y).2.2.2.2.1 ∈ cG)
    (hy : (M y).1.cls ≠ "java/lang/invoke/MethodHandle" ∧ (M y).1.cls ≠ "java/lang/invoke/VarHandle" ∧ (parseMethodDescriptor (M y).1.desc).map (fun d => d.parameters.length) = some n) (hm : (M y).2.2.2.1 ≤ 45) (hd : decode cc pc = .ok (.invokestatic idx, 3)) : okA SC M (cc, own, nL, mr, ini) pc (o_call rc0 y n (pc + 3)) := by
  refine ⟨m_call _ _ _ _, ?_⟩
  rintro p l e R s m args below meth c Q g n0 z0 N Z F Rt Cx L S h ⟨hn, hs, -, r, h1, hF, ho⟩ H locs cells slots ls a1 a2 a3 a4 a5
  obtain ⟨hz, rm, r1, r2, r3, r4, hM⟩ := Cx.2.2.2.2.2.1 _ _ _ _ _ hF
  have hz1 := ho.1
  have hR := Cx.2.2.2.1
  rw [S_split g S n]
  refine run_to (va_runSN (As := ((S.take n).reverse).map (rn g)) (rest := (S.drop n).map (rn g)) (n := n) Cx.1 hM ⟨va_cnB n Cx.1.2.2.2.2 (mW_good w5) rfl r1 r2 (Cx.2.1.2.1 _ w1) (Cx.1.2.2.2.2 _ w4) hy ⟨r3, by omega⟩, Cx.1.2.2.2.2 _ w2, trivial⟩ ⟨cPre_blind g h _, fun U hU hW => ⟨rfl, cPre_at a1 a2 Cx.2.1 Cx.2.2.1.1 U hU hW⟩⟩ rfl (by simp; omega) a3.1 rfl (lv_room (by rw [rn_sum]; exact hs)) hd ⟨by omega, by omega⟩) a2 (fun H1 locs1 hw hS1 => ?_)
  rw [← r_push]
  exact ho.2 H1 locs1 _ _ ls hw hS1 a3 (by omega) (by omega)
theorem k_callI {idx y n : Nat} (w1 : Cond.methodLink own idx (M y).1 ∈ cG) (w2 : Cond.instanceMethod (M y).1 ∈ cG) (w4 : Cond.initialized (M y).1.cls ∈ cG) (hrt : (M y).2.2.2.2.1 = none) (w5 : Cond.code (M y).1 (M y).2.1 (M y).2.2.2.1 (M y).2.2.2.2.1 ∈ cG) (hin : (M y).1.name = "<init>")
    (hy : (M y).1.cls ≠ "java/lang/invoke/MethodHandle" ∧ (M y).1.cls ≠ "java/lang/invoke/VarHandle" ∧ (parseMethodDescriptor (M y).1.desc).map (fun d => d.parameters.length) = some n) (hm : (M y).2.2.2.1 ≤ 45) (hd : decode cc pc = .ok (.invokespecial idx, 3)) : okA SC M (cc, own, nL, mr, ini) pc (o_call rcI y (n + 1) (pc + 3)) := by
  refine ⟨m_call _ _ _ _, ?_⟩
  rintro p l e R s m args below meth c Q g n0 z0 N Z F Rt Cx L S h ⟨hn, hs, ⟨k, rest, hk⟩, r, h1, hF, ho⟩ H locs cells slots ls a1 a2 a3 a4 a5
  obtain ⟨hz, rm, r1, r2, r3, r4, hM⟩ := Cx.2.2.2.2.2.1 _ _ _ _ _ hF
  have hz1 := ho.1
  have hR := Cx.2.2.2.1
  have hlen : rest.length = n := by
    have e1 := congrArg List.length hk
    simp only [List.length_reverse, List.length_take, List.length_cons] at e1
    omega
  rw [S_split g S (n + 1), hk]
  rw [hk] at hM
  refine run_to (va_runI (As := rest.map (rn g)) (rest := (S.drop (n + 1)).map (rn g)) (b := g.1 + k) (n := n) Cx.1 hM (cwI n Cx.1.2.2.2.2 (mW_good w5) (by unfold mW; rw [hrt]) r1 r2 (Cx.1.2.2.2.2 _ w4) (Cx.1.2.2.2.2 _ w1) (Cx.1.2.2.2.2 _ w2) hin hy ⟨r3, by omega⟩) ⟨cPre_blind g h _, fun U hU hW => ⟨rfl, cPre_at a1 a2 Cx.2.1 Cx.2.2.1.1 U hU hW⟩⟩ rfl (by rw [List.length_map]; exact hlen) a3.1 ?_ (lv_room (by rw [rn_sum]; exact hs)) hd ⟨by omega, by omega⟩) a2 (fun H1 locs1 hw hS1 => ?_)
  · simp [rn]
  · rw [← r_push]
    exact ho.2 H1 locs1 _ _ ls hw hS1 a3 (by omega) (by omega)
theorem k_callIN {idx y n : Nat} {host : String} (w1 : (own, idx, (M y).1, host) ∈ nests) (w2 : Cond.instanceMethod (M y).1 ∈ cG) (w4 : Cond.initialized (M y).1.cls ∈ cG) (hrt : (M y).2.2.2.2.1 = none) (w5 : Cond.code (M y).1 (M y).2.1 (M y).2.2.2.1 (M y).2.2.2.2.1 ∈ cG) (hin : (M y).1.name = "<init>")
    (hy : (M y).1.cls ≠ "java/lang/invoke/MethodHandle" ∧ (M y).1.cls ≠ "java/lang/invoke/VarHandle" ∧ (parseMethodDescriptor (M y).1.desc).map (fun d => d.parameters.length) = some n) (hm : (M y).2.2.2.1 ≤ 45) (hd : decode cc pc = .ok (.invokespecial idx, 3)) : okA SC M (cc, own, nL, mr, ini) pc (o_call rcI y (n + 1) (pc + 3)) := by
  refine ⟨m_call _ _ _ _, ?_⟩
  rintro p l e R s m args below meth c Q g n0 z0 N Z F Rt Cx L S h ⟨hn, hs, ⟨k, rest, hk⟩, r, h1, hF, ho⟩ H locs cells slots ls a1 a2 a3 a4 a5
  obtain ⟨hz, rm, r1, r2, r3, r4, hM⟩ := Cx.2.2.2.2.2.1 _ _ _ _ _ hF
  have hz1 := ho.1
  have hR := Cx.2.2.2.1
  have hlen : rest.length = n := by
    have e1 := congrArg List.length hk
    simp only [List.length_reverse, List.length_take, List.length_cons] at e1
    omega
  rw [S_split g S (n + 1), hk]
  rw [hk] at hM
  refine run_to (va_runIN (As := rest.map (rn g)) (rest := (S.drop (n + 1)).map (rn g)) (b := g.1 + k) (n := n) Cx.1 hM ⟨va_cnB n Cx.1.2.2.2.2 (mW_good w5) (by unfold mW; rw [hrt]) r1 r2 (Cx.2.1.2.1 _ w1) (Cx.1.2.2.2.2 _ w4) hy ⟨r3, by omega⟩, hin, Cx.1.2.2.2.2 _ w2⟩ ⟨cPre_blind g h _, fun U hU hW => ⟨rfl, cPre_at a1 a2 Cx.2.1 Cx.2.2.1.1 U hU hW⟩⟩ rfl (by rw [List.length_map]; exact hlen) a3.1 ?_ (lv_room (by rw [rn_sum]; exact hs)) hd ⟨by omega, by omega⟩) a2 (fun H1 locs1 hw hS1 => ?_)
  · simp [rn]
  · rw [← r_push]
    exact ho.2 H1 locs1 _ _ ls hw hS1 a3 (by omega) (by omega)
end SK
end
section
def noS (_ : Nat) (_ : Nat → Int32) : Prop := False
theorem k_fail {SC : Nat → (Nat → Int32) → Prop} {M : mI} {si : sI} {pc : Nat} : okA SC M si pc o_fail := ⟨m_fail, fun _ _ _ _ _ _ _ _ _ _ _ _ _ _ _ _ _ _ _ _ _ _ h => False.elim h⟩
theorem s_run {SC : Nat → (Nat → Int32) → Prop} {M : mI} {p : Program} {l : Launch} {e : Env} {R : Room} {s : State} {m : MethodId} {args : Array Value} {below : List Frame} {meth : Method} {c : Code} {Q : State → Prop} {g : gG} {n0 z0 N Z : Nat} {F : pF} {Rt : pR} {si : sI} {T : Nat → pO}
    (hT : ∀ pc, okA SC M si pc (T pc)) (C : cx SC M p l e R s m args below meth c Q g n0 z0 N Z F Rt si) {pc : Nat} {L : pL} {S : List Value} {h : pH} (hr : rRun T F Rt pc L S h) : wst p l e R s m args below meth c Q g si.2.2.1 n0 z0 N Z pc L S h :=
  hr _ (fun pc L S h hh => ⟨(hT pc).1.2 F Rt N Z (fun y as h r h1 q => (C.2.2.2.2.2.1 y as h r h1 q).1) (fun r h q => (C.2.2.2.2.2.2 r h q).1) L S h ((hT pc).1.1 F Rt _ _ L S h (fun _ _ _ _ q => q.1) hh), (hT pc).2 p l e R s m args below meth c Q g n0 z0 N Z F Rt C L S h hh⟩)
theorem s_call {T : Nat → Nat → pO} {ml : Nat → Nat} {M : mI} (hT : ∀ y pc, okA noS M (M y).2 pc (T y pc)) (hml : ∀ y, ml y = (M y).2.2.2.1) (hpn : ∀ y, plainName (M y).1.cls = true) (hini : ∀ y, (M y).2.2.2.2.2 = true → (M y).1.name = "<init>") (hown : ∀ y, (M y).2.2.1 = (M y).1.cls) :
    ∀ (d y : Nat) (as : List Value) (h : pH) (r : Option Value) (h1 : pH), rCall T ml d y as h r h1 → (h.length ≤ h1.length ∧ sz h ≤ sz h1) ∧ ∀ (l : Launch) (g : gG), Met l (M y).1 (mW M y) ({ frames := d, cells := h1.length - h.length, slots := sz h1 - sz h, locals := 64 * d } : Room) (va_Pc (as.map (rn g)) (cPre g h)) (cPost g r h1) (h1.length - h.length) (sz h1 - sz h) (nA g) := by
  intro d
  induction d with
  | zero => intro y as h r h1 hc; exact False.elim hc
  | succ d ih =>
    intro y as h r h1 ⟨hlen, hrun⟩
    have hle : h.length ≤ h1.length ∧ sz h ≤ sz h1 := hrun (fun _ _ _ h => h.length ≤ h1.length ∧ sz h ≤ sz h1) (fun pc L S h hh => (hT y pc).1.2 _ _ _ _ (fun y as h r h1 q => (ih y as h r h1 q).1) (fun r2 h2 q => by rw [q.2]; exact ⟨Nat.le_refl _, Nat.le_refl _⟩) L S h hh)
    refine ⟨hle, fun l g => ?_⟩
    refine Met.ofW (cc := (M y).2.1) (maxL := (M y).2.2.2.1) (ret := (M y).2.2.2.2.1) (hpn y) rfl ?_
    intro p e s m args below meth c s₁ B hm0 hv
    obtain ⟨rfl, q1, q2, q3⟩ := hv
    have hts := atoms_spec (ws := mW M y) B.pre
    have Cx : cx noS M p l e (headSpec (mW M y) ({ frames := d + 1, cells := h1.length - h.length, slots := sz h1 - sz h, locals := 64 * (d + 1) } : Room)).room s m (as.map (rn g)).toArray below meth c (MQ below (cPost g r h1) (as.map (rn g)).toArray s (h1.length - h.length) (sz h1 - sz h) (nA g)) g h.length (sz h) h1.length (sz h1) (rCall T ml d) (fun r1 h2 => r1 = r ∧ h2 = h1) (M y).2 := by
      refine ⟨⟨B.exec, B.bytes, hm0, ?_, fun w hw => hts w (List.mem_cons_of_mem _ hw)⟩, q2, ⟨q3, fun _ _ z => False.elim z⟩, ⟨by rw [q1.1]; exact Nat.le_add_right _ _, ?_, ?_, ?_, ?_⟩, fun z => ?_, fun y2 as2 h2 r2 h3 q => ?_, ?_⟩
      · rw [hown y]; exact findClass_of_methodNamed B.named
      · show _ ≤ h1.length - h.length + h.length; omega
      · show _ ≤ sz h1 - sz h + sz h; omega
      · show 1 ≤ d + 1; omega
      · show 32 ≤ 64 * (d + 1); omega
      · rw [(name_of_methodNamed B.named B.method).1]; exact hini y z
      · obtain ⟨z1, z2⟩ := ih y2 as2 h2 r2 h3 q
        exact ⟨z1, _, rfl, rfl, Nat.le_refl _, by show 64 + 64 * d ≤ 64 * (d + 1); omega, z2 l g⟩
      · rintro r2 h2 ⟨rfl, rfl⟩
        refine ⟨⟨Nat.le_refl _, Nat.le_refl _⟩, fun pc ins H locs cells slots ls a1 a2 a4 a5 hd hk => ?_⟩
        have c1 : cells = h2.length - h.length := by omega
        have c2 : slots = sz h2 - sz h := by omega
        subst c1; subst c2
        have hq : ∀ t : State, t.heap = H → s.WarmedH t.vm → cPost g r2 h2 (as.map (rn g)).toArray s (.returned (r2.map (rn g))) t := fun t ht hW => ⟨rfl, by rw [ht]; exact a1, a2.F ht⟩
        have hf : ∀ q ∈ locs, nA g q.base := a2.2.2
        have hlk := B.notSynchronized
        rcases hk with ⟨x, ty, rfl, rfl, h3, h4⟩ | ⟨x, rfl, rfl, h3⟩ | ⟨rfl, rfl, h3⟩ | ⟨v, n, rfl, hv, rfl, h3⟩
        · exact W.zret B.exec B.bytes (B.returns.trans h3) h4 hq hf hd hlk
        · exact W.lret B.exec B.bytes (B.returns.trans h3) hq hf hd hlk
        · exact W.vret B.exec B.bytes (B.returns.trans h3) hq hf hd hlk
        · refine W.aret B.exec B.bytes (B.returns.trans h3) (Or.inl ⟨n, rfl⟩) ?_ hq hf hd hlk
          rcases hv with rfl | ⟨k, rfl⟩
          · exact Or.inl rfl
          · exact Or.inr ⟨_, rfl⟩
    have key := s_run (hT y) Cx hrun
    rw [lg_entry_eq]
    rw [hml y] at hlen key
    exact key.2 s.heap [] 0 0 _ q1 va_S.rf (ent_lvh g as _ hlen) (Nat.zero_add _) (Nat.zero_add _)
end
