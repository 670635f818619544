theorem inX0G : ∀ w ∈ u_ws RX0 TX0 2, w ∈ cG := by
  intro w hw
  obtain ⟨k, hk, rfl⟩ := List.mem_map.mp hw
  have hk := List.mem_range.mp hk
  match k, hk with
  | 0, _ => exact w_217
  | 1, _ => exact w_219
theorem nwX0 {g : gG} (j : Nat) (hj : j < 2) : defaultValue (tyX0 j) = vp_V (([.int 0, .int 0] : List Value).map (rn g)) j := by
  match j, hj with
  | 0, _ => rfl
  | 1, _ => rfl
theorem inX1G : ∀ w ∈ u_ws RX1 TX1 7, w ∈ cG := by
  intro w hw
  obtain ⟨k, hk, rfl⟩ := List.mem_map.mp hw
  have hk := List.mem_range.mp hk
  match k, hk with
  | 0, _ => exact w_192
  | 1, _ => exact w_194
  | 2, _ => exact w_196
  | 3, _ => exact w_198
  | 4, _ => exact w_200
  | 5, _ => exact w_202
  | 6, _ => exact w_204
theorem nwX1 {g : gG} (j : Nat) (hj : j < 7) : defaultValue (tyX1 j) = vp_V (([.null, .int 0, .int 0, .int 0, .int 0, .int 0, .int 0] : List Value).map (rn g)) j := by
  match j, hj with
  | 0, _ => rfl
  | 1, _ => rfl
  | 2, _ => rfl
  | 3, _ => rfl
  | 4, _ => rfl
  | 5, _ => rfl
  | 6, _ => rfl
theorem inX2G : ∀ w ∈ u_ws RX2 TX2 4, w ∈ cG := by
  intro w hw
  obtain ⟨k, hk, rfl⟩ := List.mem_map.mp hw
  have hk := List.mem_range.mp hk
  match k, hk with
  | 0, _ => exact w_138
  | 1, _ => exact w_140
  | 2, _ => exact w_142
  | 3, _ => exact w_144
theorem nwX2 {g : gG} (j : Nat) (hj : j < 4) : defaultValue (tyX2 j) = vp_V (([.null, .null, .int 0, .int 0] : List Value).map (rn g)) j := by
  match j, hj with
  | 0, _ => rfl
  | 1, _ => rfl
  | 2, _ => rfl
  | 3, _ => rfl
theorem inX3G : ∀ w ∈ u_ws RX3 TX3 5, w ∈ cG := by
  intro w hw
  obtain ⟨k, hk, rfl⟩ := List.mem_map.mp hw
  have hk := List.mem_range.mp hk
  match k, hk with
  | 0, _ => exact w_164
  | 1, _ => exact w_166
  | 2, _ => exact w_168
  | 3, _ => exact w_170
  | 4, _ => exact w_172
theorem nwX3 {g : gG} (j : Nat) (hj : j < 5) : defaultValue (tyX3 j) = vp_V (([.null, .null, .null, .int 0, .int 0] : List Value).map (rn g)) j := by
  match j, hj with
  | 0, _ => rfl
  | 1, _ => rfl
  | 2, _ => rfl
  | 3, _ => rfl
  | 4, _ => rfl
theorem inX4G : ∀ w ∈ u_ws RX4 TX4 2, w ∈ cG := by
  intro w hw
  obtain ⟨k, hk, rfl⟩ := List.mem_map.mp hw
  have hk := List.mem_range.mp hk
  match k, hk with
  | 0, _ => exact w_67
  | 1, _ => exact w_69
theorem nwX4 {g : gG} (j : Nat) (hj : j < 2) : defaultValue (tyX4 j) = vp_V (([.null, .int 0] : List Value).map (rn g)) j := by
  match j, hj with
  | 0, _ => rfl
  | 1, _ => rfl
theorem inX5G : ∀ w ∈ u_ws RX5 TX5 2, w ∈ cG := by
  intro w hw
  obtain ⟨k, hk, rfl⟩ := List.mem_map.mp hw
  have hk := List.mem_range.mp hk
  match k, hk with
  | 0, _ => exact w_89
  | 1, _ => exact w_91
theorem nwX5 {g : gG} (j : Nat) (hj : j < 2) : defaultValue (tyX5 j) = vp_V (([.null, .int 0] : List Value).map (rn g)) j := by
  match j, hj with
  | 0, _ => rfl
  | 1, _ => rfl
theorem inX6G : ∀ w ∈ u_ws RX6 TX6 6, w ∈ cG := by
  intro w hw
  obtain ⟨k, hk, rfl⟩ := List.mem_map.mp hw
  have hk := List.mem_range.mp hk
  match k, hk with
  | 0, _ => exact w_116
  | 1, _ => exact w_118
  | 2, _ => exact w_120
  | 3, _ => exact w_122
  | 4, _ => exact w_124
  | 5, _ => exact w_126
theorem nwX6 {g : gG} (j : Nat) (hj : j < 6) : defaultValue (tyX6 j) = vp_V (([.null, .int 0, .int 0, .int 0, .int 0, .int 0] : List Value).map (rn g)) j := by
  match j, hj with
  | 0, _ => rfl
  | 1, _ => rfl
  | 2, _ => rfl
  | 3, _ => rfl
  | 4, _ => rfl
  | 5, _ => rfl
theorem inX7G : ∀ w ∈ u_ws RX7 TX7 12, w ∈ cG := by
  intro w hw
  obtain ⟨k, hk, rfl⟩ := List.mem_map.mp hw
  have hk := List.mem_range.mp hk
  match k, hk with
  | 0, _ => exact w_234
  | 1, _ => exact w_236
  | 2, _ => exact w_238
  | 3, _ => exact w_240
  | 4, _ => exact w_242
  | 5, _ => exact w_244
  | 6, _ => exact w_246
  | 7, _ => exact w_248
  | 8, _ => exact w_250
  | 9, _ => exact w_252
  | 10, _ => exact w_254
  | 11, _ => exact w_256
theorem nwX7 {g : gG} (j : Nat) (hj : j < 12) : defaultValue (tyX7 j) = vp_V (([.null, .null, .null, .null, .null, .null, .null, .null, .int 0, .int 0, .int 0, .int 0] : List Value).map (rn g)) j := by
  match j, hj with
  | 0, _ => rfl
  | 1, _ => rfl
  | 2, _ => rfl
  | 3, _ => rfl
  | 4, _ => rfl
  | 5, _ => rfl
  | 6, _ => rfl
  | 7, _ => rfl
  | 8, _ => rfl
  | 9, _ => rfl
  | 10, _ => rfl
  | 11, _ => rfl
theorem inX8G : ∀ w ∈ u_ws RX8 TX8 26, w ∈ cG := by
  intro w hw
  obtain ⟨k, hk, rfl⟩ := List.mem_map.mp hw
  have hk := List.mem_range.mp hk
  match k, hk with
  | 0, _ => exact w_642
  | 1, _ => exact w_644
  | 2, _ => exact w_646
  | 3, _ => exact w_648
  | 4, _ => exact w_650
  | 5, _ => exact w_652
  | 6, _ => exact w_654
  | 7, _ => exact w_656
  | 8, _ => exact w_658
  | 9, _ => exact w_660
  | 10, _ => exact w_662
  | 11, _ => exact w_664
  | 12, _ => exact w_666
  | 13, _ => exact w_668
  | 14, _ => exact w_670
  | 15, _ => exact w_672
  | 16, _ => exact w_674
  | 17, _ => exact w_676
  | 18, _ => exact w_678
  | 19, _ => exact w_680
  | 20, _ => exact w_682
  | 21, _ => exact w_684
  | 22, _ => exact w_686
  | 23, _ => exact w_688
  | 24, _ => exact w_690
  | 25, _ => exact w_692
  | k + 26, h => exact absurd h (by omega)
theorem nwX8 {g : gG} (j : Nat) (hj : j < 26) : defaultValue (tyX8 j) = vp_V (([.null, .int 0, .int 0, .int 0, .int 0, .int 0, .null, .int 0, .null, .int 0, .null, .null, .null, .null, .int 0, .null, .null, .int 0, .int 0, .int 0, .int 0, .int 0, .null, .null, .null, .long 0] : List Value).map (rn g)) j := by
  match j, hj with
  | 0, _ => rfl
  | 1, _ => rfl
  | 2, _ => rfl
  | 3, _ => rfl
  | 4, _ => rfl
  | 5, _ => rfl
  | 6, _ => rfl
  | 7, _ => rfl
  | 8, _ => rfl
  | 9, _ => rfl
  | 10, _ => rfl
  | 11, _ => rfl
  | 12, _ => rfl
  | 13, _ => rfl
  | 14, _ => rfl
  | 15, _ => rfl
  | 16, _ => rfl
  | 17, _ => rfl
  | 18, _ => rfl
  | 19, _ => rfl
  | 20, _ => rfl
  | 21, _ => rfl
  | 22, _ => rfl
  | 23, _ => rfl
  | 24, _ => rfl
  | 25, _ => rfl
  | k + 26, h => exact absurd h (by omega)
theorem tsw_ok {ps : List (Int32 × Nat)} {offs : Array Int} {pc : Nat} {lo : Int} (h : (List.range ps.length).all (fun i => match offs[i]? with | some off => decide ((pc : Int) + off = ((ps.getD i (0, 0)).2 : Int)) && decide ((ps.getD i (0, 0)).1 = Int32.ofInt (lo + i)) | none => false) = true) : ∀ i, i < ps.length → ∃ off : Int, offs[i]? = some off ∧ (pc : Int) + off = ((ps.getD i (0, 0)).2 : Int) ∧ (ps.getD i (0, 0)).1 = Int32.ofInt (lo + i) := by
  intro i hi
  have h1 := List.all_eq_true.mp h i (List.mem_range.mpr hi)
  split at h1
  · next off ho =>
    simp only [Bool.and_eq_true, decide_eq_true_eq] at h1
    exact ⟨off, ho, h1.1, h1.2⟩
  · cases h1
def mTab : List (MethodName × sI) := [
  (⟨"DuneMaps$Dusk", "<init>", "()V"⟩, prog_2_method_1_code, "DuneMaps$Dusk", 1, none, true),
  (⟨"DuneMaps$Dusk", "search", "(LDuneMaps$Sand;LDuneMaps$Sand;LDuneMaps$Sand;)V"⟩, prog_2_method_2_code, "DuneMaps$Dusk", 5, none, false),
  (⟨"DuneMaps$Dusk", "tryWalk", "(ILDuneMaps$Sand;LDuneMaps$Sand;)V"⟩, prog_2_method_3_code, "DuneMaps$Dusk", 8, none, false),
  (⟨"DuneMaps$Footing", "<init>", "()V"⟩, prog_3_method_1_code, "DuneMaps$Footing", 2, none, true),
  (⟨"DuneMaps$Footing", "search", "(LDuneMaps$Sand;LDuneMaps$Walker;II)V"⟩, prog_3_method_2_code, "DuneMaps$Footing", 5, none, false),
  (⟨"DuneMaps$Footing", "tryFrom", "(III)V"⟩, prog_3_method_3_code, "DuneMaps$Footing", 6, none, false),
  (⟨"DuneMaps$Land", "<init>", "()V"⟩, prog_4_method_1_code, "DuneMaps$Land", 2, none, true),
  (⟨"DuneMaps$Land", "empty", "()V"⟩, prog_4_method_2_code, "DuneMaps$Land", 1, none, false),
  (⟨"DuneMaps$Land", "copyFrom", "(LDuneMaps$Land;)V"⟩, prog_4_method_3_code, "DuneMaps$Land", 3, none, false),
  (⟨"DuneMaps$Land", "named", "(I)LDuneMaps$Walker;"⟩, prog_4_method_4_code, "DuneMaps$Land", 3, some (.object "DuneMaps$Walker"), false),
  (⟨"DuneMaps$Land", "arrive", "(II)I"⟩, prog_4_method_5_code, "DuneMaps$Land", 3, some .int, false),
  (⟨"DuneMaps$Land", "walkersAt", "(I)I"⟩, prog_4_method_6_code, "DuneMaps$Land", 4, some .int, false),
  (⟨"DuneMaps$Land", "maps", "()I"⟩, prog_4_method_7_code, "DuneMaps$Land", 3, some .int, false),
  (⟨"DuneMaps$Land", "goodMaps", "()I"⟩, prog_4_method_8_code, "DuneMaps$Land", 3, some .int, false),
  (⟨"DuneMaps$Land", "stepsGone", "()I"⟩, prog_4_method_9_code, "DuneMaps$Land", 3, some .int, false),
  (⟨"DuneMaps$Ordering", "<init>", "()V"⟩, prog_5_method_1_code, "DuneMaps$Ordering", 2, none, true),
  (⟨"DuneMaps$Ordering", "goerAt", "(I)I"⟩, prog_5_method_2_code, "DuneMaps$Ordering", 2, some .int, false),
  (⟨"DuneMaps$Ordering", "search", "(LDuneMaps$Land;)V"⟩, prog_5_method_3_code, "DuneMaps$Ordering", 2, none, false),
  (⟨"DuneMaps$Ordering", "tryTurn", "(LDuneMaps$Land;III)V"⟩, prog_5_method_4_code, "DuneMaps$Ordering", 8, none, false),
  (⟨"DuneMaps$Ordering", "keep", "(I)V"⟩, prog_5_method_5_code, "DuneMaps$Ordering", 3, none, false),
  (⟨"DuneMaps$Page", "<init>", "()V"⟩, prog_6_method_1_code, "DuneMaps$Page", 1, none, true),
  (⟨"DuneMaps$Page", "append", "(I)Z"⟩, prog_6_method_2_code, "DuneMaps$Page", 2, some .boolean, false),
  (⟨"DuneMaps$Page", "codeAt", "(I)I"⟩, prog_6_method_3_code, "DuneMaps$Page", 2, some .int, false),
  (⟨"DuneMaps$Page", "firstFault", "(I)I"⟩, prog_6_method_4_code, "DuneMaps$Page", 3, some .int, false),
  (⟨"DuneMaps$Page", "isWhole", "(I)Z"⟩, prog_6_method_5_code, "DuneMaps$Page", 3, some .boolean, false),
  (⟨"DuneMaps$Page", "readHeights", "(LDuneMaps$Sand;)V"⟩, prog_6_method_6_code, "DuneMaps$Page", 3, none, false),
  (⟨"DuneMaps$Page", "tellsWindOn", "()Z"⟩, prog_6_method_7_code, "DuneMaps$Page", 1, some .boolean, false),
  (⟨"DuneMaps$Page", "fits", "(III)Z"⟩, prog_6_method_8_code, "DuneMaps$Page", 3, some .boolean, false),
  (⟨"DuneMaps$Sand", "<init>", "()V"⟩, prog_7_method_1_code, "DuneMaps$Sand", 1, none, true),
  (⟨"DuneMaps$Sand", "heightAt", "(I)I"⟩, prog_7_method_2_code, "DuneMaps$Sand", 2, some .int, false),
  (⟨"DuneMaps$Sand", "setHeight", "(II)V"⟩, prog_7_method_3_code, "DuneMaps$Sand", 3, none, false),
  (⟨"DuneMaps$Sand", "copyFrom", "(LDuneMaps$Sand;)V"⟩, prog_7_method_4_code, "DuneMaps$Sand", 2, none, false),
  (⟨"DuneMaps$Sand", "copyHeights", "(LDuneMaps$Sand;)V"⟩, prog_7_method_5_code, "DuneMaps$Sand", 3, none, false),
  (⟨"DuneMaps$Sand", "isAsHighAs", "(LDuneMaps$Sand;)Z"⟩, prog_7_method_6_code, "DuneMaps$Sand", 3, some .boolean, false),
  (⟨"DuneMaps$Sand", "sum", "()I"⟩, prog_7_method_7_code, "DuneMaps$Sand", 3, some .int, false),
  (⟨"DuneMaps$Sand", "highest", "()I"⟩, prog_7_method_8_code, "DuneMaps$Sand", 3, some .int, false),
  (⟨"DuneMaps$Sand", "shapeAt", "(I)I"⟩, prog_7_method_9_code, "DuneMaps$Sand", 5, some .int, false),
  (⟨"DuneMaps$Sand", "crests", "()I"⟩, prog_7_method_10_code, "DuneMaps$Sand", 3, some .int, false),
  (⟨"DuneMaps$Sand", "passNight", "()I"⟩, prog_7_method_11_code, "DuneMaps$Sand", 3, some .int, false),
  (⟨"DuneMaps$Sand", "tread", "(II)I"⟩, prog_7_method_12_code, "DuneMaps$Sand", 6, some .int, false),
  (⟨"DuneMaps$Sand", "moveSand", "(III)I"⟩, prog_7_method_13_code, "DuneMaps$Sand", 5, some .int, false),
  (⟨"DuneMaps$Sand", "leeOf", "(I)I"⟩, prog_7_method_14_code, "DuneMaps$Sand", 2, some .int, false),
  (⟨"DuneMaps$Sand", "luffOf", "(I)I"⟩, prog_7_method_15_code, "DuneMaps$Sand", 2, some .int, false),
  (⟨"DuneMaps$Walker", "<init>", "()V"⟩, prog_8_method_1_code, "DuneMaps$Walker", 1, none, true),
  (⟨"DuneMaps$Walker", "arrive", "(II)V"⟩, prog_8_method_2_code, "DuneMaps$Walker", 3, none, false),
  (⟨"DuneMaps$Walker", "copyFrom", "(LDuneMaps$Walker;)V"⟩, prog_8_method_3_code, "DuneMaps$Walker", 3, none, false),
  (⟨"DuneMaps$Walker", "hasMap", "()Z"⟩, prog_8_method_4_code, "DuneMaps$Walker", 1, some .boolean, false),
  (⟨"DuneMaps$Walker", "drawMap", "(LDuneMaps$Sand;II)I"⟩, prog_8_method_5_code, "DuneMaps$Walker", 7, some .int, false),
  (⟨"DuneMaps$Walker", "hasGoodMap", "(LDuneMaps$Sand;)Z"⟩, prog_8_method_6_code, "DuneMaps$Walker", 4, some .boolean, false),
  (⟨"DuneMaps$Walker", "stepOn", "(LDuneMaps$Sand;I)I"⟩, prog_8_method_7_code, "DuneMaps$Walker", 3, some .int, false),
  (⟨"DuneMaps$Walker", "goByMap", "(LDuneMaps$Sand;)V"⟩, prog_8_method_8_code, "DuneMaps$Walker", 3, none, false),
  (⟨"DuneMaps$Walker", "wouldGo", "(LDuneMaps$Sand;)V"⟩, prog_8_method_9_code, "DuneMaps$Walker", 4, none, false),
  (⟨"DuneMaps", "<init>", "()V"⟩, prog_1_method_1_code, "DuneMaps", 1, none, true),
  (⟨"DuneMaps", "letter", "(I)I"⟩, prog_1_method_2_code, "DuneMaps", 2, some .int, false),
  (⟨"DuneMaps", "blank", "()I"⟩, prog_1_method_3_code, "DuneMaps", 2, some .int, false),
  (⟨"DuneMaps", "fault", "(I)I"⟩, prog_1_method_4_code, "DuneMaps", 2, some .int, false),
  (⟨"DuneMaps", "dunes", "()I"⟩, prog_1_method_5_code, "DuneMaps", 1, some .int, false),
  (⟨"DuneMaps", "cell", "(II)I"⟩, prog_1_method_6_code, "DuneMaps", 3, some .int, false),
  (⟨"DuneMaps", "wind", "(Z)I"⟩, prog_1_method_7_code, "DuneMaps", 3, some .int, false),
  (⟨"DuneMaps", "night", "()I"⟩, prog_1_method_8_code, "DuneMaps", 1, some .int, false),
  (⟨"DuneMaps", "walker", "(II)I"⟩, prog_1_method_9_code, "DuneMaps", 3, some .int, false),
  (⟨"DuneMaps", "about", "(II)I"⟩, prog_1_method_10_code, "DuneMaps", 4, some .int, false),
  (⟨"DuneMaps", "as", "(II)I"⟩, prog_1_method_11_code, "DuneMaps", 5, some .int, false),
  (⟨"DuneMaps", "step", "(II)I"⟩, prog_1_method_12_code, "DuneMaps", 4, some .int, false),
  (⟨"DuneMaps", "map", "(III)I"⟩, prog_1_method_13_code, "DuneMaps", 5, some .int, false),
  (⟨"DuneMaps", "go", "(I)I"⟩, prog_1_method_14_code, "DuneMaps", 4, some .int, false),
  (⟨"DuneMaps", "order", "(I)I"⟩, prog_1_method_15_code, "DuneMaps", 3, some .int, false),
  (⟨"DuneMaps", "feet", "(IIII)I"⟩, prog_1_method_16_code, "DuneMaps", 6, some .int, false),
  (⟨"DuneMaps", "was", "()I"⟩, prog_1_method_17_code, "DuneMaps", 1, some .int, false),
  (⟨"DuneMaps", "who", "(I)I"⟩, prog_1_method_18_code, "DuneMaps", 2, some .int, false),
  (⟨"DuneMaps", "moons", "(III)I"⟩, prog_1_method_19_code, "DuneMaps", 8, some .int, false),
  (⟨"DuneMaps", "image", "()I"⟩, prog_1_method_20_code, "DuneMaps", 1, some .int, false),
  (⟨"DuneMaps", "restore", "()I"⟩, prog_1_method_21_code, "DuneMaps", 1, some .int, false),
  (⟨"DuneMaps", "count", "(I)I"⟩, prog_1_method_22_code, "DuneMaps", 2, some .int, false),
  (⟨"DuneMaps", "digest", "()J"⟩, prog_1_method_23_code, "DuneMaps", 5, some .long, false),
  (⟨"DuneMaps", "withCells", "(J)J"⟩, prog_1_method_24_code, "DuneMaps", 5, some .long, false),
  (⟨"DuneMaps", "withOrder", "(J)J"⟩, prog_1_method_25_code, "DuneMaps", 4, some .long, false),
  (⟨"DuneMaps", "with", "(JI)J"⟩, prog_1_method_26_code, "DuneMaps", 3, some .long, false),
  (⟨"DuneMaps", "isCell", "(I)Z"⟩, prog_1_method_27_code, "DuneMaps", 2, some .boolean, false),
  (⟨"DuneMaps", "isKind", "(I)Z"⟩, prog_1_method_28_code, "DuneMaps", 1, some .boolean, false),
  (⟨"DuneMaps", "isWay", "(I)Z"⟩, prog_1_method_29_code, "DuneMaps", 1, some .boolean, false),
  (⟨"DuneMaps", "asNumber", "(Z)I"⟩, prog_1_method_30_code, "DuneMaps", 1, some .int, false),
  (⟨"DuneMaps", "weightOf", "(I)I"⟩, prog_1_method_31_code, "DuneMaps", 1, some .int, false),
  (⟨"DuneMaps", "beside", "(II)I"⟩, prog_1_method_32_code, "DuneMaps", 2, some .int, false),
  (⟨"DuneMaps", "nextSeed", "(I)I"⟩, prog_1_method_33_code, "DuneMaps", 1, some .int, false),
  (⟨"DuneMaps", "draw", "(II)I"⟩, prog_1_method_34_code, "DuneMaps", 2, some .int, false),
  (⟨"DuneMapsModel", "<init>", "()V"⟩, prog_10_method_1_code, "DuneMapsModel", 1, none, true),
  (⟨"DuneMapsModel", "in", "(JJJ)Z"⟩, prog_10_method_2_code, "DuneMapsModel", 6, some .boolean, false),
  (⟨"DuneMapsModel", "copy", "([I[I)V"⟩, prog_10_method_3_code, "DuneMapsModel", 3, none, false),
  (⟨"DuneMapsModel", "letter", "(I)I"⟩, prog_10_method_4_code, "DuneMapsModel", 2, some .int, false),
  (⟨"DuneMapsModel", "blank", "()I"⟩, prog_10_method_5_code, "DuneMapsModel", 2, some .int, false),
  (⟨"DuneMapsModel", "faultOf", "(I)I"⟩, prog_10_method_6_code, "DuneMapsModel", 4, some .int, false),
  (⟨"DuneMapsModel", "fault", "(I)I"⟩, prog_10_method_7_code, "DuneMapsModel", 2, some .int, false),
  (⟨"DuneMapsModel", "sumOf", "([I)I"⟩, prog_10_method_8_code, "DuneMapsModel", 3, some .int, false),
  (⟨"DuneMapsModel", "dunes", "()I"⟩, prog_10_method_9_code, "DuneMapsModel", 2, some .int, false),
  (⟨"DuneMapsModel", "isCell", "(I)Z"⟩, prog_10_method_10_code, "DuneMapsModel", 2, some .boolean, false),
  (⟨"DuneMapsModel", "shapeOf", "([II)I"⟩, prog_10_method_11_code, "DuneMapsModel", 4, some .int, false),
  (⟨"DuneMapsModel", "leeOf", "(I)I"⟩, prog_10_method_12_code, "DuneMapsModel", 2, some .int, false),
  (⟨"DuneMapsModel", "luffOf", "(I)I"⟩, prog_10_method_13_code, "DuneMapsModel", 2, some .int, false),
  (⟨"DuneMapsModel", "walkersAt", "(I)I"⟩, prog_10_method_14_code, "DuneMapsModel", 4, some .int, false),
  (⟨"DuneMapsModel", "tellCell", "(II)I"⟩, prog_10_method_15_code, "DuneMapsModel", 3, some .int, false),
  (⟨"DuneMapsModel", "cell", "(II)I"⟩, prog_10_method_16_code, "DuneMapsModel", 3, some .int, false),
  (⟨"DuneMapsModel", "wind", "(Z)I"⟩, prog_10_method_17_code, "DuneMapsModel", 3, some .int, false),
  (⟨"DuneMapsModel", "crests", "([I)I"⟩, prog_10_method_18_code, "DuneMapsModel", 4, some .int, false),
  (⟨"DuneMapsModel", "ones", "(I)I"⟩, prog_10_method_19_code, "DuneMapsModel", 3, some .int, false),
  (⟨"DuneMapsModel", "nightOf", "([I)I"⟩, prog_10_method_20_code, "DuneMapsModel", 4, some .int, false),
  (⟨"DuneMapsModel", "night", "()I"⟩, prog_10_method_21_code, "DuneMapsModel", 1, some .int, false),
  (⟨"DuneMapsModel", "isWalker", "(I)Z"⟩, prog_10_method_22_code, "DuneMapsModel", 2, some .boolean, false),
  (⟨"DuneMapsModel", "weightOf", "(I)I"⟩, prog_10_method_23_code, "DuneMapsModel", 1, some .int, false),
  (⟨"DuneMapsModel", "treads", "([III)I"⟩, prog_10_method_24_code, "DuneMapsModel", 11, some .int, false),
  (⟨"DuneMapsModel", "stepTo", "(II)I"⟩, prog_10_method_25_code, "DuneMapsModel", 2, some .int, false),
  (⟨"DuneMapsModel", "walker", "(II)I"⟩, prog_10_method_26_code, "DuneMapsModel", 3, some .int, false),
  (⟨"DuneMapsModel", "hasMap", "(I)Z"⟩, prog_10_method_27_code, "DuneMapsModel", 2, some .boolean, false),
  (⟨"DuneMapsModel", "isGood", "([II)Z"⟩, prog_10_method_28_code, "DuneMapsModel", 6, some .boolean, false),
  (⟨"DuneMapsModel", "tell", "(II)I"⟩, prog_10_method_29_code, "DuneMapsModel", 3, some .int, false),
  (⟨"DuneMapsModel", "about", "(II)I"⟩, prog_10_method_30_code, "DuneMapsModel", 3, some .int, false),
  (⟨"DuneMapsModel", "as", "(II)I"⟩, prog_10_method_31_code, "DuneMapsModel", 5, some .int, false),
  (⟨"DuneMapsModel", "steps", "(II)I"⟩, prog_10_method_32_code, "DuneMapsModel", 3, some .int, false),
  (⟨"DuneMapsModel", "step", "(II)I"⟩, prog_10_method_33_code, "DuneMapsModel", 3, some .int, false),
  (⟨"DuneMapsModel", "map", "(III)I"⟩, prog_10_method_34_code, "DuneMapsModel", 7, some .int, false),
  (⟨"DuneMapsModel", "go", "(I)I"⟩, prog_10_method_35_code, "DuneMapsModel", 5, some .int, false),
  (⟨"DuneMapsModel", "goes", "(I)V"⟩, prog_10_method_36_code, "DuneMapsModel", 5, none, false),
  (⟨"DuneMapsModel", "layWho", "()V"⟩, prog_10_method_37_code, "DuneMapsModel", 2, none, false),
  (⟨"DuneMapsModel", "isOrder", "(I)Z"⟩, prog_10_method_38_code, "DuneMapsModel", 5, some .boolean, false),
  (⟨"DuneMapsModel", "layOrder", "()I"⟩, prog_10_method_39_code, "DuneMapsModel", 6, some .int, false),
  (⟨"DuneMapsModel", "tellOrder", "(I)I"⟩, prog_10_method_40_code, "DuneMapsModel", 3, some .int, false),
  (⟨"DuneMapsModel", "order", "(I)I"⟩, prog_10_method_41_code, "DuneMapsModel", 2, some .int, false),
  (⟨"DuneMapsModel", "highBy", "(IIII)I"⟩, prog_10_method_42_code, "DuneMapsModel", 8, some .int, false),
  (⟨"DuneMapsModel", "feetOf", "(IIII)I"⟩, prog_10_method_43_code, "DuneMapsModel", 9, some .int, false),
  (⟨"DuneMapsModel", "feet", "(IIII)I"⟩, prog_10_method_44_code, "DuneMapsModel", 5, some .int, false),
  (⟨"DuneMapsModel", "was", "()I"⟩, prog_10_method_45_code, "DuneMapsModel", 2, some .int, false),
  (⟨"DuneMapsModel", "isAsNow", "()Z"⟩, prog_10_method_46_code, "DuneMapsModel", 3, some .boolean, false),
  (⟨"DuneMapsModel", "whoOf", "(I)I"⟩, prog_10_method_47_code, "DuneMapsModel", 8, some .int, false),
  (⟨"DuneMapsModel", "who", "(I)I"⟩, prog_10_method_48_code, "DuneMapsModel", 2, some .int, false),
  (⟨"DuneMapsModel", "draw", "(I)I"⟩, prog_10_method_49_code, "DuneMapsModel", 2, some .int, false),
  (⟨"DuneMapsModel", "moons", "(III)I"⟩, prog_10_method_50_code, "DuneMapsModel", 8, some .int, false),
  (⟨"DuneMapsModel", "image", "()I"⟩, prog_10_method_51_code, "DuneMapsModel", 1, some .int, false),
  (⟨"DuneMapsModel", "restore", "()I"⟩, prog_10_method_52_code, "DuneMapsModel", 1, some .int, false),
  (⟨"DuneMapsModel", "sumBy", "(I)I"⟩, prog_10_method_53_code, "DuneMapsModel", 4, some .int, false),
  (⟨"DuneMapsModel", "countOf", "(I)I"⟩, prog_10_method_54_code, "DuneMapsModel", 2, some .int, false),
  (⟨"DuneMapsModel", "count", "(I)I"⟩, prog_10_method_55_code, "DuneMapsModel", 2, some .int, false),
  (⟨"DuneMapsModel", "say", "(J)V"⟩, prog_10_method_56_code, "DuneMapsModel", 3, none, false),
  (⟨"DuneMapsModel", "sayDunes", "()V"⟩, prog_10_method_57_code, "DuneMapsModel", 3, none, false),
  (⟨"DuneMapsModel", "digest", "()J"⟩, prog_10_method_58_code, "DuneMapsModel", 3, some .long, false),
  (⟨"java/lang/Integer", "bitCount", "(I)I"⟩, prog_11_method_49_code, "java/lang/Integer", 1, some .int, false)]
def mNo : MethodName × sI := (⟨"DuneMaps", "", ""⟩, cX7_init, "DuneMaps", 0, none, false)
def mM : mI := fun y => mTab.getD y mNo
