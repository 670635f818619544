def look : List (Nat × pO) → Nat → pO
  | [], _ => o_fail
  | q :: t, pc => bif Nat.beq q.1 pc then q.2 else look t pc
theorem look_ok {SC : Nat → (Nat → Int32) → Prop} {M : mI} {si : sI} : ∀ {t : List (Nat × pO)}, (∀ q ∈ t, okA SC M si q.1 q.2) → ∀ pc, okA SC M si pc (look t pc)
  | [], _, _ => k_fail
  | q :: t, h, pc => by
    unfold look
    cases hb : Nat.beq q.1 pc with
    | true =>
      have e := Nat.eq_of_beq_eq_true hb
      subst e
      exact h q List.mem_cons_self
    | false => exact look_ok (fun q hq => h q (List.mem_cons_of_mem _ hq)) pc
def tbs : List (List (Nat × pO)) := [tb_0, tb_1, tb_2, tb_3, tb_4, tb_5, tb_6, tb_7, tb_8, tb_9, tb_10, tb_11, tb_12, tb_13, tb_14, tb_15, tb_16, tb_17, tb_18, tb_19, tb_20, tb_21, tb_22, tb_23, tb_24, tb_25, tb_26, tb_27, tb_28, tb_29, tb_30, tb_31, tb_32, tb_33, tb_34, tb_35, tb_36, tb_37, tb_38, tb_39, tb_40, tb_41, tb_42, tb_43, tb_44, tb_45, tb_46, tb_47, tb_48, tb_49, tb_50, tb_51, tb_52, tb_53, tb_54, tb_55, tb_56, tb_57, tb_58, tb_59, tb_60, tb_61, tb_62, tb_63, tb_64, tb_65, tb_66, tb_67, tb_68, tb_69, tb_70, tb_71, tb_72, tb_73, tb_74, tb_75, tb_76, tb_77, tb_78, tb_79, tb_80, tb_81, tb_82, tb_83, tb_84, tb_85, tb_86, tb_87, tb_88, tb_89, tb_90, tb_91, tb_92, tb_93, tb_94, tb_95, tb_96, tb_97, tb_98, tb_99, tb_100, tb_101, tb_102, tb_103, tb_104, tb_105, tb_106, tb_107, tb_108, tb_109, tb_110, tb_111, tb_112, tb_113, tb_114, tb_115, tb_116, tb_117, tb_118, tb_119, tb_120, tb_121, tb_122, tb_123, tb_124, tb_125, tb_126, tb_127, tb_128, tb_129, tb_130, tb_131, tb_132, tb_133, tb_134, tb_135, tb_136, tb_137, tb_138, tb_139, tb_140, tb_141, tb_142, tb_143, tb_144]
def TT (y : Nat) : Nat → pO := look (tbs.getD y [])
def mL (y : Nat) : Nat := (mM y).2.2.2.1
theorem tt_mem : ∀ y, ∀ q ∈ tbs.getD y [], okA noS mM (mM y).2 q.1 q.2 := by
  intro y
  match y with
  | 0 => exact tk_0
  | 1 => exact tk_1
  | 2 => exact tk_2
  | 3 => exact tk_3
  | 4 => exact tk_4
  | 5 => exact tk_5
  | 6 => exact tk_6
  | 7 => exact tk_7
  | 8 => exact tk_8
  | 9 => exact tk_9
  | 10 => exact tk_10
  | 11 => exact tk_11
  | 12 => exact tk_12
  | 13 => exact tk_13
  | 14 => exact tk_14
  | 15 => exact tk_15
  | 16 => exact tk_16
  | 17 => exact tk_17
  | 18 => exact tk_18
  | 19 => exact tk_19
  | 20 => exact tk_20
  | 21 => exact tk_21
  | 22 => exact tk_22
  | 23 => exact tk_23
  | 24 => exact tk_24
  | 25 => exact tk_25
  | 26 => exact tk_26
  | 27 => exact tk_27
  | 28 => exact tk_28
  | 29 => exact tk_29
  | 30 => exact tk_30
  | 31 => exact tk_31
  | 32 => exact tk_32
  | 33 => exact tk_33
  | 34 => exact tk_34
  | 35 => exact tk_35
  | 36 => exact tk_36
  | 37 => exact tk_37
  | 38 => exact tk_38
  | 39 => exact tk_39
  | 40 => exact tk_40
  | 41 => exact tk_41
  | 42 => exact tk_42
  | 43 => exact tk_43
  | 44 => exact tk_44
  | 45 => exact tk_45
  | 46 => exact tk_46
  | 47 => exact tk_47
  | 48 => exact tk_48
  | 49 => exact tk_49
  | 50 => exact tk_50
  | 51 => exact tk_51
  | 52 => exact tk_52
  | 53 => exact tk_53
  | 54 => exact tk_54
  | 55 => exact tk_55
  | 56 => exact tk_56
  | 57 => exact tk_57
  | 58 => exact tk_58
  | 59 => exact tk_59
  | 60 => exact tk_60
  | 61 => exact tk_61
  | 62 => exact tk_62
  | 63 => exact tk_63
  | 64 => exact tk_64
  | 65 => exact tk_65
  | 66 => exact tk_66
  | 67 => exact tk_67
  | 68 => exact tk_68
  | 69 => exact tk_69
  | 70 => exact tk_70
  | 71 => exact tk_71
  | 72 => exact tk_72
  | 73 => exact tk_73
  | 74 => exact tk_74
  | 75 => exact tk_75
  | 76 => exact tk_76
  | 77 => exact tk_77
  | 78 => exact tk_78
  | 79 => exact tk_79
  | 80 => exact tk_80
  | 81 => exact tk_81
  | 82 => exact tk_82
  | 83 => exact tk_83
  | 84 => exact tk_84
  | 85 => exact tk_85
  | 86 => exact tk_86
  | 87 => exact tk_87
  | 88 => exact tk_88
  | 89 => exact tk_89
  | 90 => exact tk_90
  | 91 => exact tk_91
  | 92 => exact tk_92
  | 93 => exact tk_93
  | 94 => exact tk_94
  | 95 => exact tk_95
  | 96 => exact tk_96
  | 97 => exact tk_97
  | 98 => exact tk_98
  | 99 => exact tk_99
  | 100 => exact tk_100
  | 101 => exact tk_101
  | 102 => exact tk_102
  | 103 => exact tk_103
  | 104 => exact tk_104
  | 105 => exact tk_105
  | 106 => exact tk_106
  | 107 => exact tk_107
  | 108 => exact tk_108
  | 109 => exact tk_109
  | 110 => exact tk_110
  | 111 => exact tk_111
  | 112 => exact tk_112
  | 113 => exact tk_113
  | 114 => exact tk_114
  | 115 => exact tk_115
  | 116 => exact tk_116
  | 117 => exact tk_117
  | 118 => exact tk_118
  | 119 => exact tk_119
  | 120 => exact tk_120
  | 121 => exact tk_121
  | 122 => exact tk_122
  | 123 => exact tk_123
  | 124 => exact tk_124
  | 125 => exact tk_125
  | 126 => exact tk_126
  | 127 => exact tk_127
  | 128 => exact tk_128
  | 129 => exact tk_129
  | 130 => exact tk_130
  | 131 => exact tk_131
  | 132 => exact tk_132
  | 133 => exact tk_133
  | 134 => exact tk_134
  | 135 => exact tk_135
  | 136 => exact tk_136
  | 137 => exact tk_137
  | 138 => exact tk_138
  | 139 => exact tk_139
  | 140 => exact tk_140
  | 141 => exact tk_141
  | 142 => exact tk_142
  | 143 => exact tk_143
  | 144 => exact tk_144
  | n + 145 => intro q hq; exact absurd hq List.not_mem_nil
theorem tt_ok (y pc : Nat) : okA noS mM (mM y).2 pc (TT y pc) := look_ok (tt_mem y) pc
theorem mM_all {p : MethodName × sI → Prop} (h : ∀ q ∈ mTab, p q) (h0 : p mNo) (y : Nat) : p (mM y) := by
  unfold mM
  rw [List.getD_eq_getElem?_getD]
  cases hy : mTab[y]? with
  | none => exact h0
  | some q => exact h q (List.mem_of_getElem? hy)
theorem mM_pn (y : Nat) : plainName (mM y).1.cls = true := mM_all (p := fun q => plainName q.1.cls = true) (List.all_eq_true.mp (by decide +kernel : mTab.all (fun q => plainName q.1.cls) = true)) (by decide +kernel) y
theorem mM_ini (y : Nat) : (mM y).2.2.2.2.2 = true → (mM y).1.name = "<init>" := mM_all (p := fun q => q.2.2.2.2.2 = true → q.1.name = "<init>") (fun q hq => by
  have h := List.all_eq_true.mp (by decide +kernel : mTab.all (fun q => !q.2.2.2.2.2 || q.1.name == "<init>") = true) q hq
  intro hz
  simpa [hz] using h) (by decide +kernel) y
theorem mM_own (y : Nat) : (mM y).2.2.1 = (mM y).1.cls := mM_all (p := fun q => q.2.2.1 = q.1.cls) (fun q hq => by
  have h := List.all_eq_true.mp (by decide +kernel : mTab.all (fun q => q.2.2.1 == q.1.cls) = true) q hq
  simpa using h) (by decide +kernel) y
/-- a run within method y, its calls at most d deep -/
def X (y d : Nat) (r : Option Value) (h' : pH) (pc : Nat) (L : pL) (S : List Value) (h : pH) : Prop := rRun (TT y) (rCall TT mL d) (fun r1 h1 => r1 = r ∧ h1 = h') pc L S h
/-- a call -/
def Cl (d y : Nat) (as : List Value) (h : pH) (r : Option Value) (h' : pH) : Prop := rCall TT mL d y as h r h'
theorem Cl_of {d y : Nat} {as : List Value} {h : pH} {r : Option Value} {h' : pH} (n : Nat) (hn : (mM y).2.2.2.1 = n) (L : pL) (hL : entL n as = L) (hl : (ent as).length ≤ n) (hx : X y d r h' 0 L [] h) : Cl (d + 1) y as h r h' := by
  subst hn; subst hL
  exact ⟨hl, hx⟩
theorem Cl_met {d y : Nat} {as : List Value} {h : pH} {r : Option Value} {h1 : pH} (hc : Cl d y as h r h1) : (h.length ≤ h1.length ∧ sz h ≤ sz h1) ∧ ∀ (l : Launch) (g : gG), Met l (mM y).1 (mW mM y) ({ frames := d, cells := h1.length - h.length, slots := sz h1 - sz h, locals := 64 * d } : Room) (va_Pc (as.map (rn g)) (cPre g h)) (cPost g r h1) (h1.length - h.length) (sz h1 - sz h) (nA g) := s_call tt_ok (fun _ => rfl) mM_pn mM_ini mM_own d y as h r h1 hc
theorem X_op {y d pc : Nat} {r : Option Value} {h' : pH} {L : pL} {S : List Value} {h : pH} {o : pO} (ho : TT y pc = o) : X y d r h' pc L S h = o (rCall TT mL d) (fun r1 h1 => r1 = r ∧ h1 = h') (X y d r h') L S h := by
  rw [← ho]
  exact run_eq (fun pc => (tt_ok y pc).1.1) _ _ pc L S h
section EQ
variable {F : pF} {R : pR} {K : pK} {L L' : pL} {S : List Value} {h : pH} {i nx tg : Nat}
theorem e_il {x : Int32} (hl : L[i]? = some (some (.int x))) : o_il i nx F R K L S h = K nx L (.int x :: S) h := propext ⟨fun ⟨x', h1, h2⟩ => by rw [hl] at h1; cases h1; exact h2, fun h => ⟨x, hl, h⟩⟩
theorem e_ll {x : Int64} (hl : L[i]? = some (some (.long x))) : o_ll i nx F R K L S h = K nx L (.long x :: S) h := propext ⟨fun ⟨x', h1, h2⟩ => by rw [hl] at h1; cases h1; exact h2, fun h => ⟨x, hl, h⟩⟩
theorem e_al {v : Value} (hl : L[i]? = some (some v)) (hr : isR v = true) : o_al i nx F R K L S h = K nx L (v :: S) h := propext ⟨fun ⟨x', h1, _, h2⟩ => by rw [hl] at h1; cases h1; exact h2, fun h => ⟨v, hl, hr, h⟩⟩
theorem e_is {x : Int32} (hn : i < L.length) (hL : st1 L i (.int x) = L') : o_is i nx F R K L (.int x :: S) h = K nx L' S h := propext ⟨fun ⟨x', S', h1, _, h2⟩ => by cases h1; rw [hL] at h2; exact h2, fun h => ⟨x, S, rfl, hn, by rw [hL]; exact h⟩⟩
theorem e_as {v : Value} (hr : isR v = true) (hn : i < L.length) (hL : st1 L i v = L') : o_as i nx F R K L (v :: S) h = K nx L' S h := propext ⟨fun ⟨x', S', h1, _, _, h2⟩ => by cases h1; rw [hL] at h2; exact h2, fun h => ⟨v, S, rfl, hr, hn, by rw [hL]; exact h⟩⟩
theorem e_ls {x : Int64} (hn : i + 1 < L.length) (hL : st2 L i (.long x) = L') : o_ls i nx F R K L (.long x :: S) h = K nx L' S h := propext ⟨fun ⟨x', S', h1, _, h2⟩ => by cases h1; rw [hL] at h2; exact h2, fun h => ⟨x, S, rfl, hn, by rw [hL]; exact h⟩⟩
theorem e_inc {x n : Int32} (hl : L[i]? = some (some (.int x))) (hL : L.set i (some (.int (x + n))) = L') : o_inc i n nx F R K L S h = K nx L' S h := propext ⟨fun ⟨x', h1, h2⟩ => by rw [hl] at h1; cases h1; rw [hL] at h2; exact h2, fun h => ⟨x, hl, by rw [hL]; exact h⟩⟩
theorem e_bin {f : Int32 → Int32 → Int32} {x y : Int32} : o_bin f nx F R K L (.int y :: .int x :: S) h = K nx L (.int (f x y) :: S) h := propext ⟨fun ⟨_, _, _, h1, h2⟩ => by cases h1; exact h2, fun h => ⟨x, y, S, rfl, h⟩⟩
theorem e_mm {f : Int32 → Int32 → Int32} {x y : Int32} : o_mm f nx F R K L (.int y :: .int x :: S) h = (sOK S ∧ K nx L (.int (f x y) :: S) h) := propext ⟨fun ⟨_, _, _, h1, h2, h3⟩ => by cases h1; exact ⟨h2, h3⟩, fun h => ⟨x, y, S, rfl, h⟩⟩
theorem e_binz {f : Int32 → Int32 → Int32} {x y : Int32} : o_binz f nx F R K L (.int y :: .int x :: S) h = (¬ y = 0 ∧ K nx L (.int (f x y) :: S) h) := propext ⟨fun ⟨_, _, _, h1, h2, h3⟩ => by cases h1; exact ⟨h2, h3⟩, fun h => ⟨x, y, S, rfl, h⟩⟩
theorem e_lbin {f : Int64 → Int64 → Int64} {x y : Int64} : o_lbin f nx F R K L (.long y :: .long x :: S) h = K nx L (.long (f x y) :: S) h := propext ⟨fun ⟨_, _, _, h1, h2⟩ => by cases h1; exact h2, fun h => ⟨x, y, S, rfl, h⟩⟩
theorem e_lcmp {x y : Int64} : o_lcmp nx F R K L (.long y :: .long x :: S) h = K nx L (.int (lg_cmp x y) :: S) h := propext ⟨fun ⟨_, _, _, h1, h2⟩ => by cases h1; exact h2, fun h => ⟨x, y, S, rfl, h⟩⟩
theorem e_i2l {x : Int32} : o_i2l nx F R K L (.int x :: S) h = K nx L (.long x.toInt64 :: S) h := propext ⟨fun ⟨_, _, h1, h2⟩ => by cases h1; exact h2, fun h => ⟨x, S, rfl, h⟩⟩
theorem e_l2i {x : Int64} : o_l2i nx F R K L (.long x :: S) h = K nx L (.int x.toInt32 :: S) h := propext ⟨fun ⟨_, _, h1, h2⟩ => by cases h1; exact h2, fun h => ⟨x, S, rfl, h⟩⟩
theorem e_dup {v : Value} (hc : v.category = 1) : o_dup nx F R K L (v :: S) h = K nx L (v :: v :: S) h := propext ⟨fun ⟨_, _, h1, _, h2⟩ => by cases h1; exact h2, fun h => ⟨v, S, rfl, hc, h⟩⟩
theorem e_dup2 {v w : Value} (hc : v.category = 1) (hd : w.category = 1) : o_dup2 nx F R K L (v :: w :: S) h = K nx L (v :: w :: v :: w :: S) h := propext ⟨fun ⟨_, _, _, h1, _, _, h2⟩ => by cases h1; exact h2, fun h => ⟨v, w, S, rfl, hc, hd, h⟩⟩
theorem e_pop {v : Value} (hc : v.category = 1) : o_pop nx F R K L (v :: S) h = K nx L S h := propext ⟨fun ⟨_, _, h1, _, h2⟩ => by cases h1; exact h2, fun h => ⟨v, S, rfl, hc, h⟩⟩
theorem e_if {c : Int32 → Prop} {x : Int32} : o_if c tg nx F R K L (.int x :: S) h = ((c x → K tg L S h) ∧ (¬ c x → K nx L S h)) := propext ⟨fun ⟨_, _, h1, h2⟩ => by cases h1; exact h2, fun h => ⟨x, S, rfl, h⟩⟩
theorem e_cmp {c : Int32 → Int32 → Prop} {x y : Int32} : o_cmp c tg nx F R K L (.int y :: .int x :: S) h = ((c x y → K tg L S h) ∧ (¬ c x y → K nx L S h)) := propext ⟨fun ⟨_, _, _, h1, h2⟩ => by cases h1; exact h2, fun h => ⟨x, y, S, rfl, h⟩⟩
theorem e_nulN : o_nul tg nx F R K L (.null :: S) h = K tg L S h := propext ⟨fun q => q.elim (fun ⟨_, h1, h2⟩ => by cases h1; exact h2) (fun ⟨_, _, h1, _⟩ => by cases h1), fun h => Or.inl ⟨S, rfl, h⟩⟩
theorem e_nulR {k : Nat} : o_nul tg nx F R K L (.ref k :: S) h = K nx L S h := propext ⟨fun q => q.elim (fun ⟨_, h1, _⟩ => by cases h1) (fun ⟨_, _, h1, h2⟩ => by cases h1; exact h2), fun h => Or.inr ⟨k, S, rfl, h⟩⟩
theorem e_nnulN : o_nnul tg nx F R K L (.null :: S) h = K nx L S h := propext ⟨fun q => q.elim (fun ⟨_, h1, h2⟩ => by cases h1; exact h2) (fun ⟨_, _, h1, _⟩ => by cases h1), fun h => Or.inl ⟨S, rfl, h⟩⟩
theorem e_nnulR {k : Nat} : o_nnul tg nx F R K L (.ref k :: S) h = K tg L S h := propext ⟨fun q => q.elim (fun ⟨_, h1, _⟩ => by cases h1) (fun ⟨_, _, h1, h2⟩ => by cases h1; exact h2), fun h => Or.inr ⟨k, S, rfl, h⟩⟩
theorem e_sw {ps : List (Int32 × Nat)} {df : Nat} {x : Int32} : o_sw ps df F R K L (.int x :: S) h = ((∀ q ∈ ps, x = q.1 → K q.2 L S h) ∧ ((∀ q ∈ ps, ¬ x = q.1) → K df L S h)) := propext ⟨fun ⟨_, _, h1, h2⟩ => by cases h1; exact h2, fun h => ⟨x, S, rfl, h⟩⟩
theorem e_gf {ci j k : Nat} : o_gf ci j nx F R K L (.ref k :: S) h = ∃ v, gf h k ci j = some v ∧ K nx L (v :: S) h := propext ⟨fun ⟨_, _, v, h1, h2⟩ => by cases h1; exact ⟨v, h2⟩, fun ⟨v, h⟩ => ⟨k, S, v, rfl, h⟩⟩
theorem e_pf {ok : Value → Prop} {ci j k : Nat} {v : Value} : o_pf ok ci j nx F R K L (v :: .ref k :: S) h = (ok v ∧ ∃ h1, pfh h k ci j v = some h1 ∧ K nx L S h1) := propext ⟨fun ⟨_, _, _, h1, e, h2⟩ => by cases e; exact ⟨h2.1, h1, h2.2⟩, fun ⟨hv, h1, h⟩ => ⟨v, k, S, h1, rfl, hv, h⟩⟩
theorem e_pfI {ci j k : Nat} {x : Int32} : o_pf okI ci j nx F R K L (.int x :: .ref k :: S) h = ∃ h1, pfh h k ci j (.int x) = some h1 ∧ K nx L S h1 := e_pf.trans (propext ⟨fun q => q.2, fun q => ⟨⟨x, rfl⟩, q⟩⟩)
theorem e_pfJ {ci j k : Nat} {x : Int64} : o_pf okJ ci j nx F R K L (.long x :: .ref k :: S) h = ∃ h1, pfh h k ci j (.long x) = some h1 ∧ K nx L S h1 := e_pf.trans (propext ⟨fun q => q.2, fun q => ⟨⟨x, rfl⟩, q⟩⟩)
theorem e_pfR {ci j k z : Nat} : o_pf okR ci j nx F R K L (.ref z :: .ref k :: S) h = ∃ h1, pfh h k ci j (.ref z) = some h1 ∧ K nx L S h1 := e_pf.trans (propext ⟨fun q => q.2, fun q => ⟨⟨z, rfl⟩, q⟩⟩)
theorem e_pfZ {ci j k : Nat} {x : Int32} : o_pf okZ ci j nx F R K L (.int x :: .ref k :: S) h = ((x = 0 ∨ x = 1) ∧ ∃ h1, pfh h k ci j (.int x) = some h1 ∧ K nx L S h1) := e_pf.trans (by simp [okZ])
theorem e_ia {i : Int32} {k : Nat} : o_ia nx F R K L (.int i :: .ref k :: S) h = ∃ x, ild h k i = some x ∧ K nx L (.int x :: S) h := propext ⟨fun ⟨_, _, _, v, h1, h2⟩ => by cases h1; exact ⟨v, h2⟩, fun ⟨v, h⟩ => ⟨i, k, S, v, rfl, h⟩⟩
theorem e_ist {x i : Int32} {k : Nat} : o_ist nx F R K L (.int x :: .int i :: .ref k :: S) h = ∃ h1, ist h k i x = some h1 ∧ K nx L S h1 := propext ⟨fun ⟨_, _, _, _, h1, e, h2⟩ => by cases e; exact ⟨h1, h2⟩, fun ⟨h1, h⟩ => ⟨x, i, k, S, h1, rfl, h⟩⟩
theorem e_aa {i : Int32} {k : Nat} : o_aa nx F R K L (.int i :: .ref k :: S) h = ∃ v, ald h k i = some v ∧ K nx L (v :: S) h := propext ⟨fun ⟨_, _, _, v, h1, h2⟩ => by cases h1; exact ⟨v, h2⟩, fun ⟨v, h⟩ => ⟨i, k, S, v, rfl, h⟩⟩
theorem e_ast {t ci v : Nat} {i : Int32} {k : Nat} : o_ast t ci nx F R K L (.ref v :: .int i :: .ref k :: S) h = ∃ h1, asth h k i v t ci = some h1 ∧ K nx L S h1 := propext ⟨fun ⟨_, _, _, _, h1, e, h2⟩ => by cases e; exact ⟨h1, h2⟩, fun ⟨h1, h⟩ => ⟨v, i, k, S, h1, rfl, h⟩⟩
theorem e_len {k : Nat} : o_len nx F R K L (.ref k :: S) h = ∃ n, alen h k = some n ∧ K nx L (.int (Int32.ofNat n) :: S) h := propext ⟨fun ⟨_, _, v, h1, h2⟩ => by cases h1; exact ⟨v, h2⟩, fun ⟨v, h⟩ => ⟨k, S, v, rfl, h⟩⟩
theorem e_iaT {i : Int32} : o_iaT nx F R K L (.int i :: .float 0 :: S) h = (vp_in i 5 ∧ K nx L (.int (wts i.toNatClampNeg) :: S) h) := propext ⟨fun ⟨_, _, h1, h2⟩ => by cases h1; exact h2, fun h => ⟨i, S, rfl, h⟩⟩
theorem e_lenT : o_lenT nx F R K L (.float 0 :: S) h = K nx L (.int 5 :: S) h := propext ⟨fun ⟨_, h1, h2⟩ => by cases h1; exact h2, fun h => ⟨S, rfl, h⟩⟩
theorem e_iaS {n : Nat} {xs : Nat → Int32} {i : Int32} : o_iaS n xs nx F R K L (.int i :: .float 1 :: S) h = (vp_in i n ∧ K nx L (.int (xs i.toNatClampNeg) :: S) h) := propext ⟨fun ⟨_, _, h1, h2⟩ => by cases h1; exact h2, fun h => ⟨i, S, rfl, h⟩⟩
theorem e_lenS {n : Nat} : o_lenS n nx F R K L (.float 1 :: S) h = K nx L (.int (Int32.ofNat n) :: S) h := propext ⟨fun ⟨_, h1, h2⟩ => by cases h1; exact h2, fun h => ⟨S, rfl, h⟩⟩
theorem e_newa {n : Int32} : o_newa nx F R K L (.int n :: S) h = (¬ n < 0 ∧ n.toNatClampNeg ≤ 1000 ∧ K nx L (.ref h.length :: S) (h ++ [.inl (List.replicate n.toNatClampNeg 0)])) := propext ⟨fun ⟨_, _, h1, h2⟩ => by cases h1; exact h2, fun h => ⟨n, S, rfl, h⟩⟩
theorem e_anew {t : Nat} {n : Int32} : o_anew t nx F R K L (.int n :: S) h = (¬ n < 0 ∧ n.toNatClampNeg ≤ 1000 ∧ K nx L (.ref h.length :: S) (h ++ [.inr (.inl (t, List.replicate n.toNatClampNeg none))])) := propext ⟨fun ⟨_, _, h1, h2⟩ => by cases h1; exact h2, fun h => ⟨n, S, rfl, h⟩⟩
theorem e_obj {k : Nat} : o_obj nx F R K L (.ref k :: S) h = (sOK S ∧ K nx L S h) := propext ⟨fun ⟨_, _, h1, h2⟩ => by cases h1; exact h2, fun h => ⟨k, S, rfl, h⟩⟩
theorem e_call {rc : pH → List Value → Prop} {y n : Nat} {S0 as : List Value} (hS : S0 = as.reverse ++ S) (hn : as.length = n) : o_call rc y n nx F R K L S0 h = (sOK S ∧ rc h as ∧ ∃ r h1, F y as h r h1 ∧ K nx L (r.toList ++ S) h1) := by
  subst hS; subst hn
  have e1 : ((as.reverse ++ S).take as.length).reverse = as := by rw [List.take_left' (by simp), List.reverse_reverse]
  have e2 : (as.reverse ++ S).drop as.length = S := List.drop_left' (by simp)
  unfold o_call
  rw [e1, e2]
  simp
theorem e_iret {x : Int32} : o_iret F R K L [.int x] h = R (some (.int x)) h := propext ⟨fun ⟨_, h1, h2⟩ => by cases h1; exact h2, fun h => ⟨x, rfl, h⟩⟩
theorem e_zret {x : Int32} : o_zret F R K L [.int x] h = ((x = 0 ∨ x = 1) ∧ R (some (.int x)) h) := propext ⟨fun ⟨_, h1, h2⟩ => by cases h1; exact h2, fun h => ⟨x, rfl, h⟩⟩
theorem e_lret {x : Int64} : o_lret F R K L [.long x] h = R (some (.long x)) h := propext ⟨fun ⟨_, h1, h2⟩ => by cases h1; exact h2, fun h => ⟨x, rfl, h⟩⟩
theorem e_aretN : o_aret F R K L [.null] h = R (some .null) h := propext ⟨fun ⟨_, h1, _, h2⟩ => by cases h1; exact h2, fun h => ⟨.null, rfl, Or.inl rfl, h⟩⟩
theorem e_aretR {k : Nat} : o_aret F R K L [.ref k] h = R (some (.ref k)) h := propext ⟨fun ⟨_, h1, _, h2⟩ => by cases h1; exact h2, fun h => ⟨.ref k, rfl, Or.inr ⟨k, rfl⟩, h⟩⟩
theorem e_vret : o_vret F R K L [] h = R none h := propext ⟨fun ⟨_, h2⟩ => h2, fun h => ⟨rfl, h⟩⟩
end EQ
