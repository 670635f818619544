theorem in7 (c : Int32) : decide ((0 : Int32) ≤ c ∧ c ≤ 7) = ixv c 8 := in_ix c 7 (by decide)
theorem in1 (c : Int32) : decide ((0 : Int32) ≤ c ∧ c ≤ 1) = ixv c 2 := in_ix c 1 (by decide)
theorem in4 (c : Int32) : decide ((0 : Int32) ≤ c ∧ c ≤ 4) = ixv c 5 := in_ix c 4 (by decide)
theorem in9 (c : Int32) : decide ((0 : Int32) ≤ c ∧ c ≤ 9) = ixv c 10 := in_ix c 9 (by decide)
theorem in2 (c : Int32) : decide ((0 : Int32) ≤ c ∧ c ≤ 2) = ixv c 3 := in_ix c 2 (by decide)
theorem b2i_0 (w : Bool) : (b2i w = 0) = (w = false) := by cases w <;> simp [b2i]
/-- the digits at the page's beginning -/
def fdg (cs : List Int32) : Nat → Nat → Nat
  | 0, p => p
  | j + 1, p => if 48 ≤ hx cs p ∧ hx cs p ≤ 57 then fdg cs j (p + 1) else p
theorem fdg_le (cs : List Int32) : ∀ j p, p ≤ fdg cs j p ∧ fdg cs j p ≤ p + j
  | 0, p => ⟨Nat.le_refl _, Nat.le_refl _⟩
  | j + 1, p => by
    unfold fdg
    have := fdg_le cs j (p + 1)
    split <;> omega
theorem ffa_fdg (cs : List Int32) (sort : Int32) : ∀ j p, p + j ≤ 8 → ffa cs sort j p = fdg cs j p
  | 0, p, _ => rfl
  | j + 1, p, h => by
    unfold ffa fdg
    rw [ffa_fdg cs sort j (p + 1) (by omega)]
    simp [fit, show p < 8 by omega]
theorem ffa_s (cs : List Int32) (sort : Int32) (j p : Nat) : ffa cs sort (j + 1) p = if fit (hx cs p) p sort then ffa cs sort j (p + 1) else p := rfl
theorem ffa_app (cs : List Int32) (sort : Int32) : ∀ a b p, ffa cs sort (a + b) p = if ffa cs sort a p = p + a then ffa cs sort b (p + a) else ffa cs sort a p
  | 0, b, p => by simp [ffa]
  | a + 1, b, p => by
    rw [show a + 1 + b = (a + b) + 1 by omega, ffa_s, ffa_s]
    by_cases q : fit (hx cs p) p sort = true
    · rw [if_pos q, if_pos q, ffa_app cs sort a b (p + 1), show p + 1 + a = p + (a + 1) by omega]
    · rw [if_neg q, if_neg q, if_neg (by omega)]
theorem ffa_9 (cs : List Int32) (sort : Int32) (m : Nat) : ffa cs sort m 9 = 9 := by
  cases m with
  | zero => rfl
  | succ m => simp [ffa, fit]
theorem flt_fdg (cs : List Int32) (n : Nat) (sort : Int32) : flt cs n sort = if sort = 0 ∧ fdg cs (min n 8) 0 = 8 ∧ 8 < n ∧ (hx cs 8 = 62 ∨ hx cs 8 = 60) then 9 else fdg cs (min n 8) 0 := by
  unfold flt
  by_cases q : 8 < n
  · rw [show n = 8 + ((n - 9) + 1) by omega, ffa_app, ffa_fdg cs sort 8 0 (by omega), show min (8 + ((n - 9) + 1)) 8 = 8 by omega, Nat.zero_add]
    by_cases q2 : fdg cs 8 0 = 8
    · rw [if_pos q2]
      have : 8 < 8 + (n - 9 + 1) := by omega
      rw [ffa, ffa_9]
      simp [fit, q2]
    · rw [if_neg q2, if_neg (fun z => q2 z.2.1)]
  · rw [ffa_fdg cs sort n 0 (by omega), show min n 8 = n by omega, if_neg (fun z => q z.2.2.1)]
theorem i64_48 : (48 : Int32).toInt64 = 48 := rfl
section M52
variable {h : pH} {n : Nat} {hd w : Bool} {nt : Int32} {tr : Nat} {hb : Bool} {cnt : Nat} {wm sn kd : Int32} {kw : Bool} {kn : Int32} {kc : Nat} {hh : Int64} {cs hs bf rs ms th wh od bo khs krs kms : List Int32}
theorem lo_faultM (d : Nat) (a : Mh h (mcs (mO n hd w nt tr hb cnt wm sn kd kw kn kc hh) cs hs bf rs ms th wh od bo khs krs kms)) (l1 : cs.length = 12) (hn : n ≤ 12) (sort : Int32) (v3 : Option Value) (r : Option Value) (h' : pH) : ∀ (j i : Nat), i + j = min n 8 → X 91 (d + 1) r h' 41 [some (.ref 66), some (.int sort), some (.int (nI (fdg cs j i))), v3] [] h → X 91 (d + 1) r h' 2 [some (.ref 66), some (.int sort), some (.int (nI i)), v3] [] h := by
  have g0 := a.g0
  dsimp only [mO] at g0
  intro j
  induction j with
  | zero =>
    intro i hi hk
    unfold fdg at hk
    by_cases q : n ≤ i
    · have e : (nI n ≤ nI i) = True := eq_true (nI_le q (by omega))
      rw [r91_2]
      simp only [r91_3, r91_4, r91_7, List.length_cons, List.length_nil, Nat.reduceAdd, Nat.reduceLT, if_true, l10, l01, l20, l21, l02, l12, List.append_nil, List.getElem?_cons_zero, List.getElem?_cons_succ, List.set_cons_zero, List.set_cons_succ, not_false_eq_true, not_true_eq_false, false_implies, true_implies, forall_const, Classical.not_not, rc0_at, rcI_at, sOK0, sOK1, sOK2, sOK3, sOK4, true_and, and_true, kil, Option.toList_some, Option.toList_none, List.nil_append, List.cons_append, Option.some.injEq, exists_eq_left', Value.int.injEq, Value.ref.injEq, Value.long.injEq, gf_at g0, e]
      exact hk
    · have e : (nI n ≤ nI i) = False := eq_false (nI_ge (by omega) (by omega))
      have : i = 8 := by omega
      subst this
      rw [r91_2]
      simp only [r91_3, r91_4, r91_7, r91_10, r91_11, r91_13, List.length_cons, List.length_nil, Nat.reduceAdd, Nat.reduceLT, if_true, l10, l01, l20, l21, l02, l12, List.append_nil, List.getElem?_cons_zero, List.getElem?_cons_succ, List.set_cons_zero, List.set_cons_succ, not_false_eq_true, not_true_eq_false, false_implies, true_implies, forall_const, Classical.not_not, rc0_at, rcI_at, sOK0, sOK1, sOK2, sOK3, sOK4, true_and, and_true, kil, Option.toList_some, Option.toList_none, List.nil_append, List.cons_append, Option.some.injEq, exists_eq_left', Value.int.injEq, Value.ref.injEq, Value.long.injEq, gf_at g0, e, ge8t]
      exact hk
  | succ j ih =>
    intro i hi hk
    have e : (nI n ≤ nI i) = False := eq_false (nI_ge (by omega) (by omega))
    rw [r91_2]
    simp only [r91_3, r91_4, r91_7, r91_10, r91_11, r91_13, r91_16, r91_17, r91_20, r91_21, r91_22, r91_23, r91_26, r91_29, List.length_cons, List.length_nil, Nat.reduceAdd, Nat.reduceLT, if_true, l10, l01, l20, l21, l02, l12, List.append_nil, List.getElem?_cons_zero, List.getElem?_cons_succ, List.set_cons_zero, List.set_cons_succ, not_false_eq_true, not_true_eq_false, false_implies, true_implies, forall_const, Classical.not_not, rc0_at, rcI_at, sOK0, sOK1, sOK2, sOK3, sOK4, true_and, and_true, kil, Option.toList_some, Option.toList_none, List.nil_append, List.cons_append, Option.some.injEq, exists_eq_left', Value.int.injEq, Value.ref.injEq, Value.long.injEq, gf_at g0, e, ge8f (show i < 8 by omega), ild_at a.g1 (show i < cs.length by omega) (show i < 2 ^ 31 by omega)]
    refine ⟨_, _, c_inI d h (hx cs i) 48 57 rfl rfl, ?_⟩
    unfold fdg at hk
    by_cases q : 48 ≤ hx cs i ∧ hx cs i ≤ 57
    · rw [if_pos q] at hk
      simp only [q, r91_32, r91_35, r91_38, List.length_cons, List.length_nil, Nat.reduceAdd, Nat.reduceLT, if_true, l10, l01, l20, l21, l02, l12, List.append_nil, List.getElem?_cons_zero, List.getElem?_cons_succ, List.set_cons_zero, List.set_cons_succ, not_false_eq_true, not_true_eq_false, false_implies, true_implies, forall_const, Classical.not_not, rc0_at, rcI_at, sOK0, sOK1, sOK2, sOK3, sOK4, true_and, and_true, kil, Option.toList_some, Option.toList_none, List.nil_append, List.cons_append, Option.some.injEq, exists_eq_left', Value.int.injEq, Value.ref.injEq, Value.long.injEq, b2i, decide_true, nI_1]
      exact ih (i + 1) (by omega) hk
    · rw [if_neg q] at hk
      simp only [q, r91_32, List.length_cons, List.length_nil, Nat.reduceAdd, Nat.reduceLT, if_true, l10, l01, l20, l21, l02, l12, List.append_nil, List.getElem?_cons_zero, List.getElem?_cons_succ, List.set_cons_zero, List.set_cons_succ, not_false_eq_true, not_true_eq_false, false_implies, true_implies, forall_const, Classical.not_not, rc0_at, rcI_at, sOK0, sOK1, sOK2, sOK3, sOK4, true_and, and_true, kil, Option.toList_some, Option.toList_none, List.nil_append, List.cons_append, Option.some.injEq, exists_eq_left', Value.int.injEq, Value.ref.injEq, Value.long.injEq, b2i, decide_false, Bool.false_eq_true, if_false]
      exact hk
theorem c_faultOf (d : Nat) (a : Mh h (mcs (mO n hd w nt tr hb cnt wm sn kd kw kn kc hh) cs hs bf rs ms th wh od bo khs krs kms)) (l1 : cs.length = 12) (hn : n ≤ 12) (sort : Int32) : Cl (d + 2) 91 [.ref 66, .int sort] h (some (.int (nI (flt cs n sort)))) h := by
  have g0 := a.g0
  dsimp only [mO] at g0
  refine Cl_o 4 rfl [some (.ref 66), some (.int sort), none, none] rfl rfl ?_
  simp only [r91_0, r91_1, List.length_cons, List.length_nil, Nat.reduceAdd, Nat.reduceLT, if_true, l10, l01, l20, l21, l02, l12, List.append_nil, List.getElem?_cons_zero, List.getElem?_cons_succ, List.set_cons_zero, List.set_cons_succ, not_false_eq_true, not_true_eq_false, false_implies, true_implies, forall_const, Classical.not_not, rc0_at, rcI_at, sOK0, sOK1, sOK2, sOK3, sOK4, true_and, and_true, kil, Option.toList_some, Option.toList_none, List.nil_append, List.cons_append, Option.some.injEq, exists_eq_left', Value.int.injEq, Value.ref.injEq, Value.long.injEq]
  refine lo_faultM d a l1 hn sort none _ _ (min n 8) 0 (Nat.zero_add _) ?_
  rw [flt_fdg]
  have f1 := fdg_le cs (min n 8) 0
  by_cases q0 : sort = 0
  · by_cases q1 : fdg cs (min n 8) 0 = 8
    · by_cases q2 : 8 < n
      · have e1 : ¬ nI n ≤ 8 := nI_ge (a := 8) (b := n) q2 (by omega)
        have i8 : ild h 67 8 = some (hx cs 8) := ild_at a.g1 (show 8 < cs.length by omega) (by decide)
        have e8 : nI 8 = 8 := rfl
        by_cases q3 : hx cs 8 = 62
        · simp only [q0, q1, q2, q3, r91_0, r91_1, r91_3, r91_4, r91_7, r91_10, r91_11, r91_13, r91_16, r91_17, r91_20, r91_21, r91_22, r91_23, r91_26, r91_29, r91_32, r91_35, r91_38, r91_41, r91_42, r91_45, r91_46, r91_48, r91_51, r91_52, r91_55, r91_57, r91_60, r91_61, r91_64, r91_66, r91_67, r91_69, r91_72, r91_73, r91_76, r91_78, r91_79, r91_81, r91_84, r91_85, r91_88, r91_89, r91_90, r91_91, r91_94, r91_96, r91_99, r91_100, List.length_cons, List.length_nil, Nat.reduceAdd, Nat.reduceLT, if_true, l10, l01, l20, l21, l02, l12, List.append_nil, List.getElem?_cons_zero, List.getElem?_cons_succ, List.set_cons_zero, List.set_cons_succ, not_false_eq_true, not_true_eq_false, false_implies, true_implies, forall_const, Classical.not_not, rc0_at, rcI_at, sOK0, sOK1, sOK2, sOK3, sOK4, true_and, and_true, kil, Option.toList_some, Option.toList_none, List.nil_append, List.cons_append, Option.some.injEq, exists_eq_left', Value.int.injEq, Value.ref.injEq, Value.long.injEq, gf_at g0, e1, i8, e8, true_or]
          rfl
        · by_cases q4 : hx cs 8 = 60
          · have n1 : ¬ (60 : Int32) = 62 := by decide
            simp only [q0, q1, q2, q4, n1, r91_0, r91_1, r91_3, r91_4, r91_7, r91_10, r91_11, r91_13, r91_16, r91_17, r91_20, r91_21, r91_22, r91_23, r91_26, r91_29, r91_32, r91_35, r91_38, r91_41, r91_42, r91_45, r91_46, r91_48, r91_51, r91_52, r91_55, r91_57, r91_60, r91_61, r91_64, r91_66, r91_67, r91_69, r91_72, r91_73, r91_76, r91_78, r91_79, r91_81, r91_84, r91_85, r91_88, r91_89, r91_90, r91_91, r91_94, r91_96, r91_99, r91_100, List.length_cons, List.length_nil, Nat.reduceAdd, Nat.reduceLT, if_true, l10, l01, l20, l21, l02, l12, List.append_nil, List.getElem?_cons_zero, List.getElem?_cons_succ, List.set_cons_zero, List.set_cons_succ, not_false_eq_true, not_true_eq_false, false_implies, true_implies, forall_const, Classical.not_not, rc0_at, rcI_at, sOK0, sOK1, sOK2, sOK3, sOK4, true_and, and_true, kil, Option.toList_some, Option.toList_none, List.nil_append, List.cons_append, Option.some.injEq, exists_eq_left', Value.int.injEq, Value.ref.injEq, Value.long.injEq, gf_at g0, e1, i8, e8, or_true]
            rfl
          · simp only [q0, q1, q2, q3, q4, r91_0, r91_1, r91_3, r91_4, r91_7, r91_10, r91_11, r91_13, r91_16, r91_17, r91_20, r91_21, r91_22, r91_23, r91_26, r91_29, r91_32, r91_35, r91_38, r91_41, r91_42, r91_45, r91_46, r91_48, r91_51, r91_52, r91_55, r91_57, r91_60, r91_61, r91_64, r91_66, r91_67, r91_69, r91_72, r91_73, r91_76, r91_78, r91_79, r91_81, r91_84, r91_85, r91_88, r91_89, r91_90, r91_91, r91_94, r91_96, r91_99, r91_100, List.length_cons, List.length_nil, Nat.reduceAdd, Nat.reduceLT, if_true, l10, l01, l20, l21, l02, l12, List.append_nil, List.getElem?_cons_zero, List.getElem?_cons_succ, List.set_cons_zero, List.set_cons_succ, not_false_eq_true, not_true_eq_false, false_implies, true_implies, forall_const, Classical.not_not, rc0_at, rcI_at, sOK0, sOK1, sOK2, sOK3, sOK4, true_and, and_true, kil, Option.toList_some, Option.toList_none, List.nil_append, List.cons_append, Option.some.injEq, exists_eq_left', Value.int.injEq, Value.ref.injEq, Value.long.injEq, gf_at g0, e1, i8, e8, or_self, and_false, if_false]
      · have e1 : nI n ≤ 8 := nI_le (a := n) (b := 8) (by omega) (by decide)
        have e8 : nI 8 = 8 := rfl
        simp only [q0, q1, q2, r91_0, r91_1, r91_3, r91_4, r91_7, r91_10, r91_11, r91_13, r91_16, r91_17, r91_20, r91_21, r91_22, r91_23, r91_26, r91_29, r91_32, r91_35, r91_38, r91_41, r91_42, r91_45, r91_46, r91_48, r91_51, r91_52, r91_55, r91_57, r91_60, r91_61, r91_64, r91_66, r91_67, r91_69, r91_72, r91_73, r91_76, r91_78, r91_79, r91_81, r91_84, r91_85, r91_88, r91_89, r91_90, r91_91, r91_94, r91_96, r91_99, r91_100, List.length_cons, List.length_nil, Nat.reduceAdd, Nat.reduceLT, if_true, l10, l01, l20, l21, l02, l12, List.append_nil, List.getElem?_cons_zero, List.getElem?_cons_succ, List.set_cons_zero, List.set_cons_succ, not_false_eq_true, not_true_eq_false, false_implies, true_implies, forall_const, Classical.not_not, rc0_at, rcI_at, sOK0, sOK1, sOK2, sOK3, sOK4, true_and, and_true, kil, Option.toList_some, Option.toList_none, List.nil_append, List.cons_append, Option.some.injEq, exists_eq_left', Value.int.injEq, Value.ref.injEq, Value.long.injEq, gf_at g0, e1, e8, false_and, and_false, if_false]
    · have e8 : ¬ nI (fdg cs (min n 8) 0) = 8 := fun z => q1 ((nI_eq (b := 8) (by omega) (by decide)).mp z)
      simp only [q0, q1, r91_0, r91_1, r91_3, r91_4, r91_7, r91_10, r91_11, r91_13, r91_16, r91_17, r91_20, r91_21, r91_22, r91_23, r91_26, r91_29, r91_32, r91_35, r91_38, r91_41, r91_42, r91_45, r91_46, r91_48, r91_51, r91_52, r91_55, r91_57, r91_60, r91_61, r91_64, r91_66, r91_67, r91_69, r91_72, r91_73, r91_76, r91_78, r91_79, r91_81, r91_84, r91_85, r91_88, r91_89, r91_90, r91_91, r91_94, r91_96, r91_99, r91_100, List.length_cons, List.length_nil, Nat.reduceAdd, Nat.reduceLT, if_true, l10, l01, l20, l21, l02, l12, List.append_nil, List.getElem?_cons_zero, List.getElem?_cons_succ, List.set_cons_zero, List.set_cons_succ, not_false_eq_true, not_true_eq_false, false_implies, true_implies, forall_const, Classical.not_not, rc0_at, rcI_at, sOK0, sOK1, sOK2, sOK3, sOK4, true_and, and_true, kil, Option.toList_some, Option.toList_none, List.nil_append, List.cons_append, Option.some.injEq, exists_eq_left', Value.int.injEq, Value.ref.injEq, Value.long.injEq, e8, false_and, and_false, if_false]
  · simp only [q0, r91_0, r91_1, r91_3, r91_4, r91_7, r91_10, r91_11, r91_13, r91_16, r91_17, r91_20, r91_21, r91_22, r91_23, r91_26, r91_29, r91_32, r91_35, r91_38, r91_41, r91_42, r91_45, r91_46, r91_48, r91_51, r91_52, r91_55, r91_57, r91_60, r91_61, r91_64, r91_66, r91_67, r91_69, r91_72, r91_73, r91_76, r91_78, r91_79, r91_81, r91_84, r91_85, r91_88, r91_89, r91_90, r91_91, r91_94, r91_96, r91_99, r91_100, List.length_cons, List.length_nil, Nat.reduceAdd, Nat.reduceLT, if_true, l10, l01, l20, l21, l02, l12, List.append_nil, List.getElem?_cons_zero, List.getElem?_cons_succ, List.set_cons_zero, List.set_cons_succ, not_false_eq_true, not_true_eq_false, false_implies, true_implies, forall_const, Classical.not_not, rc0_at, rcI_at, sOK0, sOK1, sOK2, sOK3, sOK4, true_and, and_true, kil, Option.toList_some, Option.toList_none, List.nil_append, List.cons_append, Option.some.injEq, exists_eq_left', Value.int.injEq, Value.ref.injEq, Value.long.injEq, false_and, if_false]
theorem c_isCellM (d : Nat) (a : Mh h (mcs (mO n hd w nt tr hb cnt wm sn kd kw kn kc hh) cs hs bf rs ms th wh od bo khs krs kms)) (c : Int32) : Cl (d + 2) 95 [.ref 66, .int c] h (some (.int (b2i (hd && ixv c 8)))) h := by
  have g0 := a.g0
  dsimp only [mO] at g0
  refine Cl_o 2 rfl [some (.ref 66), some (.int c)] rfl rfl ?_
  cases hd with
  | false => simp only [r95_0, r95_1, r95_4, r95_7, r95_8, r95_9, r95_10, r95_13, r95_16, r95_19, r95_20, r95_23, r95_24, List.length_cons, List.length_nil, Nat.reduceAdd, Nat.reduceLT, if_true, l10, l01, l20, l21, l02, l12, List.append_nil, List.getElem?_cons_zero, List.getElem?_cons_succ, List.set_cons_zero, List.set_cons_succ, not_false_eq_true, not_true_eq_false, false_implies, true_implies, forall_const, Classical.not_not, rc0_at, rcI_at, sOK0, sOK1, sOK2, sOK3, sOK4, true_and, and_true, kil, Option.toList_some, Option.toList_none, List.nil_append, List.cons_append, Option.some.injEq, exists_eq_left', Value.int.injEq, Value.ref.injEq, Value.long.injEq, gf_at g0, b2i, Bool.false_and, Bool.false_eq_true, if_false, true_or]
  | true =>
    simp only [r95_0, r95_1, r95_4, r95_7, r95_8, r95_9, r95_10, r95_13, r95_16, r95_19, r95_20, r95_23, r95_24, List.length_cons, List.length_nil, Nat.reduceAdd, Nat.reduceLT, if_true, l10, l01, l20, l21, l02, l12, List.append_nil, List.getElem?_cons_zero, List.getElem?_cons_succ, List.set_cons_zero, List.set_cons_succ, not_false_eq_true, not_true_eq_false, false_implies, true_implies, forall_const, Classical.not_not, rc0_at, rcI_at, sOK0, sOK1, sOK2, sOK3, sOK4, true_and, and_true, kil, Option.toList_some, Option.toList_none, List.nil_append, List.cons_append, Option.some.injEq, exists_eq_left', Value.int.injEq, Value.ref.injEq, Value.long.injEq, gf_at g0, b2i_0, Bool.true_and, Bool.true_eq_false]
    refine ⟨_, _, c_inI d h c 0 7 rfl rfl, ?_⟩
    rw [in7]
    cases e : ixv c 8
    · simp only [r95_0, r95_1, r95_4, r95_7, r95_8, r95_9, r95_10, r95_13, r95_16, r95_19, r95_20, r95_23, r95_24, List.length_cons, List.length_nil, Nat.reduceAdd, Nat.reduceLT, if_true, l10, l01, l20, l21, l02, l12, List.append_nil, List.getElem?_cons_zero, List.getElem?_cons_succ, List.set_cons_zero, List.set_cons_succ, not_false_eq_true, not_true_eq_false, false_implies, true_implies, forall_const, Classical.not_not, rc0_at, rcI_at, sOK0, sOK1, sOK2, sOK3, sOK4, true_and, and_true, kil, Option.toList_some, Option.toList_none, List.nil_append, List.cons_append, Option.some.injEq, exists_eq_left', Value.int.injEq, Value.ref.injEq, Value.long.injEq, b2i, Bool.false_eq_true, if_false, true_or]
    · simp only [r95_0, r95_1, r95_4, r95_7, r95_8, r95_9, r95_10, r95_13, r95_16, r95_19, r95_20, r95_23, r95_24, List.length_cons, List.length_nil, Nat.reduceAdd, Nat.reduceLT, if_true, l10, l01, l20, l21, l02, l12, List.append_nil, List.getElem?_cons_zero, List.getElem?_cons_succ, List.set_cons_zero, List.set_cons_succ, not_false_eq_true, not_true_eq_false, false_implies, true_implies, forall_const, Classical.not_not, rc0_at, rcI_at, sOK0, sOK1, sOK2, sOK3, sOK4, true_and, and_true, kil, Option.toList_some, Option.toList_none, List.nil_append, List.cons_append, Option.some.injEq, exists_eq_left', Value.int.injEq, Value.ref.injEq, Value.long.injEq, b2i, Bool.false_eq_true, if_false, or_true]
end M52
