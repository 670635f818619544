theorem m_blank (d : Nat) {h : pH} {s : stT} (x : MS h s) (st : St s) : ∃ h', Cl (d + 1) 90 [.ref 66] h (some (.int (q_blank s).2)) h' ∧ MS h' (q_blank s).1 ∧ Dn h h' := by
  obtain ⟨cs, n, ⟨hs, w, ws, cnt, nt⟩, ⟨khs, kw, kws, kc, kn⟩, bf, hd, hm, hb, tr⟩ := s
  have x' := x
  obtain ⟨wm, sn, kd, hh, rs, ms, th, wh, od, bo, krs, kms, a, ⟨b1, b2⟩, ⟨b3, b4⟩, ⟨t1, t2, t3, t4⟩, b5⟩ := x
  dsimp only at a b1 b2 b3 b4 b5
  obtain ⟨l1, l2, ⟨l3, l4, l5⟩, ⟨l6, l7, l8⟩, l9⟩ := st
  dsimp only at l1 l2 l3 l4 l5 l6 l7 l8 l9
  have g0 := a.g0
  dsimp only [mO] at g0
  refine ⟨h.set 66 (.inr (.inr (8, mO 0 hd w nt tr hb cnt wm sn kd kw kn kc hh))), Cl_o 2 rfl [some (.ref 66), none] rfl rfl ?_, ⟨wm, sn, kd, hh, rs, ms, th, wh, od, bo, krs, kms, a.s0 _, ⟨b1, b2⟩, ⟨b3, b4⟩, ⟨t1, t2, t3, t4⟩, b5⟩, Dn.rf.st (by decide)⟩
  simp only [r90_0, r90_1, r90_4, r90_5, r90_6, r90_7, r90_10, r90_11, List.length_cons, List.length_nil, Nat.reduceAdd, Nat.reduceLT, if_true, l10, l01, l20, l21, l02, l12, List.append_nil, List.getElem?_cons_zero, List.getElem?_cons_succ, List.set_cons_zero, List.set_cons_succ, not_false_eq_true, not_true_eq_false, false_implies, true_implies, forall_const, Classical.not_not, rc0_at, rcI_at, sOK0, sOK1, sOK2, sOK3, sOK4, true_and, and_true, kil, Option.toList_some, Option.toList_none, List.nil_append, List.cons_append, Option.some.injEq, exists_eq_left', Value.int.injEq, Value.ref.injEq, Value.long.injEq, gf_at g0, pf_at g0 (show 1 < 26 by decide), q_blank, mO, nI_0]
theorem m_fault (d : Nat) {h : pH} {s : stT} (x : MS h s) (st : St s) (c : Int32) : ∃ h', Cl (d + 3) 92 [.ref 66, .int c] h (some (.int (q_fault s c).2)) h' ∧ MS h' (q_fault s c).1 ∧ Dn h h' := by
  obtain ⟨cs, n, ⟨hs, w, ws, cnt, nt⟩, ⟨khs, kw, kws, kc, kn⟩, bf, hd, hm, hb, tr⟩ := s
  have x' := x
  obtain ⟨wm, sn, kd, hh, rs, ms, th, wh, od, bo, krs, kms, a, ⟨b1, b2⟩, ⟨b3, b4⟩, ⟨t1, t2, t3, t4⟩, b5⟩ := x
  dsimp only at a b1 b2 b3 b4 b5
  obtain ⟨l1, l2, ⟨l3, l4, l5⟩, ⟨l6, l7, l8⟩, l9⟩ := st
  dsimp only at l1 l2 l3 l4 l5 l6 l7 l8 l9
  have g0 := a.g0
  dsimp only [mO] at g0
  have e0 : entL 2 [Value.ref 66, .int c] = [some (.ref 66), some (.int c)] := rfl
  unfold q_fault
  dsimp only
  cases e : ixv c 2
  · refine ⟨h, Cl_o 2 rfl _ e0 rfl ?_, x', Dn.rf⟩
    simp only [r92_0, r92_1, r92_2, r92_3, r92_4, r92_7, r92_10, r92_11, r92_12, r92_15, r92_18, r92_20, List.length_cons, List.length_nil, Nat.reduceAdd, Nat.reduceLT, if_true, l10, l01, l20, l21, l02, l12, List.append_nil, List.getElem?_cons_zero, List.getElem?_cons_succ, List.set_cons_zero, List.set_cons_succ, not_false_eq_true, not_true_eq_false, false_implies, true_implies, forall_const, Classical.not_not, rc0_at, rcI_at, sOK0, sOK1, sOK2, sOK3, sOK4, true_and, and_true, kil, Option.toList_some, Option.toList_none, List.nil_append, List.cons_append, Option.some.injEq, exists_eq_left', Value.int.injEq, Value.ref.injEq, Value.long.injEq]
    refine ⟨_, _, c_inI (d + 1) h c 0 1 rfl rfl, ?_⟩
    simp only [r92_0, r92_1, r92_2, r92_3, r92_4, r92_7, r92_10, r92_11, r92_12, r92_15, r92_18, r92_20, List.length_cons, List.length_nil, Nat.reduceAdd, Nat.reduceLT, if_true, l10, l01, l20, l21, l02, l12, List.append_nil, List.getElem?_cons_zero, List.getElem?_cons_succ, List.set_cons_zero, List.set_cons_succ, not_false_eq_true, not_true_eq_false, false_implies, true_implies, forall_const, Classical.not_not, rc0_at, rcI_at, sOK0, sOK1, sOK2, sOK3, sOK4, true_and, and_true, kil, Option.toList_some, Option.toList_none, List.nil_append, List.cons_append, Option.some.injEq, exists_eq_left', Value.int.injEq, Value.ref.injEq, Value.long.injEq, in1, e, b2i, Bool.false_eq_true, if_false]
  · refine ⟨h, Cl_o 2 rfl _ e0 rfl ?_, x', Dn.rf⟩
    simp only [r92_0, r92_1, r92_2, r92_3, r92_4, r92_7, r92_10, r92_11, r92_12, r92_15, r92_18, r92_20, List.length_cons, List.length_nil, Nat.reduceAdd, Nat.reduceLT, if_true, l10, l01, l20, l21, l02, l12, List.append_nil, List.getElem?_cons_zero, List.getElem?_cons_succ, List.set_cons_zero, List.set_cons_succ, not_false_eq_true, not_true_eq_false, false_implies, true_implies, forall_const, Classical.not_not, rc0_at, rcI_at, sOK0, sOK1, sOK2, sOK3, sOK4, true_and, and_true, kil, Option.toList_some, Option.toList_none, List.nil_append, List.cons_append, Option.some.injEq, exists_eq_left', Value.int.injEq, Value.ref.injEq, Value.long.injEq]
    refine ⟨_, _, c_inI (d + 1) h c 0 1 rfl rfl, ?_⟩
    simp only [r92_0, r92_1, r92_2, r92_3, r92_4, r92_7, r92_10, r92_11, r92_12, r92_15, r92_18, r92_20, List.length_cons, List.length_nil, Nat.reduceAdd, Nat.reduceLT, if_true, l10, l01, l20, l21, l02, l12, List.append_nil, List.getElem?_cons_zero, List.getElem?_cons_succ, List.set_cons_zero, List.set_cons_succ, not_false_eq_true, not_true_eq_false, false_implies, true_implies, forall_const, Classical.not_not, rc0_at, rcI_at, sOK0, sOK1, sOK2, sOK3, sOK4, true_and, and_true, kil, Option.toList_some, Option.toList_none, List.nil_append, List.cons_append, Option.some.injEq, exists_eq_left', Value.int.injEq, Value.ref.injEq, Value.long.injEq, in1, e, b2i, rcV_at g0]
    refine ⟨_, _, c_faultOf d a l1 l2 c, ?_⟩
    simp only [r92_0, r92_1, r92_2, r92_3, r92_4, r92_7, r92_10, r92_11, r92_12, r92_15, r92_18, r92_20, List.length_cons, List.length_nil, Nat.reduceAdd, Nat.reduceLT, if_true, l10, l01, l20, l21, l02, l12, List.append_nil, List.getElem?_cons_zero, List.getElem?_cons_succ, List.set_cons_zero, List.set_cons_succ, not_false_eq_true, not_true_eq_false, false_implies, true_implies, forall_const, Classical.not_not, rc0_at, rcI_at, sOK0, sOK1, sOK2, sOK3, sOK4, true_and, and_true, kil, Option.toList_some, Option.toList_none, List.nil_append, List.cons_append, Option.some.injEq, exists_eq_left', Value.int.injEq, Value.ref.injEq, Value.long.injEq]
section M53
variable {h : pH} {n : Nat} {hd w : Bool} {nt : Int32} {tr : Nat} {hb : Bool} {cnt : Nat} {wm sn kd : Int32} {kw : Bool} {kn : Int32} {kc : Nat} {hh : Int64} {cs hs bf rs ms th wh od bo khs krs kms : List Int32}
theorem lo_readM (d : Nat) (l1 : cs.length = 12) (r : Option Value) (h' : pH) : ∀ (j i : Nat) (hs : List Int32) (h : pH), i + j = 8 → hs.length = 8 → Mh h (mcs (mO n hd w nt tr hb cnt wm sn kd kw kn kc hh) cs hs bf rs ms th wh od bo khs krs kms) → X 94 d r h' 51 [some (.ref 66), some (.int (nI 8))] [] (h.set 68 (.inl (hs.take i ++ (rdh cs).drop i))) → X 94 d r h' 24 [some (.ref 66), some (.int (nI i))] [] h := by
  intro j
  induction j with
  | zero =>
    intro i hs h hi hl a hk
    have : i = 8 := by omega
    subst this
    rw [List.take_of_length_le (by omega), List.drop_of_length_le (by rw [rdh_len]; omega), List.append_nil, set_same a.g2] at hk
    rw [r94_24]
    simp only [r94_25, r94_27, List.length_cons, List.length_nil, Nat.reduceAdd, Nat.reduceLT, if_true, l10, l01, l20, l21, l02, l12, List.append_nil, List.getElem?_cons_zero, List.getElem?_cons_succ, List.set_cons_zero, List.set_cons_succ, not_false_eq_true, not_true_eq_false, false_implies, true_implies, forall_const, Classical.not_not, rc0_at, rcI_at, sOK0, sOK1, sOK2, sOK3, sOK4, true_and, and_true, kil, Option.toList_some, Option.toList_none, List.nil_append, List.cons_append, Option.some.injEq, exists_eq_left', Value.int.injEq, Value.ref.injEq, Value.long.injEq, ge8t]
    exact hk
  | succ j ih =>
    intro i hs h hi hl a hk
    have hi8 : i < 8 := by omega
    have g0 := a.g0
    dsimp only [mO] at g0
    have := ih (i + 1) (hs.set i (hx (rdh cs) i)) (h.set 68 (.inl (hs.set i (hx (rdh cs) i)))) (by omega) (by simp [hl]) (a.s2 _) (by
      rw [List.set_set, take_set hs (rdh cs) i (by omega) (by rw [rdh_len]; omega)]
      exact hk)
    rw [rdh_hx cs i hi8] at this
    rw [r94_24]
    simp only [r94_25, r94_27, r94_30, r94_31, r94_34, r94_35, r94_36, r94_39, r94_40, r94_41, r94_43, r94_44, r94_45, r94_48, List.length_cons, List.length_nil, Nat.reduceAdd, Nat.reduceLT, if_true, l10, l01, l20, l21, l02, l12, List.append_nil, List.getElem?_cons_zero, List.getElem?_cons_succ, List.set_cons_zero, List.set_cons_succ, not_false_eq_true, not_true_eq_false, false_implies, true_implies, forall_const, Classical.not_not, rc0_at, rcI_at, sOK0, sOK1, sOK2, sOK3, sOK4, true_and, and_true, kil, Option.toList_some, Option.toList_none, List.nil_append, List.cons_append, Option.some.injEq, exists_eq_left', Value.int.injEq, Value.ref.injEq, Value.long.injEq, ge8f hi8, gf_at g0, ild_at a.g1 (show i < cs.length by omega) (show i < 2 ^ 31 by omega), ist8 a.g2 hl hi8, nI_1]
    exact this
end M53
theorem m_dunes (d : Nat) {h : pH} {s : stT} (x : MS h s) (st : St s) (ht : s.2.2.2.2.2.2.2.2 < 2 ^ 31) : ∃ h', Cl (d + 3) 94 [.ref 66] h (some (.int (q_dunes s).2)) h' ∧ MS h' (q_dunes s).1 ∧ Dn h h' := by
  obtain ⟨cs, n, ⟨hs, w, ws, cnt, nt⟩, ⟨khs, kw, kws, kc, kn⟩, bf, hd, hm, hb, tr⟩ := s
  have x' := x
  obtain ⟨wm, sn, kd, hh, rs, ms, th, wh, od, bo, krs, kms, a, ⟨b1, b2⟩, ⟨b3, b4⟩, ⟨t1, t2, t3, t4⟩, b5⟩ := x
  dsimp only at a b1 b2 b3 b4 b5
  obtain ⟨l1, l2, ⟨l3, l4, l5⟩, ⟨l6, l7, l8⟩, l9⟩ := st
  dsimp only at l1 l2 l3 l4 l5 l6 l7 l8 l9
  have g0 := a.g0
  dsimp only [mO] at g0
  dsimp only at ht
  have e0 : entL 2 [Value.ref 66] = [some (.ref 66), none] := rfl
  have f1 := ffa_le cs 0 n 0
  unfold q_dunes
  dsimp only
  cases e : whl cs n 0
  · refine ⟨h, Cl_o 2 rfl _ e0 rfl ?_, x', Dn.rf⟩
    by_cases q : n = 9
    · subst q
      have e9 : nI 9 = 9 := rfl
      simp only [r94_0, r94_1, r94_4, r94_6, r94_9, r94_10, r94_11, r94_14, r94_16, r94_19, r94_21, r94_22, r94_23, r94_25, r94_27, r94_30, r94_31, r94_34, r94_35, r94_36, r94_39, r94_40, r94_41, r94_43, r94_44, r94_45, r94_48, r94_51, r94_52, r94_53, r94_56, r94_58, r94_59, r94_61, r94_64, r94_65, r94_68, r94_69, r94_72, r94_73, r94_74, r94_77, r94_78, r94_79, r94_82, r94_83, r94_84, r94_87, r94_88, r94_89, r94_92, r94_93, r94_94, r94_97, r94_98, r94_99, r94_102, r94_103, r94_104, r94_107, r94_108, r94_111, r94_114, List.length_cons, List.length_nil, Nat.reduceAdd, Nat.reduceLT, if_true, l10, l01, l20, l21, l02, l12, List.append_nil, List.getElem?_cons_zero, List.getElem?_cons_succ, List.set_cons_zero, List.set_cons_succ, not_false_eq_true, not_true_eq_false, false_implies, true_implies, forall_const, Classical.not_not, rc0_at, rcI_at, sOK0, sOK1, sOK2, sOK3, sOK4, true_and, and_true, kil, Option.toList_some, Option.toList_none, List.nil_append, List.cons_append, Option.some.injEq, exists_eq_left', Value.int.injEq, Value.ref.injEq, Value.long.injEq, gf_at g0, e9, rcV_at g0]
      refine ⟨_, _, c_faultOf d a l1 l2 0, ?_⟩
      have f2 : flt cs 9 0 < 9 := by
        have : ¬ flt cs 9 0 = 9 := fun z => by simp [whl, z] at e
        unfold flt at this ⊢
        omega
      have e1 : ((9 : Int32) ≤ nI (flt cs 9 0)) = False := eq_false (nI_ge (a := flt cs 9 0) (b := 9) f2 (by decide))
      simp only [r94_0, r94_1, r94_4, r94_6, r94_9, r94_10, r94_11, r94_14, r94_16, r94_19, r94_21, r94_22, r94_23, r94_25, r94_27, r94_30, r94_31, r94_34, r94_35, r94_36, r94_39, r94_40, r94_41, r94_43, r94_44, r94_45, r94_48, r94_51, r94_52, r94_53, r94_56, r94_58, r94_59, r94_61, r94_64, r94_65, r94_68, r94_69, r94_72, r94_73, r94_74, r94_77, r94_78, r94_79, r94_82, r94_83, r94_84, r94_87, r94_88, r94_89, r94_92, r94_93, r94_94, r94_97, r94_98, r94_99, r94_102, r94_103, r94_104, r94_107, r94_108, r94_111, r94_114, List.length_cons, List.length_nil, Nat.reduceAdd, Nat.reduceLT, if_true, l10, l01, l20, l21, l02, l12, List.append_nil, List.getElem?_cons_zero, List.getElem?_cons_succ, List.set_cons_zero, List.set_cons_succ, not_false_eq_true, not_true_eq_false, false_implies, true_implies, forall_const, Classical.not_not, rc0_at, rcI_at, sOK0, sOK1, sOK2, sOK3, sOK4, true_and, and_true, kil, Option.toList_some, Option.toList_none, List.nil_append, List.cons_append, Option.some.injEq, exists_eq_left', Value.int.injEq, Value.ref.injEq, Value.long.injEq, e1, Bool.false_eq_true, if_false]
    · have e9 : ¬ nI n = 9 := fun z => q ((nI_eq (b := 9) (by omega) (by decide)).mp z)
      simp only [r94_0, r94_1, r94_4, r94_6, r94_9, r94_10, r94_11, r94_14, r94_16, r94_19, r94_21, r94_22, r94_23, r94_25, r94_27, r94_30, r94_31, r94_34, r94_35, r94_36, r94_39, r94_40, r94_41, r94_43, r94_44, r94_45, r94_48, r94_51, r94_52, r94_53, r94_56, r94_58, r94_59, r94_61, r94_64, r94_65, r94_68, r94_69, r94_72, r94_73, r94_74, r94_77, r94_78, r94_79, r94_82, r94_83, r94_84, r94_87, r94_88, r94_89, r94_92, r94_93, r94_94, r94_97, r94_98, r94_99, r94_102, r94_103, r94_104, r94_107, r94_108, r94_111, r94_114, List.length_cons, List.length_nil, Nat.reduceAdd, Nat.reduceLT, if_true, l10, l01, l20, l21, l02, l12, List.append_nil, List.getElem?_cons_zero, List.getElem?_cons_succ, List.set_cons_zero, List.set_cons_succ, not_false_eq_true, not_true_eq_false, false_implies, true_implies, forall_const, Classical.not_not, rc0_at, rcI_at, sOK0, sOK1, sOK2, sOK3, sOK4, true_and, and_true, kil, Option.toList_some, Option.toList_none, List.nil_append, List.cons_append, Option.some.injEq, exists_eq_left', Value.int.injEq, Value.ref.injEq, Value.long.injEq, gf_at g0, e9, Bool.false_eq_true, if_false]
  · have e' : n = 9 ∧ flt cs n 0 = 9 := by simpa [whl] using e
    obtain ⟨rfl, q2⟩ := e'
    refine ⟨(h.set 68 (.inl (rdh cs))).set 66 (.inr (.inr (8, mO 0 true (decide (hx cs 8 = 62)) 0 (tr + 1) false 0 wm sn kd kw kn kc hh))), Cl_o 2 rfl _ e0 rfl ?_, ⟨wm, sn, kd, hh, rs, ms, th, wh, od, bo, krs, kms, (a.s2 _).s0 _, ⟨b1, b2⟩, ⟨b3, b4⟩, ⟨t1, t2, t3, t4⟩, ?_⟩, (Dn.rf.st (by decide)).st (by decide)⟩
    · have e9 : nI 9 = 9 := rfl
      simp only [r94_0, r94_1, r94_4, r94_6, r94_9, r94_10, r94_11, r94_14, r94_16, r94_19, r94_21, r94_22, r94_23, r94_25, r94_27, r94_30, r94_31, r94_34, r94_35, r94_36, r94_39, r94_40, r94_41, r94_43, r94_44, r94_45, r94_48, r94_51, r94_52, r94_53, r94_56, r94_58, r94_59, r94_61, r94_64, r94_65, r94_68, r94_69, r94_72, r94_73, r94_74, r94_77, r94_78, r94_79, r94_82, r94_83, r94_84, r94_87, r94_88, r94_89, r94_92, r94_93, r94_94, r94_97, r94_98, r94_99, r94_102, r94_103, r94_104, r94_107, r94_108, r94_111, r94_114, List.length_cons, List.length_nil, Nat.reduceAdd, Nat.reduceLT, if_true, l10, l01, l20, l21, l02, l12, List.append_nil, List.getElem?_cons_zero, List.getElem?_cons_succ, List.set_cons_zero, List.set_cons_succ, not_false_eq_true, not_true_eq_false, false_implies, true_implies, forall_const, Classical.not_not, rc0_at, rcI_at, sOK0, sOK1, sOK2, sOK3, sOK4, true_and, and_true, kil, Option.toList_some, Option.toList_none, List.nil_append, List.cons_append, Option.some.injEq, exists_eq_left', Value.int.injEq, Value.ref.injEq, Value.long.injEq, gf_at g0, e9, rcV_at g0]
      refine ⟨_, _, c_faultOf d a l1 l2 0, ?_⟩
      simp only [r94_0, r94_1, r94_4, r94_6, r94_9, r94_10, r94_11, r94_14, r94_16, r94_19, r94_21, r94_22, r94_23, r94_25, r94_27, r94_30, r94_31, r94_34, r94_35, r94_36, r94_39, r94_40, r94_41, r94_43, r94_44, r94_45, r94_48, r94_51, r94_52, r94_53, r94_56, r94_58, r94_59, r94_61, r94_64, r94_65, r94_68, r94_69, r94_72, r94_73, r94_74, r94_77, r94_78, r94_79, r94_82, r94_83, r94_84, r94_87, r94_88, r94_89, r94_92, r94_93, r94_94, r94_97, r94_98, r94_99, r94_102, r94_103, r94_104, r94_107, r94_108, r94_111, r94_114, List.length_cons, List.length_nil, Nat.reduceAdd, Nat.reduceLT, if_true, l10, l01, l20, l21, l02, l12, List.append_nil, List.getElem?_cons_zero, List.getElem?_cons_succ, List.set_cons_zero, List.set_cons_succ, not_false_eq_true, not_true_eq_false, false_implies, true_implies, forall_const, Classical.not_not, rc0_at, rcI_at, sOK0, sOK1, sOK2, sOK3, sOK4, true_and, and_true, kil, Option.toList_some, Option.toList_none, List.nil_append, List.cons_append, Option.some.injEq, exists_eq_left', Value.int.injEq, Value.ref.injEq, Value.long.injEq, q2, e9, Int32.le_refl]
      refine lo_readM (d + 2) l1 _ _ 8 0 hs h rfl l3 a ?_
      rw [List.take_zero, List.drop_zero, List.nil_append]
      have a2 := a.s2 (rdh cs)
      have g2 := a2.g0
      dsimp only [mO] at g2
      have i8 : ild (h.set 68 (.inl (rdh cs))) 67 8 = some (hx cs 8) := ild_at a2.g1 (show 8 < cs.length by omega) (by decide)
      have g6 : ∀ fs, ((h.set 68 (.inl (rdh cs))).set 66 (.inr (.inr (8, fs))))[68]? = some (.inl (rdh cs)) := fun fs => (a2.s0 fs).g2
      by_cases q3 : hx cs 8 = 62
      · simp only [r94_0, r94_1, r94_4, r94_6, r94_9, r94_10, r94_11, r94_14, r94_16, r94_19, r94_21, r94_22, r94_23, r94_25, r94_27, r94_30, r94_31, r94_34, r94_35, r94_36, r94_39, r94_40, r94_41, r94_43, r94_44, r94_45, r94_48, r94_51, r94_52, r94_53, r94_56, r94_58, r94_59, r94_61, r94_64, r94_65, r94_68, r94_69, r94_72, r94_73, r94_74, r94_77, r94_78, r94_79, r94_82, r94_83, r94_84, r94_87, r94_88, r94_89, r94_92, r94_93, r94_94, r94_97, r94_98, r94_99, r94_102, r94_103, r94_104, r94_107, r94_108, r94_111, r94_114, List.length_cons, List.length_nil, Nat.reduceAdd, Nat.reduceLT, if_true, l10, l01, l20, l21, l02, l12, List.append_nil, List.getElem?_cons_zero, List.getElem?_cons_succ, List.set_cons_zero, List.set_cons_succ, not_false_eq_true, not_true_eq_false, false_implies, true_implies, forall_const, Classical.not_not, rc0_at, rcI_at, sOK0, sOK1, sOK2, sOK3, sOK4, true_and, and_true, kil, Option.toList_some, Option.toList_none, List.nil_append, List.cons_append, Option.some.injEq, exists_eq_left', Value.int.injEq, Value.ref.injEq, Value.long.injEq, q3, gf_at g2, i8, pf_at g2 (show 3 < 26 by decide), pf_set g2, gf_set g2, true_or, or_true]
        refine ⟨_, _, c_sumOf (d + 1) (rdh_len cs) (g6 _), ?_⟩
        simp only [r94_0, r94_1, r94_4, r94_6, r94_9, r94_10, r94_11, r94_14, r94_16, r94_19, r94_21, r94_22, r94_23, r94_25, r94_27, r94_30, r94_31, r94_34, r94_35, r94_36, r94_39, r94_40, r94_41, r94_43, r94_44, r94_45, r94_48, r94_51, r94_52, r94_53, r94_56, r94_58, r94_59, r94_61, r94_64, r94_65, r94_68, r94_69, r94_72, r94_73, r94_74, r94_77, r94_78, r94_79, r94_82, r94_83, r94_84, r94_87, r94_88, r94_89, r94_92, r94_93, r94_94, r94_97, r94_98, r94_99, r94_102, r94_103, r94_104, r94_107, r94_108, r94_111, r94_114, List.length_cons, List.length_nil, Nat.reduceAdd, Nat.reduceLT, if_true, l10, l01, l20, l21, l02, l12, List.append_nil, List.getElem?_cons_zero, List.getElem?_cons_succ, List.set_cons_zero, List.set_cons_succ, not_false_eq_true, not_true_eq_false, false_implies, true_implies, forall_const, Classical.not_not, rc0_at, rcI_at, sOK0, sOK1, sOK2, sOK3, sOK4, true_and, and_true, kil, Option.toList_some, Option.toList_none, List.nil_append, List.cons_append, Option.some.injEq, exists_eq_left', Value.int.injEq, Value.ref.injEq, Value.long.injEq, mO, decide_true, b2i, nI_0, Bool.false_eq_true, if_false, nI_1]
      · simp only [r94_0, r94_1, r94_4, r94_6, r94_9, r94_10, r94_11, r94_14, r94_16, r94_19, r94_21, r94_22, r94_23, r94_25, r94_27, r94_30, r94_31, r94_34, r94_35, r94_36, r94_39, r94_40, r94_41, r94_43, r94_44, r94_45, r94_48, r94_51, r94_52, r94_53, r94_56, r94_58, r94_59, r94_61, r94_64, r94_65, r94_68, r94_69, r94_72, r94_73, r94_74, r94_77, r94_78, r94_79, r94_82, r94_83, r94_84, r94_87, r94_88, r94_89, r94_92, r94_93, r94_94, r94_97, r94_98, r94_99, r94_102, r94_103, r94_104, r94_107, r94_108, r94_111, r94_114, List.length_cons, List.length_nil, Nat.reduceAdd, Nat.reduceLT, if_true, l10, l01, l20, l21, l02, l12, List.append_nil, List.getElem?_cons_zero, List.getElem?_cons_succ, List.set_cons_zero, List.set_cons_succ, not_false_eq_true, not_true_eq_false, false_implies, true_implies, forall_const, Classical.not_not, rc0_at, rcI_at, sOK0, sOK1, sOK2, sOK3, sOK4, true_and, and_true, kil, Option.toList_some, Option.toList_none, List.nil_append, List.cons_append, Option.some.injEq, exists_eq_left', Value.int.injEq, Value.ref.injEq, Value.long.injEq, q3, gf_at g2, i8, pf_at g2 (show 3 < 26 by decide), pf_set g2, gf_set g2, true_or, or_true]
        refine ⟨_, _, c_sumOf (d + 1) (rdh_len cs) (g6 _), ?_⟩
        simp only [r94_0, r94_1, r94_4, r94_6, r94_9, r94_10, r94_11, r94_14, r94_16, r94_19, r94_21, r94_22, r94_23, r94_25, r94_27, r94_30, r94_31, r94_34, r94_35, r94_36, r94_39, r94_40, r94_41, r94_43, r94_44, r94_45, r94_48, r94_51, r94_52, r94_53, r94_56, r94_58, r94_59, r94_61, r94_64, r94_65, r94_68, r94_69, r94_72, r94_73, r94_74, r94_77, r94_78, r94_79, r94_82, r94_83, r94_84, r94_87, r94_88, r94_89, r94_92, r94_93, r94_94, r94_97, r94_98, r94_99, r94_102, r94_103, r94_104, r94_107, r94_108, r94_111, r94_114, List.length_cons, List.length_nil, Nat.reduceAdd, Nat.reduceLT, if_true, l10, l01, l20, l21, l02, l12, List.append_nil, List.getElem?_cons_zero, List.getElem?_cons_succ, List.set_cons_zero, List.set_cons_succ, not_false_eq_true, not_true_eq_false, false_implies, true_implies, forall_const, Classical.not_not, rc0_at, rcI_at, sOK0, sOK1, sOK2, sOK3, sOK4, true_and, and_true, kil, Option.toList_some, Option.toList_none, List.nil_append, List.cons_append, Option.some.injEq, exists_eq_left', Value.int.injEq, Value.ref.injEq, Value.long.injEq, mO, decide_false, b2i, nI_0, Bool.false_eq_true, if_false, nI_1]
    · show kdO kd (tr + 1) false
      unfold kdO at b5 ⊢
      rw [if_neg (by decide)]
      cases hm with
      | true => rw [if_pos rfl] at b5; rw [b5, nI_toInt ht]; omega
      | false => rw [if_neg (by decide)] at b5; omega
theorem n3k : ∀ i, i < 4 → (3 : Int32) * nI i = nI (3 * i) := by decide
theorem n10k : ∀ i, i < 4 → (10 : Int32) * nI i = nI (10 * i) := by decide
theorem nI_add2 (k : Nat) : nI k + 2 = nI (k + 2) := by
  show Int32.ofNat k + 2 = Int32.ofNat (k + 2)
  rw [Int32.ofNat_add]; rfl
theorem nI_addN (k m : Nat) : nI k + nI m = nI (k + m) := (Int32.ofNat_add k m).symm
section M53b
variable {h : pH} {n : Nat} {hd w : Bool} {nt : Int32} {tr : Nat} {hb : Bool} {cnt : Nat} {wm sn kd : Int32} {kw : Bool} {kn : Int32} {kc : Nat} {hh : Int64} {cs hs bf rs ms th wh od bo khs krs kms : List Int32}
theorem ildR {i t : Nat} (a : Mh h (mcs (mO n hd w nt tr hb cnt wm sn kd kw kn kc hh) cs hs bf rs ms th wh od bo khs krs kms)) (l : rs.length = 12) (hi : i < 4) (ht : t < 3) : ild h 70 (nI (3 * i + t)) = some (hx rs (3 * i + t)) := ild_at a.g4 (by omega) (by omega)
theorem ildM {i t : Nat} (a : Mh h (mcs (mO n hd w nt tr hb cnt wm sn kd kw kn kc hh) cs hs bf rs ms th wh od bo khs krs kms)) (l : ms.length = 40) (hi : i < 4) (ht : t < 10) : ild h 71 (nI (10 * i + t)) = some (hx ms (10 * i + t)) := ild_at a.g5 (by omega) (by omega)
theorem istR {i t : Nat} {v : Int32} (a : Mh h (mcs (mO n hd w nt tr hb cnt wm sn kd kw kn kc hh) cs hs bf rs ms th wh od bo khs krs kms)) (l : rs.length = 12) (hi : i < 4) (ht : t < 3) : ist h 70 (nI (3 * i + t)) v = some (h.set 70 (.inl (rs.set (3 * i + t) v))) := ist_at a.g4 (by omega) (by omega)
theorem istM {i t : Nat} {v : Int32} (a : Mh h (mcs (mO n hd w nt tr hb cnt wm sn kd kw kn kc hh) cs hs bf rs ms th wh od bo khs krs kms)) (l : ms.length = 40) (hi : i < 4) (ht : t < 10) : ist h 71 (nI (10 * i + t)) v = some (h.set 71 (.inl (ms.set (10 * i + t) v))) := ist_at a.g5 (by omega) (by omega)
theorem lo_walkersAtM (d c : Nat) {ws : Nat → wkr} (a : Mh h (mcs (mO n hd w nt tr hb cnt wm sn kd kw kn kc hh) cs hs bf rs ms th wh od bo khs krs kms)) (b1 : Rw rs ws) (hc4 : cnt ≤ 4) (hc : c < 8) (hp : ∀ i, i < 4 → wok (ws i)) : ∀ (j i : Nat) (s : Int32), i + j = cnt → X 99 d (some (.int (sto (fun i => b2i (decide ((ws i).2.1 = c))) j i s))) h 4 [some (.ref 66), some (.int (nI c)), some (.int s), some (.int (nI i))] [] h := by
  have g0 := a.g0
  dsimp only [mO] at g0
  intro j
  induction j with
  | zero =>
    intro i s hi
    have : i = cnt := by omega
    subst this
    rw [r99_4]; simp only [r99_0, r99_1, r99_2, r99_3, r99_5, r99_6, r99_9, r99_12, r99_13, r99_14, r99_17, r99_18, r99_19, r99_20, r99_21, r99_22, r99_23, r99_24, r99_27, r99_28, r99_31, r99_32, r99_33, r99_34, r99_37, r99_40, r99_41, List.length_cons, List.length_nil, Nat.reduceAdd, Nat.reduceLT, if_true, l10, l01, l20, l21, l02, l12, List.append_nil, List.getElem?_cons_zero, List.getElem?_cons_succ, List.set_cons_zero, List.set_cons_succ, not_false_eq_true, not_true_eq_false, false_implies, true_implies, forall_const, Classical.not_not, rc0_at, rcI_at, sOK0, sOK1, sOK2, sOK3, sOK4, true_and, and_true, kil, Option.toList_some, Option.toList_none, List.nil_append, List.cons_append, Option.some.injEq, exists_eq_left', Value.int.injEq, Value.ref.injEq, Value.long.injEq, gf_at g0, Int32.le_refl, sto]
  | succ j ih =>
    intro i s hi
    have hi4 : i < 4 := by omega
    have e : (nI cnt ≤ nI i) = False := eq_false (nI_ge (by omega) (by omega))
    have e2 : (nI (ws i).2.1 = nI c) = ((ws i).2.1 = c) := propext (nI_eq (by have := (hp i hi4).2.1; omega) (by omega))
    have := ih (i + 1) (s + b2i (decide ((ws i).2.1 = c))) (by omega)
    unfold sto
    by_cases q : (ws i).2.1 = c
    · rw [r99_4]; simp only [r99_0, r99_1, r99_2, r99_3, r99_5, r99_6, r99_9, r99_12, r99_13, r99_14, r99_17, r99_18, r99_19, r99_20, r99_21, r99_22, r99_23, r99_24, r99_27, r99_28, r99_31, r99_32, r99_33, r99_34, r99_37, r99_40, r99_41, List.length_cons, List.length_nil, Nat.reduceAdd, Nat.reduceLT, if_true, l10, l01, l20, l21, l02, l12, List.append_nil, List.getElem?_cons_zero, List.getElem?_cons_succ, List.set_cons_zero, List.set_cons_succ, not_false_eq_true, not_true_eq_false, false_implies, true_implies, forall_const, Classical.not_not, rc0_at, rcI_at, sOK0, sOK1, sOK2, sOK3, sOK4, true_and, and_true, kil, Option.toList_some, Option.toList_none, List.nil_append, List.cons_append, Option.some.injEq, exists_eq_left', Value.int.injEq, Value.ref.injEq, Value.long.injEq, gf_at g0, e, n3k i hi4, nI_1, ildR a b1.1 hi4 (show 1 < 3 by decide), (b1.2 i hi4).2.1, e2, q]
      simp only [q, decide_true, b2i, if_true] at this
      exact this
    · rw [r99_4]; simp only [r99_0, r99_1, r99_2, r99_3, r99_5, r99_6, r99_9, r99_12, r99_13, r99_14, r99_17, r99_18, r99_19, r99_20, r99_21, r99_22, r99_23, r99_24, r99_27, r99_28, r99_31, r99_32, r99_33, r99_34, r99_37, r99_40, r99_41, List.length_cons, List.length_nil, Nat.reduceAdd, Nat.reduceLT, if_true, l10, l01, l20, l21, l02, l12, List.append_nil, List.getElem?_cons_zero, List.getElem?_cons_succ, List.set_cons_zero, List.set_cons_succ, not_false_eq_true, not_true_eq_false, false_implies, true_implies, forall_const, Classical.not_not, rc0_at, rcI_at, sOK0, sOK1, sOK2, sOK3, sOK4, true_and, and_true, kil, Option.toList_some, Option.toList_none, List.nil_append, List.cons_append, Option.some.injEq, exists_eq_left', Value.int.injEq, Value.ref.injEq, Value.long.injEq, gf_at g0, e, n3k i hi4, nI_1, ildR a b1.1 hi4 (show 1 < 3 by decide), (b1.2 i hi4).2.1, e2, q]
      simp only [q, decide_false, b2i, Bool.false_eq_true, if_false] at this
      exact this
theorem c_walkersAtM (d c : Nat) {ws : Nat → wkr} (a : Mh h (mcs (mO n hd w nt tr hb cnt wm sn kd kw kn kc hh) cs hs bf rs ms th wh od bo khs krs kms)) (b1 : Rw rs ws) (hc4 : cnt ≤ 4) (hc : c < 8) (hp : ∀ i, i < 4 → wok (ws i)) : Cl (d + 1) 99 [.ref 66, .int (nI c)] h (some (.int (sto (fun i => b2i (decide ((ws i).2.1 = c))) cnt 0 0))) h := by
  refine Cl_o 4 rfl [some (.ref 66), some (.int (nI c)), none, none] rfl rfl ?_
  simp only [r99_0, r99_1, r99_2, r99_3, r99_5, r99_6, r99_9, r99_12, r99_13, r99_14, r99_17, r99_18, r99_19, r99_20, r99_21, r99_22, r99_23, r99_24, r99_27, r99_28, r99_31, r99_32, r99_33, r99_34, r99_37, r99_40, r99_41, List.length_cons, List.length_nil, Nat.reduceAdd, Nat.reduceLT, if_true, l10, l01, l20, l21, l02, l12, List.append_nil, List.getElem?_cons_zero, List.getElem?_cons_succ, List.set_cons_zero, List.set_cons_succ, not_false_eq_true, not_true_eq_false, false_implies, true_implies, forall_const, Classical.not_not, rc0_at, rcI_at, sOK0, sOK1, sOK2, sOK3, sOK4, true_and, and_true, kil, Option.toList_some, Option.toList_none, List.nil_append, List.cons_append, Option.some.injEq, exists_eq_left', Value.int.injEq, Value.ref.injEq, Value.long.injEq]
  exact lo_walkersAtM d c a b1 hc4 hc hp cnt 0 0 (Nat.zero_add _)
theorem c_tellCell (d c : Nat) {ws : Nat → wkr} (a : Mh h (mcs (mO n hd w nt tr hb cnt wm sn kd kw kn kc hh) cs hs bf rs ms th wh od bo khs krs kms)) (b1 : Rw rs ws) (l3 : hs.length = 8) (hc4 : cnt ≤ 4) (hc : c < 8) (hp : ∀ i, i < 4 → wok (ws i)) (what : Int32) : Cl (d + 2) 100 [.ref 66, .int (nI c), .int what] h (some (.int (cel (hs, w, ws, cnt, nt) c what))) h := by
  have g0 := a.g0
  dsimp only [mO] at g0
  refine Cl_o 3 rfl [some (.ref 66), some (.int (nI c)), some (.int what)] rfl rfl ?_
  unfold cel
  dsimp only
  by_cases w0 : what = 0
  · subst w0
    simp only [r100_0, r100_1, r100_4, r100_5, r100_8, r100_9, r100_10, r100_13, r100_14, r100_15, r100_18, r100_19, r100_22, r100_23, r100_26, r100_29, r100_30, r100_31, r100_34, r100_35, r100_36, r100_39, r100_42, r100_44, List.length_cons, List.length_nil, Nat.reduceAdd, Nat.reduceLT, if_true, l10, l01, l20, l21, l02, l12, List.append_nil, List.getElem?_cons_zero, List.getElem?_cons_succ, List.set_cons_zero, List.set_cons_succ, not_false_eq_true, not_true_eq_false, false_implies, true_implies, forall_const, Classical.not_not, rc0_at, rcI_at, sOK0, sOK1, sOK2, sOK3, sOK4, true_and, and_true, kil, Option.toList_some, Option.toList_none, List.nil_append, List.cons_append, Option.some.injEq, exists_eq_left', Value.int.injEq, Value.ref.injEq, Value.long.injEq, gf_at g0, ild8 a.g2 l3 hc]
  · by_cases w1 : what = 1
    · subst w1
      simp only [r100_0, r100_1, r100_4, r100_5, r100_8, r100_9, r100_10, r100_13, r100_14, r100_15, r100_18, r100_19, r100_22, r100_23, r100_26, r100_29, r100_30, r100_31, r100_34, r100_35, r100_36, r100_39, r100_42, r100_44, List.length_cons, List.length_nil, Nat.reduceAdd, Nat.reduceLT, if_true, l10, l01, l20, l21, l02, l12, List.append_nil, List.getElem?_cons_zero, List.getElem?_cons_succ, List.set_cons_zero, List.set_cons_succ, not_false_eq_true, not_true_eq_false, false_implies, true_implies, forall_const, Classical.not_not, rc0_at, rcI_at, sOK0, sOK1, sOK2, sOK3, sOK4, true_and, and_true, kil, Option.toList_some, Option.toList_none, List.nil_append, List.cons_append, Option.some.injEq, exists_eq_left', Value.int.injEq, Value.ref.injEq, Value.long.injEq, gf_at g0, w0, if_false]
      refine ⟨_, _, c_shapeOf d l3 a.g2 hc, ?_⟩
      simp only [r100_0, r100_1, r100_4, r100_5, r100_8, r100_9, r100_10, r100_13, r100_14, r100_15, r100_18, r100_19, r100_22, r100_23, r100_26, r100_29, r100_30, r100_31, r100_34, r100_35, r100_36, r100_39, r100_42, r100_44, List.length_cons, List.length_nil, Nat.reduceAdd, Nat.reduceLT, if_true, l10, l01, l20, l21, l02, l12, List.append_nil, List.getElem?_cons_zero, List.getElem?_cons_succ, List.set_cons_zero, List.set_cons_succ, not_false_eq_true, not_true_eq_false, false_implies, true_implies, forall_const, Classical.not_not, rc0_at, rcI_at, sOK0, sOK1, sOK2, sOK3, sOK4, true_and, and_true, kil, Option.toList_some, Option.toList_none, List.nil_append, List.cons_append, Option.some.injEq, exists_eq_left', Value.int.injEq, Value.ref.injEq, Value.long.injEq]
    · by_cases w2 : what = 2
      · subst w2
        simp only [r100_0, r100_1, r100_4, r100_5, r100_8, r100_9, r100_10, r100_13, r100_14, r100_15, r100_18, r100_19, r100_22, r100_23, r100_26, r100_29, r100_30, r100_31, r100_34, r100_35, r100_36, r100_39, r100_42, r100_44, List.length_cons, List.length_nil, Nat.reduceAdd, Nat.reduceLT, if_true, l10, l01, l20, l21, l02, l12, List.append_nil, List.getElem?_cons_zero, List.getElem?_cons_succ, List.set_cons_zero, List.set_cons_succ, not_false_eq_true, not_true_eq_false, false_implies, true_implies, forall_const, Classical.not_not, rc0_at, rcI_at, sOK0, sOK1, sOK2, sOK3, sOK4, true_and, and_true, kil, Option.toList_some, Option.toList_none, List.nil_append, List.cons_append, Option.some.injEq, exists_eq_left', Value.int.injEq, Value.ref.injEq, Value.long.injEq, gf_at g0, w0, w1, if_false, rcV_at g0]
        refine ⟨_, _, c_walkersAtM d c a b1 hc4 hc hp, ?_⟩
        simp only [r100_0, r100_1, r100_4, r100_5, r100_8, r100_9, r100_10, r100_13, r100_14, r100_15, r100_18, r100_19, r100_22, r100_23, r100_26, r100_29, r100_30, r100_31, r100_34, r100_35, r100_36, r100_39, r100_42, r100_44, List.length_cons, List.length_nil, Nat.reduceAdd, Nat.reduceLT, if_true, l10, l01, l20, l21, l02, l12, List.append_nil, List.getElem?_cons_zero, List.getElem?_cons_succ, List.set_cons_zero, List.set_cons_succ, not_false_eq_true, not_true_eq_false, false_implies, true_implies, forall_const, Classical.not_not, rc0_at, rcI_at, sOK0, sOK1, sOK2, sOK3, sOK4, true_and, and_true, kil, Option.toList_some, Option.toList_none, List.nil_append, List.cons_append, Option.some.injEq, exists_eq_left', Value.int.injEq, Value.ref.injEq, Value.long.injEq]
      · simp only [r100_0, r100_1, r100_4, r100_5, r100_8, r100_9, r100_10, r100_13, r100_14, r100_15, r100_18, r100_19, r100_22, r100_23, r100_26, r100_29, r100_30, r100_31, r100_34, r100_35, r100_36, r100_39, r100_42, r100_44, List.length_cons, List.length_nil, Nat.reduceAdd, Nat.reduceLT, if_true, l10, l01, l20, l21, l02, l12, List.append_nil, List.getElem?_cons_zero, List.getElem?_cons_succ, List.set_cons_zero, List.set_cons_succ, not_false_eq_true, not_true_eq_false, false_implies, true_implies, forall_const, Classical.not_not, rc0_at, rcI_at, sOK0, sOK1, sOK2, sOK3, sOK4, true_and, and_true, kil, Option.toList_some, Option.toList_none, List.nil_append, List.cons_append, Option.some.injEq, exists_eq_left', Value.int.injEq, Value.ref.injEq, Value.long.injEq, w0, w1, w2, if_false]
end M53b
theorem m_cell (d : Nat) {h : pH} {s : stT} (x : MS h s) (st : St s) (c what : Int32) : ∃ h', Cl (d + 3) 101 [.ref 66, .int c, .int what] h (some (.int (q_cell s c what).2)) h' ∧ MS h' (q_cell s c what).1 ∧ Dn h h' := by
  obtain ⟨cs, n, ⟨hs, w, ws, cnt, nt⟩, ⟨khs, kw, kws, kc, kn⟩, bf, hd, hm, hb, tr⟩ := s
  have x' := x
  obtain ⟨wm, sn, kd, hh, rs, ms, th, wh, od, bo, krs, kms, a, ⟨b1, b2⟩, ⟨b3, b4⟩, ⟨t1, t2, t3, t4⟩, b5⟩ := x
  dsimp only at a b1 b2 b3 b4 b5
  obtain ⟨l1, l2, ⟨l3, l4, l5⟩, ⟨l6, l7, l8⟩, l9⟩ := st
  dsimp only at l1 l2 l3 l4 l5 l6 l7 l8 l9
  have g0 := a.g0
  dsimp only [mO] at g0
  refine ⟨h, Cl_o 3 rfl [some (.ref 66), some (.int c), some (.int what)] rfl rfl ?_, x', Dn.rf⟩
  unfold q_cell
  dsimp only
  simp only [r101_0, r101_1, r101_2, r101_5, r101_8, r101_9, r101_10, r101_11, r101_14, r101_17, r101_19, List.length_cons, List.length_nil, Nat.reduceAdd, Nat.reduceLT, if_true, l10, l01, l20, l21, l02, l12, List.append_nil, List.getElem?_cons_zero, List.getElem?_cons_succ, List.set_cons_zero, List.set_cons_succ, not_false_eq_true, not_true_eq_false, false_implies, true_implies, forall_const, Classical.not_not, rc0_at, rcI_at, sOK0, sOK1, sOK2, sOK3, sOK4, true_and, and_true, kil, Option.toList_some, Option.toList_none, List.nil_append, List.cons_append, Option.some.injEq, exists_eq_left', Value.int.injEq, Value.ref.injEq, Value.long.injEq, rcV_at g0]
  refine ⟨_, _, c_isCellM d a c, ?_⟩
  cases e : (hd && ixv c 8) with
  | false => simp only [r101_0, r101_1, r101_2, r101_5, r101_8, r101_9, r101_10, r101_11, r101_14, r101_17, r101_19, List.length_cons, List.length_nil, Nat.reduceAdd, Nat.reduceLT, if_true, l10, l01, l20, l21, l02, l12, List.append_nil, List.getElem?_cons_zero, List.getElem?_cons_succ, List.set_cons_zero, List.set_cons_succ, not_false_eq_true, not_true_eq_false, false_implies, true_implies, forall_const, Classical.not_not, rc0_at, rcI_at, sOK0, sOK1, sOK2, sOK3, sOK4, true_and, and_true, kil, Option.toList_some, Option.toList_none, List.nil_append, List.cons_append, Option.some.injEq, exists_eq_left', Value.int.injEq, Value.ref.injEq, Value.long.injEq, b2i, Bool.false_eq_true, if_false]
  | true =>
    have e2 := (Bool.and_eq_true _ _ ▸ e : hd = true ∧ ixv c 8 = true).2
    rcases ix_or c 8 (by decide) with ⟨i, hi, rfl⟩ | hcc
    · rw [nI_clamp (by omega)]
      simp only [r101_0, r101_1, r101_2, r101_5, r101_8, r101_9, r101_10, r101_11, r101_14, r101_17, r101_19, List.length_cons, List.length_nil, Nat.reduceAdd, Nat.reduceLT, if_true, l10, l01, l20, l21, l02, l12, List.append_nil, List.getElem?_cons_zero, List.getElem?_cons_succ, List.set_cons_zero, List.set_cons_succ, not_false_eq_true, not_true_eq_false, false_implies, true_implies, forall_const, Classical.not_not, rc0_at, rcI_at, sOK0, sOK1, sOK2, sOK3, sOK4, true_and, and_true, kil, Option.toList_some, Option.toList_none, List.nil_append, List.cons_append, Option.some.injEq, exists_eq_left', Value.int.injEq, Value.ref.injEq, Value.long.injEq, b2i, rcV_at g0]
      refine ⟨_, _, c_tellCell d i a b1 l3 l5 hi l4 what, ?_⟩
      simp only [r101_0, r101_1, r101_2, r101_5, r101_8, r101_9, r101_10, r101_11, r101_14, r101_17, r101_19, List.length_cons, List.length_nil, Nat.reduceAdd, Nat.reduceLT, if_true, l10, l01, l20, l21, l02, l12, List.append_nil, List.getElem?_cons_zero, List.getElem?_cons_succ, List.set_cons_zero, List.set_cons_succ, not_false_eq_true, not_true_eq_false, false_implies, true_implies, forall_const, Classical.not_not, rc0_at, rcI_at, sOK0, sOK1, sOK2, sOK3, sOK4, true_and, and_true, kil, Option.toList_some, Option.toList_none, List.nil_append, List.cons_append, Option.some.injEq, exists_eq_left', Value.int.injEq, Value.ref.injEq, Value.long.injEq]
    · rw [ixF hcc] at e2
      cases e2
theorem m_wind (d : Nat) {h : pH} {s : stT} (x : MS h s) (st : St s) (b : Bool) : ∃ h', Cl (d + 1) 102 [.ref 66, .int (b2i b)] h (some (.int (q_wind s b).2)) h' ∧ MS h' (q_wind s b).1 ∧ Dn h h' := by
  obtain ⟨cs, n, ⟨hs, w, ws, cnt, nt⟩, ⟨khs, kw, kws, kc, kn⟩, bf, hd, hm, hb, tr⟩ := s
  have x' := x
  obtain ⟨wm, sn, kd, hh, rs, ms, th, wh, od, bo, krs, kms, a, ⟨b1, b2⟩, ⟨b3, b4⟩, ⟨t1, t2, t3, t4⟩, b5⟩ := x
  dsimp only at a b1 b2 b3 b4 b5
  obtain ⟨l1, l2, ⟨l3, l4, l5⟩, ⟨l6, l7, l8⟩, l9⟩ := st
  dsimp only at l1 l2 l3 l4 l5 l6 l7 l8 l9
  have g0 := a.g0
  dsimp only [mO] at g0
  have e0 : entL 3 [Value.ref 66, .int (b2i b)] = [some (.ref 66), some (.int (b2i b)), none] := rfl
  unfold q_wind
  dsimp only
  cases hd with
  | false =>
    refine ⟨h, Cl_o 3 rfl _ e0 rfl ?_, x', Dn.rf⟩
    simp only [r102_0, r102_1, r102_4, r102_7, r102_9, r102_10, r102_11, r102_14, r102_15, r102_16, r102_17, r102_20, r102_21, r102_24, r102_25, r102_28, r102_29, List.length_cons, List.length_nil, Nat.reduceAdd, Nat.reduceLT, if_true, l10, l01, l20, l21, l02, l12, List.append_nil, List.getElem?_cons_zero, List.getElem?_cons_succ, List.set_cons_zero, List.set_cons_succ, not_false_eq_true, not_true_eq_false, false_implies, true_implies, forall_const, Classical.not_not, rc0_at, rcI_at, sOK0, sOK1, sOK2, sOK3, sOK4, true_and, and_true, kil, Option.toList_some, Option.toList_none, List.nil_append, List.cons_append, Option.some.injEq, exists_eq_left', Value.int.injEq, Value.ref.injEq, Value.long.injEq, gf_at g0, b2i, Bool.false_eq_true, if_false]
  | true =>
    refine ⟨h.set 66 (.inr (.inr (8, mO n true b nt tr hb cnt wm sn kd kw kn kc hh))), Cl_o 3 rfl _ e0 rfl ?_, ⟨wm, sn, kd, hh, rs, ms, th, wh, od, bo, krs, kms, a.s0 _, ⟨b1, b2⟩, ⟨b3, b4⟩, ⟨t1, t2, t3, t4⟩, b5⟩, Dn.rf.st (by decide)⟩
    cases b
    · simp only [r102_0, r102_1, r102_4, r102_7, r102_9, r102_10, r102_11, r102_14, r102_15, r102_16, r102_17, r102_20, r102_21, r102_24, r102_25, r102_28, r102_29, List.length_cons, List.length_nil, Nat.reduceAdd, Nat.reduceLT, if_true, l10, l01, l20, l21, l02, l12, List.append_nil, List.getElem?_cons_zero, List.getElem?_cons_succ, List.set_cons_zero, List.set_cons_succ, not_false_eq_true, not_true_eq_false, false_implies, true_implies, forall_const, Classical.not_not, rc0_at, rcI_at, sOK0, sOK1, sOK2, sOK3, sOK4, true_and, and_true, kil, Option.toList_some, Option.toList_none, List.nil_append, List.cons_append, Option.some.injEq, exists_eq_left', Value.int.injEq, Value.ref.injEq, Value.long.injEq, gf_at g0, b2i_0, pf_at g0 (show 3 < 26 by decide), mO, Bool.true_eq_false]
      simp only [b2i, Bool.false_eq_true, if_false]
    · simp only [r102_0, r102_1, r102_4, r102_7, r102_9, r102_10, r102_11, r102_14, r102_15, r102_16, r102_17, r102_20, r102_21, r102_24, r102_25, r102_28, r102_29, List.length_cons, List.length_nil, Nat.reduceAdd, Nat.reduceLT, if_true, l10, l01, l20, l21, l02, l12, List.append_nil, List.getElem?_cons_zero, List.getElem?_cons_succ, List.set_cons_zero, List.set_cons_succ, not_false_eq_true, not_true_eq_false, false_implies, true_implies, forall_const, Classical.not_not, rc0_at, rcI_at, sOK0, sOK1, sOK2, sOK3, sOK4, true_and, and_true, kil, Option.toList_some, Option.toList_none, List.nil_append, List.cons_append, Option.some.injEq, exists_eq_left', Value.int.injEq, Value.ref.injEq, Value.long.injEq, gf_at g0, b2i_0, pf_at g0 (show 3 < 26 by decide), mO, Bool.true_eq_false]
      simp only [b2i, if_true]
theorem m_night (d : Nat) {h : pH} {s : stT} (x : MS h s) (st : St s) (hN : ngM s.2.2.1.2.1 (isC s.2.2.1.1) 8 0 s.2.2.1.1 = ngt s.2.2.1.2.1 s.2.2.1.1) : ∃ h', Cl (d + 4) 106 [.ref 66] h (some (.int (q_night s).2)) h' ∧ MS h' (q_night s).1 ∧ Dn h h' := by
  obtain ⟨cs, n, ⟨hs, w, ws, cnt, nt⟩, ⟨khs, kw, kws, kc, kn⟩, bf, hd, hm, hb, tr⟩ := s
  have x' := x
  obtain ⟨wm, sn, kd, hh, rs, ms, th, wh, od, bo, krs, kms, a, ⟨b1, b2⟩, ⟨b3, b4⟩, ⟨t1, t2, t3, t4⟩, b5⟩ := x
  dsimp only at a b1 b2 b3 b4 b5
  obtain ⟨l1, l2, ⟨l3, l4, l5⟩, ⟨l6, l7, l8⟩, l9⟩ := st
  dsimp only at l1 l2 l3 l4 l5 l6 l7 l8 l9
  have g0 := a.g0
  dsimp only [mO] at g0
  dsimp only at hN
  have e0 : entL 1 [Value.ref 66] = [some (.ref 66)] := rfl
  unfold q_night
  dsimp only
  cases hd with
  | false =>
    refine ⟨h, Cl_o 1 rfl _ e0 rfl ?_, x', Dn.rf⟩
    simp only [r106_0, r106_1, r106_4, r106_7, r106_9, r106_10, r106_11, r106_12, r106_15, r106_16, r106_17, r106_20, r106_21, r106_22, r106_25, r106_28, List.length_cons, List.length_nil, Nat.reduceAdd, Nat.reduceLT, if_true, l10, l01, l20, l21, l02, l12, List.append_nil, List.getElem?_cons_zero, List.getElem?_cons_succ, List.set_cons_zero, List.set_cons_succ, not_false_eq_true, not_true_eq_false, false_implies, true_implies, forall_const, Classical.not_not, rc0_at, rcI_at, sOK0, sOK1, sOK2, sOK3, sOK4, true_and, and_true, kil, Option.toList_some, Option.toList_none, List.nil_append, List.cons_append, Option.some.injEq, exists_eq_left', Value.int.injEq, Value.ref.injEq, Value.long.injEq, gf_at g0, b2i, Bool.false_eq_true, if_false]
  | true =>
    refine ⟨(h.set 66 (.inr (.inr (8, mO n true w (nt + 1) tr hb cnt wm sn kd kw kn kc hh)))).set 68 (.inl (ngt w hs)), Cl_o 1 rfl _ e0 rfl ?_, ⟨wm, sn, kd, hh, rs, ms, th, wh, od, bo, krs, kms, (a.s0 _).s2 _, ⟨b1, b2⟩, ⟨b3, b4⟩, ⟨t1, t2, t3, t4⟩, b5⟩, (Dn.rf.st (by decide)).st (by decide)⟩
    have a1 := a.s0 (mO n true w (nt + 1) tr hb cnt wm sn kd kw kn kc hh)
    have hN2 := c_nightM d (show (68 : Nat) ≠ 66 by decide) a1.g0 (w := w) rfl l3 a1.g2
    rw [hN] at hN2
    dsimp only [mO] at hN2
    simp only [r106_0, r106_1, r106_4, r106_7, r106_9, r106_10, r106_11, r106_12, r106_15, r106_16, r106_17, r106_20, r106_21, r106_22, r106_25, r106_28, List.length_cons, List.length_nil, Nat.reduceAdd, Nat.reduceLT, if_true, l10, l01, l20, l21, l02, l12, List.append_nil, List.getElem?_cons_zero, List.getElem?_cons_succ, List.set_cons_zero, List.set_cons_succ, not_false_eq_true, not_true_eq_false, false_implies, true_implies, forall_const, Classical.not_not, rc0_at, rcI_at, sOK0, sOK1, sOK2, sOK3, sOK4, true_and, and_true, kil, Option.toList_some, Option.toList_none, List.nil_append, List.cons_append, Option.some.injEq, exists_eq_left', Value.int.injEq, Value.ref.injEq, Value.long.injEq, gf_at g0, b2i_0, Bool.true_eq_false, pf_at g0 (show 4 < 26 by decide), gf_set g0, rcV_at (get_set g0), mO]
    refine ⟨_, _, hN2, ?_⟩
    simp only [r106_0, r106_1, r106_4, r106_7, r106_9, r106_10, r106_11, r106_12, r106_15, r106_16, r106_17, r106_20, r106_21, r106_22, r106_25, r106_28, List.length_cons, List.length_nil, Nat.reduceAdd, Nat.reduceLT, if_true, l10, l01, l20, l21, l02, l12, List.append_nil, List.getElem?_cons_zero, List.getElem?_cons_succ, List.set_cons_zero, List.set_cons_succ, not_false_eq_true, not_true_eq_false, false_implies, true_implies, forall_const, Classical.not_not, rc0_at, rcI_at, sOK0, sOK1, sOK2, sOK3, sOK4, true_and, and_true, kil, Option.toList_some, Option.toList_none, List.nil_append, List.cons_append, Option.some.injEq, exists_eq_left', Value.int.injEq, Value.ref.injEq, Value.long.injEq]
