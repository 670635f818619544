theorem kdT (tr : Nat) : kdO (nI tr) tr true := by unfold kdO; rw [if_pos rfl]
section M58
variable {h : pH} {n : Nat} {hd w : Bool} {nt : Int32} {tr : Nat} {hb : Bool} {cnt : Nat} {wm sn kd : Int32} {kw : Bool} {kn : Int32} {kc : Nat} {hh : Int64} {cs hs bf rs ms th wh od bo khs krs kms : List Int32}
theorem lo_wasM (d : Nat) (l1 : cs.length = 12) (r : Option Value) (h' : pH) : ∀ (j i : Nat) (bf : List Int32) (h : pH), i + j = 8 → bf.length = 8 → Mh h (mcs (mO n hd w nt tr hb cnt wm sn kd kw kn kc hh) cs hs bf rs ms th wh od bo khs krs kms) → X 130 d r h' 58 [some (.ref 66), some (.int (nI 8))] [] (h.set 69 (.inl (bf.take i ++ (rdh cs).drop i))) → X 130 d r h' 31 [some (.ref 66), some (.int (nI i))] [] h := by
  intro j
  induction j with
  | zero =>
    intro i bf h hi hl a hk
    have : i = 8 := by omega
    subst this
    rw [List.take_of_length_le (by omega), List.drop_of_length_le (by rw [rdh_len]; omega), List.append_nil, set_same a.g3] at hk
    rw [r130_31]
    simp only [r130_32, r130_34, List.length_cons, List.length_nil, Nat.reduceAdd, Nat.reduceLT, if_true, l10, l01, l20, l21, l02, l12, List.append_nil, List.getElem?_cons_zero, List.getElem?_cons_succ, List.set_cons_zero, List.set_cons_succ, not_false_eq_true, not_true_eq_false, false_implies, true_implies, forall_const, Classical.not_not, rc0_at, rcI_at, sOK0, sOK1, sOK2, sOK3, sOK4, true_and, and_true, kil, Option.toList_some, Option.toList_none, List.nil_append, List.cons_append, Option.some.injEq, exists_eq_left', Value.int.injEq, Value.ref.injEq, Value.long.injEq, ge8t]
    exact hk
  | succ j ih =>
    intro i bf h hi hl a hk
    have hi8 : i < 8 := by omega
    have g0 := a.g0
    dsimp only [mO] at g0
    have := ih (i + 1) (bf.set i (hx (rdh cs) i)) (h.set 69 (.inl (bf.set i (hx (rdh cs) i)))) (by omega) (by simp [hl]) (a.s3 _) (by
      rw [List.set_set, take_set bf (rdh cs) i (by omega) (by rw [rdh_len]; omega)]
      exact hk)
    rw [rdh_hx cs i hi8] at this
    rw [r130_31]
    simp only [r130_32, r130_34, r130_37, r130_38, r130_41, r130_42, r130_43, r130_46, r130_47, r130_48, r130_50, r130_51, r130_52, r130_55, List.length_cons, List.length_nil, Nat.reduceAdd, Nat.reduceLT, if_true, l10, l01, l20, l21, l02, l12, List.append_nil, List.getElem?_cons_zero, List.getElem?_cons_succ, List.set_cons_zero, List.set_cons_succ, not_false_eq_true, not_true_eq_false, false_implies, true_implies, forall_const, Classical.not_not, rc0_at, rcI_at, sOK0, sOK1, sOK2, sOK3, sOK4, true_and, and_true, kil, Option.toList_some, Option.toList_none, List.nil_append, List.cons_append, Option.some.injEq, exists_eq_left', Value.int.injEq, Value.ref.injEq, Value.long.injEq, ge8f hi8, gf_at g0, ild_at a.g1 (show i < cs.length by omega) (show i < 2 ^ 31 by omega), ist8 a.g3 hl hi8, nI_1]
    exact this
end M58
theorem m_was (d : Nat) {h : pH} {s : stT} (x : MS h s) (st : St s) : ∃ h', Cl (d + 3) 130 [.ref 66] h (some (.int (q_was s).2)) h' ∧ MS h' (q_was s).1 ∧ Dn h h' := by
  obtain ⟨cs, n, ⟨hs, w, ws, cnt, nt⟩, ⟨khs, kw, kws, kc, kn⟩, bf, hd, hm, hb, tr⟩ := s
  have x' := x
  obtain ⟨wm, sn, kd, hh, rs, ms, th, wh, od, bo, krs, kms, a, ⟨b1, b2⟩, ⟨b3, b4⟩, ⟨t1, t2, t3, t4⟩, b5⟩ := x
  dsimp only at a b1 b2 b3 b4 b5
  obtain ⟨l1, l2, ⟨l3, l4, l5⟩, ⟨l6, l7, l8⟩, l9⟩ := st
  dsimp only at l1 l2 l3 l4 l5 l6 l7 l8 l9
  have g0 := a.g0
  dsimp only [mO] at g0
  have e0 : entL 2 [Value.ref 66] = [some (.ref 66), none] := rfl
  have f1 := ffa_le cs 1 n 0
  unfold q_was
  dsimp only
  have w1 : whl cs n 1 = decide (n = 8 ∧ flt cs n 1 = 8) := by unfold whl; rw [if_neg (by decide)]
  cases hd with
  | false =>
    refine ⟨h, Cl_o 2 rfl _ e0 rfl ?_, x', Dn.rf⟩
    simp only [r130_0, r130_1, r130_4, r130_7, r130_8, r130_11, r130_13, r130_16, r130_17, r130_18, r130_21, r130_23, r130_26, r130_28, r130_29, r130_30, r130_32, r130_34, r130_37, r130_38, r130_41, r130_42, r130_43, r130_46, r130_47, r130_48, r130_50, r130_51, r130_52, r130_55, r130_58, r130_59, r130_60, r130_63, r130_64, r130_65, r130_68, r130_69, r130_72, r130_75, List.length_cons, List.length_nil, Nat.reduceAdd, Nat.reduceLT, if_true, l10, l01, l20, l21, l02, l12, List.append_nil, List.getElem?_cons_zero, List.getElem?_cons_succ, List.set_cons_zero, List.set_cons_succ, not_false_eq_true, not_true_eq_false, false_implies, true_implies, forall_const, Classical.not_not, rc0_at, rcI_at, sOK0, sOK1, sOK2, sOK3, sOK4, true_and, and_true, kil, Option.toList_some, Option.toList_none, List.nil_append, List.cons_append, Option.some.injEq, exists_eq_left', Value.int.injEq, Value.ref.injEq, Value.long.injEq, gf_at g0, b2i, Bool.false_eq_true, if_false, Bool.false_and]
  | true =>
    rw [Bool.true_and]
    cases e : whl cs n 1
    · refine ⟨h, Cl_o 2 rfl _ e0 rfl ?_, x', Dn.rf⟩
      by_cases q : n = 8
      · subst q
        have e9 : nI 8 = 8 := rfl
        simp only [r130_0, r130_1, r130_4, r130_7, r130_8, r130_11, r130_13, r130_16, r130_17, r130_18, r130_21, r130_23, r130_26, r130_28, r130_29, r130_30, r130_32, r130_34, r130_37, r130_38, r130_41, r130_42, r130_43, r130_46, r130_47, r130_48, r130_50, r130_51, r130_52, r130_55, r130_58, r130_59, r130_60, r130_63, r130_64, r130_65, r130_68, r130_69, r130_72, r130_75, List.length_cons, List.length_nil, Nat.reduceAdd, Nat.reduceLT, if_true, l10, l01, l20, l21, l02, l12, List.append_nil, List.getElem?_cons_zero, List.getElem?_cons_succ, List.set_cons_zero, List.set_cons_succ, not_false_eq_true, not_true_eq_false, false_implies, true_implies, forall_const, Classical.not_not, rc0_at, rcI_at, sOK0, sOK1, sOK2, sOK3, sOK4, true_and, and_true, kil, Option.toList_some, Option.toList_none, List.nil_append, List.cons_append, Option.some.injEq, exists_eq_left', Value.int.injEq, Value.ref.injEq, Value.long.injEq, gf_at g0, b2i_0, Bool.true_eq_false, e9, rcV_at g0]
        refine ⟨_, _, c_faultOf d a l1 l2 1, ?_⟩
        have f2 : flt cs 8 1 < 8 := by
          have : ¬ flt cs 8 1 = 8 := fun z => by simp [w1, z] at e
          unfold flt at this ⊢
          omega
        simp only [r130_0, r130_1, r130_4, r130_7, r130_8, r130_11, r130_13, r130_16, r130_17, r130_18, r130_21, r130_23, r130_26, r130_28, r130_29, r130_30, r130_32, r130_34, r130_37, r130_38, r130_41, r130_42, r130_43, r130_46, r130_47, r130_48, r130_50, r130_51, r130_52, r130_55, r130_58, r130_59, r130_60, r130_63, r130_64, r130_65, r130_68, r130_69, r130_72, r130_75, List.length_cons, List.length_nil, Nat.reduceAdd, Nat.reduceLT, if_true, l10, l01, l20, l21, l02, l12, List.append_nil, List.getElem?_cons_zero, List.getElem?_cons_succ, List.set_cons_zero, List.set_cons_succ, not_false_eq_true, not_true_eq_false, false_implies, true_implies, forall_const, Classical.not_not, rc0_at, rcI_at, sOK0, sOK1, sOK2, sOK3, sOK4, true_and, and_true, kil, Option.toList_some, Option.toList_none, List.nil_append, List.cons_append, Option.some.injEq, exists_eq_left', Value.int.injEq, Value.ref.injEq, Value.long.injEq, ge8f f2, Bool.false_eq_true, if_false]
      · have e9 : ¬ nI n = 8 := fun z => q ((nI_eq (b := 8) (by omega) (by decide)).mp z)
        simp only [r130_0, r130_1, r130_4, r130_7, r130_8, r130_11, r130_13, r130_16, r130_17, r130_18, r130_21, r130_23, r130_26, r130_28, r130_29, r130_30, r130_32, r130_34, r130_37, r130_38, r130_41, r130_42, r130_43, r130_46, r130_47, r130_48, r130_50, r130_51, r130_52, r130_55, r130_58, r130_59, r130_60, r130_63, r130_64, r130_65, r130_68, r130_69, r130_72, r130_75, List.length_cons, List.length_nil, Nat.reduceAdd, Nat.reduceLT, if_true, l10, l01, l20, l21, l02, l12, List.append_nil, List.getElem?_cons_zero, List.getElem?_cons_succ, List.set_cons_zero, List.set_cons_succ, not_false_eq_true, not_true_eq_false, false_implies, true_implies, forall_const, Classical.not_not, rc0_at, rcI_at, sOK0, sOK1, sOK2, sOK3, sOK4, true_and, and_true, kil, Option.toList_some, Option.toList_none, List.nil_append, List.cons_append, Option.some.injEq, exists_eq_left', Value.int.injEq, Value.ref.injEq, Value.long.injEq, gf_at g0, b2i_0, Bool.true_eq_false, e9, Bool.false_eq_true, if_false]
    · have e' : n = 8 ∧ flt cs n 1 = 8 := by simpa [w1] using e
      obtain ⟨rfl, q2⟩ := e'
      refine ⟨(h.set 69 (.inl (rdh cs))).set 66 (.inr (.inr (8, mO 0 true w nt tr true cnt wm sn kd kw kn kc hh))), Cl_o 2 rfl _ e0 rfl ?_, ⟨wm, sn, kd, hh, rs, ms, th, wh, od, bo, krs, kms, (a.s3 _).s0 _, ⟨b1, b2⟩, ⟨b3, b4⟩, ⟨t1, t2, t3, t4⟩, b5⟩, (Dn.rf.st (by decide)).st (by decide)⟩
      have e9 : nI 8 = 8 := rfl
      simp only [r130_0, r130_1, r130_4, r130_7, r130_8, r130_11, r130_13, r130_16, r130_17, r130_18, r130_21, r130_23, r130_26, r130_28, r130_29, r130_30, r130_32, r130_34, r130_37, r130_38, r130_41, r130_42, r130_43, r130_46, r130_47, r130_48, r130_50, r130_51, r130_52, r130_55, r130_58, r130_59, r130_60, r130_63, r130_64, r130_65, r130_68, r130_69, r130_72, r130_75, List.length_cons, List.length_nil, Nat.reduceAdd, Nat.reduceLT, if_true, l10, l01, l20, l21, l02, l12, List.append_nil, List.getElem?_cons_zero, List.getElem?_cons_succ, List.set_cons_zero, List.set_cons_succ, not_false_eq_true, not_true_eq_false, false_implies, true_implies, forall_const, Classical.not_not, rc0_at, rcI_at, sOK0, sOK1, sOK2, sOK3, sOK4, true_and, and_true, kil, Option.toList_some, Option.toList_none, List.nil_append, List.cons_append, Option.some.injEq, exists_eq_left', Value.int.injEq, Value.ref.injEq, Value.long.injEq, gf_at g0, b2i_0, Bool.true_eq_false, e9, rcV_at g0]
      refine ⟨_, _, c_faultOf d a l1 l2 1, ?_⟩
      simp only [r130_0, r130_1, r130_4, r130_7, r130_8, r130_11, r130_13, r130_16, r130_17, r130_18, r130_21, r130_23, r130_26, r130_28, r130_29, r130_30, r130_32, r130_34, r130_37, r130_38, r130_41, r130_42, r130_43, r130_46, r130_47, r130_48, r130_50, r130_51, r130_52, r130_55, r130_58, r130_59, r130_60, r130_63, r130_64, r130_65, r130_68, r130_69, r130_72, r130_75, List.length_cons, List.length_nil, Nat.reduceAdd, Nat.reduceLT, if_true, l10, l01, l20, l21, l02, l12, List.append_nil, List.getElem?_cons_zero, List.getElem?_cons_succ, List.set_cons_zero, List.set_cons_succ, not_false_eq_true, not_true_eq_false, false_implies, true_implies, forall_const, Classical.not_not, rc0_at, rcI_at, sOK0, sOK1, sOK2, sOK3, sOK4, true_and, and_true, kil, Option.toList_some, Option.toList_none, List.nil_append, List.cons_append, Option.some.injEq, exists_eq_left', Value.int.injEq, Value.ref.injEq, Value.long.injEq, q2, e9, Int32.le_refl]
      refine lo_wasM (d + 2) l1 _ _ 8 0 bf h rfl l9 a ?_
      rw [List.take_zero, List.drop_zero, List.nil_append]
      have a2 := a.s3 (rdh cs)
      have g2 := a2.g0
      dsimp only [mO] at g2
      have g6 : ∀ fs, ((h.set 69 (.inl (rdh cs))).set 66 (.inr (.inr (8, fs))))[69]? = some (.inl (rdh cs)) := fun fs => (a2.s0 fs).g3
      simp only [r130_0, r130_1, r130_4, r130_7, r130_8, r130_11, r130_13, r130_16, r130_17, r130_18, r130_21, r130_23, r130_26, r130_28, r130_29, r130_30, r130_32, r130_34, r130_37, r130_38, r130_41, r130_42, r130_43, r130_46, r130_47, r130_48, r130_50, r130_51, r130_52, r130_55, r130_58, r130_59, r130_60, r130_63, r130_64, r130_65, r130_68, r130_69, r130_72, r130_75, List.length_cons, List.length_nil, Nat.reduceAdd, Nat.reduceLT, if_true, l10, l01, l20, l21, l02, l12, List.append_nil, List.getElem?_cons_zero, List.getElem?_cons_succ, List.set_cons_zero, List.set_cons_succ, not_false_eq_true, not_true_eq_false, false_implies, true_implies, forall_const, Classical.not_not, rc0_at, rcI_at, sOK0, sOK1, sOK2, sOK3, sOK4, true_and, and_true, kil, Option.toList_some, Option.toList_none, List.nil_append, List.cons_append, Option.some.injEq, exists_eq_left', Value.int.injEq, Value.ref.injEq, Value.long.injEq, gf_at g2, pf_at g2 (show 7 < 26 by decide), pf_set g2, gf_set g2, true_or, or_true]
      refine ⟨_, _, c_sumOf (d + 1) (rdh_len cs) (g6 _), ?_⟩
      simp only [r130_0, r130_1, r130_4, r130_7, r130_8, r130_11, r130_13, r130_16, r130_17, r130_18, r130_21, r130_23, r130_26, r130_28, r130_29, r130_30, r130_32, r130_34, r130_37, r130_38, r130_41, r130_42, r130_43, r130_46, r130_47, r130_48, r130_50, r130_51, r130_52, r130_55, r130_58, r130_59, r130_60, r130_63, r130_64, r130_65, r130_68, r130_69, r130_72, r130_75, List.length_cons, List.length_nil, Nat.reduceAdd, Nat.reduceLT, if_true, l10, l01, l20, l21, l02, l12, List.append_nil, List.getElem?_cons_zero, List.getElem?_cons_succ, List.set_cons_zero, List.set_cons_succ, not_false_eq_true, not_true_eq_false, false_implies, true_implies, forall_const, Classical.not_not, rc0_at, rcI_at, sOK0, sOK1, sOK2, sOK3, sOK4, true_and, and_true, kil, Option.toList_some, Option.toList_none, List.nil_append, List.cons_append, Option.some.injEq, exists_eq_left', Value.int.injEq, Value.ref.injEq, Value.long.injEq, mO, b2i, nI_0]
theorem m_image (d : Nat) {h : pH} {s : stT} (x : MS h s) (st : St s) : ∃ h', Cl (d + 2) 136 [.ref 66] h (some (.int (q_image s).2)) h' ∧ MS h' (q_image s).1 ∧ Dn h h' := by
  obtain ⟨cs, n, ⟨hs, w, ws, cnt, nt⟩, ⟨khs, kw, kws, kc, kn⟩, bf, hd, hm, hb, tr⟩ := s
  have x' := x
  obtain ⟨wm, sn, kd, hh, rs, ms, th, wh, od, bo, krs, kms, a, ⟨b1, b2⟩, ⟨b3, b4⟩, ⟨t1, t2, t3, t4⟩, b5⟩ := x
  dsimp only at a b1 b2 b3 b4 b5
  obtain ⟨l1, l2, ⟨l3, l4, l5⟩, ⟨l6, l7, l8⟩, l9⟩ := st
  dsimp only at l1 l2 l3 l4 l5 l6 l7 l8 l9
  have g0 := a.g0
  dsimp only [mO] at g0
  have e0 : entL 1 [Value.ref 66] = [some (.ref 66)] := rfl
  unfold q_image
  dsimp only
  cases hd with
  | false =>
    refine ⟨h, Cl_o 1 rfl _ e0 rfl ?_, x', Dn.rf⟩
    simp only [r136_0, r136_1, r136_4, r136_7, r136_9, r136_10, r136_11, r136_14, r136_15, r136_18, r136_21, r136_22, r136_25, r136_26, r136_29, r136_32, r136_33, r136_36, r136_37, r136_40, r136_43, r136_44, r136_45, r136_48, r136_51, r136_52, r136_53, r136_56, r136_59, r136_60, r136_61, r136_64, r136_67, r136_68, r136_69, r136_72, r136_75, r136_76, r136_79, List.length_cons, List.length_nil, Nat.reduceAdd, Nat.reduceLT, if_true, l10, l01, l20, l21, l02, l12, List.append_nil, List.getElem?_cons_zero, List.getElem?_cons_succ, List.set_cons_zero, List.set_cons_succ, not_false_eq_true, not_true_eq_false, false_implies, true_implies, forall_const, Classical.not_not, rc0_at, rcI_at, sOK0, sOK1, sOK2, sOK3, sOK4, true_and, and_true, kil, Option.toList_some, Option.toList_none, List.nil_append, List.cons_append, Option.some.injEq, exists_eq_left', Value.int.injEq, Value.ref.injEq, Value.long.injEq, gf_at g0, b2i, Bool.false_eq_true, if_false]
  | true =>
    have a1 := a.s10 hs
    have a2 := a1.s11 rs
    have a3 := a2.s12 ms
    have k1 := a1.g0
    have k2 := a2.g0
    have k3 := a3.g0
    dsimp only [mO] at k1 k2 k3
    refine ⟨_, Cl_o 1 rfl _ e0 rfl ?_, ⟨wm, sn, nI tr, hh, rs, ms, th, wh, od, bo, rs, ms, a3.s0 (mO n true w nt tr hb cnt wm sn (nI tr) w nt cnt hh), ⟨b1, b2⟩, ⟨b1, b2⟩, ⟨t1, t2, t3, t4⟩, kdT tr⟩, (((Dn.rf.st (by decide)).st (by decide)).st (by decide)).st (by decide)⟩
    simp only [r136_0, r136_1, r136_4, r136_7, r136_9, r136_10, r136_11, r136_14, r136_15, r136_18, r136_21, r136_22, r136_25, r136_26, r136_29, r136_32, r136_33, r136_36, r136_37, r136_40, r136_43, r136_44, r136_45, r136_48, r136_51, r136_52, r136_53, r136_56, r136_59, r136_60, r136_61, r136_64, r136_67, r136_68, r136_69, r136_72, r136_75, r136_76, r136_79, List.length_cons, List.length_nil, Nat.reduceAdd, Nat.reduceLT, if_true, l10, l01, l20, l21, l02, l12, List.append_nil, List.getElem?_cons_zero, List.getElem?_cons_succ, List.set_cons_zero, List.set_cons_succ, not_false_eq_true, not_true_eq_false, false_implies, true_implies, forall_const, Classical.not_not, rc0_at, rcI_at, sOK0, sOK1, sOK2, sOK3, sOK4, true_and, and_true, kil, Option.toList_some, Option.toList_none, List.nil_append, List.cons_append, Option.some.injEq, exists_eq_left', Value.int.injEq, Value.ref.injEq, Value.long.injEq, gf_at g0, b2i_0, Bool.true_eq_false]
    refine ⟨_, _, c_copy8 d (show (68 : Nat) ≠ 76 by decide) (show hs.length < 2 ^ 31 by omega) (show khs.length = hs.length by omega) a.g2 a.g10, ?_⟩
    simp only [r136_0, r136_1, r136_4, r136_7, r136_9, r136_10, r136_11, r136_14, r136_15, r136_18, r136_21, r136_22, r136_25, r136_26, r136_29, r136_32, r136_33, r136_36, r136_37, r136_40, r136_43, r136_44, r136_45, r136_48, r136_51, r136_52, r136_53, r136_56, r136_59, r136_60, r136_61, r136_64, r136_67, r136_68, r136_69, r136_72, r136_75, r136_76, r136_79, List.length_cons, List.length_nil, Nat.reduceAdd, Nat.reduceLT, if_true, l10, l01, l20, l21, l02, l12, List.append_nil, List.getElem?_cons_zero, List.getElem?_cons_succ, List.set_cons_zero, List.set_cons_succ, not_false_eq_true, not_true_eq_false, false_implies, true_implies, forall_const, Classical.not_not, rc0_at, rcI_at, sOK0, sOK1, sOK2, sOK3, sOK4, true_and, and_true, kil, Option.toList_some, Option.toList_none, List.nil_append, List.cons_append, Option.some.injEq, exists_eq_left', Value.int.injEq, Value.ref.injEq, Value.long.injEq, gf_at k1]
    refine ⟨_, _, c_copy8 d (show (70 : Nat) ≠ 77 by decide) (show rs.length < 2 ^ 31 by rw [b1.1]; decide) (show krs.length = rs.length by rw [b1.1, b3.1]) a1.g4 a1.g11, ?_⟩
    simp only [r136_0, r136_1, r136_4, r136_7, r136_9, r136_10, r136_11, r136_14, r136_15, r136_18, r136_21, r136_22, r136_25, r136_26, r136_29, r136_32, r136_33, r136_36, r136_37, r136_40, r136_43, r136_44, r136_45, r136_48, r136_51, r136_52, r136_53, r136_56, r136_59, r136_60, r136_61, r136_64, r136_67, r136_68, r136_69, r136_72, r136_75, r136_76, r136_79, List.length_cons, List.length_nil, Nat.reduceAdd, Nat.reduceLT, if_true, l10, l01, l20, l21, l02, l12, List.append_nil, List.getElem?_cons_zero, List.getElem?_cons_succ, List.set_cons_zero, List.set_cons_succ, not_false_eq_true, not_true_eq_false, false_implies, true_implies, forall_const, Classical.not_not, rc0_at, rcI_at, sOK0, sOK1, sOK2, sOK3, sOK4, true_and, and_true, kil, Option.toList_some, Option.toList_none, List.nil_append, List.cons_append, Option.some.injEq, exists_eq_left', Value.int.injEq, Value.ref.injEq, Value.long.injEq, gf_at k2]
    refine ⟨_, _, c_copy8 d (show (71 : Nat) ≠ 78 by decide) (show ms.length < 2 ^ 31 by rw [b2.1]; decide) (show kms.length = ms.length by rw [b2.1, b4.1]) a2.g5 a2.g12, ?_⟩
    simp only [r136_0, r136_1, r136_4, r136_7, r136_9, r136_10, r136_11, r136_14, r136_15, r136_18, r136_21, r136_22, r136_25, r136_26, r136_29, r136_32, r136_33, r136_36, r136_37, r136_40, r136_43, r136_44, r136_45, r136_48, r136_51, r136_52, r136_53, r136_56, r136_59, r136_60, r136_61, r136_64, r136_67, r136_68, r136_69, r136_72, r136_75, r136_76, r136_79, List.length_cons, List.length_nil, Nat.reduceAdd, Nat.reduceLT, if_true, l10, l01, l20, l21, l02, l12, List.append_nil, List.getElem?_cons_zero, List.getElem?_cons_succ, List.set_cons_zero, List.set_cons_succ, not_false_eq_true, not_true_eq_false, false_implies, true_implies, forall_const, Classical.not_not, rc0_at, rcI_at, sOK0, sOK1, sOK2, sOK3, sOK4, true_and, and_true, kil, Option.toList_some, Option.toList_none, List.nil_append, List.cons_append, Option.some.injEq, exists_eq_left', Value.int.injEq, Value.ref.injEq, Value.long.injEq, gf_at k3, pf_at k3 (show 19 < 26 by decide), gf_set k3, pf_set k3, mO]
theorem m_restore (d : Nat) {h : pH} {s : stT} (x : MS h s) (st : St s) (ht : s.2.2.2.2.2.2.2.2 < 2 ^ 31) : ∃ h', Cl (d + 2) 137 [.ref 66] h (some (.int (q_restore s).2)) h' ∧ MS h' (q_restore s).1 ∧ Dn h h' := by
  obtain ⟨cs, n, ⟨hs, w, ws, cnt, nt⟩, ⟨khs, kw, kws, kc, kn⟩, bf, hd, hm, hb, tr⟩ := s
  have x' := x
  obtain ⟨wm, sn, kd, hh, rs, ms, th, wh, od, bo, krs, kms, a, ⟨b1, b2⟩, ⟨b3, b4⟩, ⟨t1, t2, t3, t4⟩, b5⟩ := x
  dsimp only at a b1 b2 b3 b4 b5
  obtain ⟨l1, l2, ⟨l3, l4, l5⟩, ⟨l6, l7, l8⟩, l9⟩ := st
  dsimp only at l1 l2 l3 l4 l5 l6 l7 l8 l9
  have g0 := a.g0
  dsimp only [mO] at g0
  dsimp only at ht
  have e0 : entL 1 [Value.ref 66] = [some (.ref 66)] := rfl
  unfold q_restore
  dsimp only
  cases hm with
  | false =>
    have e : ¬ kd = nI tr := fun z => by
      unfold kdO at b5
      rw [if_neg (by decide), z, nI_toInt ht] at b5
      omega
    refine ⟨h, Cl_o 1 rfl _ e0 rfl ?_, x', Dn.rf⟩
    simp only [r137_0, r137_1, r137_4, r137_5, r137_8, r137_11, r137_13, r137_14, r137_15, r137_18, r137_19, r137_22, r137_25, r137_26, r137_29, r137_30, r137_33, r137_36, r137_37, r137_40, r137_41, r137_44, r137_47, r137_48, r137_49, r137_52, r137_55, r137_56, r137_57, r137_60, r137_63, r137_64, r137_65, r137_68, r137_71, r137_72, r137_75, List.length_cons, List.length_nil, Nat.reduceAdd, Nat.reduceLT, if_true, l10, l01, l20, l21, l02, l12, List.append_nil, List.getElem?_cons_zero, List.getElem?_cons_succ, List.set_cons_zero, List.set_cons_succ, not_false_eq_true, not_true_eq_false, false_implies, true_implies, forall_const, Classical.not_not, rc0_at, rcI_at, sOK0, sOK1, sOK2, sOK3, sOK4, true_and, and_true, kil, Option.toList_some, Option.toList_none, List.nil_append, List.cons_append, Option.some.injEq, exists_eq_left', Value.int.injEq, Value.ref.injEq, Value.long.injEq, gf_at g0, e, Bool.false_eq_true, if_false]
  | true =>
    unfold kdO at b5
    rw [if_pos rfl] at b5
    subst b5
    have a1 := a.s2 khs
    have a2 := a1.s4 krs
    have a3 := a2.s5 kms
    have k1 := a1.g0
    have k2 := a2.g0
    have k3 := a3.g0
    dsimp only [mO] at k1 k2 k3
    refine ⟨_, Cl_o 1 rfl _ e0 rfl ?_, ⟨wm, sn, nI tr, hh, krs, kms, th, wh, od, bo, krs, kms, a3.s0 (mO n hd kw kn tr hb kc wm sn (nI tr) kw kn kc hh), ⟨b3, b4⟩, ⟨b3, b4⟩, ⟨t1, t2, t3, t4⟩, kdT tr⟩, (((Dn.rf.st (by decide)).st (by decide)).st (by decide)).st (by decide)⟩
    simp only [r137_0, r137_1, r137_4, r137_5, r137_8, r137_11, r137_13, r137_14, r137_15, r137_18, r137_19, r137_22, r137_25, r137_26, r137_29, r137_30, r137_33, r137_36, r137_37, r137_40, r137_41, r137_44, r137_47, r137_48, r137_49, r137_52, r137_55, r137_56, r137_57, r137_60, r137_63, r137_64, r137_65, r137_68, r137_71, r137_72, r137_75, List.length_cons, List.length_nil, Nat.reduceAdd, Nat.reduceLT, if_true, l10, l01, l20, l21, l02, l12, List.append_nil, List.getElem?_cons_zero, List.getElem?_cons_succ, List.set_cons_zero, List.set_cons_succ, not_false_eq_true, not_true_eq_false, false_implies, true_implies, forall_const, Classical.not_not, rc0_at, rcI_at, sOK0, sOK1, sOK2, sOK3, sOK4, true_and, and_true, kil, Option.toList_some, Option.toList_none, List.nil_append, List.cons_append, Option.some.injEq, exists_eq_left', Value.int.injEq, Value.ref.injEq, Value.long.injEq, gf_at g0]
    refine ⟨_, _, c_copy8 d (show (76 : Nat) ≠ 68 by decide) (show khs.length < 2 ^ 31 by omega) (show hs.length = khs.length by omega) a.g10 a.g2, ?_⟩
    simp only [r137_0, r137_1, r137_4, r137_5, r137_8, r137_11, r137_13, r137_14, r137_15, r137_18, r137_19, r137_22, r137_25, r137_26, r137_29, r137_30, r137_33, r137_36, r137_37, r137_40, r137_41, r137_44, r137_47, r137_48, r137_49, r137_52, r137_55, r137_56, r137_57, r137_60, r137_63, r137_64, r137_65, r137_68, r137_71, r137_72, r137_75, List.length_cons, List.length_nil, Nat.reduceAdd, Nat.reduceLT, if_true, l10, l01, l20, l21, l02, l12, List.append_nil, List.getElem?_cons_zero, List.getElem?_cons_succ, List.set_cons_zero, List.set_cons_succ, not_false_eq_true, not_true_eq_false, false_implies, true_implies, forall_const, Classical.not_not, rc0_at, rcI_at, sOK0, sOK1, sOK2, sOK3, sOK4, true_and, and_true, kil, Option.toList_some, Option.toList_none, List.nil_append, List.cons_append, Option.some.injEq, exists_eq_left', Value.int.injEq, Value.ref.injEq, Value.long.injEq, gf_at k1]
    refine ⟨_, _, c_copy8 d (show (77 : Nat) ≠ 70 by decide) (show krs.length < 2 ^ 31 by rw [b3.1]; decide) (show rs.length = krs.length by rw [b1.1, b3.1]) a1.g11 a1.g4, ?_⟩
    simp only [r137_0, r137_1, r137_4, r137_5, r137_8, r137_11, r137_13, r137_14, r137_15, r137_18, r137_19, r137_22, r137_25, r137_26, r137_29, r137_30, r137_33, r137_36, r137_37, r137_40, r137_41, r137_44, r137_47, r137_48, r137_49, r137_52, r137_55, r137_56, r137_57, r137_60, r137_63, r137_64, r137_65, r137_68, r137_71, r137_72, r137_75, List.length_cons, List.length_nil, Nat.reduceAdd, Nat.reduceLT, if_true, l10, l01, l20, l21, l02, l12, List.append_nil, List.getElem?_cons_zero, List.getElem?_cons_succ, List.set_cons_zero, List.set_cons_succ, not_false_eq_true, not_true_eq_false, false_implies, true_implies, forall_const, Classical.not_not, rc0_at, rcI_at, sOK0, sOK1, sOK2, sOK3, sOK4, true_and, and_true, kil, Option.toList_some, Option.toList_none, List.nil_append, List.cons_append, Option.some.injEq, exists_eq_left', Value.int.injEq, Value.ref.injEq, Value.long.injEq, gf_at k2]
    refine ⟨_, _, c_copy8 d (show (78 : Nat) ≠ 71 by decide) (show kms.length < 2 ^ 31 by rw [b4.1]; decide) (show ms.length = kms.length by rw [b2.1, b4.1]) a2.g12 a2.g5, ?_⟩
    simp only [r137_0, r137_1, r137_4, r137_5, r137_8, r137_11, r137_13, r137_14, r137_15, r137_18, r137_19, r137_22, r137_25, r137_26, r137_29, r137_30, r137_33, r137_36, r137_37, r137_40, r137_41, r137_44, r137_47, r137_48, r137_49, r137_52, r137_55, r137_56, r137_57, r137_60, r137_63, r137_64, r137_65, r137_68, r137_71, r137_72, r137_75, List.length_cons, List.length_nil, Nat.reduceAdd, Nat.reduceLT, if_true, l10, l01, l20, l21, l02, l12, List.append_nil, List.getElem?_cons_zero, List.getElem?_cons_succ, List.set_cons_zero, List.set_cons_succ, not_false_eq_true, not_true_eq_false, false_implies, true_implies, forall_const, Classical.not_not, rc0_at, rcI_at, sOK0, sOK1, sOK2, sOK3, sOK4, true_and, and_true, kil, Option.toList_some, Option.toList_none, List.nil_append, List.cons_append, Option.some.injEq, exists_eq_left', Value.int.injEq, Value.ref.injEq, Value.long.injEq, gf_at k3, pf_at k3 (show 3 < 26 by decide), gf_set k3, pf_set k3, mO]
