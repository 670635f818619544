theorem upw_same (ws : Nat → wkr) (i : Nat) (q : wkr) : upw ws i q i = q := if_pos rfl
theorem upw_upw (ws : Nat → wkr) (i : Nat) (q q' : wkr) : upw (upw ws i q) i q' = upw ws i q' := by
  funext j
  unfold upw
  by_cases e : j = i <;> simp [e]
theorem m_walker (d : Nat) {h : pH} {s : stT} (x : MS h s) (st : St s) (kind c : Int32) : ∃ h', Cl (d + 3) 111 [.ref 66, .int kind, .int c] h (some (.int (q_walker s kind c).2)) h' ∧ MS h' (q_walker s kind c).1 ∧ Dn h h' := by
  obtain ⟨cs, n, ⟨hs, w, ws, cnt, nt⟩, ⟨khs, kw, kws, kc, kn⟩, bf, hd, hm, hb, tr⟩ := s
  have x' := x
  obtain ⟨wm, sn, kd, hh, rs, ms, th, wh, od, bo, krs, kms, a, ⟨b1, b2⟩, ⟨b3, b4⟩, ⟨t1, t2, t3, t4⟩, b5⟩ := x
  dsimp only at a b1 b2 b3 b4 b5
  obtain ⟨l1, l2, ⟨l3, l4, l5⟩, ⟨l6, l7, l8⟩, l9⟩ := st
  dsimp only at l1 l2 l3 l4 l5 l6 l7 l8 l9
  have g0 := a.g0
  dsimp only [mO] at g0
  have e0 : entL 3 [Value.ref 66, .int kind, .int c] = [some (.ref 66), some (.int kind), some (.int c)] := rfl
  have cw := c_inI (d + 1) h kind 0 4 rfl rfl
  rw [in4] at cw
  unfold q_walker
  dsimp only
  rcases ix_or kind 5 (by omega) with ⟨kn', hkn, rfl⟩ | hk
  · rw [ixT hkn (by omega)] at cw ⊢
    have cc := c_isCellM d a c
    cases e : (hd && ixv c 8) with
    | false =>
      rw [e] at cc
      refine ⟨h, Cl_o 3 rfl _ e0 rfl ?_, x', Dn.rf⟩
      simp only [r111_0, r111_1, r111_2, r111_3, r111_6, r111_9, r111_12, r111_14, r111_15, r111_16, r111_17, r111_20, r111_23, r111_25, r111_26, r111_27, r111_30, r111_31, r111_34, r111_36, r111_37, r111_38, r111_41, r111_42, r111_43, r111_46, r111_47, r111_48, r111_49, r111_50, r111_53, r111_54, r111_55, r111_58, r111_59, r111_60, r111_61, r111_62, r111_63, r111_64, r111_67, r111_68, r111_69, r111_72, r111_73, r111_74, r111_75, r111_76, r111_77, r111_78, r111_81, r111_83, r111_84, r111_87, r111_88, r111_89, r111_90, r111_91, r111_92, r111_93, r111_94, r111_97, r111_98, r111_99, r111_102, r111_103, r111_106, r111_107, r111_108, List.length_cons, List.length_nil, Nat.reduceAdd, Nat.reduceLT, if_true, l10, l01, l20, l21, l02, l12, List.append_nil, List.getElem?_cons_zero, List.getElem?_cons_succ, List.set_cons_zero, List.set_cons_succ, not_false_eq_true, not_true_eq_false, false_implies, true_implies, forall_const, Classical.not_not, rc0_at, rcI_at, sOK0, sOK1, sOK2, sOK3, sOK4, true_and, and_true, kil, Option.toList_some, Option.toList_none, List.nil_append, List.cons_append, Option.some.injEq, exists_eq_left', Value.int.injEq, Value.ref.injEq, Value.long.injEq]
      refine ⟨_, _, cw, ?_⟩
      simp only [r111_0, r111_1, r111_2, r111_3, r111_6, r111_9, r111_12, r111_14, r111_15, r111_16, r111_17, r111_20, r111_23, r111_25, r111_26, r111_27, r111_30, r111_31, r111_34, r111_36, r111_37, r111_38, r111_41, r111_42, r111_43, r111_46, r111_47, r111_48, r111_49, r111_50, r111_53, r111_54, r111_55, r111_58, r111_59, r111_60, r111_61, r111_62, r111_63, r111_64, r111_67, r111_68, r111_69, r111_72, r111_73, r111_74, r111_75, r111_76, r111_77, r111_78, r111_81, r111_83, r111_84, r111_87, r111_88, r111_89, r111_90, r111_91, r111_92, r111_93, r111_94, r111_97, r111_98, r111_99, r111_102, r111_103, r111_106, r111_107, r111_108, List.length_cons, List.length_nil, Nat.reduceAdd, Nat.reduceLT, if_true, l10, l01, l20, l21, l02, l12, List.append_nil, List.getElem?_cons_zero, List.getElem?_cons_succ, List.set_cons_zero, List.set_cons_succ, not_false_eq_true, not_true_eq_false, false_implies, true_implies, forall_const, Classical.not_not, rc0_at, rcI_at, sOK0, sOK1, sOK2, sOK3, sOK4, true_and, and_true, kil, Option.toList_some, Option.toList_none, List.nil_append, List.cons_append, Option.some.injEq, exists_eq_left', Value.int.injEq, Value.ref.injEq, Value.long.injEq, b2i, rcV_at g0]
      refine ⟨_, _, cc, ?_⟩
      simp only [r111_0, r111_1, r111_2, r111_3, r111_6, r111_9, r111_12, r111_14, r111_15, r111_16, r111_17, r111_20, r111_23, r111_25, r111_26, r111_27, r111_30, r111_31, r111_34, r111_36, r111_37, r111_38, r111_41, r111_42, r111_43, r111_46, r111_47, r111_48, r111_49, r111_50, r111_53, r111_54, r111_55, r111_58, r111_59, r111_60, r111_61, r111_62, r111_63, r111_64, r111_67, r111_68, r111_69, r111_72, r111_73, r111_74, r111_75, r111_76, r111_77, r111_78, r111_81, r111_83, r111_84, r111_87, r111_88, r111_89, r111_90, r111_91, r111_92, r111_93, r111_94, r111_97, r111_98, r111_99, r111_102, r111_103, r111_106, r111_107, r111_108, List.length_cons, List.length_nil, Nat.reduceAdd, Nat.reduceLT, if_true, l10, l01, l20, l21, l02, l12, List.append_nil, List.getElem?_cons_zero, List.getElem?_cons_succ, List.set_cons_zero, List.set_cons_succ, not_false_eq_true, not_true_eq_false, false_implies, true_implies, forall_const, Classical.not_not, rc0_at, rcI_at, sOK0, sOK1, sOK2, sOK3, sOK4, true_and, and_true, kil, Option.toList_some, Option.toList_none, List.nil_append, List.cons_append, Option.some.injEq, exists_eq_left', Value.int.injEq, Value.ref.injEq, Value.long.injEq, b2i, Bool.false_eq_true, if_false]
    | true =>
      rw [e] at cc
      have e2 := (Bool.and_eq_true _ _ ▸ e : hd = true ∧ ixv c 8 = true).2
      rcases ix_or c 8 (by decide) with ⟨i, hi, rfl⟩ | hcc
      · rw [nI_clamp (show kn' < 2 ^ 31 by omega), nI_clamp (show i < 2 ^ 31 by omega)]
        by_cases q : cnt < 4
        · simp only [q, if_true]
          have e4 : ¬ nI cnt = 4 := fun z => by
            have := (nI_eq (a := cnt) (b := 4) (by omega) (by decide)).mp z
            omega
          have a1 := a.s4 (rs.set (3 * cnt) (nI kn'))
          have a2 := a1.s4 ((rs.set (3 * cnt) (nI kn')).set (3 * cnt + 1) (nI i))
          have a3 := a2.s4 (((rs.set (3 * cnt) (nI kn')).set (3 * cnt + 1) (nI i)).set (3 * cnt + 2) 0)
          have a4 := a3.s5 (ms.set (10 * cnt + 1) 0)
          have a5 := a4.s0 (mO n hd w nt tr hb (cnt + 1) wm sn kd kw kn kc hh)
          rw [List.set_set, List.set_set] at a5
          rw [List.set_set, List.set_set] at a4
          rw [List.set_set, List.set_set] at a3
          rw [List.set_set] at a2
          have k1 := a1.g0
          have k2 := a2.g0
          have k3 := a3.g0
          have k4 := a4.g0
          dsimp only [mO] at k1 k2 k3 k4
          have l := b1.1
          have lm := b2.1
          refine ⟨_, Cl_o 3 rfl _ e0 rfl ?_, ⟨wm, sn, kd, hh, _, _, th, wh, od, bo, krs, kms, a5, ⟨?_, ?_⟩, ⟨b3, b4⟩, ⟨t1, t2, t3, t4⟩, b5⟩, ((Dn.rf.st (by decide)).st (by decide)).st (by decide)⟩
          · simp only [r111_0, r111_1, r111_2, r111_3, r111_6, r111_9, r111_12, r111_14, r111_15, r111_16, r111_17, r111_20, r111_23, r111_25, r111_26, r111_27, r111_30, r111_31, r111_34, r111_36, r111_37, r111_38, r111_41, r111_42, r111_43, r111_46, r111_47, r111_48, r111_49, r111_50, r111_53, r111_54, r111_55, r111_58, r111_59, r111_60, r111_61, r111_62, r111_63, r111_64, r111_67, r111_68, r111_69, r111_72, r111_73, r111_74, r111_75, r111_76, r111_77, r111_78, r111_81, r111_83, r111_84, r111_87, r111_88, r111_89, r111_90, r111_91, r111_92, r111_93, r111_94, r111_97, r111_98, r111_99, r111_102, r111_103, r111_106, r111_107, r111_108, List.length_cons, List.length_nil, Nat.reduceAdd, Nat.reduceLT, if_true, l10, l01, l20, l21, l02, l12, List.append_nil, List.getElem?_cons_zero, List.getElem?_cons_succ, List.set_cons_zero, List.set_cons_succ, not_false_eq_true, not_true_eq_false, false_implies, true_implies, forall_const, Classical.not_not, rc0_at, rcI_at, sOK0, sOK1, sOK2, sOK3, sOK4, true_and, and_true, kil, Option.toList_some, Option.toList_none, List.nil_append, List.cons_append, Option.some.injEq, exists_eq_left', Value.int.injEq, Value.ref.injEq, Value.long.injEq]
            refine ⟨_, _, cw, ?_⟩
            simp only [r111_0, r111_1, r111_2, r111_3, r111_6, r111_9, r111_12, r111_14, r111_15, r111_16, r111_17, r111_20, r111_23, r111_25, r111_26, r111_27, r111_30, r111_31, r111_34, r111_36, r111_37, r111_38, r111_41, r111_42, r111_43, r111_46, r111_47, r111_48, r111_49, r111_50, r111_53, r111_54, r111_55, r111_58, r111_59, r111_60, r111_61, r111_62, r111_63, r111_64, r111_67, r111_68, r111_69, r111_72, r111_73, r111_74, r111_75, r111_76, r111_77, r111_78, r111_81, r111_83, r111_84, r111_87, r111_88, r111_89, r111_90, r111_91, r111_92, r111_93, r111_94, r111_97, r111_98, r111_99, r111_102, r111_103, r111_106, r111_107, r111_108, List.length_cons, List.length_nil, Nat.reduceAdd, Nat.reduceLT, if_true, l10, l01, l20, l21, l02, l12, List.append_nil, List.getElem?_cons_zero, List.getElem?_cons_succ, List.set_cons_zero, List.set_cons_succ, not_false_eq_true, not_true_eq_false, false_implies, true_implies, forall_const, Classical.not_not, rc0_at, rcI_at, sOK0, sOK1, sOK2, sOK3, sOK4, true_and, and_true, kil, Option.toList_some, Option.toList_none, List.nil_append, List.cons_append, Option.some.injEq, exists_eq_left', Value.int.injEq, Value.ref.injEq, Value.long.injEq, b2i, rcV_at g0]
            refine ⟨_, _, cc, ?_⟩
            have e5 : nI (cnt + 1) - 1 = nI cnt := by rw [← nI_1]; simp
            simp only [r111_0, r111_1, r111_2, r111_3, r111_6, r111_9, r111_12, r111_14, r111_15, r111_16, r111_17, r111_20, r111_23, r111_25, r111_26, r111_27, r111_30, r111_31, r111_34, r111_36, r111_37, r111_38, r111_41, r111_42, r111_43, r111_46, r111_47, r111_48, r111_49, r111_50, r111_53, r111_54, r111_55, r111_58, r111_59, r111_60, r111_61, r111_62, r111_63, r111_64, r111_67, r111_68, r111_69, r111_72, r111_73, r111_74, r111_75, r111_76, r111_77, r111_78, r111_81, r111_83, r111_84, r111_87, r111_88, r111_89, r111_90, r111_91, r111_92, r111_93, r111_94, r111_97, r111_98, r111_99, r111_102, r111_103, r111_106, r111_107, r111_108, List.length_cons, List.length_nil, Nat.reduceAdd, Nat.reduceLT, if_true, l10, l01, l20, l21, l02, l12, List.append_nil, List.getElem?_cons_zero, List.getElem?_cons_succ, List.set_cons_zero, List.set_cons_succ, not_false_eq_true, not_true_eq_false, false_implies, true_implies, forall_const, Classical.not_not, rc0_at, rcI_at, sOK0, sOK1, sOK2, sOK3, sOK4, true_and, and_true, kil, Option.toList_some, Option.toList_none, List.nil_append, List.cons_append, Option.some.injEq, exists_eq_left', Value.int.injEq, Value.ref.injEq, Value.long.injEq, b2i, gf_at g0, e4, n3k cnt q, n10k cnt q, istR0 a l q, gf_at k1, nI_1, istR a1 (show (rs.set (3 * cnt) (nI kn')).length = 12 by simp [l]) q (show 1 < 3 by decide), List.set_set, gf_at k2, nI_add2, istR a2 (show ((rs.set (3 * cnt) (nI kn')).set (3 * cnt + 1) (nI i)).length = 12 by simp [l]) q (show 2 < 3 by decide), gf_at k3, istM a3 lm q (show 1 < 10 by decide), gf_at k4, pf_at k4 (show 9 < 26 by decide), gf_set k4, e5, mO]
          · refine b1.up (by simp [l]) (fun j _ h1 h2 h3 => ?_) ?_ ?_ ?_
            · rw [hxs_ne (Ne.symm h3), hxs_ne (Ne.symm h2), hxs_ne (Ne.symm h1)]
            · rw [hxs_ne (by omega), hxs_ne (by omega), hxs_eq (by omega)]
            · rw [hxs_ne (by omega), hxs_eq (by rw [List.length_set]; omega)]
            · rw [hxs_eq (by rw [List.length_set, List.length_set]; omega)]
          · refine b2.up (by simp [lm]) (fun j _ h1 => ?_) ?_ ?_ ?_
            · rw [hxs_ne (by omega)]
            · rw [hxs_eq (by omega)]; rfl
            · intro z; exact absurd z (Nat.lt_irrefl 0)
            · intro t ht
              rw [hxs_ne (by omega)]
              exact (b2.2 cnt q).2.2 t ht
        · have : cnt = 4 := by omega
          subst this
          refine ⟨h, Cl_o 3 rfl _ e0 rfl ?_, x', Dn.rf⟩
          simp only [r111_0, r111_1, r111_2, r111_3, r111_6, r111_9, r111_12, r111_14, r111_15, r111_16, r111_17, r111_20, r111_23, r111_25, r111_26, r111_27, r111_30, r111_31, r111_34, r111_36, r111_37, r111_38, r111_41, r111_42, r111_43, r111_46, r111_47, r111_48, r111_49, r111_50, r111_53, r111_54, r111_55, r111_58, r111_59, r111_60, r111_61, r111_62, r111_63, r111_64, r111_67, r111_68, r111_69, r111_72, r111_73, r111_74, r111_75, r111_76, r111_77, r111_78, r111_81, r111_83, r111_84, r111_87, r111_88, r111_89, r111_90, r111_91, r111_92, r111_93, r111_94, r111_97, r111_98, r111_99, r111_102, r111_103, r111_106, r111_107, r111_108, List.length_cons, List.length_nil, Nat.reduceAdd, Nat.reduceLT, if_true, l10, l01, l20, l21, l02, l12, List.append_nil, List.getElem?_cons_zero, List.getElem?_cons_succ, List.set_cons_zero, List.set_cons_succ, not_false_eq_true, not_true_eq_false, false_implies, true_implies, forall_const, Classical.not_not, rc0_at, rcI_at, sOK0, sOK1, sOK2, sOK3, sOK4, true_and, and_true, kil, Option.toList_some, Option.toList_none, List.nil_append, List.cons_append, Option.some.injEq, exists_eq_left', Value.int.injEq, Value.ref.injEq, Value.long.injEq]
          refine ⟨_, _, cw, ?_⟩
          simp only [r111_0, r111_1, r111_2, r111_3, r111_6, r111_9, r111_12, r111_14, r111_15, r111_16, r111_17, r111_20, r111_23, r111_25, r111_26, r111_27, r111_30, r111_31, r111_34, r111_36, r111_37, r111_38, r111_41, r111_42, r111_43, r111_46, r111_47, r111_48, r111_49, r111_50, r111_53, r111_54, r111_55, r111_58, r111_59, r111_60, r111_61, r111_62, r111_63, r111_64, r111_67, r111_68, r111_69, r111_72, r111_73, r111_74, r111_75, r111_76, r111_77, r111_78, r111_81, r111_83, r111_84, r111_87, r111_88, r111_89, r111_90, r111_91, r111_92, r111_93, r111_94, r111_97, r111_98, r111_99, r111_102, r111_103, r111_106, r111_107, r111_108, List.length_cons, List.length_nil, Nat.reduceAdd, Nat.reduceLT, if_true, l10, l01, l20, l21, l02, l12, List.append_nil, List.getElem?_cons_zero, List.getElem?_cons_succ, List.set_cons_zero, List.set_cons_succ, not_false_eq_true, not_true_eq_false, false_implies, true_implies, forall_const, Classical.not_not, rc0_at, rcI_at, sOK0, sOK1, sOK2, sOK3, sOK4, true_and, and_true, kil, Option.toList_some, Option.toList_none, List.nil_append, List.cons_append, Option.some.injEq, exists_eq_left', Value.int.injEq, Value.ref.injEq, Value.long.injEq, b2i, rcV_at g0]
          refine ⟨_, _, cc, ?_⟩
          have e4 : nI 4 = 4 := rfl
          simp only [r111_0, r111_1, r111_2, r111_3, r111_6, r111_9, r111_12, r111_14, r111_15, r111_16, r111_17, r111_20, r111_23, r111_25, r111_26, r111_27, r111_30, r111_31, r111_34, r111_36, r111_37, r111_38, r111_41, r111_42, r111_43, r111_46, r111_47, r111_48, r111_49, r111_50, r111_53, r111_54, r111_55, r111_58, r111_59, r111_60, r111_61, r111_62, r111_63, r111_64, r111_67, r111_68, r111_69, r111_72, r111_73, r111_74, r111_75, r111_76, r111_77, r111_78, r111_81, r111_83, r111_84, r111_87, r111_88, r111_89, r111_90, r111_91, r111_92, r111_93, r111_94, r111_97, r111_98, r111_99, r111_102, r111_103, r111_106, r111_107, r111_108, List.length_cons, List.length_nil, Nat.reduceAdd, Nat.reduceLT, if_true, l10, l01, l20, l21, l02, l12, List.append_nil, List.getElem?_cons_zero, List.getElem?_cons_succ, List.set_cons_zero, List.set_cons_succ, not_false_eq_true, not_true_eq_false, false_implies, true_implies, forall_const, Classical.not_not, rc0_at, rcI_at, sOK0, sOK1, sOK2, sOK3, sOK4, true_and, and_true, kil, Option.toList_some, Option.toList_none, List.nil_append, List.cons_append, Option.some.injEq, exists_eq_left', Value.int.injEq, Value.ref.injEq, Value.long.injEq, b2i, gf_at g0, e4, Nat.lt_irrefl, if_false]
      · rw [ixF hcc] at e2
        cases e2
  · rw [ixF hk] at cw ⊢
    refine ⟨h, Cl_o 3 rfl _ e0 rfl ?_, x', Dn.rf⟩
    simp only [r111_0, r111_1, r111_2, r111_3, r111_6, r111_9, r111_12, r111_14, r111_15, r111_16, r111_17, r111_20, r111_23, r111_25, r111_26, r111_27, r111_30, r111_31, r111_34, r111_36, r111_37, r111_38, r111_41, r111_42, r111_43, r111_46, r111_47, r111_48, r111_49, r111_50, r111_53, r111_54, r111_55, r111_58, r111_59, r111_60, r111_61, r111_62, r111_63, r111_64, r111_67, r111_68, r111_69, r111_72, r111_73, r111_74, r111_75, r111_76, r111_77, r111_78, r111_81, r111_83, r111_84, r111_87, r111_88, r111_89, r111_90, r111_91, r111_92, r111_93, r111_94, r111_97, r111_98, r111_99, r111_102, r111_103, r111_106, r111_107, r111_108, List.length_cons, List.length_nil, Nat.reduceAdd, Nat.reduceLT, if_true, l10, l01, l20, l21, l02, l12, List.append_nil, List.getElem?_cons_zero, List.getElem?_cons_succ, List.set_cons_zero, List.set_cons_succ, not_false_eq_true, not_true_eq_false, false_implies, true_implies, forall_const, Classical.not_not, rc0_at, rcI_at, sOK0, sOK1, sOK2, sOK3, sOK4, true_and, and_true, kil, Option.toList_some, Option.toList_none, List.nil_append, List.cons_append, Option.some.injEq, exists_eq_left', Value.int.injEq, Value.ref.injEq, Value.long.injEq]
    refine ⟨_, _, cw, ?_⟩
    simp only [r111_0, r111_1, r111_2, r111_3, r111_6, r111_9, r111_12, r111_14, r111_15, r111_16, r111_17, r111_20, r111_23, r111_25, r111_26, r111_27, r111_30, r111_31, r111_34, r111_36, r111_37, r111_38, r111_41, r111_42, r111_43, r111_46, r111_47, r111_48, r111_49, r111_50, r111_53, r111_54, r111_55, r111_58, r111_59, r111_60, r111_61, r111_62, r111_63, r111_64, r111_67, r111_68, r111_69, r111_72, r111_73, r111_74, r111_75, r111_76, r111_77, r111_78, r111_81, r111_83, r111_84, r111_87, r111_88, r111_89, r111_90, r111_91, r111_92, r111_93, r111_94, r111_97, r111_98, r111_99, r111_102, r111_103, r111_106, r111_107, r111_108, List.length_cons, List.length_nil, Nat.reduceAdd, Nat.reduceLT, if_true, l10, l01, l20, l21, l02, l12, List.append_nil, List.getElem?_cons_zero, List.getElem?_cons_succ, List.set_cons_zero, List.set_cons_succ, not_false_eq_true, not_true_eq_false, false_implies, true_implies, forall_const, Classical.not_not, rc0_at, rcI_at, sOK0, sOK1, sOK2, sOK3, sOK4, true_and, and_true, kil, Option.toList_some, Option.toList_none, List.nil_append, List.cons_append, Option.some.injEq, exists_eq_left', Value.int.injEq, Value.ref.injEq, Value.long.injEq, b2i, Bool.false_eq_true, if_false]
