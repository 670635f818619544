section M55
variable {h : pH} {n : Nat} {hd w : Bool} {nt : Int32} {tr : Nat} {hb : Bool} {cnt : Nat} {wm sn kd : Int32} {kw : Bool} {kn : Int32} {kc : Nat} {hh : Int64} {cs hs bf rs ms th wh od bo khs krs kms : List Int32}
theorem istR0 {i : Nat} {v : Int32} (a : Mh h (mcs (mO n hd w nt tr hb cnt wm sn kd kw kn kc hh) cs hs bf rs ms th wh od bo khs krs kms)) (l : rs.length = 12) (hi : i < 4) : ist h 70 (nI (3 * i)) v = some (h.set 70 (.inl (rs.set (3 * i) v))) := istR (t := 0) a l hi (by decide)
theorem istM0 {i : Nat} {v : Int32} (a : Mh h (mcs (mO n hd w nt tr hb cnt wm sn kd kw kn kc hh) cs hs bf rs ms th wh od bo khs krs kms)) (l : ms.length = 40) (hi : i < 4) : ist h 71 (nI (10 * i)) v = some (h.set 71 (.inl (ms.set (10 * i) v))) := istM (t := 0) a l hi (by decide)
/-- a step of walker i: his row and the heights -/
theorem c_steps (d i : Nat) {ws : Nat → wkr} (a : Mh h (mcs (mO n hd w nt tr hb cnt wm sn kd kw kn kc hh) cs hs bf rs ms th wh od bo khs krs kms)) (b1 : Rw rs ws) (l3 : hs.length = 8) (hi : i < 4) (hp : wok (ws i)) (way : Int32) : Cl (d + 3) 117 [.ref 66, .int (nI i), .int way] h (some (.int (trd hs w (bes (ws i).2.1 way) (ws i).1).1)) ((h.set 70 (.inl ((rs.set (3 * i + 1) (nI (bes (ws i).2.1 way))).set (3 * i + 2) ((ws i).2.2.1 + 1)))).set 68 (.inl (trd hs w (bes (ws i).2.1 way) (ws i).1).2)) := by
  have g0 := a.g0
  dsimp only [mO] at g0
  have r := b1.2 i hi
  refine Cl_o 3 rfl [some (.ref 66), some (.int (nI i)), some (.int way)] rfl rfl ?_
  simp only [r117_0, r117_1, r117_4, r117_5, r117_6, r117_7, r117_8, r117_9, r117_10, r117_13, r117_14, r117_15, r117_16, r117_17, r117_18, r117_19, r117_20, r117_23, r117_24, r117_25, r117_28, r117_29, r117_30, r117_31, r117_32, r117_33, r117_34, r117_35, r117_36, r117_37, r117_38, r117_39, r117_40, r117_43, r117_44, r117_47, r117_48, r117_49, r117_50, r117_51, r117_52, r117_53, r117_54, r117_57, r117_58, r117_59, r117_60, r117_61, r117_64, List.length_cons, List.length_nil, Nat.reduceAdd, Nat.reduceLT, if_true, l10, l01, l20, l21, l02, l12, List.append_nil, List.getElem?_cons_zero, List.getElem?_cons_succ, List.set_cons_zero, List.set_cons_succ, not_false_eq_true, not_true_eq_false, false_implies, true_implies, forall_const, Classical.not_not, rc0_at, rcI_at, sOK0, sOK1, sOK2, sOK3, sOK4, true_and, and_true, kil, Option.toList_some, Option.toList_none, List.nil_append, List.cons_append, Option.some.injEq, exists_eq_left', Value.int.injEq, Value.ref.injEq, Value.long.injEq, gf_at g0, n3k i hi, nI_1, ildR a b1.1 hi (show 1 < 3 by decide), r.2.1]
  refine ⟨_, _, c_stepTo (d + 1) h hp.2.1 way, ?_⟩
  have a1 := a.s4 (rs.set (3 * i + 1) (nI (bes (ws i).2.1 way)))
  have a2 := a1.s4 ((rs.set (3 * i + 1) (nI (bes (ws i).2.1 way))).set (3 * i + 2) ((ws i).2.2.1 + 1))
  have k1 := a1.g0
  have k2 := a2.g0
  dsimp only [mO] at k1 k2
  have ll1 : (rs.set (3 * i + 1) (nI (bes (ws i).2.1 way))).length = 12 := by simp [b1.1]
  have ll2 : ((rs.set (3 * i + 1) (nI (bes (ws i).2.1 way))).set (3 * i + 2) ((ws i).2.2.1 + 1)).length = 12 := by simp [b1.1]
  have e2 : hx (rs.set (3 * i + 1) (nI (bes (ws i).2.1 way))) (3 * i + 2) = (ws i).2.2.1 := by rw [hxs_ne (by omega)]; exact r.2.2
  have e1 : hx ((rs.set (3 * i + 1) (nI (bes (ws i).2.1 way))).set (3 * i + 2) ((ws i).2.2.1 + 1)) (3 * i + 1) = nI (bes (ws i).2.1 way) := by rw [hxs_ne (by omega), hxs_eq (by rw [b1.1]; omega)]
  have e3 : hx ((rs.set (3 * i + 1) (nI (bes (ws i).2.1 way))).set (3 * i + 2) ((ws i).2.2.1 + 1)) (3 * i) = nI (ws i).1 := by rw [hxs_ne (by omega), hxs_ne (by omega)]; exact r.1
  rw [List.set_set] at a2 k2
  simp only [r117_0, r117_1, r117_4, r117_5, r117_6, r117_7, r117_8, r117_9, r117_10, r117_13, r117_14, r117_15, r117_16, r117_17, r117_18, r117_19, r117_20, r117_23, r117_24, r117_25, r117_28, r117_29, r117_30, r117_31, r117_32, r117_33, r117_34, r117_35, r117_36, r117_37, r117_38, r117_39, r117_40, r117_43, r117_44, r117_47, r117_48, r117_49, r117_50, r117_51, r117_52, r117_53, r117_54, r117_57, r117_58, r117_59, r117_60, r117_61, r117_64, List.length_cons, List.length_nil, Nat.reduceAdd, Nat.reduceLT, if_true, l10, l01, l20, l21, l02, l12, List.append_nil, List.getElem?_cons_zero, List.getElem?_cons_succ, List.set_cons_zero, List.set_cons_succ, not_false_eq_true, not_true_eq_false, false_implies, true_implies, forall_const, Classical.not_not, rc0_at, rcI_at, sOK0, sOK1, sOK2, sOK3, sOK4, true_and, and_true, kil, Option.toList_some, Option.toList_none, List.nil_append, List.cons_append, Option.some.injEq, exists_eq_left', Value.int.injEq, Value.ref.injEq, Value.long.injEq, istR a b1.1 hi (show 1 < 3 by decide), gf_at k1, n3k i hi, nI_1, nI_add2, ildR a1 ll1 hi (show 2 < 3 by decide), istR a1 ll1 hi (show 2 < 3 by decide), e2, List.set_set, gf_at k2, ildR a2 ll2 hi (show 1 < 3 by decide), ildR0 a2 ll2 hi, e1, e3, rcV_at k2]
  refine ⟨_, _, c_treads d (show (68 : Nat) ≠ 66 by decide) a2.g0 (w := w) rfl l3 a2.g2 (bes_lt _ _) hp.1, ?_⟩
  simp only [r117_0, r117_1, r117_4, r117_5, r117_6, r117_7, r117_8, r117_9, r117_10, r117_13, r117_14, r117_15, r117_16, r117_17, r117_18, r117_19, r117_20, r117_23, r117_24, r117_25, r117_28, r117_29, r117_30, r117_31, r117_32, r117_33, r117_34, r117_35, r117_36, r117_37, r117_38, r117_39, r117_40, r117_43, r117_44, r117_47, r117_48, r117_49, r117_50, r117_51, r117_52, r117_53, r117_54, r117_57, r117_58, r117_59, r117_60, r117_61, r117_64, List.length_cons, List.length_nil, Nat.reduceAdd, Nat.reduceLT, if_true, l10, l01, l20, l21, l02, l12, List.append_nil, List.getElem?_cons_zero, List.getElem?_cons_succ, List.set_cons_zero, List.set_cons_succ, not_false_eq_true, not_true_eq_false, false_implies, true_implies, forall_const, Classical.not_not, rc0_at, rcI_at, sOK0, sOK1, sOK2, sOK3, sOK4, true_and, and_true, kil, Option.toList_some, Option.toList_none, List.nil_append, List.cons_append, Option.some.injEq, exists_eq_left', Value.int.injEq, Value.ref.injEq, Value.long.injEq]
theorem Rw.stp {rs : List Int32} {ws : Nat → wkr} {i c : Nat} {v : Int32} {r : Int32 × Nat × List Int32} (b1 : Rw rs ws) (hi : i < 4) : Rw ((rs.set (3 * i + 1) (nI c)).set (3 * i + 2) v) (upw ws i ((ws i).1, c, v, r)) := by
  have l := b1.1
  refine b1.up (by simp [l]) (fun j _ h1 h2 h3 => ?_) ?_ ?_ ?_
  · rw [hxs_ne (Ne.symm h3), hxs_ne (Ne.symm h2)]
  · rw [hxs_ne (by omega), hxs_ne (by omega)]; exact (b1.2 i hi).1
  · rw [hxs_ne (by omega), hxs_eq (by omega)]
  · rw [hxs_eq (by rw [List.length_set]; omega)]
theorem Mp.sm {ms : List Int32} {ws : Nat → wkr} {i : Nat} {q : wkr} (b2 : Mp ms ws) (hi : i < 4) (hq : q.2.2.2 = (ws i).2.2.2) : Mp ms (upw ws i q) := by
  have := b2.2 i hi
  rw [← hq] at this
  exact b2.up b2.1 (fun _ _ _ => rfl) this.1 this.2.1 this.2.2
end M55
theorem m_step (d : Nat) {h : pH} {s : stT} (x : MS h s) (st : St s) (k way : Int32) : ∃ h', Cl (d + 4) 118 [.ref 66, .int k, .int way] h (some (.int (q_step s k way).2)) h' ∧ MS h' (q_step s k way).1 ∧ Dn h h' := by
  obtain ⟨cs, n, ⟨hs, w, ws, cnt, nt⟩, ⟨khs, kw, kws, kc, kn⟩, bf, hd, hm, hb, tr⟩ := s
  have x' := x
  obtain ⟨wm, sn, kd, hh, rs, ms, th, wh, od, bo, krs, kms, a, ⟨b1, b2⟩, ⟨b3, b4⟩, ⟨t1, t2, t3, t4⟩, b5⟩ := x
  dsimp only at a b1 b2 b3 b4 b5
  obtain ⟨l1, l2, ⟨l3, l4, l5⟩, ⟨l6, l7, l8⟩, l9⟩ := st
  dsimp only at l1 l2 l3 l4 l5 l6 l7 l8 l9
  have g0 := a.g0
  dsimp only [mO] at g0
  have e0 : entL 3 [Value.ref 66, .int k, .int way] = [some (.ref 66), some (.int k), some (.int way)] := rfl
  unfold q_step
  dsimp only
  rcases ix_or k cnt (by omega) with ⟨i, hi, rfl⟩ | hc
  · have cw := c_isWalker (d + 1) a l5 (nI i)
    rw [ixT hi (by omega)] at cw ⊢
    rw [nI_clamp (show i < 2 ^ 31 by omega)]
    have hi4 : i < 4 := by omega
    cases e : ixv way 2
    · refine ⟨h, Cl_o 3 rfl _ e0 rfl ?_, x', Dn.rf⟩
      simp only [r118_0, r118_1, r118_2, r118_5, r118_8, r118_10, r118_11, r118_12, r118_13, r118_14, r118_15, r118_18, r118_21, r118_22, r118_23, r118_24, r118_27, r118_30, r118_32, List.length_cons, List.length_nil, Nat.reduceAdd, Nat.reduceLT, if_true, l10, l01, l20, l21, l02, l12, List.append_nil, List.getElem?_cons_zero, List.getElem?_cons_succ, List.set_cons_zero, List.set_cons_succ, not_false_eq_true, not_true_eq_false, false_implies, true_implies, forall_const, Classical.not_not, rc0_at, rcI_at, sOK0, sOK1, sOK2, sOK3, sOK4, true_and, and_true, kil, Option.toList_some, Option.toList_none, List.nil_append, List.cons_append, Option.some.injEq, exists_eq_left', Value.int.injEq, Value.ref.injEq, Value.long.injEq, rcV_at g0]
      refine ⟨_, _, cw, ?_⟩
      simp only [r118_0, r118_1, r118_2, r118_5, r118_8, r118_10, r118_11, r118_12, r118_13, r118_14, r118_15, r118_18, r118_21, r118_22, r118_23, r118_24, r118_27, r118_30, r118_32, List.length_cons, List.length_nil, Nat.reduceAdd, Nat.reduceLT, if_true, l10, l01, l20, l21, l02, l12, List.append_nil, List.getElem?_cons_zero, List.getElem?_cons_succ, List.set_cons_zero, List.set_cons_succ, not_false_eq_true, not_true_eq_false, false_implies, true_implies, forall_const, Classical.not_not, rc0_at, rcI_at, sOK0, sOK1, sOK2, sOK3, sOK4, true_and, and_true, kil, Option.toList_some, Option.toList_none, List.nil_append, List.cons_append, Option.some.injEq, exists_eq_left', Value.int.injEq, Value.ref.injEq, Value.long.injEq, b2i]
      refine ⟨_, _, c_inI (d + 2) h way 0 1 rfl rfl, ?_⟩
      simp only [r118_0, r118_1, r118_2, r118_5, r118_8, r118_10, r118_11, r118_12, r118_13, r118_14, r118_15, r118_18, r118_21, r118_22, r118_23, r118_24, r118_27, r118_30, r118_32, List.length_cons, List.length_nil, Nat.reduceAdd, Nat.reduceLT, if_true, l10, l01, l20, l21, l02, l12, List.append_nil, List.getElem?_cons_zero, List.getElem?_cons_succ, List.set_cons_zero, List.set_cons_succ, not_false_eq_true, not_true_eq_false, false_implies, true_implies, forall_const, Classical.not_not, rc0_at, rcI_at, sOK0, sOK1, sOK2, sOK3, sOK4, true_and, and_true, kil, Option.toList_some, Option.toList_none, List.nil_append, List.cons_append, Option.some.injEq, exists_eq_left', Value.int.injEq, Value.ref.injEq, Value.long.injEq, in1, e, b2i, Bool.false_eq_true, if_false]
    · refine ⟨_, Cl_o 3 rfl _ e0 rfl ?_, ⟨wm, sn, kd, hh, _, ms, th, wh, od, bo, krs, kms, (a.s4 _).s2 _, ⟨b1.stp hi4, b2.sm hi4 rfl⟩, ⟨b3, b4⟩, ⟨t1, t2, t3, t4⟩, b5⟩, (Dn.rf.st (by decide)).st (by decide)⟩
      simp only [r118_0, r118_1, r118_2, r118_5, r118_8, r118_10, r118_11, r118_12, r118_13, r118_14, r118_15, r118_18, r118_21, r118_22, r118_23, r118_24, r118_27, r118_30, r118_32, List.length_cons, List.length_nil, Nat.reduceAdd, Nat.reduceLT, if_true, l10, l01, l20, l21, l02, l12, List.append_nil, List.getElem?_cons_zero, List.getElem?_cons_succ, List.set_cons_zero, List.set_cons_succ, not_false_eq_true, not_true_eq_false, false_implies, true_implies, forall_const, Classical.not_not, rc0_at, rcI_at, sOK0, sOK1, sOK2, sOK3, sOK4, true_and, and_true, kil, Option.toList_some, Option.toList_none, List.nil_append, List.cons_append, Option.some.injEq, exists_eq_left', Value.int.injEq, Value.ref.injEq, Value.long.injEq, rcV_at g0]
      refine ⟨_, _, cw, ?_⟩
      simp only [r118_0, r118_1, r118_2, r118_5, r118_8, r118_10, r118_11, r118_12, r118_13, r118_14, r118_15, r118_18, r118_21, r118_22, r118_23, r118_24, r118_27, r118_30, r118_32, List.length_cons, List.length_nil, Nat.reduceAdd, Nat.reduceLT, if_true, l10, l01, l20, l21, l02, l12, List.append_nil, List.getElem?_cons_zero, List.getElem?_cons_succ, List.set_cons_zero, List.set_cons_succ, not_false_eq_true, not_true_eq_false, false_implies, true_implies, forall_const, Classical.not_not, rc0_at, rcI_at, sOK0, sOK1, sOK2, sOK3, sOK4, true_and, and_true, kil, Option.toList_some, Option.toList_none, List.nil_append, List.cons_append, Option.some.injEq, exists_eq_left', Value.int.injEq, Value.ref.injEq, Value.long.injEq, b2i]
      refine ⟨_, _, c_inI (d + 2) h way 0 1 rfl rfl, ?_⟩
      simp only [r118_0, r118_1, r118_2, r118_5, r118_8, r118_10, r118_11, r118_12, r118_13, r118_14, r118_15, r118_18, r118_21, r118_22, r118_23, r118_24, r118_27, r118_30, r118_32, List.length_cons, List.length_nil, Nat.reduceAdd, Nat.reduceLT, if_true, l10, l01, l20, l21, l02, l12, List.append_nil, List.getElem?_cons_zero, List.getElem?_cons_succ, List.set_cons_zero, List.set_cons_succ, not_false_eq_true, not_true_eq_false, false_implies, true_implies, forall_const, Classical.not_not, rc0_at, rcI_at, sOK0, sOK1, sOK2, sOK3, sOK4, true_and, and_true, kil, Option.toList_some, Option.toList_none, List.nil_append, List.cons_append, Option.some.injEq, exists_eq_left', Value.int.injEq, Value.ref.injEq, Value.long.injEq, in1, e, b2i, rcV_at g0]
      refine ⟨_, _, c_steps d i a b1 l3 hi4 (l4 i hi4) way, ?_⟩
      simp only [r118_0, r118_1, r118_2, r118_5, r118_8, r118_10, r118_11, r118_12, r118_13, r118_14, r118_15, r118_18, r118_21, r118_22, r118_23, r118_24, r118_27, r118_30, r118_32, List.length_cons, List.length_nil, Nat.reduceAdd, Nat.reduceLT, if_true, l10, l01, l20, l21, l02, l12, List.append_nil, List.getElem?_cons_zero, List.getElem?_cons_succ, List.set_cons_zero, List.set_cons_succ, not_false_eq_true, not_true_eq_false, false_implies, true_implies, forall_const, Classical.not_not, rc0_at, rcI_at, sOK0, sOK1, sOK2, sOK3, sOK4, true_and, and_true, kil, Option.toList_some, Option.toList_none, List.nil_append, List.cons_append, Option.some.injEq, exists_eq_left', Value.int.injEq, Value.ref.injEq, Value.long.injEq]
      exact ⟨rfl, rfl⟩
  · have cw := c_isWalker (d + 1) a l5 k
    rw [ixF hc] at cw ⊢
    refine ⟨h, Cl_o 3 rfl _ e0 rfl ?_, x', Dn.rf⟩
    simp only [r118_0, r118_1, r118_2, r118_5, r118_8, r118_10, r118_11, r118_12, r118_13, r118_14, r118_15, r118_18, r118_21, r118_22, r118_23, r118_24, r118_27, r118_30, r118_32, List.length_cons, List.length_nil, Nat.reduceAdd, Nat.reduceLT, if_true, l10, l01, l20, l21, l02, l12, List.append_nil, List.getElem?_cons_zero, List.getElem?_cons_succ, List.set_cons_zero, List.set_cons_succ, not_false_eq_true, not_true_eq_false, false_implies, true_implies, forall_const, Classical.not_not, rc0_at, rcI_at, sOK0, sOK1, sOK2, sOK3, sOK4, true_and, and_true, kil, Option.toList_some, Option.toList_none, List.nil_append, List.cons_append, Option.some.injEq, exists_eq_left', Value.int.injEq, Value.ref.injEq, Value.long.injEq, rcV_at g0]
    refine ⟨_, _, cw, ?_⟩
    simp only [r118_0, r118_1, r118_2, r118_5, r118_8, r118_10, r118_11, r118_12, r118_13, r118_14, r118_15, r118_18, r118_21, r118_22, r118_23, r118_24, r118_27, r118_30, r118_32, List.length_cons, List.length_nil, Nat.reduceAdd, Nat.reduceLT, if_true, l10, l01, l20, l21, l02, l12, List.append_nil, List.getElem?_cons_zero, List.getElem?_cons_succ, List.set_cons_zero, List.set_cons_succ, not_false_eq_true, not_true_eq_false, false_implies, true_implies, forall_const, Classical.not_not, rc0_at, rcI_at, sOK0, sOK1, sOK2, sOK3, sOK4, true_and, and_true, kil, Option.toList_some, Option.toList_none, List.nil_append, List.cons_append, Option.some.injEq, exists_eq_left', Value.int.injEq, Value.ref.injEq, Value.long.injEq, b2i, Bool.false_eq_true, if_false]
