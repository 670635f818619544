section M66
variable {h : pH} {n : Nat} {hd w : Bool} {nt : Int32} {tr : Nat} {hb : Bool} {cnt : Nat} {wm sn kd : Int32} {kw : Bool} {kn : Int32} {kc : Nat} {hh : Int64} {cs hs bf rs ms th wh od bo khs krs kms : List Int32}
theorem lo_layOrder (d g : Nat) {ws : Nat → wkr} (b1 : Rw rs ws) (b2 : Mp ms ws) (l3 : hs.length = 8) (hp : ∀ i, i < 4 → wok (ws i)) (hc4 : cnt ≤ 4) (hgm : mps ws cnt = g) (hw : whG ws cnt wm wh) : ∀ (j c : Nat) (st : List Nat × Int) (mo : Int32) (th od bo : List Int32) (h : pH), c + j = g ^ g → th.length = 8 → od.length = 4 → okB g st mo bo → Mh h (mcs (mO n hd w nt tr hb cnt wm sn kd kw kn kc hh) cs hs bf rs ms th wh od bo khs krs kms) → ∃ h' th' od' bo' mo', (∀ v4 v5, X 124 (d + 3) (some (.int mo')) h' 33 [some (.ref 66), some (.int (nI (g ^ g))), some (.int mo), some (.int (nI c)), v4, v5] [] h) ∧ Mh h' (mcs (mO n hd w nt tr hb cnt wm sn kd kw kn kc hh) cs hs bf rs ms th' wh od' bo' khs krs kms) ∧ Dn h h' ∧ th'.length = 8 ∧ od'.length = 4 ∧ okB g ((List.range' c j).foldl (fun st c => cdO (hs, w, ws, cnt, nt) c st) st) mo' bo' := by
  have hwl : (whoL ws cnt).length = g := by rw [whoL_len, hgm]
  have hg4 : g ≤ 4 := by have := mps_le ws cnt; omega
  have hwm : wm = nI g := by rw [hw.1, hwl]
  have t2 := hw.2.1
  have hb : g ^ g ≤ 256 := by
    clear hw hwl hwm hgm
    match g, hg4 with
    | 0, _ => decide
    | 1, _ => decide
    | 2, _ => decide
    | 3, _ => decide
    | 4, _ => decide
  intro j
  induction j with
  | zero =>
    intro c st mo th od bo h hc t1 t3 ob a
    have : c = g ^ g := by omega
    subst this
    refine ⟨h, th, od, bo, mo, fun v4 v5 => ?_, a, Dn.rf, t1, t3, ob⟩
    rw [r124_33]; simp only [r124_0, r124_1, r124_4, r124_5, r124_6, r124_7, r124_9, r124_10, r124_13, r124_16, r124_17, r124_18, r124_21, r124_22, r124_23, r124_26, r124_29, r124_30, r124_31, r124_32, r124_34, r124_35, r124_38, r124_39, r124_40, r124_43, r124_46, r124_47, r124_50, r124_51, r124_54, r124_57, r124_58, r124_60, r124_61, r124_65, r124_66, r124_69, r124_72, r124_74, r124_75, r124_76, r124_79, r124_80, r124_83, r124_85, r124_86, r124_89, r124_92, r124_93, r124_96, r124_97, r124_98, r124_100, r124_101, r124_102, r124_105, r124_107, r124_108, r124_111, r124_114, r124_117, r124_119, r124_120, r124_123, r124_125, r124_126, r124_127, r124_130, r124_131, r124_134, r124_137, r124_140, r124_143, r124_144, List.length_cons, List.length_nil, Nat.reduceAdd, Nat.reduceLT, if_true, l10, l01, l20, l21, l02, l12, List.append_nil, List.getElem?_cons_zero, List.getElem?_cons_succ, List.set_cons_zero, List.set_cons_succ, not_false_eq_true, not_true_eq_false, false_implies, true_implies, forall_const, Classical.not_not, rc0_at, rcI_at, sOK0, sOK1, sOK2, sOK3, sOK4, true_and, and_true, kil, Option.toList_some, Option.toList_none, List.nil_append, List.cons_append, Option.some.injEq, exists_eq_left', Value.int.injEq, Value.ref.injEq, Value.long.injEq, Int32.le_refl]
  | succ j ih =>
    intro c st mo th od bo h hc t1 t3 ob a
    have g0 := a.g0
    dsimp only [mO] at g0
    have e : (nI (g ^ g) ≤ nI c) = False := eq_false (nI_ge (by omega) (by omega))
    have ci := c_isOrder (d + 2) g c a hg4 (by omega) t2 t3 hwm
    have a1 := a.s8 (isO wh g g c od)
    have t3' : (isO wh g g c od).length = 4 := by rw [isO_len]; exact t3
    have k1 := a1.g0
    dsimp only [mO] at k1
    rw [List.range'_succ, List.foldl_cons]
    by_cases q : (dgt g g c).Nodup
    · rw [decide_eq_true q] at ci
      have a2 := a1.s6 hs
      have hLl : ((dgt g g c).map (whW (whoL ws cnt))).length = g := by rw [List.length_map, dgt_len]
      have hL4 : ∀ x ∈ (dgt g g c).map (whW (whoL ws cnt)), x < 4 := fun x hx => by
        obtain ⟨y, hy, rfl⟩ := List.mem_map.mp hx
        have hg0 : 0 < g := by
          rcases Nat.eq_zero_or_pos g with z | z
          · rw [z] at hy; simp [dgt] at hy
          · exact z
        have := whoL_lt ws cnt _ (whW_mem (l := whoL ws cnt) (i := y) (by rw [hwl]; exact dgt_lt g hg0 _ _ y hy))
        omega
      have hO : ∀ t, t < g → hx (isO wh g g c od) t = nI (((dgt g g c).map (whW (whoL ws cnt))).getD t 0) := fun t ht => by
        rw [isO_at wh g g c od t ht (by omega)]
        have htl : t < (dgt g g c).length := by rw [dgt_len]; exact ht
        have e1 : ((dgt g g c).map (whW (whoL ws cnt))).getD t 0 = whW (whoL ws cnt) ((dgt g g c).getD t 0) := by
          simp [List.getD, List.getElem?_map, htl]
        have hdl : (dgt g g c).getD t 0 < (whoL ws cnt).length := by
          rw [hwl, List.getD_eq_getElem?_getD, List.getElem?_eq_getElem htl]
          exact dgt_lt g (by omega) _ _ _ (List.getElem_mem _)
        rw [e1, hw.2.2 _ hdl]
      obtain ⟨th', y1, y2⟩ := lo_evO d g (some (.int (nI (g ^ g)))) (some (.int mo)) (nI c) ((dgt g g c).map (whW (whoL ws cnt))) b1 b2 hp hLl hg4 hL4 t3' hO hwm g 0 0 hs _ (Nat.zero_add _) l3 a2
      rw [List.drop_zero, List.set_set] at y2
      have a3 := a1.s6 th'
      have k3 := a3.g0
      dsimp only [mO] at k3
      have el := evO_le w ws ((dgt g g c).map (whW (whoL ws cnt))) 0 hs
      rw [hLl, Nat.zero_add] at el
      have hcd : cdO (hs, w, ws, cnt, nt) c st = if st.2 < evO w ws ((dgt g g c).map (whW (whoL ws cnt))) 0 hs then ((dgt g g c).map (whW (whoL ws cnt)), (evO w ws ((dgt g g c).map (whW (whoL ws cnt))) 0 hs : Int)) else st := by
        unfold cdO
        dsimp only
        rw [hgm, if_pos q]
        rfl
      rw [hcd]
      generalize hev : evO w ws ((dgt g g c).map (whW (whoL ws cnt))) 0 hs = ev at *
      obtain ⟨ob1, ⟨ob2, ob3, ob4⟩, ob5⟩ := ob
      by_cases q2 : st.2 < (ev : Int)
      · rw [if_pos q2]
        have q3 : ¬ nI ev ≤ mo := fun z => by
          have := Int32.le_iff_toInt_le.mp z
          rw [nI_toInt (by omega), ob2] at this
          omega
        have a4 := a3.s9 (isO wh g g c od)
        have cb := c_copy8 (d + 2) (show (74 : Nat) ≠ 75 by decide) (show (isO wh g g c od).length < 2 ^ 31 by omega) (show bo.length = (isO wh g g c od).length by omega) a3.g8 a3.g9
        obtain ⟨h', th2, od2, bo2, mo2, z1, z2, z3, z4, z5, z6⟩ := ih (c + 1) ((dgt g g c).map (whW (whoL ws cnt)), (ev : Int)) (nI ev) _ _ _ _ (by omega) y1 t3' ⟨t3', ⟨nI_toInt (by omega), by omega, by omega⟩, fun _ => hO⟩ a4
        refine ⟨h', th2, od2, bo2, mo2, fun v4 v5 => ?_, z2, (((Dn.rf.st (by decide)).st (by decide)).st (by decide)).tr z3, z4, z5, z6⟩
        rw [r124_33]
        simp only [r124_34, r124_35, r124_38, r124_39, r124_40, List.length_cons, List.length_nil, Nat.reduceAdd, Nat.reduceLT, if_true, l10, l01, l20, l21, l02, l12, List.append_nil, List.getElem?_cons_zero, List.getElem?_cons_succ, List.set_cons_zero, List.set_cons_succ, not_false_eq_true, not_true_eq_false, false_implies, true_implies, forall_const, Classical.not_not, rc0_at, rcI_at, sOK0, sOK1, sOK2, sOK3, sOK4, true_and, and_true, kil, Option.toList_some, Option.toList_none, List.nil_append, List.cons_append, Option.some.injEq, exists_eq_left', Value.int.injEq, Value.ref.injEq, Value.long.injEq, e, rcV_at g0]
        refine ⟨_, _, ci, ?_⟩
        simp only [r124_43, r124_46, r124_47, r124_50, r124_51, r124_54, List.length_cons, List.length_nil, Nat.reduceAdd, Nat.reduceLT, if_true, l10, l01, l20, l21, l02, l12, List.append_nil, List.getElem?_cons_zero, List.getElem?_cons_succ, List.set_cons_zero, List.set_cons_succ, not_false_eq_true, not_true_eq_false, false_implies, true_implies, forall_const, Classical.not_not, rc0_at, rcI_at, sOK0, sOK1, sOK2, sOK3, sOK4, true_and, and_true, kil, Option.toList_some, Option.toList_none, List.nil_append, List.cons_append, Option.some.injEq, exists_eq_left', Value.int.injEq, Value.ref.injEq, Value.long.injEq, b2i, gf_at k1]
        refine ⟨_, _, c_copy8 (d + 2) (show (68 : Nat) ≠ 72 by decide) (show hs.length < 2 ^ 31 by omega) (show th.length = hs.length by omega) a1.g2 a1.g6, ?_⟩
        simp only [r124_57, r124_58, r124_60, r124_61, List.length_cons, List.length_nil, Nat.reduceAdd, Nat.reduceLT, if_true, l10, l01, l20, l21, l02, l12, List.append_nil, List.getElem?_cons_zero, List.getElem?_cons_succ, List.set_cons_zero, List.set_cons_succ, not_false_eq_true, not_true_eq_false, false_implies, true_implies, forall_const, Classical.not_not, rc0_at, rcI_at, sOK0, sOK1, sOK2, sOK3, sOK4, true_and, and_true, kil, Option.toList_some, Option.toList_none, List.nil_append, List.cons_append, Option.some.injEq, exists_eq_left', Value.int.injEq, Value.ref.injEq, Value.long.injEq]
        refine y2 _ _ ?_
        simp only [r124_117, r124_119, r124_120, r124_123, r124_125, r124_126, r124_127, r124_130, r124_131, r124_134, List.length_cons, List.length_nil, Nat.reduceAdd, Nat.reduceLT, if_true, l10, l01, l20, l21, l02, l12, List.append_nil, List.getElem?_cons_zero, List.getElem?_cons_succ, List.set_cons_zero, List.set_cons_succ, not_false_eq_true, not_true_eq_false, false_implies, true_implies, forall_const, Classical.not_not, rc0_at, rcI_at, sOK0, sOK1, sOK2, sOK3, sOK4, true_and, and_true, kil, Option.toList_some, Option.toList_none, List.nil_append, List.cons_append, Option.some.injEq, exists_eq_left', Value.int.injEq, Value.ref.injEq, Value.long.injEq, q3, gf_at k3]
        refine ⟨_, _, cb, ?_⟩
        simp only [r124_137, r124_140, List.length_cons, List.length_nil, Nat.reduceAdd, Nat.reduceLT, if_true, l10, l01, l20, l21, l02, l12, List.append_nil, List.getElem?_cons_zero, List.getElem?_cons_succ, List.set_cons_zero, List.set_cons_succ, not_false_eq_true, not_true_eq_false, false_implies, true_implies, forall_const, Classical.not_not, rc0_at, rcI_at, sOK0, sOK1, sOK2, sOK3, sOK4, true_and, and_true, kil, Option.toList_some, Option.toList_none, List.nil_append, List.cons_append, Option.some.injEq, exists_eq_left', Value.int.injEq, Value.ref.injEq, Value.long.injEq, nI_1]
        exact z1 _ _
      · rw [if_neg q2]
        have q3 : nI ev ≤ mo := by
          rw [Int32.le_iff_toInt_le, nI_toInt (by omega), ob2]
          omega
        obtain ⟨h', th2, od2, bo2, mo2, z1, z2, z3, z4, z5, z6⟩ := ih (c + 1) st mo _ _ _ _ (by omega) y1 t3' ⟨ob1, ⟨ob2, ob3, ob4⟩, ob5⟩ a3
        refine ⟨h', th2, od2, bo2, mo2, fun v4 v5 => ?_, z2, ((Dn.rf.st (by decide)).st (by decide)).tr z3, z4, z5, z6⟩
        rw [r124_33]
        simp only [r124_34, r124_35, r124_38, r124_39, r124_40, List.length_cons, List.length_nil, Nat.reduceAdd, Nat.reduceLT, if_true, l10, l01, l20, l21, l02, l12, List.append_nil, List.getElem?_cons_zero, List.getElem?_cons_succ, List.set_cons_zero, List.set_cons_succ, not_false_eq_true, not_true_eq_false, false_implies, true_implies, forall_const, Classical.not_not, rc0_at, rcI_at, sOK0, sOK1, sOK2, sOK3, sOK4, true_and, and_true, kil, Option.toList_some, Option.toList_none, List.nil_append, List.cons_append, Option.some.injEq, exists_eq_left', Value.int.injEq, Value.ref.injEq, Value.long.injEq, e, rcV_at g0]
        refine ⟨_, _, ci, ?_⟩
        simp only [r124_43, r124_46, r124_47, r124_50, r124_51, r124_54, List.length_cons, List.length_nil, Nat.reduceAdd, Nat.reduceLT, if_true, l10, l01, l20, l21, l02, l12, List.append_nil, List.getElem?_cons_zero, List.getElem?_cons_succ, List.set_cons_zero, List.set_cons_succ, not_false_eq_true, not_true_eq_false, false_implies, true_implies, forall_const, Classical.not_not, rc0_at, rcI_at, sOK0, sOK1, sOK2, sOK3, sOK4, true_and, and_true, kil, Option.toList_some, Option.toList_none, List.nil_append, List.cons_append, Option.some.injEq, exists_eq_left', Value.int.injEq, Value.ref.injEq, Value.long.injEq, b2i, gf_at k1]
        refine ⟨_, _, c_copy8 (d + 2) (show (68 : Nat) ≠ 72 by decide) (show hs.length < 2 ^ 31 by omega) (show th.length = hs.length by omega) a1.g2 a1.g6, ?_⟩
        simp only [r124_57, r124_58, r124_60, r124_61, List.length_cons, List.length_nil, Nat.reduceAdd, Nat.reduceLT, if_true, l10, l01, l20, l21, l02, l12, List.append_nil, List.getElem?_cons_zero, List.getElem?_cons_succ, List.set_cons_zero, List.set_cons_succ, not_false_eq_true, not_true_eq_false, false_implies, true_implies, forall_const, Classical.not_not, rc0_at, rcI_at, sOK0, sOK1, sOK2, sOK3, sOK4, true_and, and_true, kil, Option.toList_some, Option.toList_none, List.nil_append, List.cons_append, Option.some.injEq, exists_eq_left', Value.int.injEq, Value.ref.injEq, Value.long.injEq]
        refine y2 _ _ ?_
        simp only [r124_117, r124_119, r124_120, r124_137, r124_140, List.length_cons, List.length_nil, Nat.reduceAdd, Nat.reduceLT, if_true, l10, l01, l20, l21, l02, l12, List.append_nil, List.getElem?_cons_zero, List.getElem?_cons_succ, List.set_cons_zero, List.set_cons_succ, not_false_eq_true, not_true_eq_false, false_implies, true_implies, forall_const, Classical.not_not, rc0_at, rcI_at, sOK0, sOK1, sOK2, sOK3, sOK4, true_and, and_true, kil, Option.toList_some, Option.toList_none, List.nil_append, List.cons_append, Option.some.injEq, exists_eq_left', Value.int.injEq, Value.ref.injEq, Value.long.injEq, q3, nI_1]
        exact z1 _ _
    · rw [decide_eq_false q] at ci
      have hcd : cdO (hs, w, ws, cnt, nt) c st = st := by
        unfold cdO
        dsimp only
        rw [hgm, if_neg q]
      rw [hcd]
      obtain ⟨h', th2, od2, bo2, mo2, z1, z2, z3, z4, z5, z6⟩ := ih (c + 1) st mo _ _ _ _ (by omega) t1 t3' ob a1
      refine ⟨h', th2, od2, bo2, mo2, fun v4 v5 => ?_, z2, (Dn.rf.st (by decide)).tr z3, z4, z5, z6⟩
      rw [r124_33]
      simp only [r124_34, r124_35, r124_38, r124_39, r124_40, List.length_cons, List.length_nil, Nat.reduceAdd, Nat.reduceLT, if_true, l10, l01, l20, l21, l02, l12, List.append_nil, List.getElem?_cons_zero, List.getElem?_cons_succ, List.set_cons_zero, List.set_cons_succ, not_false_eq_true, not_true_eq_false, false_implies, true_implies, forall_const, Classical.not_not, rc0_at, rcI_at, sOK0, sOK1, sOK2, sOK3, sOK4, true_and, and_true, kil, Option.toList_some, Option.toList_none, List.nil_append, List.cons_append, Option.some.injEq, exists_eq_left', Value.int.injEq, Value.ref.injEq, Value.long.injEq, e, rcV_at g0]
      refine ⟨_, _, ci, ?_⟩
      simp only [r124_43, r124_137, r124_140, List.length_cons, List.length_nil, Nat.reduceAdd, Nat.reduceLT, if_true, l10, l01, l20, l21, l02, l12, List.append_nil, List.getElem?_cons_zero, List.getElem?_cons_succ, List.set_cons_zero, List.set_cons_succ, not_false_eq_true, not_true_eq_false, false_implies, true_implies, forall_const, Classical.not_not, rc0_at, rcI_at, sOK0, sOK1, sOK2, sOK3, sOK4, true_and, and_true, kil, Option.toList_some, Option.toList_none, List.nil_append, List.cons_append, Option.some.injEq, exists_eq_left', Value.int.injEq, Value.ref.injEq, Value.long.injEq, b2i, Bool.false_eq_true, if_false, nI_1]
      exact z1 _ _
end M66
