section M67
variable {h : pH} {n : Nat} {hd w : Bool} {nt : Int32} {tr : Nat} {hb : Bool} {cnt : Nat} {wm sn kd : Int32} {kw : Bool} {kn : Int32} {kc : Nat} {hh : Int64} {cs hs bf rs ms th wh od bo khs krs kms : List Int32}
theorem lo_codes (d g : Nat) (a : Mh h (mcs (mO n hd w nt tr hb cnt wm sn kd kw kn kc hh) cs hs bf rs ms th wh od bo khs krs kms)) (hg4 : g ≤ 4) (hw : wm = nI g) (v3 v4 v5 : Option Value) (r : Option Value) (h' : pH) (hk : X 124 d r h' 29 [some (.ref 66), some (.int (nI (g ^ g))), some (.int (nI g)), v3, v4, v5] [] h) : ∀ (j i : Nat), i + j = g → X 124 d r h' 8 [some (.ref 66), some (.int (nI (g ^ i))), some (.int (nI i)), v3, v4, v5] [] h := by
  have g0 := a.g0
  dsimp only [mO] at g0
  rw [hw] at g0
  intro j
  induction j with
  | zero =>
    intro i hi
    have : i = g := by omega
    subst this
    rw [r124_8]
    simp only [r124_9, r124_10, r124_13, List.length_cons, List.length_nil, Nat.reduceAdd, Nat.reduceLT, if_true, l10, l01, l20, l21, l02, l12, List.append_nil, List.getElem?_cons_zero, List.getElem?_cons_succ, List.set_cons_zero, List.set_cons_succ, not_false_eq_true, not_true_eq_false, false_implies, true_implies, forall_const, Classical.not_not, rc0_at, rcI_at, sOK0, sOK1, sOK2, sOK3, sOK4, true_and, and_true, kil, Option.toList_some, Option.toList_none, List.nil_append, List.cons_append, Option.some.injEq, exists_eq_left', Value.int.injEq, Value.ref.injEq, Value.long.injEq, gf_at g0, Int32.le_refl]
    exact hk
  | succ j ih =>
    intro i hi
    have e : (nI g ≤ nI i) = False := eq_false (nI_ge (by omega) (by omega))
    have e1 : nI (g ^ i) * nI g = nI (g ^ (i + 1)) := by rw [pk_mul, Nat.pow_succ]
    rw [r124_8]
    simp only [r124_9, r124_10, r124_13, r124_16, r124_17, r124_18, r124_21, r124_22, r124_23, r124_26, List.length_cons, List.length_nil, Nat.reduceAdd, Nat.reduceLT, if_true, l10, l01, l20, l21, l02, l12, List.append_nil, List.getElem?_cons_zero, List.getElem?_cons_succ, List.set_cons_zero, List.set_cons_succ, not_false_eq_true, not_true_eq_false, false_implies, true_implies, forall_const, Classical.not_not, rc0_at, rcI_at, sOK0, sOK1, sOK2, sOK3, sOK4, true_and, and_true, kil, Option.toList_some, Option.toList_none, List.nil_append, List.cons_append, Option.some.injEq, exists_eq_left', Value.int.injEq, Value.ref.injEq, Value.long.injEq, gf_at g0, e, e1, nI_1]
    exact ih (i + 1) (by omega)
theorem c_layOrder (d : Nat) {ws : Nat → wkr} (a : Mh h (mcs (mO n hd w nt tr hb cnt wm sn kd kw kn kc hh) cs hs bf rs ms th wh od bo khs krs kms)) (b1 : Rw rs ws) (b2 : Mp ms ws) (l3 : hs.length = 8) (hp : ∀ i, i < 4 → wok (ws i)) (hc4 : cnt ≤ 4) (t1 : th.length = 8) (t2 : wh.length = 4) (t3 : od.length = 4) (t4 : bo.length = 4) : ∃ h' th' wh' od' bo' mo', Cl (d + 4) 124 [.ref 66] h (some (.int mo')) h' ∧ Mh h' (mcs (mO n hd w nt tr hb cnt (nI (mps ws cnt)) sn kd kw kn kc hh) cs hs bf rs ms th' wh' od' bo' khs krs kms) ∧ Dn h h' ∧ th'.length = 8 ∧ wh'.length = 4 ∧ od'.length = 4 ∧ okB (mps ws cnt) (ordS (hs, w, ws, cnt, nt)) mo' bo' := by
  have g0 := a.g0
  dsimp only [mO] at g0
  obtain ⟨h1, wm', wh', x1, x2, x3, x4⟩ := c_layWho (d + 1) a b2 t2 hc4 hp
  have hm : wm' = nI (mps ws cnt) := by rw [x4.1, whoL_len]
  obtain ⟨h', th2, od2, bo2, mo2, z1, z2, z3, z4, z5, z6⟩ := lo_layOrder d (mps ws cnt) b1 b2 l3 hp hc4 rfl x4 (mps ws cnt ^ mps ws cnt) 0 ([], -1) (-1) th od bo h1 (Nat.zero_add _) t1 t3 ⟨t4, ⟨by decide, by decide, by decide⟩, fun z => absurd z (by decide)⟩ x2
  have e := ordS_ref (hs, w, ws, cnt, nt)
  rw [List.range_eq_range'] at e
  dsimp only at e
  rw [← e] at z6
  subst hm
  refine ⟨h', th2, wh', od2, bo2, mo2, Cl_o 6 rfl [some (.ref 66), none, none, none, none, none] rfl rfl ?_, z2, x3.tr z3, z4, x4.2.1, z5, z6⟩
  simp only [r124_0, r124_1, List.length_cons, List.length_nil, Nat.reduceAdd, Nat.reduceLT, if_true, l10, l01, l20, l21, l02, l12, List.append_nil, List.getElem?_cons_zero, List.getElem?_cons_succ, List.set_cons_zero, List.set_cons_succ, not_false_eq_true, not_true_eq_false, false_implies, true_implies, forall_const, Classical.not_not, rc0_at, rcI_at, sOK0, sOK1, sOK2, sOK3, sOK4, true_and, and_true, kil, Option.toList_some, Option.toList_none, List.nil_append, List.cons_append, Option.some.injEq, exists_eq_left', Value.int.injEq, Value.ref.injEq, Value.long.injEq, rcV_at g0]
  refine ⟨_, _, x1, ?_⟩
  simp only [r124_4, r124_5, r124_6, r124_7, List.length_cons, List.length_nil, Nat.reduceAdd, Nat.reduceLT, if_true, l10, l01, l20, l21, l02, l12, List.append_nil, List.getElem?_cons_zero, List.getElem?_cons_succ, List.set_cons_zero, List.set_cons_succ, not_false_eq_true, not_true_eq_false, false_implies, true_implies, forall_const, Classical.not_not, rc0_at, rcI_at, sOK0, sOK1, sOK2, sOK3, sOK4, true_and, and_true, kil, Option.toList_some, Option.toList_none, List.nil_append, List.cons_append, Option.some.injEq, exists_eq_left', Value.int.injEq, Value.ref.injEq, Value.long.injEq]
  refine lo_codes (d + 3) (mps ws cnt) x2 (by have := mps_le ws cnt; omega) rfl _ _ _ _ _ ?_ (mps ws cnt) 0 (Nat.zero_add _)
  simp only [r124_29, r124_30, r124_31, r124_32, List.length_cons, List.length_nil, Nat.reduceAdd, Nat.reduceLT, if_true, l10, l01, l20, l21, l02, l12, List.append_nil, List.getElem?_cons_zero, List.getElem?_cons_succ, List.set_cons_zero, List.set_cons_succ, not_false_eq_true, not_true_eq_false, false_implies, true_implies, forall_const, Classical.not_not, rc0_at, rcI_at, sOK0, sOK1, sOK2, sOK3, sOK4, true_and, and_true, kil, Option.toList_some, Option.toList_none, List.nil_append, List.cons_append, Option.some.injEq, exists_eq_left', Value.int.injEq, Value.ref.injEq, Value.long.injEq]
  exact z1 _ _
theorem c_tellOrder (d : Nat) {ws : Nat → wkr} (what : Int32) (hwt : what = 0 ∨ ∃ t, t < 4 ∧ what - 10 = nI t) (a : Mh h (mcs (mO n hd w nt tr hb cnt wm sn kd kw kn kc hh) cs hs bf rs ms th wh od bo khs krs kms)) (b1 : Rw rs ws) (b2 : Mp ms ws) (l3 : hs.length = 8) (hp : ∀ i, i < 4 → wok (ws i)) (hc4 : cnt ≤ 4) (t1 : th.length = 8) (t2 : wh.length = 4) (t3 : od.length = 4) (t4 : bo.length = 4) : ∃ h' wm' th' wh' od' bo', Cl (d + 5) 125 [.ref 66, .int what] h (some (.int (orv (hs, w, ws, cnt, nt) what))) h' ∧ Mh h' (mcs (mO n hd w nt tr hb cnt wm' sn kd kw kn kc hh) cs hs bf rs ms th' wh' od' bo' khs krs kms) ∧ Dn h h' ∧ th'.length = 8 ∧ wh'.length = 4 ∧ od'.length = 4 ∧ bo'.length = 4 := by
  have g0 := a.g0
  dsimp only [mO] at g0
  obtain ⟨h', th2, wh2, od2, bo2, mo2, z1, z2, z3, z4, z5, z6, z7⟩ := c_layOrder d a b1 b2 l3 hp hc4 t1 t2 t3 t4
  refine ⟨h', _, th2, wh2, od2, bo2, Cl_o 3 rfl [some (.ref 66), some (.int what), none] rfl rfl ?_, z2, z3, z4, z5, z6, z7.1⟩
  have k2 := z2.g0
  dsimp only [mO] at k2
  simp only [r125_0, r125_1, r125_4, r125_5, r125_6, r125_9, r125_10, r125_13, r125_14, r125_16, r125_17, r125_18, r125_21, r125_24, r125_25, r125_28, r125_29, r125_31, r125_32, r125_33, r125_36, r125_37, List.length_cons, List.length_nil, Nat.reduceAdd, Nat.reduceLT, if_true, l10, l01, l20, l21, l02, l12, List.append_nil, List.getElem?_cons_zero, List.getElem?_cons_succ, List.set_cons_zero, List.set_cons_succ, not_false_eq_true, not_true_eq_false, false_implies, true_implies, forall_const, Classical.not_not, rc0_at, rcI_at, sOK0, sOK1, sOK2, sOK3, sOK4, true_and, and_true, kil, Option.toList_some, Option.toList_none, List.nil_append, List.cons_append, Option.some.injEq, exists_eq_left', Value.int.injEq, Value.ref.injEq, Value.long.injEq, rcV_at g0]
  refine ⟨_, _, z1, ?_⟩
  unfold orv
  dsimp only
  by_cases q : what = 0
  · have e : mo2 = Int32.ofInt (ordS (hs, w, ws, cnt, nt)).2 := by rw [← z7.2.1.1, Int32.ofInt_toInt]
    simp only [r125_0, r125_1, r125_4, r125_5, r125_6, r125_9, r125_10, r125_13, r125_14, r125_16, r125_17, r125_18, r125_21, r125_24, r125_25, r125_28, r125_29, r125_31, r125_32, r125_33, r125_36, r125_37, List.length_cons, List.length_nil, Nat.reduceAdd, Nat.reduceLT, if_true, l10, l01, l20, l21, l02, l12, List.append_nil, List.getElem?_cons_zero, List.getElem?_cons_succ, List.set_cons_zero, List.set_cons_succ, not_false_eq_true, not_true_eq_false, false_implies, true_implies, forall_const, Classical.not_not, rc0_at, rcI_at, sOK0, sOK1, sOK2, sOK3, sOK4, true_and, and_true, kil, Option.toList_some, Option.toList_none, List.nil_append, List.cons_append, Option.some.injEq, exists_eq_left', Value.int.injEq, Value.ref.injEq, Value.long.injEq, q, e]
  · obtain ⟨t, ht, et⟩ := hwt.resolve_left q
    have hm := mps_le ws cnt
    rw [et, nI_clamp (by omega)]
    by_cases q2 : t < mps ws cnt
    · have e1 : (nI (mps ws cnt) ≤ nI t) = False := eq_false (nI_ge q2 (by omega))
      have it : ild h' 75 (nI t) = some (nI ((ordS (hs, w, ws, cnt, nt)).1.getD t 0)) := by
        rw [ild_at z2.g9 (by rw [z7.1]; exact ht) (by omega), z7.2.2 (ordS_pos _) t q2]
      simp only [r125_0, r125_1, r125_4, r125_5, r125_6, r125_9, r125_10, r125_13, r125_14, r125_16, r125_17, r125_18, r125_21, r125_24, r125_25, r125_28, r125_29, r125_31, r125_32, r125_33, r125_36, r125_37, List.length_cons, List.length_nil, Nat.reduceAdd, Nat.reduceLT, if_true, l10, l01, l20, l21, l02, l12, List.append_nil, List.getElem?_cons_zero, List.getElem?_cons_succ, List.set_cons_zero, List.set_cons_succ, not_false_eq_true, not_true_eq_false, false_implies, true_implies, forall_const, Classical.not_not, rc0_at, rcI_at, sOK0, sOK1, sOK2, sOK3, sOK4, true_and, and_true, kil, Option.toList_some, Option.toList_none, List.nil_append, List.cons_append, Option.some.injEq, exists_eq_left', Value.int.injEq, Value.ref.injEq, Value.long.injEq, q, et, gf_at k2, e1, it, q2, if_false]
    · have e1 : (nI (mps ws cnt) ≤ nI t) = True := eq_true (nI_le (by omega) (by omega))
      simp only [r125_0, r125_1, r125_4, r125_5, r125_6, r125_9, r125_10, r125_13, r125_14, r125_16, r125_17, r125_18, r125_21, r125_24, r125_25, r125_28, r125_29, r125_31, r125_32, r125_33, r125_36, r125_37, List.length_cons, List.length_nil, Nat.reduceAdd, Nat.reduceLT, if_true, l10, l01, l20, l21, l02, l12, List.append_nil, List.getElem?_cons_zero, List.getElem?_cons_succ, List.set_cons_zero, List.set_cons_succ, not_false_eq_true, not_true_eq_false, false_implies, true_implies, forall_const, Classical.not_not, rc0_at, rcI_at, sOK0, sOK1, sOK2, sOK3, sOK4, true_and, and_true, kil, Option.toList_some, Option.toList_none, List.nil_append, List.cons_append, Option.some.injEq, exists_eq_left', Value.int.injEq, Value.ref.injEq, Value.long.injEq, q, et, gf_at k2, e1, q2, if_false]
end M67
theorem m_order (d : Nat) {h : pH} {s : stT} (x : MS h s) (st : St s) (what : Int32) : ∃ h', Cl (d + 6) 126 [.ref 66, .int what] h (some (.int (q_order s what).2)) h' ∧ MS h' (q_order s what).1 ∧ Dn h h' := by
  obtain ⟨cs, n, ⟨hs, w, ws, cnt, nt⟩, ⟨khs, kw, kws, kc, kn⟩, bf, hd, hm, hb, tr⟩ := s
  have x' := x
  obtain ⟨wm, sn, kd, hh, rs, ms, th, wh, od, bo, krs, kms, a, ⟨b1, b2⟩, ⟨b3, b4⟩, ⟨t1, t2, t3, t4⟩, b5⟩ := x
  dsimp only at a b1 b2 b3 b4 b5
  obtain ⟨l1, l2, ⟨l3, l4, l5⟩, ⟨l6, l7, l8⟩, l9⟩ := st
  dsimp only at l1 l2 l3 l4 l5 l6 l7 l8 l9
  have g0 := a.g0
  dsimp only [mO] at g0
  have e0 : entL 2 [Value.ref 66, .int what] = [some (.ref 66), some (.int what)] := rfl
  have c1 := c_inI (d + 4) h what 10 13 rfl rfl
  unfold q_order
  dsimp only
  have ok : okO what = true ∨ okO what = false := by cases okO what <;> simp
  have run : okO what = true → ∀ (P : Prop), ((what = 0 ∨ ∃ t, t < 4 ∧ what - 10 = nI t) → P) → P := fun o P hP => by
    unfold okO at o
    rcases of_decide_eq_true o with z | ⟨z1, z2⟩
    · exact hP (Or.inl z)
    · exact hP (Or.inr (what_10 z1 z2))
  have pre : ∀ (r : Option Value) (h' : pH), okO what = true → X 126 (d + 5) r h' 21 [some (.ref 66), some (.int what)] [] h → X 126 (d + 5) r h' 0 [some (.ref 66), some (.int what)] [] h := fun r h' o hk => by
    unfold okO at o
    rcases of_decide_eq_true o with z | ⟨z1, z2⟩
    · subst z
      simp only [r126_0, r126_1, List.length_cons, List.length_nil, Nat.reduceAdd, Nat.reduceLT, if_true, l10, l01, l20, l21, l02, l12, List.append_nil, List.getElem?_cons_zero, List.getElem?_cons_succ, List.set_cons_zero, List.set_cons_succ, not_false_eq_true, not_true_eq_false, false_implies, true_implies, forall_const, Classical.not_not, rc0_at, rcI_at, sOK0, sOK1, sOK2, sOK3, sOK4, true_and, and_true, kil, Option.toList_some, Option.toList_none, List.nil_append, List.cons_append, Option.some.injEq, exists_eq_left', Value.int.injEq, Value.ref.injEq, Value.long.injEq]
      exact hk
    · have n0 : ¬ what = 0 := fun z => by subst z; exact absurd z1 (by decide)
      have e13 : what ≤ 13 := by
        rcases what_10 z1 z2 with ⟨t, ht, et⟩
        have : what = nI t + 10 := by rw [← et]; simp
        rw [this]
        match t, ht with
        | 0, _ => decide
        | 1, _ => decide
        | 2, _ => decide
        | 3, _ => decide
      rw [decide_eq_true ⟨z1, e13⟩] at c1
      simp only [r126_0, r126_1, r126_4, r126_5, r126_6, r126_9, r126_12, List.length_cons, List.length_nil, Nat.reduceAdd, Nat.reduceLT, if_true, l10, l01, l20, l21, l02, l12, List.append_nil, List.getElem?_cons_zero, List.getElem?_cons_succ, List.set_cons_zero, List.set_cons_succ, not_false_eq_true, not_true_eq_false, false_implies, true_implies, forall_const, Classical.not_not, rc0_at, rcI_at, sOK0, sOK1, sOK2, sOK3, sOK4, true_and, and_true, kil, Option.toList_some, Option.toList_none, List.nil_append, List.cons_append, Option.some.injEq, exists_eq_left', Value.int.injEq, Value.ref.injEq, Value.long.injEq, n0]
      refine ⟨_, _, c1, ?_⟩
      simp only [r126_15, List.length_cons, List.length_nil, Nat.reduceAdd, Nat.reduceLT, if_true, l10, l01, l20, l21, l02, l12, List.append_nil, List.getElem?_cons_zero, List.getElem?_cons_succ, List.set_cons_zero, List.set_cons_succ, not_false_eq_true, not_true_eq_false, false_implies, true_implies, forall_const, Classical.not_not, rc0_at, rcI_at, sOK0, sOK1, sOK2, sOK3, sOK4, true_and, and_true, kil, Option.toList_some, Option.toList_none, List.nil_append, List.cons_append, Option.some.injEq, exists_eq_left', Value.int.injEq, Value.ref.injEq, Value.long.injEq, b2i]
      exact hk
  cases o : okO what with
  | true =>
    cases hd with
    | false =>
      refine ⟨h, Cl_o 2 rfl _ e0 rfl (pre _ _ o ?_), x', Dn.rf⟩
      simp only [r126_0, r126_1, r126_4, r126_5, r126_6, r126_9, r126_12, r126_15, r126_18, r126_20, r126_21, r126_22, r126_25, r126_28, r126_29, r126_30, r126_33, r126_36, r126_38, List.length_cons, List.length_nil, Nat.reduceAdd, Nat.reduceLT, if_true, l10, l01, l20, l21, l02, l12, List.append_nil, List.getElem?_cons_zero, List.getElem?_cons_succ, List.set_cons_zero, List.set_cons_succ, not_false_eq_true, not_true_eq_false, false_implies, true_implies, forall_const, Classical.not_not, rc0_at, rcI_at, sOK0, sOK1, sOK2, sOK3, sOK4, true_and, and_true, kil, Option.toList_some, Option.toList_none, List.nil_append, List.cons_append, Option.some.injEq, exists_eq_left', Value.int.injEq, Value.ref.injEq, Value.long.injEq, gf_at g0, b2i, Bool.false_eq_true, if_false]
    | true =>
      refine run o _ (fun hwt => ?_)
      obtain ⟨h', wm', th2, wh2, od2, bo2, z1, z2, z3, z4, z5, z6, z7⟩ := c_tellOrder d what hwt a b1 b2 l3 l4 l5 t1 t2 t3 t4
      refine ⟨h', Cl_o 2 rfl _ e0 rfl (pre _ _ o ?_), ⟨wm', sn, kd, hh, rs, ms, th2, wh2, od2, bo2, krs, kms, z2, ⟨b1, b2⟩, ⟨b3, b4⟩, ⟨z4, z5, z6, z7⟩, b5⟩, z3⟩
      simp only [r126_0, r126_1, r126_4, r126_5, r126_6, r126_9, r126_12, r126_15, r126_18, r126_20, r126_21, r126_22, r126_25, r126_28, r126_29, r126_30, r126_33, r126_36, r126_38, List.length_cons, List.length_nil, Nat.reduceAdd, Nat.reduceLT, if_true, l10, l01, l20, l21, l02, l12, List.append_nil, List.getElem?_cons_zero, List.getElem?_cons_succ, List.set_cons_zero, List.set_cons_succ, not_false_eq_true, not_true_eq_false, false_implies, true_implies, forall_const, Classical.not_not, rc0_at, rcI_at, sOK0, sOK1, sOK2, sOK3, sOK4, true_and, and_true, kil, Option.toList_some, Option.toList_none, List.nil_append, List.cons_append, Option.some.injEq, exists_eq_left', Value.int.injEq, Value.ref.injEq, Value.long.injEq, gf_at g0, b2i_0, Bool.true_eq_false, rcV_at g0]
      refine ⟨_, _, z1, ?_⟩
      simp only [r126_0, r126_1, r126_4, r126_5, r126_6, r126_9, r126_12, r126_15, r126_18, r126_20, r126_21, r126_22, r126_25, r126_28, r126_29, r126_30, r126_33, r126_36, r126_38, List.length_cons, List.length_nil, Nat.reduceAdd, Nat.reduceLT, if_true, l10, l01, l20, l21, l02, l12, List.append_nil, List.getElem?_cons_zero, List.getElem?_cons_succ, List.set_cons_zero, List.set_cons_succ, not_false_eq_true, not_true_eq_false, false_implies, true_implies, forall_const, Classical.not_not, rc0_at, rcI_at, sOK0, sOK1, sOK2, sOK3, sOK4, true_and, and_true, kil, Option.toList_some, Option.toList_none, List.nil_append, List.cons_append, Option.some.injEq, exists_eq_left', Value.int.injEq, Value.ref.injEq, Value.long.injEq]
  | false =>
    refine ⟨h, Cl_o 2 rfl _ e0 rfl ?_, x', Dn.rf⟩
    have o2 := of_decide_eq_false o
    have n0 : ¬ what = 0 := fun z => o2 (Or.inl z)
    have n1 : ¬ (10 ≤ what ∧ what ≤ 13) := fun z => o2 (Or.inr ⟨z.1, Int32.lt_of_le_of_lt z.2 (by decide)⟩)
    rw [decide_eq_false n1] at c1
    simp only [r126_0, r126_1, r126_4, r126_5, r126_6, r126_9, r126_12, r126_15, r126_18, r126_20, r126_21, r126_22, r126_25, r126_28, r126_29, r126_30, r126_33, r126_36, r126_38, List.length_cons, List.length_nil, Nat.reduceAdd, Nat.reduceLT, if_true, l10, l01, l20, l21, l02, l12, List.append_nil, List.getElem?_cons_zero, List.getElem?_cons_succ, List.set_cons_zero, List.set_cons_succ, not_false_eq_true, not_true_eq_false, false_implies, true_implies, forall_const, Classical.not_not, rc0_at, rcI_at, sOK0, sOK1, sOK2, sOK3, sOK4, true_and, and_true, kil, Option.toList_some, Option.toList_none, List.nil_append, List.cons_append, Option.some.injEq, exists_eq_left', Value.int.injEq, Value.ref.injEq, Value.long.injEq, n0]
    refine ⟨_, _, c1, ?_⟩
    simp only [r126_0, r126_1, r126_4, r126_5, r126_6, r126_9, r126_12, r126_15, r126_18, r126_20, r126_21, r126_22, r126_25, r126_28, r126_29, r126_30, r126_33, r126_36, r126_38, List.length_cons, List.length_nil, Nat.reduceAdd, Nat.reduceLT, if_true, l10, l01, l20, l21, l02, l12, List.append_nil, List.getElem?_cons_zero, List.getElem?_cons_succ, List.set_cons_zero, List.set_cons_succ, not_false_eq_true, not_true_eq_false, false_implies, true_implies, forall_const, Classical.not_not, rc0_at, rcI_at, sOK0, sOK1, sOK2, sOK3, sOK4, true_and, and_true, kil, Option.toList_some, Option.toList_none, List.nil_append, List.cons_append, Option.some.injEq, exists_eq_left', Value.int.injEq, Value.ref.injEq, Value.long.injEq, b2i, Bool.false_eq_true, if_false]
