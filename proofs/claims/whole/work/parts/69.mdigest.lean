/-! DIGEST of the reference -/
def MSv (h : pH) (s : stT) (hh : Int64) : Prop := ∃ (wm sn kd : Int32) (rs ms th wh od bo krs kms : List Int32), Mh h (mcs (mO s.2.1 s.2.2.2.2.2.1 s.2.2.1.2.1 s.2.2.1.2.2.2.2 s.2.2.2.2.2.2.2.2 s.2.2.2.2.2.2.2.1 s.2.2.1.2.2.2.1 wm sn kd s.2.2.2.1.2.1 s.2.2.2.1.2.2.2.2 s.2.2.2.1.2.2.2.1 hh) s.1 s.2.2.1.1 s.2.2.2.2.1 rs ms th wh od bo s.2.2.2.1.1 krs kms) ∧ (Rw rs s.2.2.1.2.2.1 ∧ Mp ms s.2.2.1.2.2.1) ∧ (Rw krs s.2.2.2.1.2.2.1 ∧ Mp kms s.2.2.2.1.2.2.1) ∧ (th.length = 8 ∧ wh.length = 4 ∧ od.length = 4 ∧ bo.length = 4) ∧ kdO kd s.2.2.2.2.2.2.2.2 s.2.2.2.2.2.2.1
theorem MS.v {h : pH} {s : stT} (x : MS h s) : ∃ v, MSv h s v := by
  obtain ⟨wm, sn, kd, hh, rs, ms, th, wh, od, bo, krs, kms, a⟩ := x
  exact ⟨hh, wm, sn, kd, rs, ms, th, wh, od, bo, krs, kms, a⟩
theorem MSv.m {h : pH} {s : stT} {v : Int64} (x : MSv h s v) : MS h s := by
  obtain ⟨wm, sn, kd, rs, ms, th, wh, od, bo, krs, kms, a⟩ := x
  exact ⟨wm, sn, kd, v, rs, ms, th, wh, od, bo, krs, kms, a⟩
theorem MSv.rc {h : pH} {s : stT} {v : Int64} (x : MSv h s v) (as : List Value) : rcV 8 h (.ref 66 :: as) = True := by
  obtain ⟨wm, sn, kd, rs, ms, th, wh, od, bo, krs, kms, a, -⟩ := x
  exact rcV_at a.g0
theorem MSv.f {h : pH} {s : stT} {v : Int64} (x : MSv h s v) : gf h 66 8 0 = some (.ref 67) ∧ gf h 66 8 1 = some (.int (nI s.2.1)) ∧ gf h 66 8 2 = some (.int (b2i s.2.2.2.2.2.1)) ∧ gf h 66 8 7 = some (.int (b2i s.2.2.2.2.2.2.2.1)) ∧ gf h 66 8 9 = some (.int (nI s.2.2.1.2.2.2.1)) ∧ gf h 66 8 25 = some (.long v) ∧ h[67]? = some (.inl s.1) := by
  obtain ⟨wm, sn, kd, rs, ms, th, wh, od, bo, krs, kms, a, -⟩ := x
  exact ⟨gf_at a.g0, gf_at a.g0, gf_at a.g0, gf_at a.g0, gf_at a.g0, gf_at a.g0, a.g1⟩
theorem v_say (d : Nat) {h : pH} {s : stT} {v : Int64} (x : MSv h s v) (u : Int32) : ∃ h', Cl (d + 1) 141 [.ref 66, .long u.toInt64] h none h' ∧ MSv h' s (dgs v u) ∧ Dn h h' := by
  obtain ⟨wm, sn, kd, rs, ms, th, wh, od, bo, krs, kms, a, b⟩ := x
  exact ⟨_, c_say d u.toInt64 a, ⟨wm, sn, kd, rs, ms, th, wh, od, bo, krs, kms, a.s0 _, b⟩, Dn.rf.st (by decide)⟩
theorem v_tellCell (d c : Nat) {h : pH} {s : stT} {v : Int64} (x : MSv h s v) (st : St s) (hc : c < 8) (what : Int32) : Cl (d + 2) 100 [.ref 66, .int (nI c), .int what] h (some (.int (cel s.2.2.1 c what))) h := by
  obtain ⟨cs, n, ⟨hs, w, ws, cnt, nt⟩, ⟨khs, kw, kws, kc, kn⟩, bf, hd, hm, hb, tr⟩ := s
  obtain ⟨wm, sn, kd, rs, ms, th, wh, od, bo, krs, kms, a, ⟨b1, b2⟩, -⟩ := x
  exact c_tellCell d c a b1 st.2.2.1.1 st.2.2.1.2.2 hc st.2.2.1.2.1 what
theorem v_tell (d i : Nat) {h : pH} {s : stT} {v : Int64} (x : MSv h s v) (st : St s) (hi : i < 4) (what : Int32) : Cl (d + 3) 114 [.ref 66, .int (nI i), .int what] h (some (.int (abt s.2.2.1 i what))) h := by
  obtain ⟨cs, n, ⟨hs, w, ws, cnt, nt⟩, ⟨khs, kw, kws, kc, kn⟩, bf, hd, hm, hb, tr⟩ := s
  obtain ⟨wm, sn, kd, rs, ms, th, wh, od, bo, krs, kms, a, ⟨b1, b2⟩, -⟩ := x
  exact c_tell d i a b1 b2 st.2.2.1.1 hi (st.2.2.1.2.1 i hi) what
theorem v_countOf (d : Nat) {h : pH} {s : stT} {v : Int64} (x : MSv h s v) (st : St s) (what : Int32) : Cl (d + 5) 139 [.ref 66, .int what] h (some (.int (cou s what))) h := by
  obtain ⟨cs, n, ⟨hs, w, ws, cnt, nt⟩, ⟨khs, kw, kws, kc, kn⟩, bf, hd, hm, hb, tr⟩ := s
  obtain ⟨wm, sn, kd, rs, ms, th, wh, od, bo, krs, kms, a, ⟨b1, b2⟩, -⟩ := x
  exact c_countOf d what a b1 b2 st.2.2.1.1 st.2.2.1.2.2 st.2.2.1.2.1
theorem v_whoOf (d : Nat) {h : pH} {s : stT} {v : Int64} (x : MSv h s v) (st : St s) (what : Int32) : ∃ h', Cl (d + 3) 132 [.ref 66, .int what] h (some (.int (if what = 0 then (whoS s.2.2.1.2.1 s.2.2.2.2.1 s.2.2.1.1).1 else (whoS s.2.2.1.2.1 s.2.2.2.2.1 s.2.2.1.1).2))) h' ∧ MSv h' s v ∧ Dn h h' := by
  obtain ⟨cs, n, ⟨hs, w, ws, cnt, nt⟩, ⟨khs, kw, kws, kc, kn⟩, bf, hd, hm, hb, tr⟩ := s
  obtain ⟨wm, sn, kd, rs, ms, th, wh, od, bo, krs, kms, a, b, c, ⟨t1, t2, t3, t4⟩, e⟩ := x
  obtain ⟨th', y1, y2⟩ := c_whoOf d what a st.2.2.1.1 st.2.2.2.2 t1
  exact ⟨_, y2, ⟨wm, sn, kd, rs, ms, th', wh, od, bo, krs, kms, a.s6 _, b, c, ⟨y1, t2, t3, t4⟩, e⟩, Dn.rf.st (by decide)⟩
theorem v_tellOrder (d : Nat) {h : pH} {s : stT} {v : Int64} (x : MSv h s v) (st : St s) (what : Int32) (hwt : what = 0 ∨ ∃ t, t < 4 ∧ what - 10 = nI t) : ∃ h', Cl (d + 5) 125 [.ref 66, .int what] h (some (.int (orv s.2.2.1 what))) h' ∧ MSv h' s v ∧ Dn h h' := by
  obtain ⟨cs, n, ⟨hs, w, ws, cnt, nt⟩, ⟨khs, kw, kws, kc, kn⟩, bf, hd, hm, hb, tr⟩ := s
  obtain ⟨wm, sn, kd, rs, ms, th, wh, od, bo, krs, kms, a, ⟨b1, b2⟩, c, ⟨t1, t2, t3, t4⟩, e⟩ := x
  obtain ⟨h', wm', th2, wh2, od2, bo2, z1, z2, z3, z4, z5, z6, z7⟩ := c_tellOrder d what hwt a b1 b2 st.2.2.1.1 st.2.2.1.2.1 st.2.2.1.2.2 t1 t2 t3 t4
  exact ⟨h', z1, ⟨wm', sn, kd, rs, ms, th2, wh2, od2, bo2, krs, kms, z2, ⟨b1, b2⟩, c, ⟨z4, z5, z6, z7⟩, e⟩, z3⟩
theorem ge3f {i : Nat} (h : i < 3) : ((3 : Int32) ≤ nI i) = False := eq_false (nI_ge (a := i) (b := 3) h (by decide))
theorem ge3t : ((3 : Int32) ≤ nI 3) = True := eq_true (by decide)
theorem ge11f {i : Nat} (h : i < 11) : ((11 : Int32) ≤ nI i) = False := eq_false (nI_ge (a := i) (b := 11) h (by decide))
theorem ge11t : ((11 : Int32) ≤ nI 11) = True := eq_true (by decide)
theorem ge14f {i : Nat} (h : i < 14) : ((14 : Int32) ≤ nI i) = False := eq_false (nI_ge (a := i) (b := 14) h (by decide))
theorem ge14t : ((14 : Int32) ≤ nI 14) = True := eq_true (by decide)
theorem lo_sdI (d c : Nat) (hc : c < 8) {s : stT} (st : St s) : ∀ (j i : Nat) (v : Int64) (h : pH), i + j = 3 → MSv h s v → ∃ h', MSv h' s (fInn (fun i => cel s.2.2.1 c (nI i)) j i v) ∧ Dn h h' ∧ ∀ r hF, X 142 (d + 2) r hF 32 [some (.ref 66), some (.int (nI c)), some (.int (nI 3))] [] h' → X 142 (d + 2) r hF 10 [some (.ref 66), some (.int (nI c)), some (.int (nI i))] [] h := by
  intro j
  induction j with
  | zero =>
    intro i v h hi x
    have : i = 3 := by omega
    subst this
    refine ⟨h, x, Dn.rf, fun r hF hk => ?_⟩
    rw [r142_10]
    simp only [r142_11, r142_12, List.length_cons, List.length_nil, Nat.reduceAdd, Nat.reduceLT, if_true, l10, l01, l20, l21, l02, l12, List.append_nil, List.getElem?_cons_zero, List.getElem?_cons_succ, List.set_cons_zero, List.set_cons_succ, not_false_eq_true, not_true_eq_false, false_implies, true_implies, forall_const, Classical.not_not, rc0_at, rcI_at, sOK0, sOK1, sOK2, sOK3, sOK4, true_and, and_true, kil, Option.toList_some, Option.toList_none, List.nil_append, List.cons_append, Option.some.injEq, exists_eq_left', Value.int.injEq, Value.ref.injEq, Value.long.injEq, ge3t]
    exact hk
  | succ j ih =>
    intro i v h hi x
    obtain ⟨h1, y1, y2, y3⟩ := v_say (d + 1) x (cel s.2.2.1 c (nI i))
    obtain ⟨h2, z1, z2, z3⟩ := ih (i + 1) _ h1 (by omega) y2
    rw [fInn_s]
    refine ⟨h2, z1, y3.tr z2, fun r hF hk => ?_⟩
    have hk2 := z3 r hF hk
    rw [r142_10]
    simp only [r142_11, r142_12, r142_15, r142_16, r142_17, r142_18, r142_19, List.length_cons, List.length_nil, Nat.reduceAdd, Nat.reduceLT, if_true, l10, l01, l20, l21, l02, l12, List.append_nil, List.getElem?_cons_zero, List.getElem?_cons_succ, List.set_cons_zero, List.set_cons_succ, not_false_eq_true, not_true_eq_false, false_implies, true_implies, forall_const, Classical.not_not, rc0_at, rcI_at, sOK0, sOK1, sOK2, sOK3, sOK4, true_and, and_true, kil, Option.toList_some, Option.toList_none, List.nil_append, List.cons_append, Option.some.injEq, exists_eq_left', Value.int.injEq, Value.ref.injEq, Value.long.injEq, ge3f (show i < 3 by omega), x.rc]
    refine ⟨_, _, v_tellCell d c x st hc (nI i), ?_⟩
    simp only [r142_22, r142_23, List.length_cons, List.length_nil, Nat.reduceAdd, Nat.reduceLT, if_true, l10, l01, l20, l21, l02, l12, List.append_nil, List.getElem?_cons_zero, List.getElem?_cons_succ, List.set_cons_zero, List.set_cons_succ, not_false_eq_true, not_true_eq_false, false_implies, true_implies, forall_const, Classical.not_not, rc0_at, rcI_at, sOK0, sOK1, sOK2, sOK3, sOK4, true_and, and_true, kil, Option.toList_some, Option.toList_none, List.nil_append, List.cons_append, Option.some.injEq, exists_eq_left', Value.int.injEq, Value.ref.injEq, Value.long.injEq, x.rc]
    refine ⟨_, _, y1, ?_⟩
    simp only [r142_26, r142_29, List.length_cons, List.length_nil, Nat.reduceAdd, Nat.reduceLT, if_true, l10, l01, l20, l21, l02, l12, List.append_nil, List.getElem?_cons_zero, List.getElem?_cons_succ, List.set_cons_zero, List.set_cons_succ, not_false_eq_true, not_true_eq_false, false_implies, true_implies, forall_const, Classical.not_not, rc0_at, rcI_at, sOK0, sOK1, sOK2, sOK3, sOK4, true_and, and_true, kil, Option.toList_some, Option.toList_none, List.nil_append, List.cons_append, Option.some.injEq, exists_eq_left', Value.int.injEq, Value.ref.injEq, Value.long.injEq, nI_1]
    exact hk2
theorem lo_sdO (d : Nat) {s : stT} (st : St s) : ∀ (j c : Nat) (v : Int64) (h : pH), c + j = 8 → MSv h s v → ∃ h', MSv h' s (fCel s.2.2.1 j c v) ∧ Dn h h' ∧ ∀ r hF, (∀ v2, X 142 (d + 2) r hF 38 [some (.ref 66), some (.int (nI 8)), v2] [] h') → ∀ v2, X 142 (d + 2) r hF 2 [some (.ref 66), some (.int (nI c)), v2] [] h := by
  intro j
  induction j with
  | zero =>
    intro c v h hc x
    have : c = 8 := by omega
    subst this
    refine ⟨h, x, Dn.rf, fun r hF hk v2 => ?_⟩
    rw [r142_2]
    simp only [r142_3, r142_5, List.length_cons, List.length_nil, Nat.reduceAdd, Nat.reduceLT, if_true, l10, l01, l20, l21, l02, l12, List.append_nil, List.getElem?_cons_zero, List.getElem?_cons_succ, List.set_cons_zero, List.set_cons_succ, not_false_eq_true, not_true_eq_false, false_implies, true_implies, forall_const, Classical.not_not, rc0_at, rcI_at, sOK0, sOK1, sOK2, sOK3, sOK4, true_and, and_true, kil, Option.toList_some, Option.toList_none, List.nil_append, List.cons_append, Option.some.injEq, exists_eq_left', Value.int.injEq, Value.ref.injEq, Value.long.injEq, ge8t]
    exact hk v2
  | succ j ih =>
    intro c v h hc x
    obtain ⟨h1, y1, y2, y3⟩ := lo_sdI d c (by omega) st 3 0 v h rfl x
    obtain ⟨h2, z1, z2, z3⟩ := ih (c + 1) _ h1 (by omega) y1
    rw [fCel_s]
    refine ⟨h2, z1, y2.tr z2, fun r hF hk v2 => ?_⟩
    rw [r142_2]
    simp only [r142_3, r142_5, r142_8, r142_9, List.length_cons, List.length_nil, Nat.reduceAdd, Nat.reduceLT, if_true, l10, l01, l20, l21, l02, l12, List.append_nil, List.getElem?_cons_zero, List.getElem?_cons_succ, List.set_cons_zero, List.set_cons_succ, not_false_eq_true, not_true_eq_false, false_implies, true_implies, forall_const, Classical.not_not, rc0_at, rcI_at, sOK0, sOK1, sOK2, sOK3, sOK4, true_and, and_true, kil, Option.toList_some, Option.toList_none, List.nil_append, List.cons_append, Option.some.injEq, exists_eq_left', Value.int.injEq, Value.ref.injEq, Value.long.injEq, ge8f (show c < 8 by omega)]
    refine y3 r hF ?_
    simp only [r142_32, r142_35, List.length_cons, List.length_nil, Nat.reduceAdd, Nat.reduceLT, if_true, l10, l01, l20, l21, l02, l12, List.append_nil, List.getElem?_cons_zero, List.getElem?_cons_succ, List.set_cons_zero, List.set_cons_succ, not_false_eq_true, not_true_eq_false, false_implies, true_implies, forall_const, Classical.not_not, rc0_at, rcI_at, sOK0, sOK1, sOK2, sOK3, sOK4, true_and, and_true, kil, Option.toList_some, Option.toList_none, List.nil_append, List.cons_append, Option.some.injEq, exists_eq_left', Value.int.injEq, Value.ref.injEq, Value.long.injEq, nI_1]
    exact z3 r hF hk _
theorem orv_10 (A : landT) {t : Nat} (ht : t < 4) : orv A (nI (10 + t)) = gor A t := by
  unfold orv gor
  have e : ∀ t, t < 4 → ¬ nI (10 + t) = 0 ∧ nI (10 + t) - 10 = nI t := by decide
  rw [if_neg (e t ht).1, (e t ht).2, nI_clamp (by omega)]
  by_cases q : t < mps A.2.2.1 A.2.2.2.1
  · rw [if_pos q, if_neg (by omega)]
  · rw [if_neg q, if_pos (by omega)]
theorem lo_sdT (d : Nat) {s : stT} (st : St s) : ∀ (j t : Nat) (v : Int64) (h : pH), t + j = 4 → MSv h s v → ∃ h', MSv h' s (fInn (gor s.2.2.1) j t v) ∧ Dn h h' ∧ ∀ v2, X 142 (d + 5) none h' 51 [some (.ref 66), some (.int (nI (10 + t))), v2] [] h := by
  intro j
  induction j with
  | zero =>
    intro t v h ht x
    have : t = 4 := by omega
    subst this
    refine ⟨h, x, Dn.rf, fun v2 => ?_⟩
    rw [r142_51]; simp only [r142_0, r142_1, r142_3, r142_5, r142_8, r142_9, r142_11, r142_12, r142_15, r142_16, r142_17, r142_18, r142_19, r142_22, r142_23, r142_26, r142_29, r142_32, r142_35, r142_38, r142_39, r142_40, r142_41, r142_44, r142_45, r142_48, r142_50, r142_52, r142_54, r142_57, r142_58, r142_59, r142_60, r142_63, r142_64, r142_67, r142_70, r142_73, List.length_cons, List.length_nil, Nat.reduceAdd, Nat.reduceLT, if_true, l10, l01, l20, l21, l02, l12, List.append_nil, List.getElem?_cons_zero, List.getElem?_cons_succ, List.set_cons_zero, List.set_cons_succ, not_false_eq_true, not_true_eq_false, false_implies, true_implies, forall_const, Classical.not_not, rc0_at, rcI_at, sOK0, sOK1, sOK2, sOK3, sOK4, true_and, and_true, kil, Option.toList_some, Option.toList_none, List.nil_append, List.cons_append, Option.some.injEq, exists_eq_left', Value.int.injEq, Value.ref.injEq, Value.long.injEq, ge14t]
  | succ j ih =>
    intro t v h ht x
    have e10 : ∀ t, t < 4 → nI (10 + t) - 10 = nI t := by decide
    obtain ⟨h0, w1, w2, w3⟩ := v_tellOrder d x st (nI (10 + t)) (Or.inr ⟨t, by omega, e10 t (by omega)⟩)
    rw [orv_10 _ (by omega)] at w1
    obtain ⟨h1, y1, y2, y3⟩ := v_say (d + 4) w2 (gor s.2.2.1 t)
    obtain ⟨h2, z1, z2, z3⟩ := ih (t + 1) _ h1 (by omega) y2
    rw [fInn_s]
    refine ⟨h2, z1, (w3.tr y3).tr z2, fun v2 => ?_⟩
    rw [r142_51]; simp only [r142_0, r142_1, r142_3, r142_5, r142_8, r142_9, r142_11, r142_12, r142_15, r142_16, r142_17, r142_18, r142_19, r142_22, r142_23, r142_26, r142_29, r142_32, r142_35, r142_38, r142_39, r142_40, r142_41, r142_44, r142_45, r142_48, r142_50, r142_52, r142_54, r142_57, r142_58, r142_59, r142_60, r142_63, r142_64, r142_67, r142_70, r142_73, List.length_cons, List.length_nil, Nat.reduceAdd, Nat.reduceLT, if_true, l10, l01, l20, l21, l02, l12, List.append_nil, List.getElem?_cons_zero, List.getElem?_cons_succ, List.set_cons_zero, List.set_cons_succ, not_false_eq_true, not_true_eq_false, false_implies, true_implies, forall_const, Classical.not_not, rc0_at, rcI_at, sOK0, sOK1, sOK2, sOK3, sOK4, true_and, and_true, kil, Option.toList_some, Option.toList_none, List.nil_append, List.cons_append, Option.some.injEq, exists_eq_left', Value.int.injEq, Value.ref.injEq, Value.long.injEq, ge14f (show 10 + t < 14 by omega), x.rc]
    refine ⟨_, _, w1, ?_⟩
    simp only [r142_0, r142_1, r142_3, r142_5, r142_8, r142_9, r142_11, r142_12, r142_15, r142_16, r142_17, r142_18, r142_19, r142_22, r142_23, r142_26, r142_29, r142_32, r142_35, r142_38, r142_39, r142_40, r142_41, r142_44, r142_45, r142_48, r142_50, r142_52, r142_54, r142_57, r142_58, r142_59, r142_60, r142_63, r142_64, r142_67, r142_70, r142_73, List.length_cons, List.length_nil, Nat.reduceAdd, Nat.reduceLT, if_true, l10, l01, l20, l21, l02, l12, List.append_nil, List.getElem?_cons_zero, List.getElem?_cons_succ, List.set_cons_zero, List.set_cons_succ, not_false_eq_true, not_true_eq_false, false_implies, true_implies, forall_const, Classical.not_not, rc0_at, rcI_at, sOK0, sOK1, sOK2, sOK3, sOK4, true_and, and_true, kil, Option.toList_some, Option.toList_none, List.nil_append, List.cons_append, Option.some.injEq, exists_eq_left', Value.int.injEq, Value.ref.injEq, Value.long.injEq, w2.rc]
    refine ⟨_, _, y1, ?_⟩
    simp only [r142_0, r142_1, r142_3, r142_5, r142_8, r142_9, r142_11, r142_12, r142_15, r142_16, r142_17, r142_18, r142_19, r142_22, r142_23, r142_26, r142_29, r142_32, r142_35, r142_38, r142_39, r142_40, r142_41, r142_44, r142_45, r142_48, r142_50, r142_52, r142_54, r142_57, r142_58, r142_59, r142_60, r142_63, r142_64, r142_67, r142_70, r142_73, List.length_cons, List.length_nil, Nat.reduceAdd, Nat.reduceLT, if_true, l10, l01, l20, l21, l02, l12, List.append_nil, List.getElem?_cons_zero, List.getElem?_cons_succ, List.set_cons_zero, List.set_cons_succ, not_false_eq_true, not_true_eq_false, false_implies, true_implies, forall_const, Classical.not_not, rc0_at, rcI_at, sOK0, sOK1, sOK2, sOK3, sOK4, true_and, and_true, kil, Option.toList_some, Option.toList_none, List.nil_append, List.cons_append, Option.some.injEq, exists_eq_left', Value.int.injEq, Value.ref.injEq, Value.long.injEq, nI_1]
    exact z3 v2
theorem v_sayDunes (d : Nat) {h : pH} {s : stT} {v : Int64} (x : MSv h s v) (st : St s) : ∃ h', Cl (d + 6) 142 [.ref 66] h none h' ∧ MSv h' s (fOrd s.2.2.1 (fCel s.2.2.1 8 0 v)) ∧ Dn h h' := by
  obtain ⟨h1, a1, a2, a3⟩ := lo_sdO (d + 3) st 8 0 v h rfl x
  obtain ⟨h2, b1, b2, b3⟩ := v_tellOrder d a1 st 0 (Or.inl rfl)
  have e0 : orv s.2.2.1 0 = Int32.ofInt (ordS s.2.2.1).2 := if_pos rfl
  rw [e0] at b1
  obtain ⟨h3, c1, c2, c3⟩ := v_say (d + 4) b2 (Int32.ofInt (ordS s.2.2.1).2)
  obtain ⟨h4, d1, d2, d3⟩ := lo_sdT d st 4 0 _ h3 rfl c2
  refine ⟨h4, Cl_o 3 rfl [some (.ref 66), none, none] rfl rfl ?_, d1, ((a2.tr b3).tr c3).tr d2⟩
  simp only [r142_0, r142_1, List.length_cons, List.length_nil, Nat.reduceAdd, Nat.reduceLT, if_true, l10, l01, l20, l21, l02, l12, List.append_nil, List.getElem?_cons_zero, List.getElem?_cons_succ, List.set_cons_zero, List.set_cons_succ, not_false_eq_true, not_true_eq_false, false_implies, true_implies, forall_const, Classical.not_not, rc0_at, rcI_at, sOK0, sOK1, sOK2, sOK3, sOK4, true_and, and_true, kil, Option.toList_some, Option.toList_none, List.nil_append, List.cons_append, Option.some.injEq, exists_eq_left', Value.int.injEq, Value.ref.injEq, Value.long.injEq]
  refine a3 _ _ (fun v2 => ?_) none
  simp only [r142_38, r142_39, r142_40, r142_41, List.length_cons, List.length_nil, Nat.reduceAdd, Nat.reduceLT, if_true, l10, l01, l20, l21, l02, l12, List.append_nil, List.getElem?_cons_zero, List.getElem?_cons_succ, List.set_cons_zero, List.set_cons_succ, not_false_eq_true, not_true_eq_false, false_implies, true_implies, forall_const, Classical.not_not, rc0_at, rcI_at, sOK0, sOK1, sOK2, sOK3, sOK4, true_and, and_true, kil, Option.toList_some, Option.toList_none, List.nil_append, List.cons_append, Option.some.injEq, exists_eq_left', Value.int.injEq, Value.ref.injEq, Value.long.injEq, a1.rc]
  refine ⟨_, _, b1, ?_⟩
  simp only [r142_44, r142_45, List.length_cons, List.length_nil, Nat.reduceAdd, Nat.reduceLT, if_true, l10, l01, l20, l21, l02, l12, List.append_nil, List.getElem?_cons_zero, List.getElem?_cons_succ, List.set_cons_zero, List.set_cons_succ, not_false_eq_true, not_true_eq_false, false_implies, true_implies, forall_const, Classical.not_not, rc0_at, rcI_at, sOK0, sOK1, sOK2, sOK3, sOK4, true_and, and_true, kil, Option.toList_some, Option.toList_none, List.nil_append, List.cons_append, Option.some.injEq, exists_eq_left', Value.int.injEq, Value.ref.injEq, Value.long.injEq, b2.rc]
  refine ⟨_, _, c1, ?_⟩
  simp only [r142_48, r142_50, List.length_cons, List.length_nil, Nat.reduceAdd, Nat.reduceLT, if_true, l10, l01, l20, l21, l02, l12, List.append_nil, List.getElem?_cons_zero, List.getElem?_cons_succ, List.set_cons_zero, List.set_cons_succ, not_false_eq_true, not_true_eq_false, false_implies, true_implies, forall_const, Classical.not_not, rc0_at, rcI_at, sOK0, sOK1, sOK2, sOK3, sOK4, true_and, and_true, kil, Option.toList_some, Option.toList_none, List.nil_append, List.cons_append, Option.some.injEq, exists_eq_left', Value.int.injEq, Value.ref.injEq, Value.long.injEq]
  exact d3 v2
