def whG (ws : Nat → wkr) (k : Nat) (wm : Int32) (wh : List Int32) : Prop := wm = nI (whoL ws k).length ∧ wh.length = 4 ∧ ∀ t, t < (whoL ws k).length → hx wh t = nI (whW (whoL ws k) t)
theorem whoL_s (ws : Nat → wkr) (k : Nat) : whoL ws (k + 1) = whoL ws k ++ (if 0 < (ws k).2.2.2.2.1 then [k] else []) := by
  unfold whoL
  rw [List.range_succ, List.filter_append]
  congr 1
  by_cases q : 0 < (ws k).2.2.2.2.1 <;> simp [q]
theorem whoL_le (ws : Nat → wkr) (k : Nat) : (whoL ws k).length ≤ k := by rw [whoL_len]; exact mps_le ws k
section M64
variable {h : pH} {n : Nat} {hd w : Bool} {nt : Int32} {tr : Nat} {hb : Bool} {cnt : Nat} {wm sn kd : Int32} {kw : Bool} {kn : Int32} {kc : Nat} {hh : Int64} {cs hs bf rs ms th wh od bo khs krs kms : List Int32}
theorem lo_goes (d i : Nat) {ws : Nat → wkr} (b1 : Rw rs ws) (b2 : Mp ms ws) (hi : i < 4) (hp : wok (ws i)) : ∀ (j t c : Nat) (th : List Int32) (h : pH) (v4 : Option Value), t + j = (ws i).2.2.2.2.1 → c < 8 → th.length = 8 → Mh h (mcs (mO n hd w nt tr hb cnt wm sn kd kw kn kc hh) cs hs bf rs ms th wh od bo khs krs kms) → X 121 (d + 2) none (h.set 72 (.inl (gos w (ws i).2.2.2.1 (ws i).1 j c th).2)) 13 [some (.ref 66), some (.int (nI i)), some (.int (nI c)), some (.int (nI t)), v4] [] h := by
  have h8 := hp.2.2.1
  intro j
  induction j with
  | zero =>
    intro t c th h v4 ht hc t1 a
    have g0 := a.g0
    dsimp only [mO] at g0
    have : t = (ws i).2.2.2.2.1 := by omega
    subst this
    unfold gos
    rw [set_same a.g6]
    rw [r121_13]; simp only [r121_0, r121_1, r121_4, r121_5, r121_6, r121_7, r121_8, r121_9, r121_10, r121_11, r121_12, r121_14, r121_15, r121_18, r121_20, r121_21, r121_22, r121_23, r121_24, r121_25, r121_28, r121_29, r121_30, r121_33, r121_35, r121_36, r121_37, r121_38, r121_41, r121_42, r121_43, r121_44, r121_47, r121_48, r121_49, r121_52, r121_53, r121_54, r121_55, r121_56, r121_59, r121_61, r121_64, r121_67, List.length_cons, List.length_nil, Nat.reduceAdd, Nat.reduceLT, if_true, l10, l01, l20, l21, l02, l12, List.append_nil, List.getElem?_cons_zero, List.getElem?_cons_succ, List.set_cons_zero, List.set_cons_succ, not_false_eq_true, not_true_eq_false, false_implies, true_implies, forall_const, Classical.not_not, rc0_at, rcI_at, sOK0, sOK1, sOK2, sOK3, sOK4, true_and, and_true, kil, Option.toList_some, Option.toList_none, List.nil_append, List.cons_append, Option.some.injEq, exists_eq_left', Value.int.injEq, Value.ref.injEq, Value.long.injEq, gf_at g0, n10k i hi, nI_1, ildM a b2.1 hi (show 1 < 10 by decide), (b2.2 i hi).1, Int32.le_refl]
  | succ j ih =>
    intro t c th h v4 ht hc t1 a
    have g0 := a.g0
    dsimp only [mO] at g0
    have e : (nI (ws i).2.2.2.2.1 ≤ nI t) = False := eq_false (nI_ge (by omega) (by omega))
    have hb := bes_lt c (ws i).2.2.2.1
    have ih2 := ih (t + 1) (bes c (ws i).2.2.2.1) (trd th w (bes c (ws i).2.2.2.1) (ws i).1).2 _ (some (.int (trd th w (bes c (ws i).2.2.2.1) (ws i).1).1)) (by omega) hb (by rw [trd_len]; exact t1) (a.s6 _)
    rw [List.set_set] at ih2
    unfold gos
    rw [r121_13]; simp only [r121_0, r121_1, r121_4, r121_5, r121_6, r121_7, r121_8, r121_9, r121_10, r121_11, r121_12, r121_14, r121_15, r121_18, r121_20, r121_21, r121_22, r121_23, r121_24, r121_25, r121_28, r121_29, r121_30, r121_33, r121_35, r121_36, r121_37, r121_38, r121_41, r121_42, r121_43, r121_44, r121_47, r121_48, r121_49, r121_52, r121_53, r121_54, r121_55, r121_56, r121_59, r121_61, r121_64, r121_67, List.length_cons, List.length_nil, Nat.reduceAdd, Nat.reduceLT, if_true, l10, l01, l20, l21, l02, l12, List.append_nil, List.getElem?_cons_zero, List.getElem?_cons_succ, List.set_cons_zero, List.set_cons_succ, not_false_eq_true, not_true_eq_false, false_implies, true_implies, forall_const, Classical.not_not, rc0_at, rcI_at, sOK0, sOK1, sOK2, sOK3, sOK4, true_and, and_true, kil, Option.toList_some, Option.toList_none, List.nil_append, List.cons_append, Option.some.injEq, exists_eq_left', Value.int.injEq, Value.ref.injEq, Value.long.injEq, gf_at g0, n10k i hi, nI_1, ildM a b2.1 hi (show 1 < 10 by decide), (b2.2 i hi).1, e, ildM0 a b2.1 hi, (b2.2 i hi).2.1 (show 0 < (ws i).2.2.2.2.1 by omega)]
    refine ⟨_, _, c_stepTo (d + 1) h hc _, ?_⟩
    simp only [r121_0, r121_1, r121_4, r121_5, r121_6, r121_7, r121_8, r121_9, r121_10, r121_11, r121_12, r121_14, r121_15, r121_18, r121_20, r121_21, r121_22, r121_23, r121_24, r121_25, r121_28, r121_29, r121_30, r121_33, r121_35, r121_36, r121_37, r121_38, r121_41, r121_42, r121_43, r121_44, r121_47, r121_48, r121_49, r121_52, r121_53, r121_54, r121_55, r121_56, r121_59, r121_61, r121_64, r121_67, List.length_cons, List.length_nil, Nat.reduceAdd, Nat.reduceLT, if_true, l10, l01, l20, l21, l02, l12, List.append_nil, List.getElem?_cons_zero, List.getElem?_cons_succ, List.set_cons_zero, List.set_cons_succ, not_false_eq_true, not_true_eq_false, false_implies, true_implies, forall_const, Classical.not_not, rc0_at, rcI_at, sOK0, sOK1, sOK2, sOK3, sOK4, true_and, and_true, kil, Option.toList_some, Option.toList_none, List.nil_append, List.cons_append, Option.some.injEq, exists_eq_left', Value.int.injEq, Value.ref.injEq, Value.long.injEq, gf_at g0, n3k i hi, ildR0 a b1.1 hi, (b1.2 i hi).1, rcV_at g0]
    refine ⟨_, _, c_treads d (show (72 : Nat) ≠ 66 by decide) a.g0 (w := w) rfl t1 a.g6 hb hp.1, ?_⟩
    simp only [r121_0, r121_1, r121_4, r121_5, r121_6, r121_7, r121_8, r121_9, r121_10, r121_11, r121_12, r121_14, r121_15, r121_18, r121_20, r121_21, r121_22, r121_23, r121_24, r121_25, r121_28, r121_29, r121_30, r121_33, r121_35, r121_36, r121_37, r121_38, r121_41, r121_42, r121_43, r121_44, r121_47, r121_48, r121_49, r121_52, r121_53, r121_54, r121_55, r121_56, r121_59, r121_61, r121_64, r121_67, List.length_cons, List.length_nil, Nat.reduceAdd, Nat.reduceLT, if_true, l10, l01, l20, l21, l02, l12, List.append_nil, List.getElem?_cons_zero, List.getElem?_cons_succ, List.set_cons_zero, List.set_cons_succ, not_false_eq_true, not_true_eq_false, false_implies, true_implies, forall_const, Classical.not_not, rc0_at, rcI_at, sOK0, sOK1, sOK2, sOK3, sOK4, true_and, and_true, kil, Option.toList_some, Option.toList_none, List.nil_append, List.cons_append, Option.some.injEq, exists_eq_left', Value.int.injEq, Value.ref.injEq, Value.long.injEq, nI_1]
    exact ih2
theorem c_goes (d i : Nat) {ws : Nat → wkr} (a : Mh h (mcs (mO n hd w nt tr hb cnt wm sn kd kw kn kc hh) cs hs bf rs ms th wh od bo khs krs kms)) (b1 : Rw rs ws) (b2 : Mp ms ws) (t1 : th.length = 8) (hi : i < 4) (hp : wok (ws i)) : Cl (d + 3) 121 [.ref 66, .int (nI i)] h none (h.set 72 (.inl (gob w (ws i) th))) := by
  have g0 := a.g0
  dsimp only [mO] at g0
  refine Cl_o 5 rfl [some (.ref 66), some (.int (nI i)), none, none, none] rfl rfl ?_
  simp only [r121_0, r121_1, r121_4, r121_5, r121_6, r121_7, r121_8, r121_9, r121_10, r121_11, r121_12, r121_14, r121_15, r121_18, r121_20, r121_21, r121_22, r121_23, r121_24, r121_25, r121_28, r121_29, r121_30, r121_33, r121_35, r121_36, r121_37, r121_38, r121_41, r121_42, r121_43, r121_44, r121_47, r121_48, r121_49, r121_52, r121_53, r121_54, r121_55, r121_56, r121_59, r121_61, r121_64, r121_67, List.length_cons, List.length_nil, Nat.reduceAdd, Nat.reduceLT, if_true, l10, l01, l20, l21, l02, l12, List.append_nil, List.getElem?_cons_zero, List.getElem?_cons_succ, List.set_cons_zero, List.set_cons_succ, not_false_eq_true, not_true_eq_false, false_implies, true_implies, forall_const, Classical.not_not, rc0_at, rcI_at, sOK0, sOK1, sOK2, sOK3, sOK4, true_and, and_true, kil, Option.toList_some, Option.toList_none, List.nil_append, List.cons_append, Option.some.injEq, exists_eq_left', Value.int.injEq, Value.ref.injEq, Value.long.injEq, gf_at g0, n3k i hi, nI_1, ildR a b1.1 hi (show 1 < 3 by decide), (b1.2 i hi).2.1]
  exact lo_goes d i b1 b2 hi hp (ws i).2.2.2.2.1 0 (ws i).2.1 th h none (Nat.zero_add _) hp.2.1 t1 a
theorem lo_layWho (d : Nat) {ws : Nat → wkr} (b2 : Mp ms ws) (hc : cnt ≤ 4) (hp : ∀ i, i < 4 → wok (ws i)) : ∀ (j k : Nat) (wm : Int32) (wh : List Int32) (h : pH), k + j = cnt → whG ws k wm wh → Mh h (mcs (mO n hd w nt tr hb cnt wm sn kd kw kn kc hh) cs hs bf rs ms th wh od bo khs krs kms) → ∃ h' wm' wh', X 122 (d + 1) none h' 7 [some (.ref 66), some (.int (nI k))] [] h ∧ Mh h' (mcs (mO n hd w nt tr hb cnt wm' sn kd kw kn kc hh) cs hs bf rs ms th wh' od bo khs krs kms) ∧ Dn h h' ∧ whG ws cnt wm' wh' := by
  intro j
  induction j with
  | zero =>
    intro k wm wh h hk g a
    have g0 := a.g0
    dsimp only [mO] at g0
    have : k = cnt := by omega
    subst this
    refine ⟨h, wm, wh, ?_, a, Dn.rf, g⟩
    rw [r122_7]; simp only [r122_0, r122_1, r122_2, r122_5, r122_6, r122_8, r122_9, r122_12, r122_15, r122_16, r122_17, r122_20, r122_23, r122_24, r122_27, r122_28, r122_31, r122_32, r122_33, r122_34, r122_35, r122_38, r122_39, r122_40, r122_43, r122_46, r122_49, List.length_cons, List.length_nil, Nat.reduceAdd, Nat.reduceLT, if_true, l10, l01, l20, l21, l02, l12, List.append_nil, List.getElem?_cons_zero, List.getElem?_cons_succ, List.set_cons_zero, List.set_cons_succ, not_false_eq_true, not_true_eq_false, false_implies, true_implies, forall_const, Classical.not_not, rc0_at, rcI_at, sOK0, sOK1, sOK2, sOK3, sOK4, true_and, and_true, kil, Option.toList_some, Option.toList_none, List.nil_append, List.cons_append, Option.some.injEq, exists_eq_left', Value.int.injEq, Value.ref.injEq, Value.long.injEq, gf_at g0, Int32.le_refl]
  | succ j ih =>
    intro k wm wh h hk g a
    have g0 := a.g0
    dsimp only [mO] at g0
    have e : (nI cnt ≤ nI k) = False := eq_false (nI_ge (by omega) (by omega))
    have hk4 : k < 4 := by omega
    have ch := c_hasMapM d k a b2 hk4 (hp k hk4)
    have wl := whoL_le ws k
    by_cases q : 0 < (ws k).2.2.2.2.1
    · rw [decide_eq_true q] at ch
      have es := whoL_s ws k
      rw [if_pos q] at es
      have g' : whG ws (k + 1) (wm + 1) (wh.set (whoL ws k).length (nI k)) := by
        refine ⟨?_, by simp [g.2.1], fun t ht => ?_⟩
        · rw [g.1, nI_1, es, List.length_append]; rfl
        · rw [es] at ht ⊢
          rw [List.length_append, List.length_singleton] at ht
          by_cases et : t = (whoL ws k).length
          · subst et
            rw [hxs_eq (by rw [g.2.1]; omega)]
            simp [whW, List.getD]
          · rw [hxs_ne (Ne.symm et), g.2.2 t (by omega)]
            have ht' : t < (whoL ws k).length := by omega
            simp [whW, List.getD, ht', List.getElem?_append_left ht']
      have a1 := a.s7 (wh.set (whoL ws k).length (nI k))
      have k1 := a1.g0
      dsimp only [mO] at k1
      have a2 := a1.s0 (mO n hd w nt tr hb cnt (wm + 1) sn kd kw kn kc hh)
      obtain ⟨h', wm', wh', x1, x2, x3, x4⟩ := ih (k + 1) (wm + 1) _ _ (by omega) g' a2
      refine ⟨h', wm', wh', ?_, x2, ((Dn.rf.st (by decide)).st (by decide)).tr x3, x4⟩
      have i4 : ist h 73 wm (nI k) = some (h.set 73 (.inl (wh.set (whoL ws k).length (nI k)))) := by
        rw [g.1]
        exact ist_at a.g7 (by rw [g.2.1]; omega) (by omega)
      rw [r122_7]; simp only [r122_0, r122_1, r122_2, r122_5, r122_6, r122_8, r122_9, r122_12, r122_15, r122_16, r122_17, r122_20, r122_23, r122_24, r122_27, r122_28, r122_31, r122_32, r122_33, r122_34, r122_35, r122_38, r122_39, r122_40, r122_43, r122_46, r122_49, List.length_cons, List.length_nil, Nat.reduceAdd, Nat.reduceLT, if_true, l10, l01, l20, l21, l02, l12, List.append_nil, List.getElem?_cons_zero, List.getElem?_cons_succ, List.set_cons_zero, List.set_cons_succ, not_false_eq_true, not_true_eq_false, false_implies, true_implies, forall_const, Classical.not_not, rc0_at, rcI_at, sOK0, sOK1, sOK2, sOK3, sOK4, true_and, and_true, kil, Option.toList_some, Option.toList_none, List.nil_append, List.cons_append, Option.some.injEq, exists_eq_left', Value.int.injEq, Value.ref.injEq, Value.long.injEq, gf_at g0, e, rcV_at g0]
      refine ⟨_, _, ch, ?_⟩
      simp only [r122_0, r122_1, r122_2, r122_5, r122_6, r122_8, r122_9, r122_12, r122_15, r122_16, r122_17, r122_20, r122_23, r122_24, r122_27, r122_28, r122_31, r122_32, r122_33, r122_34, r122_35, r122_38, r122_39, r122_40, r122_43, r122_46, r122_49, List.length_cons, List.length_nil, Nat.reduceAdd, Nat.reduceLT, if_true, l10, l01, l20, l21, l02, l12, List.append_nil, List.getElem?_cons_zero, List.getElem?_cons_succ, List.set_cons_zero, List.set_cons_succ, not_false_eq_true, not_true_eq_false, false_implies, true_implies, forall_const, Classical.not_not, rc0_at, rcI_at, sOK0, sOK1, sOK2, sOK3, sOK4, true_and, and_true, kil, Option.toList_some, Option.toList_none, List.nil_append, List.cons_append, Option.some.injEq, exists_eq_left', Value.int.injEq, Value.ref.injEq, Value.long.injEq, b2i, gf_at g0, i4, gf_at k1, pf_at k1 (show 14 < 26 by decide), nI_1]
      exact x1
    · rw [decide_eq_false q] at ch
      have es := whoL_s ws k
      rw [if_neg q, List.append_nil] at es
      have g' : whG ws (k + 1) wm wh := by
        unfold whG
        rw [es]
        exact g
      obtain ⟨h', wm', wh', x1, x2, x3, x4⟩ := ih (k + 1) wm wh h (by omega) g' a
      refine ⟨h', wm', wh', ?_, x2, x3, x4⟩
      rw [r122_7]; simp only [r122_0, r122_1, r122_2, r122_5, r122_6, r122_8, r122_9, r122_12, r122_15, r122_16, r122_17, r122_20, r122_23, r122_24, r122_27, r122_28, r122_31, r122_32, r122_33, r122_34, r122_35, r122_38, r122_39, r122_40, r122_43, r122_46, r122_49, List.length_cons, List.length_nil, Nat.reduceAdd, Nat.reduceLT, if_true, l10, l01, l20, l21, l02, l12, List.append_nil, List.getElem?_cons_zero, List.getElem?_cons_succ, List.set_cons_zero, List.set_cons_succ, not_false_eq_true, not_true_eq_false, false_implies, true_implies, forall_const, Classical.not_not, rc0_at, rcI_at, sOK0, sOK1, sOK2, sOK3, sOK4, true_and, and_true, kil, Option.toList_some, Option.toList_none, List.nil_append, List.cons_append, Option.some.injEq, exists_eq_left', Value.int.injEq, Value.ref.injEq, Value.long.injEq, gf_at g0, e, rcV_at g0]
      refine ⟨_, _, ch, ?_⟩
      simp only [r122_0, r122_1, r122_2, r122_5, r122_6, r122_8, r122_9, r122_12, r122_15, r122_16, r122_17, r122_20, r122_23, r122_24, r122_27, r122_28, r122_31, r122_32, r122_33, r122_34, r122_35, r122_38, r122_39, r122_40, r122_43, r122_46, r122_49, List.length_cons, List.length_nil, Nat.reduceAdd, Nat.reduceLT, if_true, l10, l01, l20, l21, l02, l12, List.append_nil, List.getElem?_cons_zero, List.getElem?_cons_succ, List.set_cons_zero, List.set_cons_succ, not_false_eq_true, not_true_eq_false, false_implies, true_implies, forall_const, Classical.not_not, rc0_at, rcI_at, sOK0, sOK1, sOK2, sOK3, sOK4, true_and, and_true, kil, Option.toList_some, Option.toList_none, List.nil_append, List.cons_append, Option.some.injEq, exists_eq_left', Value.int.injEq, Value.ref.injEq, Value.long.injEq, b2i, Bool.false_eq_true, if_false, nI_1]
      exact x1
theorem c_layWho (d : Nat) {ws : Nat → wkr} (a : Mh h (mcs (mO n hd w nt tr hb cnt wm sn kd kw kn kc hh) cs hs bf rs ms th wh od bo khs krs kms)) (b2 : Mp ms ws) (t2 : wh.length = 4) (hc : cnt ≤ 4) (hp : ∀ i, i < 4 → wok (ws i)) : ∃ h' wm' wh', Cl (d + 2) 122 [.ref 66] h none h' ∧ Mh h' (mcs (mO n hd w nt tr hb cnt wm' sn kd kw kn kc hh) cs hs bf rs ms th wh' od bo khs krs kms) ∧ Dn h h' ∧ whG ws cnt wm' wh' := by
  have g0 := a.g0
  dsimp only [mO] at g0
  have a1 := a.s0 (mO n hd w nt tr hb cnt 0 sn kd kw kn kc hh)
  obtain ⟨h', wm', wh', x1, x2, x3, x4⟩ := lo_layWho d b2 hc hp cnt 0 0 wh _ (Nat.zero_add _) ⟨rfl, t2, fun t ht => absurd ht (Nat.not_lt_zero _)⟩ a1
  refine ⟨h', wm', wh', Cl_o 2 rfl [some (.ref 66), none] rfl rfl ?_, x2, (Dn.rf.st (by decide)).tr x3, x4⟩
  simp only [r122_0, r122_1, r122_2, r122_5, r122_6, r122_8, r122_9, r122_12, r122_15, r122_16, r122_17, r122_20, r122_23, r122_24, r122_27, r122_28, r122_31, r122_32, r122_33, r122_34, r122_35, r122_38, r122_39, r122_40, r122_43, r122_46, r122_49, List.length_cons, List.length_nil, Nat.reduceAdd, Nat.reduceLT, if_true, l10, l01, l20, l21, l02, l12, List.append_nil, List.getElem?_cons_zero, List.getElem?_cons_succ, List.set_cons_zero, List.set_cons_succ, not_false_eq_true, not_true_eq_false, false_implies, true_implies, forall_const, Classical.not_not, rc0_at, rcI_at, sOK0, sOK1, sOK2, sOK3, sOK4, true_and, and_true, kil, Option.toList_some, Option.toList_none, List.nil_append, List.cons_append, Option.some.injEq, exists_eq_left', Value.int.injEq, Value.ref.injEq, Value.long.injEq, pf_at g0 (show 14 < 26 by decide)]
  exact x1
/-- the order of a code, laid from its end -/
def isO (wh : List Int32) (g : Nat) : Nat → Nat → List Int32 → List Int32
  | 0, _, od => od
  | j + 1, l, od => isO wh g j (l / g) (od.set j (hx wh (l % g)))
theorem lo_isOrder (d g : Nat) (code : Int32) (hg : g ≤ 4) (t2 : wh.length = 4) (hw : wm = nI g) : ∀ (j l : Nat) (s : Int32) (od : List Int32) (h : pH), j ≤ g → l < 257 → od.length = 4 → Mh h (mcs (mO n hd w nt tr hb cnt wm sn kd kw kn kc hh) cs hs bf rs ms th wh od bo khs krs kms) → X 123 d (some (.int (b2i (decide (sn4 g j l s = ((1 : Int32) <<< (nI g &&& 31)) - 1))))) (h.set 74 (.inl (isO wh g j l od))) 12 [some (.ref 66), some (.int code), some (.int (nI l)), some (.int s), some (.int (nI j - 1))] [] h := by
  intro j
  induction j with
  | zero =>
    intro l s od h hj hl t3 a
    have g0 := a.g0
    dsimp only [mO] at g0
    rw [hw] at g0
    have e : nI 0 - 1 < 0 := by decide
    unfold isO sn4
    rw [set_same a.g8]
    by_cases q : s = ((1 : Int32) <<< (nI g &&& 31)) - 1
    · rw [r123_12]; simp only [r123_0, r123_1, r123_2, r123_3, r123_4, r123_5, r123_8, r123_9, r123_10, r123_14, r123_17, r123_18, r123_21, r123_23, r123_24, r123_27, r123_28, r123_29, r123_32, r123_33, r123_34, r123_35, r123_36, r123_37, r123_38, r123_39, r123_42, r123_43, r123_44, r123_45, r123_46, r123_47, r123_48, r123_51, r123_52, r123_53, r123_56, r123_59, r123_60, r123_61, r123_62, r123_65, r123_66, r123_67, r123_68, r123_71, r123_72, r123_75, r123_76, List.length_cons, List.length_nil, Nat.reduceAdd, Nat.reduceLT, if_true, l10, l01, l20, l21, l02, l12, List.append_nil, List.getElem?_cons_zero, List.getElem?_cons_succ, List.set_cons_zero, List.set_cons_succ, not_false_eq_true, not_true_eq_false, false_implies, true_implies, forall_const, Classical.not_not, rc0_at, rcI_at, sOK0, sOK1, sOK2, sOK3, sOK4, true_and, and_true, kil, Option.toList_some, Option.toList_none, List.nil_append, List.cons_append, Option.some.injEq, exists_eq_left', Value.int.injEq, Value.ref.injEq, Value.long.injEq, e, gf_at g0, q, decide_true, b2i, or_true]
    · rw [r123_12]; simp only [r123_0, r123_1, r123_2, r123_3, r123_4, r123_5, r123_8, r123_9, r123_10, r123_14, r123_17, r123_18, r123_21, r123_23, r123_24, r123_27, r123_28, r123_29, r123_32, r123_33, r123_34, r123_35, r123_36, r123_37, r123_38, r123_39, r123_42, r123_43, r123_44, r123_45, r123_46, r123_47, r123_48, r123_51, r123_52, r123_53, r123_56, r123_59, r123_60, r123_61, r123_62, r123_65, r123_66, r123_67, r123_68, r123_71, r123_72, r123_75, r123_76, List.length_cons, List.length_nil, Nat.reduceAdd, Nat.reduceLT, if_true, l10, l01, l20, l21, l02, l12, List.append_nil, List.getElem?_cons_zero, List.getElem?_cons_succ, List.set_cons_zero, List.set_cons_succ, not_false_eq_true, not_true_eq_false, false_implies, true_implies, forall_const, Classical.not_not, rc0_at, rcI_at, sOK0, sOK1, sOK2, sOK3, sOK4, true_and, and_true, kil, Option.toList_some, Option.toList_none, List.nil_append, List.cons_append, Option.some.injEq, exists_eq_left', Value.int.injEq, Value.ref.injEq, Value.long.injEq, e, gf_at g0, q, decide_false, b2i, Bool.false_eq_true, if_false, true_or]
  | succ j ih =>
    intro l s od h hj hl t3 a
    have g0 := a.g0
    dsimp only [mO] at g0
    rw [hw] at g0
    have e1 : nI (j + 1) - 1 = nI j := nI_pred j
    have e2 : nI j + -1 = nI j - 1 := by rw [Int32.sub_eq_add_neg]
    have e3 : ¬ nI j < 0 := nI_pos (by omega)
    have ez : ¬ nI g = 0 := nI_ne0 (by omega) (by omega)
    have er := pk_rem (a := l) (d := g) (by omega) (by omega) (by omega)
    have ed := pk_div (a := l) (d := g) (by omega) (by omega) (by omega)
    rw [ed] at er
    have hr : l % g < 4 := by have := Nat.mod_lt l (show 0 < g by omega); omega
    have a1 := a.s8 (od.set j (hx wh (l % g)))
    have k1 := a1.g0
    dsimp only [mO] at k1
    rw [hw] at k1
    have ih2 := ih (l / g) (s ||| ((1 : Int32) <<< (nI (l % g) &&& 31))) (od.set j (hx wh (l % g))) _ (by omega) (by have := Nat.div_le_self l g; omega) (by simp [t3]) a1
    rw [List.set_set] at ih2
    unfold isO sn4
    rw [e1]
    rw [r123_12]; simp only [r123_0, r123_1, r123_2, r123_3, r123_4, r123_5, r123_8, r123_9, r123_10, r123_14, r123_17, r123_18, r123_21, r123_23, r123_24, r123_27, r123_28, r123_29, r123_32, r123_33, r123_34, r123_35, r123_36, r123_37, r123_38, r123_39, r123_42, r123_43, r123_44, r123_45, r123_46, r123_47, r123_48, r123_51, r123_52, r123_53, r123_56, r123_59, r123_60, r123_61, r123_62, r123_65, r123_66, r123_67, r123_68, r123_71, r123_72, r123_75, r123_76, List.length_cons, List.length_nil, Nat.reduceAdd, Nat.reduceLT, if_true, l10, l01, l20, l21, l02, l12, List.append_nil, List.getElem?_cons_zero, List.getElem?_cons_succ, List.set_cons_zero, List.set_cons_succ, not_false_eq_true, not_true_eq_false, false_implies, true_implies, forall_const, Classical.not_not, rc0_at, rcI_at, sOK0, sOK1, sOK2, sOK3, sOK4, true_and, and_true, kil, Option.toList_some, Option.toList_none, List.nil_append, List.cons_append, Option.some.injEq, exists_eq_left', Value.int.injEq, Value.ref.injEq, Value.long.injEq, e3, gf_at g0, ed, er, ez, ild_at a.g7 (show l % g < wh.length by omega) (show l % g < 2 ^ 31 by omega), ist_at a.g8 (show j < od.length by omega) (show j < 2 ^ 31 by omega), gf_at k1, e2]
    exact ih2
theorem isO_len (wh : List Int32) (g : Nat) : ∀ (j l : Nat) (od : List Int32), (isO wh g j l od).length = od.length
  | 0, _, _ => rfl
  | j + 1, l, od => by unfold isO; rw [isO_len]; simp
theorem isO_hi (wh : List Int32) (g : Nat) : ∀ (j l : Nat) (od : List Int32) (t : Nat), j ≤ t → hx (isO wh g j l od) t = hx od t
  | 0, _, _, _, _ => rfl
  | j + 1, l, od, t, h => by
    unfold isO
    rw [isO_hi wh g j _ _ t (by omega), hxs_ne (by omega)]
theorem dgt_div (g : Nat) : ∀ (j l : Nat), dgt g (j + 1) l = dgt g j (l / g) ++ [l % g]
  | 0, l => by simp [dgt]
  | j + 1, l => by
    have := dgt_div g j l
    show l / g ^ (j + 1) % g :: dgt g (j + 1) l = _
    rw [this]
    show _ = (l / g / g ^ j % g :: dgt g j (l / g)) ++ [l % g]
    rw [Nat.div_div_eq_div_mul, ← Nat.pow_succ']
    rfl
theorem isO_at (wh : List Int32) (g : Nat) : ∀ (j l : Nat) (od : List Int32) (t : Nat), t < j → j ≤ od.length → hx (isO wh g j l od) t = hx wh ((dgt g j l).getD t 0)
  | 0, _, _, _, h, _ => absurd h (Nat.not_lt_zero _)
  | j + 1, l, od, t, h, hl => by
    unfold isO
    rw [dgt_div]
    by_cases e : t = j
    · subst e
      rw [isO_hi wh g t _ _ t (Nat.le_refl _), hxs_eq (by omega)]
      simp [List.getD, dgt_len]
    · rw [isO_at wh g j (l / g) _ t (by omega) (by simp; omega)]
      have ht : t < (dgt g j (l / g)).length := by rw [dgt_len]; omega
      simp [List.getD, List.getElem?_append_left ht]
theorem c_isOrder (d g code : Nat) (a : Mh h (mcs (mO n hd w nt tr hb cnt wm sn kd kw kn kc hh) cs hs bf rs ms th wh od bo khs krs kms)) (hg : g ≤ 4) (hc : code < g ^ g) (t2 : wh.length = 4) (t3 : od.length = 4) (hw : wm = nI g) : Cl (d + 1) 123 [.ref 66, .int (nI code)] h (some (.int (b2i (decide (dgt g g code).Nodup)))) (h.set 74 (.inl (isO wh g g code od))) := by
  have g0 := a.g0
  dsimp only [mO] at g0
  have hb : g ^ g ≤ 256 := by
    match g, hg with
    | 0, _ => decide
    | 1, _ => decide
    | 2, _ => decide
    | 3, _ => decide
    | 4, _ => decide
  have := lo_isOrder d g (nI code) hg t2 hw g code 0 od h (Nat.le_refl _) (by omega) t3 a
  rw [sn4_ok g (by omega) code hc] at this
  rw [hw] at g0
  refine Cl_o 5 rfl [some (.ref 66), some (.int (nI code)), none, none, none] rfl rfl ?_
  simp only [r123_0, r123_1, r123_2, r123_3, r123_4, r123_5, r123_8, r123_9, r123_10, r123_14, r123_17, r123_18, r123_21, r123_23, r123_24, r123_27, r123_28, r123_29, r123_32, r123_33, r123_34, r123_35, r123_36, r123_37, r123_38, r123_39, r123_42, r123_43, r123_44, r123_45, r123_46, r123_47, r123_48, r123_51, r123_52, r123_53, r123_56, r123_59, r123_60, r123_61, r123_62, r123_65, r123_66, r123_67, r123_68, r123_71, r123_72, r123_75, r123_76, List.length_cons, List.length_nil, Nat.reduceAdd, Nat.reduceLT, if_true, l10, l01, l20, l21, l02, l12, List.append_nil, List.getElem?_cons_zero, List.getElem?_cons_succ, List.set_cons_zero, List.set_cons_succ, not_false_eq_true, not_true_eq_false, false_implies, true_implies, forall_const, Classical.not_not, rc0_at, rcI_at, sOK0, sOK1, sOK2, sOK3, sOK4, true_and, and_true, kil, Option.toList_some, Option.toList_none, List.nil_append, List.cons_append, Option.some.injEq, exists_eq_left', Value.int.injEq, Value.ref.injEq, Value.long.injEq, gf_at g0]
  exact this
end M64
