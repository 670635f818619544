theorem lo_dwI (d k : Nat) (hk4 : k < 4) {s : stT} (st : St s) : ∀ (j i : Nat) (v : Int64) (h : pH), i + j = 8 → MSv h s v → ∃ h', MSv h' s (fInn (fun i => abt s.2.2.1 k (nI i)) j i v) ∧ Dn h h' ∧ ∀ r hF, X 143 (d + 3) r hF 53 [some (.ref 66), some (.int (nI k)), some (.int (nI 8))] [] h' → X 143 (d + 3) r hF 30 [some (.ref 66), some (.int (nI k)), some (.int (nI i))] [] h := by
  intro j
  induction j with
  | zero =>
    intro i v h hi x
    have : i = 8 := by omega
    subst this
    refine ⟨h, x, Dn.rf, fun r hF hk => ?_⟩
    rw [r143_30]
    simp only [r143_31, r143_33, List.length_cons, List.length_nil, Nat.reduceAdd, Nat.reduceLT, if_true, l10, l01, l20, l21, l02, l12, List.append_nil, List.getElem?_cons_zero, List.getElem?_cons_succ, List.set_cons_zero, List.set_cons_succ, not_false_eq_true, not_true_eq_false, false_implies, true_implies, forall_const, Classical.not_not, rc0_at, rcI_at, sOK0, sOK1, sOK2, sOK3, sOK4, true_and, and_true, kil, Option.toList_some, Option.toList_none, List.nil_append, List.cons_append, Option.some.injEq, exists_eq_left', Value.int.injEq, Value.ref.injEq, Value.long.injEq, ge8t]
    exact hk
  | succ j ih =>
    intro i v h hi x
    obtain ⟨h1, y1, y2, y3⟩ := v_say (d + 2) x (abt s.2.2.1 k (nI i))
    obtain ⟨h2, z1, z2, z3⟩ := ih (i + 1) _ h1 (by omega) y2
    rw [fInn_s]
    refine ⟨h2, z1, y3.tr z2, fun r hF hk => ?_⟩
    have hk2 := z3 r hF hk
    rw [r143_30]
    simp only [r143_31, r143_33, r143_36, r143_37, r143_38, r143_39, r143_40, List.length_cons, List.length_nil, Nat.reduceAdd, Nat.reduceLT, if_true, l10, l01, l20, l21, l02, l12, List.append_nil, List.getElem?_cons_zero, List.getElem?_cons_succ, List.set_cons_zero, List.set_cons_succ, not_false_eq_true, not_true_eq_false, false_implies, true_implies, forall_const, Classical.not_not, rc0_at, rcI_at, sOK0, sOK1, sOK2, sOK3, sOK4, true_and, and_true, kil, Option.toList_some, Option.toList_none, List.nil_append, List.cons_append, Option.some.injEq, exists_eq_left', Value.int.injEq, Value.ref.injEq, Value.long.injEq, ge8f (show i < 8 by omega), x.rc]
    refine ⟨_, _, v_tell d k x st hk4 (nI i), ?_⟩
    simp only [r143_43, r143_44, List.length_cons, List.length_nil, Nat.reduceAdd, Nat.reduceLT, if_true, l10, l01, l20, l21, l02, l12, List.append_nil, List.getElem?_cons_zero, List.getElem?_cons_succ, List.set_cons_zero, List.set_cons_succ, not_false_eq_true, not_true_eq_false, false_implies, true_implies, forall_const, Classical.not_not, rc0_at, rcI_at, sOK0, sOK1, sOK2, sOK3, sOK4, true_and, and_true, kil, Option.toList_some, Option.toList_none, List.nil_append, List.cons_append, Option.some.injEq, exists_eq_left', Value.int.injEq, Value.ref.injEq, Value.long.injEq, x.rc]
    refine ⟨_, _, y1, ?_⟩
    simp only [r143_47, r143_50, List.length_cons, List.length_nil, Nat.reduceAdd, Nat.reduceLT, if_true, l10, l01, l20, l21, l02, l12, List.append_nil, List.getElem?_cons_zero, List.getElem?_cons_succ, List.set_cons_zero, List.set_cons_succ, not_false_eq_true, not_true_eq_false, false_implies, true_implies, forall_const, Classical.not_not, rc0_at, rcI_at, sOK0, sOK1, sOK2, sOK3, sOK4, true_and, and_true, kil, Option.toList_some, Option.toList_none, List.nil_append, List.cons_append, Option.some.injEq, exists_eq_left', Value.int.injEq, Value.ref.injEq, Value.long.injEq, nI_1]
    exact hk2
theorem fWk_t (A : landT) (j k : Nat) (h : Int64) : fWk A (j + 1) k h = fWk A j (k + 1) (fInn (fun i => abt A k (nI i)) 8 0 h) := by simp [fWk, List.range'_succ]
theorem lo_dwO (d : Nat) {s : stT} (st : St s) : ∀ (j k : Nat) (v : Int64) (h : pH), k + j = s.2.2.1.2.2.2.1 → MSv h s v → ∃ h', MSv h' s (fWk s.2.2.1 j k v) ∧ Dn h h' ∧ ∀ r hF, (∀ v2, X 143 (d + 3) r hF 59 [some (.ref 66), some (.int (nI s.2.2.1.2.2.2.1)), v2] [] h') → ∀ v2, X 143 (d + 3) r hF 20 [some (.ref 66), some (.int (nI k)), v2] [] h := by
  have hc4 := st.2.2.1.2.2
  intro j
  induction j with
  | zero =>
    intro k v h hk x
    have : k = s.2.2.1.2.2.2.1 := by omega
    subst this
    refine ⟨h, x, Dn.rf, fun r hF hk v2 => ?_⟩
    rw [r143_20]
    simp only [r143_21, r143_22, r143_25, List.length_cons, List.length_nil, Nat.reduceAdd, Nat.reduceLT, if_true, l10, l01, l20, l21, l02, l12, List.append_nil, List.getElem?_cons_zero, List.getElem?_cons_succ, List.set_cons_zero, List.set_cons_succ, not_false_eq_true, not_true_eq_false, false_implies, true_implies, forall_const, Classical.not_not, rc0_at, rcI_at, sOK0, sOK1, sOK2, sOK3, sOK4, true_and, and_true, kil, Option.toList_some, Option.toList_none, List.nil_append, List.cons_append, Option.some.injEq, exists_eq_left', Value.int.injEq, Value.ref.injEq, Value.long.injEq, x.f.2.2.2.2.1, Int32.le_refl]
    exact hk v2
  | succ j ih =>
    intro k v h hk x
    have e : (nI s.2.2.1.2.2.2.1 ≤ nI k) = False := eq_false (nI_ge (by omega) (by omega))
    obtain ⟨h1, y1, y2, y3⟩ := lo_dwI d k (by omega) st 8 0 v h rfl x
    obtain ⟨h2, z1, z2, z3⟩ := ih (k + 1) _ h1 (by omega) y1
    rw [fWk_t]
    refine ⟨h2, z1, y2.tr z2, fun r hF hk v2 => ?_⟩
    rw [r143_20]
    simp only [r143_21, r143_22, r143_25, r143_28, r143_29, List.length_cons, List.length_nil, Nat.reduceAdd, Nat.reduceLT, if_true, l10, l01, l20, l21, l02, l12, List.append_nil, List.getElem?_cons_zero, List.getElem?_cons_succ, List.set_cons_zero, List.set_cons_succ, not_false_eq_true, not_true_eq_false, false_implies, true_implies, forall_const, Classical.not_not, rc0_at, rcI_at, sOK0, sOK1, sOK2, sOK3, sOK4, true_and, and_true, kil, Option.toList_some, Option.toList_none, List.nil_append, List.cons_append, Option.some.injEq, exists_eq_left', Value.int.injEq, Value.ref.injEq, Value.long.injEq, x.f.2.2.2.2.1, e]
    refine y3 r hF ?_
    simp only [r143_53, r143_56, List.length_cons, List.length_nil, Nat.reduceAdd, Nat.reduceLT, if_true, l10, l01, l20, l21, l02, l12, List.append_nil, List.getElem?_cons_zero, List.getElem?_cons_succ, List.set_cons_zero, List.set_cons_succ, not_false_eq_true, not_true_eq_false, false_implies, true_implies, forall_const, Classical.not_not, rc0_at, rcI_at, sOK0, sOK1, sOK2, sOK3, sOK4, true_and, and_true, kil, Option.toList_some, Option.toList_none, List.nil_append, List.cons_append, Option.some.injEq, exists_eq_left', Value.int.injEq, Value.ref.injEq, Value.long.injEq, nI_1]
    exact z3 r hF hk _
theorem lo_dwP (d : Nat) {s : stT} (st : St s) : ∀ (j k : Nat) (v : Int64) (h : pH), k + j = s.2.1 → MSv h s v → ∃ h', MSv h' s (fInn (hx s.1) j k v) ∧ Dn h h' ∧ ∀ r hF v2, X 143 (d + 1) r hF 113 [some (.ref 66), some (.int (nI s.2.1)), v2] [] h' → X 143 (d + 1) r hF 88 [some (.ref 66), some (.int (nI k)), v2] [] h := by
  have hn := st.2.1
  have hl := st.1
  intro j
  induction j with
  | zero =>
    intro k v h hk x
    have : k = s.2.1 := by omega
    subst this
    refine ⟨h, x, Dn.rf, fun r hF v2 hk => ?_⟩
    rw [r143_88]
    simp only [r143_89, r143_90, r143_93, List.length_cons, List.length_nil, Nat.reduceAdd, Nat.reduceLT, if_true, l10, l01, l20, l21, l02, l12, List.append_nil, List.getElem?_cons_zero, List.getElem?_cons_succ, List.set_cons_zero, List.set_cons_succ, not_false_eq_true, not_true_eq_false, false_implies, true_implies, forall_const, Classical.not_not, rc0_at, rcI_at, sOK0, sOK1, sOK2, sOK3, sOK4, true_and, and_true, kil, Option.toList_some, Option.toList_none, List.nil_append, List.cons_append, Option.some.injEq, exists_eq_left', Value.int.injEq, Value.ref.injEq, Value.long.injEq, x.f.2.1, Int32.le_refl]
    exact hk
  | succ j ih =>
    intro k v h hk x
    have e : (nI s.2.1 ≤ nI k) = False := eq_false (nI_ge (by omega) (by omega))
    obtain ⟨h1, y1, y2, y3⟩ := v_say d x (hx s.1 k)
    obtain ⟨h2, z1, z2, z3⟩ := ih (k + 1) _ h1 (by omega) y2
    rw [fInn_s]
    refine ⟨h2, z1, y3.tr z2, fun r hF v2 hk => ?_⟩
    have hk2 := z3 r hF v2 hk
    rw [r143_88]
    simp only [r143_89, r143_90, r143_93, r143_96, r143_97, r143_98, r143_101, r143_102, r143_103, r143_104, List.length_cons, List.length_nil, Nat.reduceAdd, Nat.reduceLT, if_true, l10, l01, l20, l21, l02, l12, List.append_nil, List.getElem?_cons_zero, List.getElem?_cons_succ, List.set_cons_zero, List.set_cons_succ, not_false_eq_true, not_true_eq_false, false_implies, true_implies, forall_const, Classical.not_not, rc0_at, rcI_at, sOK0, sOK1, sOK2, sOK3, sOK4, true_and, and_true, kil, Option.toList_some, Option.toList_none, List.nil_append, List.cons_append, Option.some.injEq, exists_eq_left', Value.int.injEq, Value.ref.injEq, Value.long.injEq, x.f.2.1, x.f.1, e, ild_at x.f.2.2.2.2.2.2 (show k < s.1.length by omega) (show k < 2 ^ 31 by omega), x.rc]
    refine ⟨_, _, y1, ?_⟩
    simp only [r143_107, r143_110, List.length_cons, List.length_nil, Nat.reduceAdd, Nat.reduceLT, if_true, l10, l01, l20, l21, l02, l12, List.append_nil, List.getElem?_cons_zero, List.getElem?_cons_succ, List.set_cons_zero, List.set_cons_succ, not_false_eq_true, not_true_eq_false, false_implies, true_implies, forall_const, Classical.not_not, rc0_at, rcI_at, sOK0, sOK1, sOK2, sOK3, sOK4, true_and, and_true, kil, Option.toList_some, Option.toList_none, List.nil_append, List.cons_append, Option.some.injEq, exists_eq_left', Value.int.injEq, Value.ref.injEq, Value.long.injEq, nI_1]
    exact hk2
theorem lo_dwC (d : Nat) {s : stT} (st : St s) : ∀ (j k : Nat) (v : Int64) (h : pH), k + j = 11 → MSv h s v → ∃ h', MSv h' s (fInn (fun i => cou s (nI i)) j k v) ∧ Dn h h' ∧ ∀ v2, X 143 (d + 5) (some (.long (fInn (fun i => cou s (nI i)) j k v))) h' 115 [some (.ref 66), some (.int (nI k)), v2] [] h := by
  intro j
  induction j with
  | zero =>
    intro k v h hk x
    have : k = 11 := by omega
    subst this
    refine ⟨h, x, Dn.rf, fun v2 => ?_⟩
    rw [r143_115]; simp only [r143_0, r143_1, r143_4, r143_7, r143_8, r143_11, r143_14, r143_15, r143_18, r143_19, r143_21, r143_22, r143_25, r143_28, r143_29, r143_31, r143_33, r143_36, r143_37, r143_38, r143_39, r143_40, r143_43, r143_44, r143_47, r143_50, r143_53, r143_56, r143_59, r143_60, r143_63, r143_66, r143_67, r143_68, r143_69, r143_72, r143_73, r143_76, r143_77, r143_78, r143_79, r143_82, r143_83, r143_86, r143_87, r143_89, r143_90, r143_93, r143_96, r143_97, r143_98, r143_101, r143_102, r143_103, r143_104, r143_107, r143_110, r143_113, r143_114, r143_116, r143_118, r143_121, r143_122, r143_123, r143_124, r143_127, r143_128, r143_131, r143_134, r143_137, r143_138, r143_141, List.length_cons, List.length_nil, Nat.reduceAdd, Nat.reduceLT, if_true, l10, l01, l20, l21, l02, l12, List.append_nil, List.getElem?_cons_zero, List.getElem?_cons_succ, List.set_cons_zero, List.set_cons_succ, not_false_eq_true, not_true_eq_false, false_implies, true_implies, forall_const, Classical.not_not, rc0_at, rcI_at, sOK0, sOK1, sOK2, sOK3, sOK4, true_and, and_true, kil, Option.toList_some, Option.toList_none, List.nil_append, List.cons_append, Option.some.injEq, exists_eq_left', Value.int.injEq, Value.ref.injEq, Value.long.injEq, ge11t, x.f.2.2.2.2.2.1]
    rfl
  | succ j ih =>
    intro k v h hk x
    obtain ⟨h1, y1, y2, y3⟩ := v_say (d + 4) x (cou s (nI k))
    obtain ⟨h2, z1, z2, z3⟩ := ih (k + 1) _ h1 (by omega) y2
    rw [fInn_s]
    refine ⟨h2, z1, y3.tr z2, fun v2 => ?_⟩
    rw [r143_115]; simp only [r143_0, r143_1, r143_4, r143_7, r143_8, r143_11, r143_14, r143_15, r143_18, r143_19, r143_21, r143_22, r143_25, r143_28, r143_29, r143_31, r143_33, r143_36, r143_37, r143_38, r143_39, r143_40, r143_43, r143_44, r143_47, r143_50, r143_53, r143_56, r143_59, r143_60, r143_63, r143_66, r143_67, r143_68, r143_69, r143_72, r143_73, r143_76, r143_77, r143_78, r143_79, r143_82, r143_83, r143_86, r143_87, r143_89, r143_90, r143_93, r143_96, r143_97, r143_98, r143_101, r143_102, r143_103, r143_104, r143_107, r143_110, r143_113, r143_114, r143_116, r143_118, r143_121, r143_122, r143_123, r143_124, r143_127, r143_128, r143_131, r143_134, r143_137, r143_138, r143_141, List.length_cons, List.length_nil, Nat.reduceAdd, Nat.reduceLT, if_true, l10, l01, l20, l21, l02, l12, List.append_nil, List.getElem?_cons_zero, List.getElem?_cons_succ, List.set_cons_zero, List.set_cons_succ, not_false_eq_true, not_true_eq_false, false_implies, true_implies, forall_const, Classical.not_not, rc0_at, rcI_at, sOK0, sOK1, sOK2, sOK3, sOK4, true_and, and_true, kil, Option.toList_some, Option.toList_none, List.nil_append, List.cons_append, Option.some.injEq, exists_eq_left', Value.int.injEq, Value.ref.injEq, Value.long.injEq, ge11f (show k < 11 by omega), x.rc]
    refine ⟨_, _, v_countOf d x st (nI k), ?_⟩
    simp only [r143_0, r143_1, r143_4, r143_7, r143_8, r143_11, r143_14, r143_15, r143_18, r143_19, r143_21, r143_22, r143_25, r143_28, r143_29, r143_31, r143_33, r143_36, r143_37, r143_38, r143_39, r143_40, r143_43, r143_44, r143_47, r143_50, r143_53, r143_56, r143_59, r143_60, r143_63, r143_66, r143_67, r143_68, r143_69, r143_72, r143_73, r143_76, r143_77, r143_78, r143_79, r143_82, r143_83, r143_86, r143_87, r143_89, r143_90, r143_93, r143_96, r143_97, r143_98, r143_101, r143_102, r143_103, r143_104, r143_107, r143_110, r143_113, r143_114, r143_116, r143_118, r143_121, r143_122, r143_123, r143_124, r143_127, r143_128, r143_131, r143_134, r143_137, r143_138, r143_141, List.length_cons, List.length_nil, Nat.reduceAdd, Nat.reduceLT, if_true, l10, l01, l20, l21, l02, l12, List.append_nil, List.getElem?_cons_zero, List.getElem?_cons_succ, List.set_cons_zero, List.set_cons_succ, not_false_eq_true, not_true_eq_false, false_implies, true_implies, forall_const, Classical.not_not, rc0_at, rcI_at, sOK0, sOK1, sOK2, sOK3, sOK4, true_and, and_true, kil, Option.toList_some, Option.toList_none, List.nil_append, List.cons_append, Option.some.injEq, exists_eq_left', Value.int.injEq, Value.ref.injEq, Value.long.injEq, x.rc]
    refine ⟨_, _, y1, ?_⟩
    simp only [r143_0, r143_1, r143_4, r143_7, r143_8, r143_11, r143_14, r143_15, r143_18, r143_19, r143_21, r143_22, r143_25, r143_28, r143_29, r143_31, r143_33, r143_36, r143_37, r143_38, r143_39, r143_40, r143_43, r143_44, r143_47, r143_50, r143_53, r143_56, r143_59, r143_60, r143_63, r143_66, r143_67, r143_68, r143_69, r143_72, r143_73, r143_76, r143_77, r143_78, r143_79, r143_82, r143_83, r143_86, r143_87, r143_89, r143_90, r143_93, r143_96, r143_97, r143_98, r143_101, r143_102, r143_103, r143_104, r143_107, r143_110, r143_113, r143_114, r143_116, r143_118, r143_121, r143_122, r143_123, r143_124, r143_127, r143_128, r143_131, r143_134, r143_137, r143_138, r143_141, List.length_cons, List.length_nil, Nat.reduceAdd, Nat.reduceLT, if_true, l10, l01, l20, l21, l02, l12, List.append_nil, List.getElem?_cons_zero, List.getElem?_cons_succ, List.set_cons_zero, List.set_cons_succ, not_false_eq_true, not_true_eq_false, false_implies, true_implies, forall_const, Classical.not_not, rc0_at, rcI_at, sOK0, sOK1, sOK2, sOK3, sOK4, true_and, and_true, kil, Option.toList_some, Option.toList_none, List.nil_append, List.cons_append, Option.some.injEq, exists_eq_left', Value.int.injEq, Value.ref.injEq, Value.long.injEq, nI_1]
    exact z3 v2
theorem m_digest (d : Nat) {h : pH} {s : stT} (x : MS h s) (st : St s) : ∃ h', Cl (d + 7) 143 [.ref 66] h (some (.long (q_digest s))) h' ∧ MS h' s ∧ Dn h h' := by
  obtain ⟨h1, x1, D1, w1⟩ : ∃ h1, MSv h1 s 881 ∧ Dn h h1 ∧ ∀ r hF, X 143 (d + 6) r hF 7 [some (.ref 66), none, none] [] h1 → X 143 (d + 6) r hF 0 [some (.ref 66), none, none] [] h := by
    obtain ⟨wm, sn, kd, hh, rs, ms, th, wh, od, bo, krs, kms, a, b⟩ := x
    have g0 := a.g0
    dsimp only [mO] at g0
    refine ⟨_, ⟨wm, sn, kd, rs, ms, th, wh, od, bo, krs, kms, a.s0 _, b⟩, Dn.rf.st (by decide), fun r hF hk => ?_⟩
    simp only [r143_0, r143_1, r143_4, List.length_cons, List.length_nil, Nat.reduceAdd, Nat.reduceLT, if_true, l10, l01, l20, l21, l02, l12, List.append_nil, List.getElem?_cons_zero, List.getElem?_cons_succ, List.set_cons_zero, List.set_cons_succ, not_false_eq_true, not_true_eq_false, false_implies, true_implies, forall_const, Classical.not_not, rc0_at, rcI_at, sOK0, sOK1, sOK2, sOK3, sOK4, true_and, and_true, kil, Option.toList_some, Option.toList_none, List.nil_append, List.cons_append, Option.some.injEq, exists_eq_left', Value.int.injEq, Value.ref.injEq, Value.long.injEq, pf_at g0 (show 25 < 26 by decide)]
    exact hk
  obtain ⟨h2, x2, D2, w2⟩ : ∃ h2, MSv h2 s (dg1 s 881) ∧ Dn h1 h2 ∧ ∀ r hF, X 143 (d + 6) r hF 18 [some (.ref 66), none, none] [] h2 → X 143 (d + 6) r hF 7 [some (.ref 66), none, none] [] h1 := by
    unfold dg1
    cases e : s.2.2.2.2.2.1 with
    | false =>
      refine ⟨h1, x1, Dn.rf, fun r hF hk => ?_⟩
      simp only [r143_7, r143_8, r143_11, List.length_cons, List.length_nil, Nat.reduceAdd, Nat.reduceLT, if_true, l10, l01, l20, l21, l02, l12, List.append_nil, List.getElem?_cons_zero, List.getElem?_cons_succ, List.set_cons_zero, List.set_cons_succ, not_false_eq_true, not_true_eq_false, false_implies, true_implies, forall_const, Classical.not_not, rc0_at, rcI_at, sOK0, sOK1, sOK2, sOK3, sOK4, true_and, and_true, kil, Option.toList_some, Option.toList_none, List.nil_append, List.cons_append, Option.some.injEq, exists_eq_left', Value.int.injEq, Value.ref.injEq, Value.long.injEq, x1.f.2.2.1, e, b2i, Bool.false_eq_true, if_false]
      exact hk
    | true =>
      obtain ⟨h2, y1, y2, y3⟩ := v_sayDunes d x1 st
      refine ⟨h2, y2, y3, fun r hF hk => ?_⟩
      simp only [r143_7, r143_8, r143_11, r143_14, r143_15, List.length_cons, List.length_nil, Nat.reduceAdd, Nat.reduceLT, if_true, l10, l01, l20, l21, l02, l12, List.append_nil, List.getElem?_cons_zero, List.getElem?_cons_succ, List.set_cons_zero, List.set_cons_succ, not_false_eq_true, not_true_eq_false, false_implies, true_implies, forall_const, Classical.not_not, rc0_at, rcI_at, sOK0, sOK1, sOK2, sOK3, sOK4, true_and, and_true, kil, Option.toList_some, Option.toList_none, List.nil_append, List.cons_append, Option.some.injEq, exists_eq_left', Value.int.injEq, Value.ref.injEq, Value.long.injEq, x1.f.2.2.1, e, b2i, x1.rc]
      exact ⟨_, _, y1, hk⟩
  obtain ⟨h3, x3, D3, w3⟩ := lo_dwO (d + 3) st s.2.2.1.2.2.2.1 0 _ h2 (Nat.zero_add _) x2
  obtain ⟨h4, x4, D4, w4⟩ : ∃ h4, MSv h4 s (dg3 s (fWk s.2.2.1 s.2.2.1.2.2.2.1 0 (dg1 s 881))) ∧ Dn h3 h4 ∧ ∀ r hF v1 v2, X 143 (d + 6) r hF 86 [some (.ref 66), v1, v2] [] h4 → X 143 (d + 6) r hF 59 [some (.ref 66), v1, v2] [] h3 := by
    unfold dg3
    cases e : s.2.2.2.2.2.2.2.1 with
    | false =>
      refine ⟨h3, x3, Dn.rf, fun r hF v1 v2 hk => ?_⟩
      simp only [r143_59, r143_60, r143_63, List.length_cons, List.length_nil, Nat.reduceAdd, Nat.reduceLT, if_true, l10, l01, l20, l21, l02, l12, List.append_nil, List.getElem?_cons_zero, List.getElem?_cons_succ, List.set_cons_zero, List.set_cons_succ, not_false_eq_true, not_true_eq_false, false_implies, true_implies, forall_const, Classical.not_not, rc0_at, rcI_at, sOK0, sOK1, sOK2, sOK3, sOK4, true_and, and_true, kil, Option.toList_some, Option.toList_none, List.nil_append, List.cons_append, Option.some.injEq, exists_eq_left', Value.int.injEq, Value.ref.injEq, Value.long.injEq, x3.f.2.2.2.1, e, b2i, Bool.false_eq_true, if_false]
      exact hk
    | true =>
      obtain ⟨k1, a1, a2, a3⟩ := v_whoOf (d + 3) x3 st 0
      obtain ⟨k2, b1, b2, b3⟩ := v_say (d + 5) a2 (whoS s.2.2.1.2.1 s.2.2.2.2.1 s.2.2.1.1).1
      obtain ⟨k3, c1, c2, c3⟩ := v_whoOf (d + 3) b2 st 1
      obtain ⟨k4, e1, e2, e3⟩ := v_say (d + 5) c2 (whoS s.2.2.1.2.1 s.2.2.2.2.1 s.2.2.1.1).2
      rw [if_pos rfl] at a1
      rw [if_neg (by decide)] at c1
      refine ⟨k4, e2, ((a3.tr b3).tr c3).tr e3, fun r hF v1 v2 hk => ?_⟩
      simp only [r143_59, r143_60, r143_63, r143_66, r143_67, r143_68, r143_69, List.length_cons, List.length_nil, Nat.reduceAdd, Nat.reduceLT, if_true, l10, l01, l20, l21, l02, l12, List.append_nil, List.getElem?_cons_zero, List.getElem?_cons_succ, List.set_cons_zero, List.set_cons_succ, not_false_eq_true, not_true_eq_false, false_implies, true_implies, forall_const, Classical.not_not, rc0_at, rcI_at, sOK0, sOK1, sOK2, sOK3, sOK4, true_and, and_true, kil, Option.toList_some, Option.toList_none, List.nil_append, List.cons_append, Option.some.injEq, exists_eq_left', Value.int.injEq, Value.ref.injEq, Value.long.injEq, x3.f.2.2.2.1, e, b2i, x3.rc]
      refine ⟨_, _, a1, ?_⟩
      simp only [r143_72, r143_73, List.length_cons, List.length_nil, Nat.reduceAdd, Nat.reduceLT, if_true, l10, l01, l20, l21, l02, l12, List.append_nil, List.getElem?_cons_zero, List.getElem?_cons_succ, List.set_cons_zero, List.set_cons_succ, not_false_eq_true, not_true_eq_false, false_implies, true_implies, forall_const, Classical.not_not, rc0_at, rcI_at, sOK0, sOK1, sOK2, sOK3, sOK4, true_and, and_true, kil, Option.toList_some, Option.toList_none, List.nil_append, List.cons_append, Option.some.injEq, exists_eq_left', Value.int.injEq, Value.ref.injEq, Value.long.injEq, a2.rc]
      refine ⟨_, _, b1, ?_⟩
      simp only [r143_76, r143_77, r143_78, r143_79, List.length_cons, List.length_nil, Nat.reduceAdd, Nat.reduceLT, if_true, l10, l01, l20, l21, l02, l12, List.append_nil, List.getElem?_cons_zero, List.getElem?_cons_succ, List.set_cons_zero, List.set_cons_succ, not_false_eq_true, not_true_eq_false, false_implies, true_implies, forall_const, Classical.not_not, rc0_at, rcI_at, sOK0, sOK1, sOK2, sOK3, sOK4, true_and, and_true, kil, Option.toList_some, Option.toList_none, List.nil_append, List.cons_append, Option.some.injEq, exists_eq_left', Value.int.injEq, Value.ref.injEq, Value.long.injEq, b2.rc]
      refine ⟨_, _, c1, ?_⟩
      simp only [r143_82, r143_83, List.length_cons, List.length_nil, Nat.reduceAdd, Nat.reduceLT, if_true, l10, l01, l20, l21, l02, l12, List.append_nil, List.getElem?_cons_zero, List.getElem?_cons_succ, List.set_cons_zero, List.set_cons_succ, not_false_eq_true, not_true_eq_false, false_implies, true_implies, forall_const, Classical.not_not, rc0_at, rcI_at, sOK0, sOK1, sOK2, sOK3, sOK4, true_and, and_true, kil, Option.toList_some, Option.toList_none, List.nil_append, List.cons_append, Option.some.injEq, exists_eq_left', Value.int.injEq, Value.ref.injEq, Value.long.injEq, c2.rc]
      exact ⟨_, _, e1, hk⟩
  obtain ⟨h5, x5, D5, w5⟩ := lo_dwP (d + 5) st s.2.1 0 _ h4 (Nat.zero_add _) x4
  obtain ⟨h6, x6, D6, w6⟩ := lo_dwC (d + 1) st 11 0 _ h5 rfl x5
  refine ⟨h6, Cl_o 3 rfl [some (.ref 66), none, none] rfl rfl ?_, x6.m, ((((D1.tr D2).tr D3).tr D4).tr D5).tr D6⟩
  refine w1 _ _ (w2 _ _ ?_)
  simp only [r143_18, r143_19, List.length_cons, List.length_nil, Nat.reduceAdd, Nat.reduceLT, if_true, l10, l01, l20, l21, l02, l12, List.append_nil, List.getElem?_cons_zero, List.getElem?_cons_succ, List.set_cons_zero, List.set_cons_succ, not_false_eq_true, not_true_eq_false, false_implies, true_implies, forall_const, Classical.not_not, rc0_at, rcI_at, sOK0, sOK1, sOK2, sOK3, sOK4, true_and, and_true, kil, Option.toList_some, Option.toList_none, List.nil_append, List.cons_append, Option.some.injEq, exists_eq_left', Value.int.injEq, Value.ref.injEq, Value.long.injEq]
  refine w3 _ _ (fun v2 => w4 _ _ _ _ ?_) none
  simp only [r143_86, r143_87, List.length_cons, List.length_nil, Nat.reduceAdd, Nat.reduceLT, if_true, l10, l01, l20, l21, l02, l12, List.append_nil, List.getElem?_cons_zero, List.getElem?_cons_succ, List.set_cons_zero, List.set_cons_succ, not_false_eq_true, not_true_eq_false, false_implies, true_implies, forall_const, Classical.not_not, rc0_at, rcI_at, sOK0, sOK1, sOK2, sOK3, sOK4, true_and, and_true, kil, Option.toList_some, Option.toList_none, List.nil_append, List.cons_append, Option.some.injEq, exists_eq_left', Value.int.injEq, Value.ref.injEq, Value.long.injEq]
  refine w5 _ _ _ ?_
  simp only [r143_113, r143_114, List.length_cons, List.length_nil, Nat.reduceAdd, Nat.reduceLT, if_true, l10, l01, l20, l21, l02, l12, List.append_nil, List.getElem?_cons_zero, List.getElem?_cons_succ, List.set_cons_zero, List.set_cons_succ, not_false_eq_true, not_true_eq_false, false_implies, true_implies, forall_const, Classical.not_not, rc0_at, rcI_at, sOK0, sOK1, sOK2, sOK3, sOK4, true_and, and_true, kil, Option.toList_some, Option.toList_none, List.nil_append, List.cons_append, Option.some.injEq, exists_eq_left', Value.int.injEq, Value.ref.injEq, Value.long.injEq]
  exact w6 _
