/-- what order() tells of the best order -/
def orv (A : landT) (what : Int32) : Int32 := if what = 0 then Int32.ofInt (ordS A).2 else if (what - 10).toNatClampNeg < mps A.2.2.1 A.2.2.2.1 then nI ((ordS A).1.getD (what - 10).toNatClampNeg 0) else -1
def okO (what : Int32) : Bool := decide (what = 0 ∨ (10 ≤ what ∧ what < 14))
def q_order (s : stT) (what : Int32) : stT × Int32 := (s, if okO what then (if s.2.2.2.2.2.1 then orv s.2.2.1 what else -103) else -102)
theorem what_10 {what : Int32} (h1 : 10 ≤ what) (h2 : what < 14) : ∃ t, t < 4 ∧ what - 10 = nI t := by
  rw [Int32.le_iff_toInt_le] at h1
  rw [Int32.lt_iff_toInt_lt] at h2
  have e1 : (10 : Int32).toInt = 10 := rfl
  have e2 : (14 : Int32).toInt = 14 := rfl
  refine ⟨(what.toInt - 10).toNat, by omega, ?_⟩
  have e3 : what = nI what.toInt.toNat := Int32.toInt_inj.mp (by rw [nI_toInt (by omega)]; omega)
  rw [e3]
  have e4 : (10 : Int32) = nI 10 := rfl
  rw [e4, pk_sub (by omega)]
  congr 1
  rw [nI_toInt (by omega)]
  omega
theorem x_order (d : Nat) {h : pH} {s : stT} (x : XS h s) (what : Int32) : ∃ h', Cl (d + 10) 66 [.ref 0, .int what] h (some (.int (q_order s what).2)) h' ∧ XS h' (q_order s what).1 ∧ Up h h' := by
  obtain ⟨cs, n, A, B, bf, hd, hm, hb, tr⟩ := s
  have x0 := x.1
  dsimp only [obC] at x0
  unfold q_order
  dsimp only
  have e0 : entL 3 [Value.ref 0, .int what] = [some (.ref 0), some (.int what), none] := rfl
  by_cases hw0 : okO what = true
  · rw [if_pos hw0]
    have hw : what = 0 ∨ (10 ≤ what ∧ what < 14) := of_decide_eq_true hw0
    cases hd with
    | false =>
      refine ⟨h, ?_, x, Up.rf⟩
      refine Cl_o 3 rfl _ e0 rfl ?_
      have eb : b2i false = 0 := rfl
      rcases hw with rfl | ⟨h1, h2⟩
      · simp (config := { decide := true }) only [r66_0, r66_1, r66_3, r66_6, r66_7, r66_9, r66_12, r66_13, r66_16, r66_17, r66_18, r66_19, r66_22, r66_23, r66_26, r66_28, r66_29, r66_30, r66_33, r66_36, r66_38, r66_39, r66_40, r66_43, r66_44, r66_47, r66_50, r66_51, r66_54, r66_55, r66_58, r66_59, r66_61, r66_62, r66_65, r66_68, r66_69, r66_72, r66_75, List.length_cons, List.length_nil, Nat.reduceAdd, Nat.reduceLT, if_true, l10, l01, l20, l21, l02, l12, List.append_nil, List.getElem?_cons_zero, List.getElem?_cons_succ, List.set_cons_zero, List.set_cons_succ, not_false_eq_true, not_true_eq_false, false_implies, true_implies, forall_const, Classical.not_not, rc0_at, rcI_at, sOK0, sOK1, sOK2, sOK3, sOK4, true_and, and_true, kil, Option.toList_some, Option.toList_none, List.nil_append, List.cons_append, Option.some.injEq, exists_eq_left', Value.int.injEq, Value.ref.injEq, Value.long.injEq, gf_at x0, eb, Bool.false_eq_true, if_false]
      · have h3 : ¬ what < 10 := Int32.not_lt.mpr h1
        have h4 : ¬ (14 : Int32) ≤ what := Int32.not_le.mpr h2
        have h5 : ¬ what = 0 := by rintro rfl; revert h1; decide
        simp (config := { decide := true }) only [r66_0, r66_1, r66_3, r66_6, r66_7, r66_9, r66_12, r66_13, r66_16, r66_17, r66_18, r66_19, r66_22, r66_23, r66_26, r66_28, r66_29, r66_30, r66_33, r66_36, r66_38, r66_39, r66_40, r66_43, r66_44, r66_47, r66_50, r66_51, r66_54, r66_55, r66_58, r66_59, r66_61, r66_62, r66_65, r66_68, r66_69, r66_72, r66_75, List.length_cons, List.length_nil, Nat.reduceAdd, Nat.reduceLT, if_true, l10, l01, l20, l21, l02, l12, List.append_nil, List.getElem?_cons_zero, List.getElem?_cons_succ, List.set_cons_zero, List.set_cons_succ, not_false_eq_true, not_true_eq_false, false_implies, true_implies, forall_const, Classical.not_not, rc0_at, rcI_at, sOK0, sOK1, sOK2, sOK3, sOK4, true_and, and_true, kil, Option.toList_some, Option.toList_none, List.nil_append, List.cons_append, Option.some.injEq, exists_eq_left', Value.int.injEq, Value.ref.injEq, Value.long.injEq, gf_at x0, eb, h3, h4, h5, h1, h2, Bool.false_eq_true, if_false]
    | true =>
      obtain ⟨go0, st0, od⟩ := x.2.2.2.2.2.2.1
      obtain ⟨h', r1, r2, r3⟩ := c_ordering d od x.2.2.1 (by omega)
      have x' := x.sc (r3.mono (by omega) (by omega)) (x.2.2.2.2.2.od r3 r2)
      have z0 := x'.1
      dsimp only [obC] at z0
      have ok := odS_ok A x.2.2.1.2.2.2.2 st0.1 st0.2.1 od.2.2.1.2 od.2.2.2.1.2
      have hmp : mps A.2.2.1 A.2.2.2.1 ≤ 4 := Nat.le_trans (mps_le _ _) x.2.2.1.2.2.2.2
      refine ⟨h', ?_, x', Up.sm r3 (by omega)⟩
      refine Cl_o 3 rfl _ e0 rfl ?_
      have eb : b2i true = 1 := rfl
      have hr3 : ∀ as, rcV 3 h (Value.ref 31 :: as) = True := fun as => rcV_at (fs := _) od.1
      have hr3' : ∀ as, rcV 3 h' (Value.ref 31 :: as) = True := fun as => rcV_at (fs := _) r2.1
      have r21 := r2.1
      unfold odC at r21
      rcases hw with rfl | ⟨h1, h2⟩
      · simp (config := { decide := true }) only [r66_0, r66_1, r66_3, r66_6, r66_7, r66_9, r66_12, r66_13, r66_16, r66_17, r66_18, r66_19, r66_22, r66_23, r66_26, r66_28, r66_29, r66_30, r66_33, r66_36, r66_38, r66_39, r66_40, r66_43, r66_44, r66_47, r66_50, r66_51, r66_54, r66_55, r66_58, r66_59, r66_61, r66_62, r66_65, r66_68, r66_69, r66_72, r66_75, List.length_cons, List.length_nil, Nat.reduceAdd, Nat.reduceLT, if_true, l10, l01, l20, l21, l02, l12, List.append_nil, List.getElem?_cons_zero, List.getElem?_cons_succ, List.set_cons_zero, List.set_cons_succ, not_false_eq_true, not_true_eq_false, false_implies, true_implies, forall_const, Classical.not_not, rc0_at, rcI_at, sOK0, sOK1, sOK2, sOK3, sOK4, true_and, and_true, kil, Option.toList_some, Option.toList_none, List.nil_append, List.cons_append, Option.some.injEq, exists_eq_left', Value.int.injEq, Value.ref.injEq, Value.long.injEq, gf_at x0, eb, hr3]
        refine ⟨_, _, r1, ?_⟩
        simp (config := { decide := true }) only [r66_0, r66_1, r66_3, r66_6, r66_7, r66_9, r66_12, r66_13, r66_16, r66_17, r66_18, r66_19, r66_22, r66_23, r66_26, r66_28, r66_29, r66_30, r66_33, r66_36, r66_38, r66_39, r66_40, r66_43, r66_44, r66_47, r66_50, r66_51, r66_54, r66_55, r66_58, r66_59, r66_61, r66_62, r66_65, r66_68, r66_69, r66_72, r66_75, List.length_cons, List.length_nil, Nat.reduceAdd, Nat.reduceLT, if_true, l10, l01, l20, l21, l02, l12, List.append_nil, List.getElem?_cons_zero, List.getElem?_cons_succ, List.set_cons_zero, List.set_cons_succ, not_false_eq_true, not_true_eq_false, false_implies, true_implies, forall_const, Classical.not_not, rc0_at, rcI_at, sOK0, sOK1, sOK2, sOK3, sOK4, true_and, and_true, kil, Option.toList_some, Option.toList_none, List.nil_append, List.cons_append, Option.some.injEq, exists_eq_left', Value.int.injEq, Value.ref.injEq, Value.long.injEq, gf_at z0, gf_at r21, orv]
        rw [← ok.2.2.2.1.1]
        exact (Int32.ofInt_toInt _).symm
      · have h3 : ¬ what < 10 := Int32.not_lt.mpr h1
        have h4 : ¬ (14 : Int32) ≤ what := Int32.not_le.mpr h2
        have h5 : ¬ what = 0 := by rintro rfl; revert h1; decide
        obtain ⟨t, ht, et⟩ := what_10 h1 h2
        simp (config := { decide := true }) only [r66_0, r66_1, r66_3, r66_6, r66_7, r66_9, r66_12, r66_13, r66_16, r66_17, r66_18, r66_19, r66_22, r66_23, r66_26, r66_28, r66_29, r66_30, r66_33, r66_36, r66_38, r66_39, r66_40, r66_43, r66_44, r66_47, r66_50, r66_51, r66_54, r66_55, r66_58, r66_59, r66_61, r66_62, r66_65, r66_68, r66_69, r66_72, r66_75, List.length_cons, List.length_nil, Nat.reduceAdd, Nat.reduceLT, if_true, l10, l01, l20, l21, l02, l12, List.append_nil, List.getElem?_cons_zero, List.getElem?_cons_succ, List.set_cons_zero, List.set_cons_succ, not_false_eq_true, not_true_eq_false, false_implies, true_implies, forall_const, Classical.not_not, rc0_at, rcI_at, sOK0, sOK1, sOK2, sOK3, sOK4, true_and, and_true, kil, Option.toList_some, Option.toList_none, List.nil_append, List.cons_append, Option.some.injEq, exists_eq_left', Value.int.injEq, Value.ref.injEq, Value.long.injEq, gf_at x0, eb, h3, h4, h5, h1, h2, hr3]
        refine ⟨_, _, r1, ?_⟩
        simp (config := { decide := true }) only [r66_0, r66_1, r66_3, r66_6, r66_7, r66_9, r66_12, r66_13, r66_16, r66_17, r66_18, r66_19, r66_22, r66_23, r66_26, r66_28, r66_29, r66_30, r66_33, r66_36, r66_38, r66_39, r66_40, r66_43, r66_44, r66_47, r66_50, r66_51, r66_54, r66_55, r66_58, r66_59, r66_61, r66_62, r66_65, r66_68, r66_69, r66_72, r66_75, List.length_cons, List.length_nil, Nat.reduceAdd, Nat.reduceLT, if_true, l10, l01, l20, l21, l02, l12, List.append_nil, List.getElem?_cons_zero, List.getElem?_cons_succ, List.set_cons_zero, List.set_cons_succ, not_false_eq_true, not_true_eq_false, false_implies, true_implies, forall_const, Classical.not_not, rc0_at, rcI_at, sOK0, sOK1, sOK2, sOK3, sOK4, true_and, and_true, kil, Option.toList_some, Option.toList_none, List.nil_append, List.cons_append, Option.some.injEq, exists_eq_left', Value.int.injEq, Value.ref.injEq, Value.long.injEq, gf_at z0, hr3', et]
        refine ⟨_, _, c_goerAt (d + 8) r2 hmp ht, ?_⟩
        simp (config := { decide := true }) only [r66_0, r66_1, r66_3, r66_6, r66_7, r66_9, r66_12, r66_13, r66_16, r66_17, r66_18, r66_19, r66_22, r66_23, r66_26, r66_28, r66_29, r66_30, r66_33, r66_36, r66_38, r66_39, r66_40, r66_43, r66_44, r66_47, r66_50, r66_51, r66_54, r66_55, r66_58, r66_59, r66_61, r66_62, r66_65, r66_68, r66_69, r66_72, r66_75, List.length_cons, List.length_nil, Nat.reduceAdd, Nat.reduceLT, if_true, l10, l01, l20, l21, l02, l12, List.append_nil, List.getElem?_cons_zero, List.getElem?_cons_succ, List.set_cons_zero, List.set_cons_succ, not_false_eq_true, not_true_eq_false, false_implies, true_implies, forall_const, Classical.not_not, rc0_at, rcI_at, sOK0, sOK1, sOK2, sOK3, sOK4, true_and, and_true, kil, Option.toList_some, Option.toList_none, List.nil_append, List.cons_append, Option.some.injEq, exists_eq_left', Value.int.injEq, Value.ref.injEq, Value.long.injEq]
        unfold orv
        rw [if_neg h5, et, nI_clamp (by omega)]
        by_cases q : t < mps A.2.2.1 A.2.2.2.1
        · rw [if_pos q, if_neg (by omega)]
          exact (ok.2.2.2.2 (ordS_pos A)).2 t q
        · rw [if_neg q, if_pos (by omega)]
  · rw [if_neg hw0]
    have hw : ¬ (what = 0 ∨ (10 ≤ what ∧ what < 14)) := fun z => hw0 (decide_eq_true z)
    refine ⟨h, ?_, x, Up.rf⟩
    refine Cl_o 3 rfl _ e0 rfl ?_
    have h5 : ¬ what = 0 := fun z => hw (Or.inl z)
    by_cases h3 : what < 10
    · simp (config := { decide := true }) only [r66_0, r66_1, r66_3, r66_6, r66_7, r66_9, r66_12, r66_13, r66_16, r66_17, r66_18, r66_19, r66_22, r66_23, r66_26, r66_28, r66_29, r66_30, r66_33, r66_36, r66_38, r66_39, r66_40, r66_43, r66_44, r66_47, r66_50, r66_51, r66_54, r66_55, r66_58, r66_59, r66_61, r66_62, r66_65, r66_68, r66_69, r66_72, r66_75, List.length_cons, List.length_nil, Nat.reduceAdd, Nat.reduceLT, if_true, l10, l01, l20, l21, l02, l12, List.append_nil, List.getElem?_cons_zero, List.getElem?_cons_succ, List.set_cons_zero, List.set_cons_succ, not_false_eq_true, not_true_eq_false, false_implies, true_implies, forall_const, Classical.not_not, rc0_at, rcI_at, sOK0, sOK1, sOK2, sOK3, sOK4, true_and, and_true, kil, Option.toList_some, Option.toList_none, List.nil_append, List.cons_append, Option.some.injEq, exists_eq_left', Value.int.injEq, Value.ref.injEq, Value.long.injEq, h3, h5]
    · have h4 : (14 : Int32) ≤ what := Int32.not_lt.mp (fun z => hw (Or.inr ⟨Int32.not_lt.mp h3, z⟩))
      simp (config := { decide := true }) only [r66_0, r66_1, r66_3, r66_6, r66_7, r66_9, r66_12, r66_13, r66_16, r66_17, r66_18, r66_19, r66_22, r66_23, r66_26, r66_28, r66_29, r66_30, r66_33, r66_36, r66_38, r66_39, r66_40, r66_43, r66_44, r66_47, r66_50, r66_51, r66_54, r66_55, r66_58, r66_59, r66_61, r66_62, r66_65, r66_68, r66_69, r66_72, r66_75, List.length_cons, List.length_nil, Nat.reduceAdd, Nat.reduceLT, if_true, l10, l01, l20, l21, l02, l12, List.append_nil, List.getElem?_cons_zero, List.getElem?_cons_succ, List.set_cons_zero, List.set_cons_succ, not_false_eq_true, not_true_eq_false, false_implies, true_implies, forall_const, Classical.not_not, rc0_at, rcI_at, sOK0, sOK1, sOK2, sOK3, sOK4, true_and, and_true, kil, Option.toList_some, Option.toList_none, List.nil_append, List.cons_append, Option.some.injEq, exists_eq_left', Value.int.injEq, Value.ref.injEq, Value.long.injEq, h3, h4, h5]
def q_feet (s : stT) (k c hgt what : Int32) : stT × Int32 := (s, if ixv k s.2.2.1.2.2.2.1 ∧ (s.2.2.2.2.2.1 && ixv c 8) = true then (if ixv hgt 10 ∧ ixv what 2 then feetS s.2.2.1 k.toNatClampNeg c.toNatClampNeg hgt what else -102) else -101)
theorem x_feet (d : Nat) {h : pH} {s : stT} (x : XS h s) (k c hgt what : Int32) : ∃ h', Cl (d + 13) 67 [.ref 0, .int k, .int c, .int hgt, .int what] h (some (.int (q_feet s k c hgt what).2)) h' ∧ XS h' (q_feet s k c hgt what).1 ∧ Up h h' := by
  have hc := c_isCell (d + 11) x c
  obtain ⟨cs, n, A, B, bf, hd, hm, hb, tr⟩ := s
  obtain ⟨hs, w, ws, cnt, nt⟩ := A
  have x0 := x.1
  dsimp only [obC] at x0 hc
  have hr2 : ∀ as, rcV 2 h (Value.ref 3 :: as) = True := fun as => rcV_at (fs := _) x.2.2.1.1
  have hr7 : ∀ as, rcV 7 h (Value.ref 0 :: as) = True := fun as => rcV_at (fs := _) x0
  have hc4 := x.2.2.1.2.2.2.2
  dsimp only at hc4
  unfold q_feet
  dsimp only
  have e0 : entL 6 [Value.ref 0, .int k, .int c, .int hgt, .int what] = [some (.ref 0), some (.int k), some (.int c), some (.int hgt), some (.int what), none] := rfl
  rcases ix_or k cnt (by omega) with ⟨i, hi, rfl⟩ | hk
  · rw [ixT hi (by omega), nI_clamp (show i < 2 ^ 31 by omega)]
    cases e : (hd && ixv c 8) with
    | false =>
      rw [e] at hc
      refine ⟨h, ?_, x, Up.rf⟩
      refine Cl_o 6 rfl _ e0 rfl ?_
      simp only [r67_0, r67_0_n, r67_1, r67_4, r67_5, r67_8, r67_8_n, r67_10, r67_10_n, r67_12_n, r67_12, r67_15, r67_15_n, r67_16, r67_17, r67_20, r67_23, r67_25, r67_26, r67_27, r67_30, r67_31, r67_33, r67_36, r67_38, r67_41, r67_43, r67_44, r67_47, r67_49, r67_50, r67_50_n, r67_51, r67_54, r67_54_n, r67_55, r67_58, r67_61, r67_61_n, r67_63, r67_64, r67_65, r67_68, r67_70, r67_73, r67_73_n, r67_74, r67_77, r67_80, r67_83, r67_83_n, r67_84, r67_87, r67_90, List.length_cons, List.length_nil, Nat.reduceAdd, Nat.reduceLT, if_true, l10, l01, l20, l21, l02, l12, List.append_nil, List.getElem?_cons_zero, List.getElem?_cons_succ, List.set_cons_zero, List.set_cons_succ, not_false_eq_true, not_true_eq_false, false_implies, true_implies, forall_const, Classical.not_not, rc0_at, rcI_at, sOK0, sOK1, sOK2, sOK3, sOK4, true_and, and_true, kil, Option.toList_some, Option.toList_none, List.nil_append, List.cons_append, Option.some.injEq, exists_eq_left', Value.int.injEq, Value.ref.injEq, Value.long.injEq, gf_at x0, hr2]
      refine ⟨_, _, c_named (d + 11) x.2.2.1 hi, ?_⟩
      simp only [r67_0, r67_0_n, r67_1, r67_4, r67_5, r67_8, r67_8_n, r67_10, r67_10_n, r67_12_n, r67_12, r67_15, r67_15_n, r67_16, r67_17, r67_20, r67_23, r67_25, r67_26, r67_27, r67_30, r67_31, r67_33, r67_36, r67_38, r67_41, r67_43, r67_44, r67_47, r67_49, r67_50, r67_50_n, r67_51, r67_54, r67_54_n, r67_55, r67_58, r67_61, r67_61_n, r67_63, r67_64, r67_65, r67_68, r67_70, r67_73, r67_73_n, r67_74, r67_77, r67_80, r67_83, r67_83_n, r67_84, r67_87, r67_90, List.length_cons, List.length_nil, Nat.reduceAdd, Nat.reduceLT, if_true, l10, l01, l20, l21, l02, l12, List.append_nil, List.getElem?_cons_zero, List.getElem?_cons_succ, List.set_cons_zero, List.set_cons_succ, not_false_eq_true, not_true_eq_false, false_implies, true_implies, forall_const, Classical.not_not, rc0_at, rcI_at, sOK0, sOK1, sOK2, sOK3, sOK4, true_and, and_true, kil, Option.toList_some, Option.toList_none, List.nil_append, List.cons_append, Option.some.injEq, exists_eq_left', Value.int.injEq, Value.ref.injEq, Value.long.injEq, hr7]
      refine ⟨_, _, hc, ?_⟩
      simp only [r67_0, r67_0_n, r67_1, r67_4, r67_5, r67_8, r67_8_n, r67_10, r67_10_n, r67_12_n, r67_12, r67_15, r67_15_n, r67_16, r67_17, r67_20, r67_23, r67_25, r67_26, r67_27, r67_30, r67_31, r67_33, r67_36, r67_38, r67_41, r67_43, r67_44, r67_47, r67_49, r67_50, r67_50_n, r67_51, r67_54, r67_54_n, r67_55, r67_58, r67_61, r67_61_n, r67_63, r67_64, r67_65, r67_68, r67_70, r67_73, r67_73_n, r67_74, r67_77, r67_80, r67_83, r67_83_n, r67_84, r67_87, r67_90, List.length_cons, List.length_nil, Nat.reduceAdd, Nat.reduceLT, if_true, l10, l01, l20, l21, l02, l12, List.append_nil, List.getElem?_cons_zero, List.getElem?_cons_succ, List.set_cons_zero, List.set_cons_succ, not_false_eq_true, not_true_eq_false, false_implies, true_implies, forall_const, Classical.not_not, rc0_at, rcI_at, sOK0, sOK1, sOK2, sOK3, sOK4, true_and, and_true, kil, Option.toList_some, Option.toList_none, List.nil_append, List.cons_append, Option.some.injEq, exists_eq_left', Value.int.injEq, Value.ref.injEq, Value.long.injEq, b2i, Bool.false_eq_true, if_false, and_false]
    | true =>
      rw [e] at hc
      have e2 := (Bool.and_eq_true _ _ ▸ e : hd = true ∧ ixv c 8 = true).2
      rcases ix_or c 8 (by decide) with ⟨j, hj, rfl⟩ | hcc
      · rw [nI_clamp (show j < 2 ^ 31 by omega)]
        simp only [and_self, if_true]
        by_cases q : ixv hgt 10 = true ∧ ixv what 2 = true
        · rw [if_pos q]
          obtain ⟨q1, q2⟩ := q
          have q1' : 0 ≤ hgt ∧ hgt < 10 := of_decide_eq_true q1
          have q2' : 0 ≤ what ∧ what < 2 := of_decide_eq_true q2
          have y := x.2.2.1.2.2.2.1 i (by omega)
          dsimp only at y
          have s4 := x.2.2.1.2.1
          dsimp only at s4
          obtain ⟨n0, g0, gh0, st0, ft⟩ := x.2.2.2.2.2.2.2.1
          obtain ⟨h', r1, r2, r3⟩ := c_footing d (g := j) (gh := hgt) ft s4 y hj (by omega) (by omega)
          have x' := x.sc (r3.mono (by omega) (by omega)) (x.2.2.2.2.2.ft r3 r2)
          have z0 := x'.1
          dsimp only [obC] at z0
          refine ⟨h', ?_, x', Up.sm r3 (by omega)⟩
          refine Cl_o 6 rfl _ e0 rfl ?_
          have x3 := x.2.2.1.1
          dsimp only at x3
          have hr1 : ∀ as, rcV 1 h (Value.ref 45 :: as) = True := fun as => rcV_at (fs := _) ft.1
          have r21 := r2.1
          unfold ftC at r21
          have a1 : ¬ hgt < 0 := Int32.not_lt.mpr q1'.1
          have a2 : hgt ≤ 9 := by
            have := q1'.2
            rw [Int32.lt_iff_toInt_lt] at this
            rw [Int32.le_iff_toInt_le]
            have e1 : (10 : Int32).toInt = 10 := rfl
            have e2 : (9 : Int32).toInt = 9 := rfl
            omega
          have a3 : ¬ what < 0 := Int32.not_lt.mpr q2'.1
          have a4 : what ≤ 1 := by
            have := q2'.2
            rw [Int32.lt_iff_toInt_lt] at this
            rw [Int32.le_iff_toInt_le]
            have e1 : (2 : Int32).toInt = 2 := rfl
            have e2 : (1 : Int32).toInt = 1 := rfl
            omega
          simp only [r67_0, r67_0_n, r67_1, r67_4, r67_5, r67_8, r67_8_n, r67_10, r67_10_n, r67_12_n, r67_12, r67_15, r67_15_n, r67_16, r67_17, r67_20, r67_23, r67_25, r67_26, r67_27, r67_30, r67_31, r67_33, r67_36, r67_38, r67_41, r67_43, r67_44, r67_47, r67_49, r67_50, r67_50_n, r67_51, r67_54, r67_54_n, r67_55, r67_58, r67_61, r67_61_n, r67_63, r67_64, r67_65, r67_68, r67_70, r67_73, r67_73_n, r67_74, r67_77, r67_80, r67_83, r67_83_n, r67_84, r67_87, r67_90, List.length_cons, List.length_nil, Nat.reduceAdd, Nat.reduceLT, if_true, l10, l01, l20, l21, l02, l12, List.append_nil, List.getElem?_cons_zero, List.getElem?_cons_succ, List.set_cons_zero, List.set_cons_succ, not_false_eq_true, not_true_eq_false, false_implies, true_implies, forall_const, Classical.not_not, rc0_at, rcI_at, sOK0, sOK1, sOK2, sOK3, sOK4, true_and, and_true, kil, Option.toList_some, Option.toList_none, List.nil_append, List.cons_append, Option.some.injEq, exists_eq_left', Value.int.injEq, Value.ref.injEq, Value.long.injEq, gf_at x0, hr2]
          refine ⟨_, _, c_named (d + 11) x.2.2.1 hi, ?_⟩
          simp only [r67_0, r67_0_n, r67_1, r67_4, r67_5, r67_8, r67_8_n, r67_10, r67_10_n, r67_12_n, r67_12, r67_15, r67_15_n, r67_16, r67_17, r67_20, r67_23, r67_25, r67_26, r67_27, r67_30, r67_31, r67_33, r67_36, r67_38, r67_41, r67_43, r67_44, r67_47, r67_49, r67_50, r67_50_n, r67_51, r67_54, r67_54_n, r67_55, r67_58, r67_61, r67_61_n, r67_63, r67_64, r67_65, r67_68, r67_70, r67_73, r67_73_n, r67_74, r67_77, r67_80, r67_83, r67_83_n, r67_84, r67_87, r67_90, List.length_cons, List.length_nil, Nat.reduceAdd, Nat.reduceLT, if_true, l10, l01, l20, l21, l02, l12, List.append_nil, List.getElem?_cons_zero, List.getElem?_cons_succ, List.set_cons_zero, List.set_cons_succ, not_false_eq_true, not_true_eq_false, false_implies, true_implies, forall_const, Classical.not_not, rc0_at, rcI_at, sOK0, sOK1, sOK2, sOK3, sOK4, true_and, and_true, kil, Option.toList_some, Option.toList_none, List.nil_append, List.cons_append, Option.some.injEq, exists_eq_left', Value.int.injEq, Value.ref.injEq, Value.long.injEq, hr7]
          refine ⟨_, _, hc, ?_⟩
          have a2' := Int32.not_lt.mpr a2
          simp only [r67_0, r67_0_n, r67_1, r67_4, r67_5, r67_8, r67_8_n, r67_10, r67_10_n, r67_12_n, r67_12, r67_15, r67_15_n, r67_16, r67_17, r67_20, r67_23, r67_25, r67_26, r67_27, r67_30, r67_31, r67_33, r67_36, r67_38, r67_41, r67_43, r67_44, r67_47, r67_49, r67_50, r67_50_n, r67_51, r67_54, r67_54_n, r67_55, r67_58, r67_61, r67_61_n, r67_63, r67_64, r67_65, r67_68, r67_70, r67_73, r67_73_n, r67_74, r67_77, r67_80, r67_83, r67_83_n, r67_84, r67_87, r67_90, List.length_cons, List.length_nil, Nat.reduceAdd, Nat.reduceLT, if_true, l10, l01, l20, l21, l02, l12, List.append_nil, List.getElem?_cons_zero, List.getElem?_cons_succ, List.set_cons_zero, List.set_cons_succ, not_false_eq_true, not_true_eq_false, false_implies, true_implies, forall_const, Classical.not_not, rc0_at, rcI_at, sOK0, sOK1, sOK2, sOK3, sOK4, true_and, and_true, kil, Option.toList_some, Option.toList_none, List.nil_append, List.cons_append, Option.some.injEq, exists_eq_left', Value.int.injEq, Value.ref.injEq, Value.long.injEq, b2i, a1, a2', a3, a4, gf_at x0, gf_at x3, hr1]
          refine ⟨_, _, r1, ?_⟩
          simp only [r67_0, r67_0_n, r67_1, r67_4, r67_5, r67_8, r67_8_n, r67_10, r67_10_n, r67_12_n, r67_12, r67_15, r67_15_n, r67_16, r67_17, r67_20, r67_23, r67_25, r67_26, r67_27, r67_30, r67_31, r67_33, r67_36, r67_38, r67_41, r67_43, r67_44, r67_47, r67_49, r67_50, r67_50_n, r67_51, r67_54, r67_54_n, r67_55, r67_58, r67_61, r67_61_n, r67_63, r67_64, r67_65, r67_68, r67_70, r67_73, r67_73_n, r67_74, r67_77, r67_80, r67_83, r67_83_n, r67_84, r67_87, r67_90, List.length_cons, List.length_nil, Nat.reduceAdd, Nat.reduceLT, if_true, l10, l01, l20, l21, l02, l12, List.append_nil, List.getElem?_cons_zero, List.getElem?_cons_succ, List.set_cons_zero, List.set_cons_succ, not_false_eq_true, not_true_eq_false, false_implies, true_implies, forall_const, Classical.not_not, rc0_at, rcI_at, sOK0, sOK1, sOK2, sOK3, sOK4, true_and, and_true, kil, Option.toList_some, Option.toList_none, List.nil_append, List.cons_append, Option.some.injEq, exists_eq_left', Value.int.injEq, Value.ref.injEq, Value.long.injEq, gf_at z0, gf_at r21, ftS_ok]
          by_cases w0 : what = 0
          · simp [w0]
          · simp [w0]
        · rw [if_neg q]
          refine ⟨h, ?_, x, Up.rf⟩
          refine Cl_o 6 rfl _ e0 rfl ?_
          simp only [r67_0, r67_0_n, r67_1, r67_4, r67_5, r67_8, r67_8_n, r67_10, r67_10_n, r67_12_n, r67_12, r67_15, r67_15_n, r67_16, r67_17, r67_20, r67_23, r67_25, r67_26, r67_27, r67_30, r67_31, r67_33, r67_36, r67_38, r67_41, r67_43, r67_44, r67_47, r67_49, r67_50, r67_50_n, r67_51, r67_54, r67_54_n, r67_55, r67_58, r67_61, r67_61_n, r67_63, r67_64, r67_65, r67_68, r67_70, r67_73, r67_73_n, r67_74, r67_77, r67_80, r67_83, r67_83_n, r67_84, r67_87, r67_90, List.length_cons, List.length_nil, Nat.reduceAdd, Nat.reduceLT, if_true, l10, l01, l20, l21, l02, l12, List.append_nil, List.getElem?_cons_zero, List.getElem?_cons_succ, List.set_cons_zero, List.set_cons_succ, not_false_eq_true, not_true_eq_false, false_implies, true_implies, forall_const, Classical.not_not, rc0_at, rcI_at, sOK0, sOK1, sOK2, sOK3, sOK4, true_and, and_true, kil, Option.toList_some, Option.toList_none, List.nil_append, List.cons_append, Option.some.injEq, exists_eq_left', Value.int.injEq, Value.ref.injEq, Value.long.injEq, gf_at x0, hr2]
          refine ⟨_, _, c_named (d + 11) x.2.2.1 hi, ?_⟩
          simp only [r67_0, r67_0_n, r67_1, r67_4, r67_5, r67_8, r67_8_n, r67_10, r67_10_n, r67_12_n, r67_12, r67_15, r67_15_n, r67_16, r67_17, r67_20, r67_23, r67_25, r67_26, r67_27, r67_30, r67_31, r67_33, r67_36, r67_38, r67_41, r67_43, r67_44, r67_47, r67_49, r67_50, r67_50_n, r67_51, r67_54, r67_54_n, r67_55, r67_58, r67_61, r67_61_n, r67_63, r67_64, r67_65, r67_68, r67_70, r67_73, r67_73_n, r67_74, r67_77, r67_80, r67_83, r67_83_n, r67_84, r67_87, r67_90, List.length_cons, List.length_nil, Nat.reduceAdd, Nat.reduceLT, if_true, l10, l01, l20, l21, l02, l12, List.append_nil, List.getElem?_cons_zero, List.getElem?_cons_succ, List.set_cons_zero, List.set_cons_succ, not_false_eq_true, not_true_eq_false, false_implies, true_implies, forall_const, Classical.not_not, rc0_at, rcI_at, sOK0, sOK1, sOK2, sOK3, sOK4, true_and, and_true, kil, Option.toList_some, Option.toList_none, List.nil_append, List.cons_append, Option.some.injEq, exists_eq_left', Value.int.injEq, Value.ref.injEq, Value.long.injEq, hr7]
          refine ⟨_, _, hc, ?_⟩
          have b9 : ∀ v : Int32, v ≤ 9 ↔ v < 10 := fun v => by
            rw [Int32.lt_iff_toInt_lt, Int32.le_iff_toInt_le]
            have e1 : (10 : Int32).toInt = 10 := rfl
            have e2 : (9 : Int32).toInt = 9 := rfl
            omega
          have b1 : ∀ v : Int32, v ≤ 1 ↔ v < 2 := fun v => by
            rw [Int32.lt_iff_toInt_lt, Int32.le_iff_toInt_le]
            have e1 : (2 : Int32).toInt = 2 := rfl
            have e2 : (1 : Int32).toInt = 1 := rfl
            omega
          by_cases a1 : hgt < 0
          · simp only [r67_0, r67_0_n, r67_1, r67_4, r67_5, r67_8, r67_8_n, r67_10, r67_10_n, r67_12_n, r67_12, r67_15, r67_15_n, r67_16, r67_17, r67_20, r67_23, r67_25, r67_26, r67_27, r67_30, r67_31, r67_33, r67_36, r67_38, r67_41, r67_43, r67_44, r67_47, r67_49, r67_50, r67_50_n, r67_51, r67_54, r67_54_n, r67_55, r67_58, r67_61, r67_61_n, r67_63, r67_64, r67_65, r67_68, r67_70, r67_73, r67_73_n, r67_74, r67_77, r67_80, r67_83, r67_83_n, r67_84, r67_87, r67_90, List.length_cons, List.length_nil, Nat.reduceAdd, Nat.reduceLT, if_true, l10, l01, l20, l21, l02, l12, List.append_nil, List.getElem?_cons_zero, List.getElem?_cons_succ, List.set_cons_zero, List.set_cons_succ, not_false_eq_true, not_true_eq_false, false_implies, true_implies, forall_const, Classical.not_not, rc0_at, rcI_at, sOK0, sOK1, sOK2, sOK3, sOK4, true_and, and_true, kil, Option.toList_some, Option.toList_none, List.nil_append, List.cons_append, Option.some.injEq, exists_eq_left', Value.int.injEq, Value.ref.injEq, Value.long.injEq, b2i, a1]
          · by_cases a2 : hgt ≤ 9
            · have a2' := Int32.not_lt.mpr a2
              by_cases a3 : what < 0
              · simp only [r67_0, r67_0_n, r67_1, r67_4, r67_5, r67_8, r67_8_n, r67_10, r67_10_n, r67_12_n, r67_12, r67_15, r67_15_n, r67_16, r67_17, r67_20, r67_23, r67_25, r67_26, r67_27, r67_30, r67_31, r67_33, r67_36, r67_38, r67_41, r67_43, r67_44, r67_47, r67_49, r67_50, r67_50_n, r67_51, r67_54, r67_54_n, r67_55, r67_58, r67_61, r67_61_n, r67_63, r67_64, r67_65, r67_68, r67_70, r67_73, r67_73_n, r67_74, r67_77, r67_80, r67_83, r67_83_n, r67_84, r67_87, r67_90, List.length_cons, List.length_nil, Nat.reduceAdd, Nat.reduceLT, if_true, l10, l01, l20, l21, l02, l12, List.append_nil, List.getElem?_cons_zero, List.getElem?_cons_succ, List.set_cons_zero, List.set_cons_succ, not_false_eq_true, not_true_eq_false, false_implies, true_implies, forall_const, Classical.not_not, rc0_at, rcI_at, sOK0, sOK1, sOK2, sOK3, sOK4, true_and, and_true, kil, Option.toList_some, Option.toList_none, List.nil_append, List.cons_append, Option.some.injEq, exists_eq_left', Value.int.injEq, Value.ref.injEq, Value.long.injEq, b2i, a1, a2', a3]
              · have a4 : ¬ what ≤ 1 := fun z => q ⟨decide_eq_true ⟨Int32.not_lt.mp a1, (b9 _).mp a2⟩, decide_eq_true ⟨Int32.not_lt.mp a3, (b1 _).mp z⟩⟩
                simp only [r67_0, r67_0_n, r67_1, r67_4, r67_5, r67_8, r67_8_n, r67_10, r67_10_n, r67_12_n, r67_12, r67_15, r67_15_n, r67_16, r67_17, r67_20, r67_23, r67_25, r67_26, r67_27, r67_30, r67_31, r67_33, r67_36, r67_38, r67_41, r67_43, r67_44, r67_47, r67_49, r67_50, r67_50_n, r67_51, r67_54, r67_54_n, r67_55, r67_58, r67_61, r67_61_n, r67_63, r67_64, r67_65, r67_68, r67_70, r67_73, r67_73_n, r67_74, r67_77, r67_80, r67_83, r67_83_n, r67_84, r67_87, r67_90, List.length_cons, List.length_nil, Nat.reduceAdd, Nat.reduceLT, if_true, l10, l01, l20, l21, l02, l12, List.append_nil, List.getElem?_cons_zero, List.getElem?_cons_succ, List.set_cons_zero, List.set_cons_succ, not_false_eq_true, not_true_eq_false, false_implies, true_implies, forall_const, Classical.not_not, rc0_at, rcI_at, sOK0, sOK1, sOK2, sOK3, sOK4, true_and, and_true, kil, Option.toList_some, Option.toList_none, List.nil_append, List.cons_append, Option.some.injEq, exists_eq_left', Value.int.injEq, Value.ref.injEq, Value.long.injEq, b2i, a1, a2', a3, a4]
            · have a2' := Int32.not_le.mp a2
              simp only [r67_0, r67_0_n, r67_1, r67_4, r67_5, r67_8, r67_8_n, r67_10, r67_10_n, r67_12_n, r67_12, r67_15, r67_15_n, r67_16, r67_17, r67_20, r67_23, r67_25, r67_26, r67_27, r67_30, r67_31, r67_33, r67_36, r67_38, r67_41, r67_43, r67_44, r67_47, r67_49, r67_50, r67_50_n, r67_51, r67_54, r67_54_n, r67_55, r67_58, r67_61, r67_61_n, r67_63, r67_64, r67_65, r67_68, r67_70, r67_73, r67_73_n, r67_74, r67_77, r67_80, r67_83, r67_83_n, r67_84, r67_87, r67_90, List.length_cons, List.length_nil, Nat.reduceAdd, Nat.reduceLT, if_true, l10, l01, l20, l21, l02, l12, List.append_nil, List.getElem?_cons_zero, List.getElem?_cons_succ, List.set_cons_zero, List.set_cons_succ, not_false_eq_true, not_true_eq_false, false_implies, true_implies, forall_const, Classical.not_not, rc0_at, rcI_at, sOK0, sOK1, sOK2, sOK3, sOK4, true_and, and_true, kil, Option.toList_some, Option.toList_none, List.nil_append, List.cons_append, Option.some.injEq, exists_eq_left', Value.int.injEq, Value.ref.injEq, Value.long.injEq, b2i, a1, a2']
      · rw [ixF hcc] at e2; cases e2
  · rw [ixF hk]
    refine ⟨h, ?_, x, Up.rf⟩
    refine Cl_o 6 rfl _ e0 rfl ?_
    simp only [r67_0, r67_0_n, r67_1, r67_4, r67_5, r67_8, r67_8_n, r67_10, r67_10_n, r67_12_n, r67_12, r67_15, r67_15_n, r67_16, r67_17, r67_20, r67_23, r67_25, r67_26, r67_27, r67_30, r67_31, r67_33, r67_36, r67_38, r67_41, r67_43, r67_44, r67_47, r67_49, r67_50, r67_50_n, r67_51, r67_54, r67_54_n, r67_55, r67_58, r67_61, r67_61_n, r67_63, r67_64, r67_65, r67_68, r67_70, r67_73, r67_73_n, r67_74, r67_77, r67_80, r67_83, r67_83_n, r67_84, r67_87, r67_90, List.length_cons, List.length_nil, Nat.reduceAdd, Nat.reduceLT, if_true, l10, l01, l20, l21, l02, l12, List.append_nil, List.getElem?_cons_zero, List.getElem?_cons_succ, List.set_cons_zero, List.set_cons_succ, not_false_eq_true, not_true_eq_false, false_implies, true_implies, forall_const, Classical.not_not, rc0_at, rcI_at, sOK0, sOK1, sOK2, sOK3, sOK4, true_and, and_true, kil, Option.toList_some, Option.toList_none, List.nil_append, List.cons_append, Option.some.injEq, exists_eq_left', Value.int.injEq, Value.ref.injEq, Value.long.injEq, gf_at x0, hr2]
    refine ⟨_, _, c_namedN (d + 11) x.2.2.1 hk, ?_⟩
    simp only [r67_0, r67_0_n, r67_1, r67_4, r67_5, r67_8, r67_8_n, r67_10, r67_10_n, r67_12_n, r67_12, r67_15, r67_15_n, r67_16, r67_17, r67_20, r67_23, r67_25, r67_26, r67_27, r67_30, r67_31, r67_33, r67_36, r67_38, r67_41, r67_43, r67_44, r67_47, r67_49, r67_50, r67_50_n, r67_51, r67_54, r67_54_n, r67_55, r67_58, r67_61, r67_61_n, r67_63, r67_64, r67_65, r67_68, r67_70, r67_73, r67_73_n, r67_74, r67_77, r67_80, r67_83, r67_83_n, r67_84, r67_87, r67_90, List.length_cons, List.length_nil, Nat.reduceAdd, Nat.reduceLT, if_true, l10, l01, l20, l21, l02, l12, List.append_nil, List.getElem?_cons_zero, List.getElem?_cons_succ, List.set_cons_zero, List.set_cons_succ, not_false_eq_true, not_true_eq_false, false_implies, true_implies, forall_const, Classical.not_not, rc0_at, rcI_at, sOK0, sOK1, sOK2, sOK3, sOK4, true_and, and_true, kil, Option.toList_some, Option.toList_none, List.nil_append, List.cons_append, Option.some.injEq, exists_eq_left', Value.int.injEq, Value.ref.injEq, Value.long.injEq, Bool.false_eq_true, if_false, false_and]
def q_was (s : stT) : stT × Int32 := if (s.2.2.2.2.2.1 && whl s.1 s.2.1 1) = true then ((s.1, 0, s.2.2.1, s.2.2.2.1, rdh s.1, s.2.2.2.2.2.1, s.2.2.2.2.2.2.1, true, s.2.2.2.2.2.2.2.2), suml (rdh s.1)) else (s, -103)
theorem x_was (d : Nat) {h : pH} {s : stT} (x : XS h s) : ∃ h', Cl (d + 4) 68 [.ref 0] h (some (.int (q_was s).2)) h' ∧ XS h' (q_was s).1 ∧ Up h h' := by
  obtain ⟨cs, n, A, B, bf, hd, hm, hb, tr⟩ := s
  have x0 := x.1
  dsimp only [obC] at x0
  unfold q_was
  dsimp only
  have e0 : entL 1 [Value.ref 0] = [some (.ref 0)] := rfl
  have hr : ∀ as, rcV 4 h (Value.ref 1 :: as) = True := fun as => rcV_at (fs := _) x.2.1.1
  cases hd with
  | false =>
    refine ⟨h, ?_, x, Up.rf⟩
    refine Cl_o 1 rfl _ e0 rfl ?_
    have eb : b2i false = 0 := rfl
    simp only [r68_0, r68_1, r68_4, r68_7, r68_8, r68_11, r68_12, r68_15, r68_18, r68_20, r68_21, r68_22, r68_25, r68_26, r68_29, r68_32, r68_33, r68_36, r68_37, r68_40, r68_41, r68_42, r68_45, r68_46, r68_49, r68_52, List.length_cons, List.length_nil, Nat.reduceAdd, Nat.reduceLT, if_true, l10, l01, l20, l21, l02, l12, List.append_nil, List.getElem?_cons_zero, List.getElem?_cons_succ, List.set_cons_zero, List.set_cons_succ, not_false_eq_true, not_true_eq_false, false_implies, true_implies, forall_const, Classical.not_not, rc0_at, rcI_at, sOK0, sOK1, sOK2, sOK3, sOK4, true_and, and_true, kil, Option.toList_some, Option.toList_none, List.nil_append, List.cons_append, Option.some.injEq, exists_eq_left', Value.int.injEq, Value.ref.injEq, Value.long.injEq, gf_at x0, eb, Bool.false_and, Bool.false_eq_true, if_false]
  | true =>
    have eb : b2i true = 1 := rfl
    have hwh := c_isWhole d x.2.1 1
    dsimp only at hwh
    cases e : whl cs n 1 with
    | false =>
      rw [e] at hwh
      refine ⟨h, ?_, x, Up.rf⟩
      refine Cl_o 1 rfl _ e0 rfl ?_
      simp only [r68_0, r68_1, r68_4, r68_7, r68_8, r68_11, r68_12, r68_15, r68_18, r68_20, r68_21, r68_22, r68_25, r68_26, r68_29, r68_32, r68_33, r68_36, r68_37, r68_40, r68_41, r68_42, r68_45, r68_46, r68_49, r68_52, List.length_cons, List.length_nil, Nat.reduceAdd, Nat.reduceLT, if_true, l10, l01, l20, l21, l02, l12, List.append_nil, List.getElem?_cons_zero, List.getElem?_cons_succ, List.set_cons_zero, List.set_cons_succ, not_false_eq_true, not_true_eq_false, false_implies, true_implies, forall_const, Classical.not_not, rc0_at, rcI_at, sOK0, sOK1, sOK2, sOK3, sOK4, true_and, and_true, kil, Option.toList_some, Option.toList_none, List.nil_append, List.cons_append, Option.some.injEq, exists_eq_left', Value.int.injEq, Value.ref.injEq, Value.long.injEq, gf_at x0, eb, hr]
      refine ⟨_, _, hwh, ?_⟩
      simp only [r68_0, r68_1, r68_4, r68_7, r68_8, r68_11, r68_12, r68_15, r68_18, r68_20, r68_21, r68_22, r68_25, r68_26, r68_29, r68_32, r68_33, r68_36, r68_37, r68_40, r68_41, r68_42, r68_45, r68_46, r68_49, r68_52, List.length_cons, List.length_nil, Nat.reduceAdd, Nat.reduceLT, if_true, l10, l01, l20, l21, l02, l12, List.append_nil, List.getElem?_cons_zero, List.getElem?_cons_succ, List.set_cons_zero, List.set_cons_succ, not_false_eq_true, not_true_eq_false, false_implies, true_implies, forall_const, Classical.not_not, rc0_at, rcI_at, sOK0, sOK1, sOK2, sOK3, sOK4, true_and, and_true, kil, Option.toList_some, Option.toList_none, List.nil_append, List.cons_append, Option.some.injEq, exists_eq_left', Value.int.injEq, Value.ref.injEq, Value.long.injEq, b2i, Bool.and_false, Bool.false_eq_true, if_false]
    | true =>
      rw [e] at hwh
      obtain ⟨bw, sb⟩ := x.2.2.2.2.1
      dsimp only at sb
      have y1 : XS (h.set 28 (.inl (rdh cs))) (cs, n, A, B, rdh cs, true, hm, hb, tr) := x.bef (Sm.set (by omega) (by omega)) (sb.set (rdh_len cs))
      generalize hh1 : h.set 28 (.inl (rdh cs)) = h1 at y1
      have y11 := y1.2.1.1
      dsimp only at y11
      have y2 : XS (h1.set 1 (.inr (.inr (4, [.ref (1 + 1), .int (nI 0)])))) (cs, 0, A, B, rdh cs, true, hm, hb, tr) := y1.pg (Sm.set (by omega) (by omega)) ⟨get_set y1.2.1.1, by rw [List.getElem?_set_ne (by omega)]; exact y1.2.1.2.1, y1.2.1.2.2.1, by omega⟩
      generalize hh2 : h1.set 1 (.inr (.inr (4, [.ref (1 + 1), .int (nI 0)]))) = h2 at y2
      have y3 := y2.ob (hd' := true) (hi' := hm) (hb' := true) (tr' := tr)
      refine ⟨_, ?_, y3, fun j hj => by rw [List.getElem?_set_ne (by omega), ← hh2, List.getElem?_set_ne (by omega), ← hh1, List.getElem?_set_ne (by omega)]⟩
      refine Cl_o 1 rfl _ e0 rfl ?_
      simp only [r68_0, r68_1, r68_4, r68_7, r68_8, r68_11, r68_12, r68_15, r68_18, r68_20, r68_21, r68_22, r68_25, r68_26, r68_29, r68_32, r68_33, r68_36, r68_37, r68_40, r68_41, r68_42, r68_45, r68_46, r68_49, r68_52, List.length_cons, List.length_nil, Nat.reduceAdd, Nat.reduceLT, if_true, l10, l01, l20, l21, l02, l12, List.append_nil, List.getElem?_cons_zero, List.getElem?_cons_succ, List.set_cons_zero, List.set_cons_succ, not_false_eq_true, not_true_eq_false, false_implies, true_implies, forall_const, Classical.not_not, rc0_at, rcI_at, sOK0, sOK1, sOK2, sOK3, sOK4, true_and, and_true, kil, Option.toList_some, Option.toList_none, List.nil_append, List.cons_append, Option.some.injEq, exists_eq_left', Value.int.injEq, Value.ref.injEq, Value.long.injEq, gf_at x0, eb, hr]
      refine ⟨_, _, hwh, ?_⟩
      simp only [r68_0, r68_1, r68_4, r68_7, r68_8, r68_11, r68_12, r68_15, r68_18, r68_20, r68_21, r68_22, r68_25, r68_26, r68_29, r68_32, r68_33, r68_36, r68_37, r68_40, r68_41, r68_42, r68_45, r68_46, r68_49, r68_52, List.length_cons, List.length_nil, Nat.reduceAdd, Nat.reduceLT, if_true, l10, l01, l20, l21, l02, l12, List.append_nil, List.getElem?_cons_zero, List.getElem?_cons_succ, List.set_cons_zero, List.set_cons_succ, not_false_eq_true, not_true_eq_false, false_implies, true_implies, forall_const, Classical.not_not, rc0_at, rcI_at, sOK0, sOK1, sOK2, sOK3, sOK4, true_and, and_true, kil, Option.toList_some, Option.toList_none, List.nil_append, List.cons_append, Option.some.injEq, exists_eq_left', Value.int.injEq, Value.ref.injEq, Value.long.injEq, b2i, gf_at x0, hr]
      refine ⟨none, h1, by rw [← hh1]; exact c_readHeights (d + 1) x.2.1 sb (by omega), ?_⟩
      have z0 := y1.1
      dsimp only [obC] at z0
      have t0 := y2.1
      dsimp only [obC] at t0
      have hpf4 := pf_at (j := 1) (v := .int 0) y11 (show 1 < 2 by decide)
      simp only [List.set_cons_zero, List.set_cons_succ] at hpf4
      rw [nI_0] at hh2
      rw [hh2] at hpf4
      obtain ⟨bw3, sb3⟩ := y3.2.2.2.2.1
      dsimp only at sb3
      simp only [r68_0, r68_1, r68_4, r68_7, r68_8, r68_11, r68_12, r68_15, r68_18, r68_20, r68_21, r68_22, r68_25, r68_26, r68_29, r68_32, r68_33, r68_36, r68_37, r68_40, r68_41, r68_42, r68_45, r68_46, r68_49, r68_52, List.length_cons, List.length_nil, Nat.reduceAdd, Nat.reduceLT, if_true, l10, l01, l20, l21, l02, l12, List.append_nil, List.getElem?_cons_zero, List.getElem?_cons_succ, List.set_cons_zero, List.set_cons_succ, not_false_eq_true, not_true_eq_false, false_implies, true_implies, forall_const, Classical.not_not, rc0_at, rcI_at, sOK0, sOK1, sOK2, sOK3, sOK4, true_and, and_true, kil, Option.toList_some, Option.toList_none, List.nil_append, List.cons_append, Option.some.injEq, exists_eq_left', Value.int.injEq, Value.ref.injEq, Value.long.injEq, gf_at z0, hpf4, pf_at t0 (show 10 < 12 by decide), gf_set t0, or_true]
      refine ⟨of_eq_true (rcV_at sb3.1), _, _, c_sum (d + 2) sb3, ?_⟩
      simp only [r68_0, r68_1, r68_4, r68_7, r68_8, r68_11, r68_12, r68_15, r68_18, r68_20, r68_21, r68_22, r68_25, r68_26, r68_29, r68_32, r68_33, r68_36, r68_37, r68_40, r68_41, r68_42, r68_45, r68_46, r68_49, r68_52, List.length_cons, List.length_nil, Nat.reduceAdd, Nat.reduceLT, if_true, l10, l01, l20, l21, l02, l12, List.append_nil, List.getElem?_cons_zero, List.getElem?_cons_succ, List.set_cons_zero, List.set_cons_succ, not_false_eq_true, not_true_eq_false, false_implies, true_implies, forall_const, Classical.not_not, rc0_at, rcI_at, sOK0, sOK1, sOK2, sOK3, sOK4, true_and, and_true, kil, Option.toList_some, Option.toList_none, List.nil_append, List.cons_append, Option.some.injEq, exists_eq_left', Value.int.injEq, Value.ref.injEq, Value.long.injEq, Bool.true_and]
      rfl
def q_who (s : stT) (what : Int32) : stT × Int32 := (s, if ixv what 2 then (if s.2.2.2.2.2.2.2.1 then (if what = 0 then (whoS s.2.2.1.2.1 s.2.2.2.2.1 s.2.2.1.1).1 else (whoS s.2.2.1.2.1 s.2.2.2.2.1 s.2.2.1.1).2) else -103) else -102)
theorem XS.dusk (d : Nat) {h : pH} {cs : List Int32} {n : Nat} {A B : landT} {bf : List Int32} {hd hi hb : Bool} {tr : Nat} (x : XS h (cs, n, A, B, bf, hd, hi, hb, tr)) : ∃ h', Cl (d + 4) 1 [.ref 65, .ref 27, .ref 4, .ref 29] h none h' ∧ h'[65]? = some (dkC (whoS A.2.1 bf A.1).1 (whoS A.2.1 bf A.1).2) ∧ XS h' (cs, n, A, B, bf, hd, hi, hb, tr) ∧ Up h h' := by
  obtain ⟨bw, sb⟩ := x.2.2.2.2.1
  obtain ⟨⟨ts, tw, st⟩, od, ft, f, l, dk⟩ := x.2.2.2.2.2
  obtain ⟨h', r1, r2, ⟨ts', tw', r3⟩, r4⟩ := c_dusk d (k := 65) (kb := 27) (kn := 4) (kt := 29) (by omega) (by omega) (by omega) (by omega) (by omega) dk sb x.2.2.1.2.1 st
  rw [tss_who] at r2
  refine ⟨h', r1, r2, ?_, fun j hj => ?_⟩
  · refine x.sc (fun j hj => r4 j (by omega) (by omega)) ⟨⟨ts', tw', r3⟩, ?_, ?_, _, _, r2⟩
    · obtain ⟨go, st', o⟩ := od
      exact ⟨go, st', o.fp (fun j a b => r4 j (by omega) (by omega))⟩
    · obtain ⟨n', g, gh, st', o⟩ := ft
      exact ⟨n', g, gh, st', o.fp (fun j a b => r4 j (by omega) (by omega))⟩
  · by_cases e : j = 65
    · omega
    · exact r4 j e (by omega)
theorem x_who (d : Nat) {h : pH} {s : stT} (x : XS h s) (what : Int32) : ∃ h', Cl (d + 5) 69 [.ref 0, .int what] h (some (.int (q_who s what).2)) h' ∧ XS h' (q_who s what).1 ∧ Up h h' := by
  obtain ⟨cs, n, A, B, bf, hd, hm, hb, tr⟩ := s
  have x0 := x.1
  dsimp only [obC] at x0
  unfold q_who
  dsimp only
  have e0 : entL 2 [Value.ref 0, .int what] = [some (.ref 0), some (.int what)] := rfl
  have b1 : ∀ v : Int32, v ≤ 1 ↔ v < 2 := fun v => by
    rw [Int32.lt_iff_toInt_lt, Int32.le_iff_toInt_le]
    have e1 : (2 : Int32).toInt = 2 := rfl
    have e2 : (1 : Int32).toInt = 1 := rfl
    omega
  by_cases q : ixv what 2 = true
  · have q' : 0 ≤ what ∧ what < 2 := of_decide_eq_true q
    have a1 : ¬ what < 0 := Int32.not_lt.mpr q'.1
    have a2 : what ≤ 1 := (b1 _).mpr q'.2
    rw [if_pos q]
    cases hb with
    | false =>
      refine ⟨h, ?_, x, Up.rf⟩
      refine Cl_o 2 rfl _ e0 rfl ?_
      have eb : b2i false = 0 := rfl
      simp only [r69_0, r69_1, r69_4, r69_5, r69_6, r69_9, r69_11, r69_12, r69_13, r69_16, r69_19, r69_21, r69_22, r69_23, r69_26, r69_27, r69_30, r69_31, r69_34, r69_37, r69_38, r69_41, r69_44, r69_45, r69_48, r69_49, r69_52, r69_55, r69_58, r69_59, r69_62, r69_65, List.length_cons, List.length_nil, Nat.reduceAdd, Nat.reduceLT, if_true, l10, l01, l20, l21, l02, l12, List.append_nil, List.getElem?_cons_zero, List.getElem?_cons_succ, List.set_cons_zero, List.set_cons_succ, not_false_eq_true, not_true_eq_false, false_implies, true_implies, forall_const, Classical.not_not, rc0_at, rcI_at, sOK0, sOK1, sOK2, sOK3, sOK4, true_and, and_true, kil, Option.toList_some, Option.toList_none, List.nil_append, List.cons_append, Option.some.injEq, exists_eq_left', Value.int.injEq, Value.ref.injEq, Value.long.injEq, a1, a2, gf_at x0, eb, Bool.false_eq_true, if_false]
    | true =>
      obtain ⟨h', r1, r2, r3, r4⟩ := x.dusk d
      refine ⟨h', ?_, r3, r4⟩
      refine Cl_o 2 rfl _ e0 rfl ?_
      have eb : b2i true = 1 := rfl
      have z0 := r3.1
      dsimp only [obC] at z0
      have x3 := x.2.2.1.1
      have hr : ∀ as, rcV 0 h (Value.ref 65 :: as) = True := fun as => by
        obtain ⟨f, l, dk⟩ := x.2.2.2.2.2.2.2.2
        exact rcV_at (fs := _) dk
      have e31 : (3 : Nat) + 1 = 4 := rfl
      rw [e31] at x3
      unfold dkC at r2
      simp only [r69_0, r69_1, r69_4, r69_5, r69_6, r69_9, r69_11, r69_12, r69_13, r69_16, r69_19, r69_21, r69_22, r69_23, r69_26, r69_27, r69_30, r69_31, r69_34, r69_37, r69_38, r69_41, r69_44, r69_45, r69_48, r69_49, r69_52, r69_55, r69_58, r69_59, r69_62, r69_65, List.length_cons, List.length_nil, Nat.reduceAdd, Nat.reduceLT, if_true, l10, l01, l20, l21, l02, l12, List.append_nil, List.getElem?_cons_zero, List.getElem?_cons_succ, List.set_cons_zero, List.set_cons_succ, not_false_eq_true, not_true_eq_false, false_implies, true_implies, forall_const, Classical.not_not, rc0_at, rcI_at, sOK0, sOK1, sOK2, sOK3, sOK4, true_and, and_true, kil, Option.toList_some, Option.toList_none, List.nil_append, List.cons_append, Option.some.injEq, exists_eq_left', Value.int.injEq, Value.ref.injEq, Value.long.injEq, a1, a2, gf_at x0, eb, gf_at x3, hr]
      refine ⟨_, _, r1, ?_⟩
      by_cases w0 : what = 0
      · simp only [r69_0, r69_1, r69_4, r69_5, r69_6, r69_9, r69_11, r69_12, r69_13, r69_16, r69_19, r69_21, r69_22, r69_23, r69_26, r69_27, r69_30, r69_31, r69_34, r69_37, r69_38, r69_41, r69_44, r69_45, r69_48, r69_49, r69_52, r69_55, r69_58, r69_59, r69_62, r69_65, List.length_cons, List.length_nil, Nat.reduceAdd, Nat.reduceLT, if_true, l10, l01, l20, l21, l02, l12, List.append_nil, List.getElem?_cons_zero, List.getElem?_cons_succ, List.set_cons_zero, List.set_cons_succ, not_false_eq_true, not_true_eq_false, false_implies, true_implies, forall_const, Classical.not_not, rc0_at, rcI_at, sOK0, sOK1, sOK2, sOK3, sOK4, true_and, and_true, kil, Option.toList_some, Option.toList_none, List.nil_append, List.cons_append, Option.some.injEq, exists_eq_left', Value.int.injEq, Value.ref.injEq, Value.long.injEq, w0, gf_at z0, gf_at r2]
      · simp only [r69_0, r69_1, r69_4, r69_5, r69_6, r69_9, r69_11, r69_12, r69_13, r69_16, r69_19, r69_21, r69_22, r69_23, r69_26, r69_27, r69_30, r69_31, r69_34, r69_37, r69_38, r69_41, r69_44, r69_45, r69_48, r69_49, r69_52, r69_55, r69_58, r69_59, r69_62, r69_65, List.length_cons, List.length_nil, Nat.reduceAdd, Nat.reduceLT, if_true, l10, l01, l20, l21, l02, l12, List.append_nil, List.getElem?_cons_zero, List.getElem?_cons_succ, List.set_cons_zero, List.set_cons_succ, not_false_eq_true, not_true_eq_false, false_implies, true_implies, forall_const, Classical.not_not, rc0_at, rcI_at, sOK0, sOK1, sOK2, sOK3, sOK4, true_and, and_true, kil, Option.toList_some, Option.toList_none, List.nil_append, List.cons_append, Option.some.injEq, exists_eq_left', Value.int.injEq, Value.ref.injEq, Value.long.injEq, w0, gf_at z0, gf_at r2, if_false]
  · rw [if_neg q]
    refine ⟨h, ?_, x, Up.rf⟩
    refine Cl_o 2 rfl _ e0 rfl ?_
    by_cases a1 : what < 0
    · simp only [r69_0, r69_1, r69_4, r69_5, r69_6, r69_9, r69_11, r69_12, r69_13, r69_16, r69_19, r69_21, r69_22, r69_23, r69_26, r69_27, r69_30, r69_31, r69_34, r69_37, r69_38, r69_41, r69_44, r69_45, r69_48, r69_49, r69_52, r69_55, r69_58, r69_59, r69_62, r69_65, List.length_cons, List.length_nil, Nat.reduceAdd, Nat.reduceLT, if_true, l10, l01, l20, l21, l02, l12, List.append_nil, List.getElem?_cons_zero, List.getElem?_cons_succ, List.set_cons_zero, List.set_cons_succ, not_false_eq_true, not_true_eq_false, false_implies, true_implies, forall_const, Classical.not_not, rc0_at, rcI_at, sOK0, sOK1, sOK2, sOK3, sOK4, true_and, and_true, kil, Option.toList_some, Option.toList_none, List.nil_append, List.cons_append, Option.some.injEq, exists_eq_left', Value.int.injEq, Value.ref.injEq, Value.long.injEq, a1]
    · have a2 : ¬ what ≤ 1 := fun z => q (decide_eq_true ⟨Int32.not_lt.mp a1, (b1 _).mp z⟩)
      simp only [r69_0, r69_1, r69_4, r69_5, r69_6, r69_9, r69_11, r69_12, r69_13, r69_16, r69_19, r69_21, r69_22, r69_23, r69_26, r69_27, r69_30, r69_31, r69_34, r69_37, r69_38, r69_41, r69_44, r69_45, r69_48, r69_49, r69_52, r69_55, r69_58, r69_59, r69_62, r69_65, List.length_cons, List.length_nil, Nat.reduceAdd, Nat.reduceLT, if_true, l10, l01, l20, l21, l02, l12, List.append_nil, List.getElem?_cons_zero, List.getElem?_cons_succ, List.set_cons_zero, List.set_cons_succ, not_false_eq_true, not_true_eq_false, false_implies, true_implies, forall_const, Classical.not_not, rc0_at, rcI_at, sOK0, sOK1, sOK2, sOK3, sOK4, true_and, and_true, kil, Option.toList_some, Option.toList_none, List.nil_append, List.cons_append, Option.some.injEq, exists_eq_left', Value.int.injEq, Value.ref.injEq, Value.long.injEq, a1, a2]
