theorem c_isCell (d : Nat) {h : pH} {s : stT} (x : XS h s) (c : Int32) : Cl (d + 1) 78 [.ref 0, .int c] h (some (.int (b2i (s.2.2.2.2.2.1 && ixv c 8)))) h := by
  obtain ⟨cs, n, A, B, bf, hd, hm, hb, tr⟩ := s
  have x0 := x.1
  dsimp only [obC] at x0 ⊢
  refine Cl_o 2 rfl [some (.ref 0), some (.int c)] rfl rfl ?_
  cases hd with
  | false => simp only [r78_0, r78_1, r78_4, r78_7, r78_8, r78_11, r78_12, r78_14, r78_17, r78_18, r78_21, r78_22, List.length_cons, List.length_nil, Nat.reduceAdd, Nat.reduceLT, if_true, l10, l01, l20, l21, l02, l12, List.append_nil, List.getElem?_cons_zero, List.getElem?_cons_succ, List.set_cons_zero, List.set_cons_succ, not_false_eq_true, not_true_eq_false, false_implies, true_implies, forall_const, Classical.not_not, rc0_at, rcI_at, sOK0, sOK1, sOK2, sOK3, sOK4, true_and, and_true, kil, Option.toList_some, Option.toList_none, List.nil_append, List.cons_append, Option.some.injEq, exists_eq_left', Value.int.injEq, Value.ref.injEq, Value.long.injEq, gf_at x0, b2i, Bool.false_and, Bool.false_eq_true, if_false, true_or]
  | true =>
    rcases ix_or c 8 (by decide) with ⟨i, hi, rfl⟩ | hc
    · have e := ge8f hi
      simp only [r78_0, r78_1, r78_4, r78_7, r78_8, r78_11, r78_12, r78_14, r78_17, r78_18, r78_21, r78_22, List.length_cons, List.length_nil, Nat.reduceAdd, Nat.reduceLT, if_true, l10, l01, l20, l21, l02, l12, List.append_nil, List.getElem?_cons_zero, List.getElem?_cons_succ, List.set_cons_zero, List.set_cons_succ, not_false_eq_true, not_true_eq_false, false_implies, true_implies, forall_const, Classical.not_not, rc0_at, rcI_at, sOK0, sOK1, sOK2, sOK3, sOK4, true_and, and_true, kil, Option.toList_some, Option.toList_none, List.nil_append, List.cons_append, Option.some.injEq, exists_eq_left', Value.int.injEq, Value.ref.injEq, Value.long.injEq, gf_at x0, b2i, Bool.true_and, ixT hi (show 8 < 2 ^ 31 by decide), nIneg (show i < 2 ^ 31 by omega), e, or_true]
    · by_cases q : c < 0
      · simp only [r78_0, r78_1, r78_4, r78_7, r78_8, r78_11, r78_12, r78_14, r78_17, r78_18, r78_21, r78_22, List.length_cons, List.length_nil, Nat.reduceAdd, Nat.reduceLT, if_true, l10, l01, l20, l21, l02, l12, List.append_nil, List.getElem?_cons_zero, List.getElem?_cons_succ, List.set_cons_zero, List.set_cons_succ, not_false_eq_true, not_true_eq_false, false_implies, true_implies, forall_const, Classical.not_not, rc0_at, rcI_at, sOK0, sOK1, sOK2, sOK3, sOK4, true_and, and_true, kil, Option.toList_some, Option.toList_none, List.nil_append, List.cons_append, Option.some.injEq, exists_eq_left', Value.int.injEq, Value.ref.injEq, Value.long.injEq, gf_at x0, b2i, Bool.true_and, ixF hc, q, Bool.false_eq_true, if_false, true_or]
      · have q2 : (8 : Int32) ≤ c := hc.resolve_left q
        simp only [r78_0, r78_1, r78_4, r78_7, r78_8, r78_11, r78_12, r78_14, r78_17, r78_18, r78_21, r78_22, List.length_cons, List.length_nil, Nat.reduceAdd, Nat.reduceLT, if_true, l10, l01, l20, l21, l02, l12, List.append_nil, List.getElem?_cons_zero, List.getElem?_cons_succ, List.set_cons_zero, List.set_cons_succ, not_false_eq_true, not_true_eq_false, false_implies, true_implies, forall_const, Classical.not_not, rc0_at, rcI_at, sOK0, sOK1, sOK2, sOK3, sOK4, true_and, and_true, kil, Option.toList_some, Option.toList_none, List.nil_append, List.cons_append, Option.some.injEq, exists_eq_left', Value.int.injEq, Value.ref.injEq, Value.long.injEq, gf_at x0, b2i, Bool.true_and, ixF hc, q, q2, Bool.false_eq_true, if_false, true_or]
theorem c_isKind (d : Nat) (h : pH) (c : Int32) : Cl (d + 1) 79 [.int c] h (some (.int (b2i (ixv c 5)))) h := by
  refine Cl_o 1 rfl [some (.int c)] rfl rfl ?_
  rcases ix_or c 5 (by decide) with ⟨i, hi, rfl⟩ | hc
  · have e : ((5 : Int32) ≤ nI i) = False := eq_false (nI_ge (a := i) (b := 5) hi (by decide))
    simp only [r79_0, r79_1, r79_4, r79_5, r79_6, r79_9, r79_10, r79_13, r79_14, List.length_cons, List.length_nil, Nat.reduceAdd, Nat.reduceLT, if_true, l10, l01, l20, l21, l02, l12, List.append_nil, List.getElem?_cons_zero, List.getElem?_cons_succ, List.set_cons_zero, List.set_cons_succ, not_false_eq_true, not_true_eq_false, false_implies, true_implies, forall_const, Classical.not_not, rc0_at, rcI_at, sOK0, sOK1, sOK2, sOK3, sOK4, true_and, and_true, kil, Option.toList_some, Option.toList_none, List.nil_append, List.cons_append, Option.some.injEq, exists_eq_left', Value.int.injEq, Value.ref.injEq, Value.long.injEq, b2i, ixT hi (show 5 < 2 ^ 31 by decide), nIneg (show i < 2 ^ 31 by omega), e, or_true]
  · by_cases q : c < 0
    · simp only [r79_0, r79_1, r79_4, r79_5, r79_6, r79_9, r79_10, r79_13, r79_14, List.length_cons, List.length_nil, Nat.reduceAdd, Nat.reduceLT, if_true, l10, l01, l20, l21, l02, l12, List.append_nil, List.getElem?_cons_zero, List.getElem?_cons_succ, List.set_cons_zero, List.set_cons_succ, not_false_eq_true, not_true_eq_false, false_implies, true_implies, forall_const, Classical.not_not, rc0_at, rcI_at, sOK0, sOK1, sOK2, sOK3, sOK4, true_and, and_true, kil, Option.toList_some, Option.toList_none, List.nil_append, List.cons_append, Option.some.injEq, exists_eq_left', Value.int.injEq, Value.ref.injEq, Value.long.injEq, b2i, ixF hc, q, Bool.false_eq_true, if_false, true_or]
    · have q2 : (5 : Int32) ≤ c := hc.resolve_left q
      simp only [r79_0, r79_1, r79_4, r79_5, r79_6, r79_9, r79_10, r79_13, r79_14, List.length_cons, List.length_nil, Nat.reduceAdd, Nat.reduceLT, if_true, l10, l01, l20, l21, l02, l12, List.append_nil, List.getElem?_cons_zero, List.getElem?_cons_succ, List.set_cons_zero, List.set_cons_succ, not_false_eq_true, not_true_eq_false, false_implies, true_implies, forall_const, Classical.not_not, rc0_at, rcI_at, sOK0, sOK1, sOK2, sOK3, sOK4, true_and, and_true, kil, Option.toList_some, Option.toList_none, List.nil_append, List.cons_append, Option.some.injEq, exists_eq_left', Value.int.injEq, Value.ref.injEq, Value.long.injEq, b2i, ixF hc, q, q2, Bool.false_eq_true, if_false, true_or]
theorem c_isWay (d : Nat) (h : pH) (c : Int32) : Cl (d + 1) 80 [.int c] h (some (.int (b2i (ixv c 2)))) h := by
  refine Cl_o 1 rfl [some (.int c)] rfl rfl ?_
  rcases ix_or c 2 (by decide) with ⟨i, hi, rfl⟩ | hc
  · rcases (show i = 0 ∨ i = 1 by omega) with rfl | rfl
    · rw [nI_0]
      simp only [r80_0, r80_1, r80_4, r80_5, r80_6, r80_9, r80_10, r80_13, r80_14, List.length_cons, List.length_nil, Nat.reduceAdd, Nat.reduceLT, if_true, l10, l01, l20, l21, l02, l12, List.append_nil, List.getElem?_cons_zero, List.getElem?_cons_succ, List.set_cons_zero, List.set_cons_succ, not_false_eq_true, not_true_eq_false, false_implies, true_implies, forall_const, Classical.not_not, rc0_at, rcI_at, sOK0, sOK1, sOK2, sOK3, sOK4, true_and, and_true, kil, Option.toList_some, Option.toList_none, List.nil_append, List.cons_append, Option.some.injEq, exists_eq_left', Value.int.injEq, Value.ref.injEq, Value.long.injEq, b2i, show ixv 0 2 = true from ixT hi (show 2 < 2 ^ 31 by decide), or_true]
    · rw [show nI 1 = 1 from rfl]
      simp only [r80_0, r80_1, r80_4, r80_5, r80_6, r80_9, r80_10, r80_13, r80_14, List.length_cons, List.length_nil, Nat.reduceAdd, Nat.reduceLT, if_true, l10, l01, l20, l21, l02, l12, List.append_nil, List.getElem?_cons_zero, List.getElem?_cons_succ, List.set_cons_zero, List.set_cons_succ, not_false_eq_true, not_true_eq_false, false_implies, true_implies, forall_const, Classical.not_not, rc0_at, rcI_at, sOK0, sOK1, sOK2, sOK3, sOK4, true_and, and_true, kil, Option.toList_some, Option.toList_none, List.nil_append, List.cons_append, Option.some.injEq, exists_eq_left', Value.int.injEq, Value.ref.injEq, Value.long.injEq, b2i, show ixv 1 2 = true from ixT hi (show 2 < 2 ^ 31 by decide), or_true]
  · have n0 : ¬ c = 0 := by rintro rfl; rcases hc with z | z <;> revert z <;> decide
    have n1 : ¬ c = 1 := by rintro rfl; rcases hc with z | z <;> revert z <;> decide
    simp only [r80_0, r80_1, r80_4, r80_5, r80_6, r80_9, r80_10, r80_13, r80_14, List.length_cons, List.length_nil, Nat.reduceAdd, Nat.reduceLT, if_true, l10, l01, l20, l21, l02, l12, List.append_nil, List.getElem?_cons_zero, List.getElem?_cons_succ, List.set_cons_zero, List.set_cons_succ, not_false_eq_true, not_true_eq_false, false_implies, true_implies, forall_const, Classical.not_not, rc0_at, rcI_at, sOK0, sOK1, sOK2, sOK3, sOK4, true_and, and_true, kil, Option.toList_some, Option.toList_none, List.nil_append, List.cons_append, Option.some.injEq, exists_eq_left', Value.int.injEq, Value.ref.injEq, Value.long.injEq, b2i, ixF hc, n0, n1, Bool.false_eq_true, if_false, true_or]
def cel (A : landT) (c : Nat) (what : Int32) : Int32 := if what = 0 then hx A.1 c else if what = 1 then shp A.1 c else if what = 2 then sto (fun i => b2i (decide ((A.2.2.1 i).2.1 = c))) A.2.2.2.1 0 0 else -102
def q_cell (s : stT) (c what : Int32) : stT × Int32 := (s, if (s.2.2.2.2.2.1 && ixv c 8) = true then cel s.2.2.1 c.toNatClampNeg what else -101)
theorem c_cell7 (d : Nat) {h : pH} {s : stT} (x : XS h s) (c what : Int32) : Cl (d + 3) 57 [.ref 0, .int c, .int what] h (some (.int (q_cell s c what).2)) h := by
  have hc := c_isCell (d + 1) x c
  obtain ⟨cs, n, A, B, bf, hd, hm, hb, tr⟩ := s
  obtain ⟨hs, w, ws, cnt, nt⟩ := A
  have x0 := x.1
  dsimp only [obC] at x0 hc
  have x3 := x.2.2.1.1
  dsimp only at x3
  have hr : ∀ as, rcV 7 h (Value.ref 0 :: as) = True := fun as => rcV_at (fs := _) x0
  refine Cl_o 3 rfl [some (.ref 0), some (.int c), some (.int what)] rfl rfl ?_
  simp only [r57_0, r57_1, r57_2, r57_5, r57_8, r57_10, r57_11, r57_12, r57_40, r57_41, r57_44, r57_47, r57_48, r57_51, r57_52, r57_53, r57_56, r57_59, r57_60, r57_63, r57_64, r57_65, r57_68, r57_69, r57_72, r57_73, r57_75, List.length_cons, List.length_nil, Nat.reduceAdd, Nat.reduceLT, if_true, l10, l01, l20, l21, l02, l12, List.append_nil, List.getElem?_cons_zero, List.getElem?_cons_succ, List.set_cons_zero, List.set_cons_succ, not_false_eq_true, not_true_eq_false, false_implies, true_implies, forall_const, Classical.not_not, rc0_at, rcI_at, sOK0, sOK1, sOK2, sOK3, sOK4, true_and, and_true, kil, Option.toList_some, Option.toList_none, List.nil_append, List.cons_append, Option.some.injEq, exists_eq_left', Value.int.injEq, Value.ref.injEq, Value.long.injEq, hr]
  refine ⟨_, _, hc, ?_⟩
  unfold q_cell
  dsimp only
  cases e : (hd && ixv c 8) with
  | false => simp only [r57_0, r57_1, r57_2, r57_5, r57_8, r57_10, r57_11, r57_12, r57_40, r57_41, r57_44, r57_47, r57_48, r57_51, r57_52, r57_53, r57_56, r57_59, r57_60, r57_63, r57_64, r57_65, r57_68, r57_69, r57_72, r57_73, r57_75, List.length_cons, List.length_nil, Nat.reduceAdd, Nat.reduceLT, if_true, l10, l01, l20, l21, l02, l12, List.append_nil, List.getElem?_cons_zero, List.getElem?_cons_succ, List.set_cons_zero, List.set_cons_succ, not_false_eq_true, not_true_eq_false, false_implies, true_implies, forall_const, Classical.not_not, rc0_at, rcI_at, sOK0, sOK1, sOK2, sOK3, sOK4, true_and, and_true, kil, Option.toList_some, Option.toList_none, List.nil_append, List.cons_append, Option.some.injEq, exists_eq_left', Value.int.injEq, Value.ref.injEq, Value.long.injEq, b2i, Bool.false_eq_true, if_false]
  | true =>
    have e2 := (Bool.and_eq_true _ _ ▸ e : hd = true ∧ ixv c 8 = true).2
    rcases ix_or c 8 (by decide) with ⟨i, hi, rfl⟩ | hcc
    · rw [nI_clamp (by omega)]
      have hr5 : ∀ as, rcV 5 h (Value.ref 4 :: as) = True := fun as => rcV_at (fs := _) x.2.2.1.2.1.1
      have hr2 : ∀ as, rcV 2 h (Value.ref 3 :: as) = True := fun as => rcV_at (fs := _) x.2.2.1.1
      have e31 : (3 : Nat) + 1 = 4 := rfl
      rw [e31] at x3
      simp only [r57_0, r57_1, r57_2, r57_5, r57_8, r57_10, r57_11, r57_12, r57_40, r57_41, r57_44, r57_47, r57_48, r57_51, r57_52, r57_53, r57_56, r57_59, r57_60, r57_63, r57_64, r57_65, r57_68, r57_69, r57_72, r57_73, r57_75, List.length_cons, List.length_nil, Nat.reduceAdd, Nat.reduceLT, if_true, l10, l01, l20, l21, l02, l12, List.append_nil, List.getElem?_cons_zero, List.getElem?_cons_succ, List.set_cons_zero, List.set_cons_succ, not_false_eq_true, not_true_eq_false, false_implies, true_implies, forall_const, Classical.not_not, rc0_at, rcI_at, sOK0, sOK1, sOK2, sOK3, sOK4, true_and, and_true, kil, Option.toList_some, Option.toList_none, List.nil_append, List.cons_append, Option.some.injEq, exists_eq_left', Value.int.injEq, Value.ref.injEq, Value.long.injEq, b2i]
      unfold cel
      by_cases w0 : what = 0
      · subst w0
        simp only [r57_0, r57_1, r57_2, r57_5, r57_8, r57_10, r57_11, r57_12, r57_40, r57_41, r57_44, r57_47, r57_48, r57_51, r57_52, r57_53, r57_56, r57_59, r57_60, r57_63, r57_64, r57_65, r57_68, r57_69, r57_72, r57_73, r57_75, List.length_cons, List.length_nil, Nat.reduceAdd, Nat.reduceLT, if_true, l10, l01, l20, l21, l02, l12, List.append_nil, List.getElem?_cons_zero, List.getElem?_cons_succ, List.set_cons_zero, List.set_cons_succ, not_false_eq_true, not_true_eq_false, false_implies, true_implies, forall_const, Classical.not_not, rc0_at, rcI_at, sOK0, sOK1, sOK2, sOK3, sOK4, true_and, and_true, kil, Option.toList_some, Option.toList_none, List.nil_append, List.cons_append, Option.some.injEq, exists_eq_left', Value.int.injEq, Value.ref.injEq, Value.long.injEq, gf_at x0, gf_at x3, hr5, forall_eq]
        refine ⟨_, _, c_heightAt (d + 1) x.2.2.1.2.1 hi, ?_⟩
        simp only [r57_0, r57_1, r57_2, r57_5, r57_8, r57_10, r57_11, r57_12, r57_40, r57_41, r57_44, r57_47, r57_48, r57_51, r57_52, r57_53, r57_56, r57_59, r57_60, r57_63, r57_64, r57_65, r57_68, r57_69, r57_72, r57_73, r57_75, List.length_cons, List.length_nil, Nat.reduceAdd, Nat.reduceLT, if_true, l10, l01, l20, l21, l02, l12, List.append_nil, List.getElem?_cons_zero, List.getElem?_cons_succ, List.set_cons_zero, List.set_cons_succ, not_false_eq_true, not_true_eq_false, false_implies, true_implies, forall_const, Classical.not_not, rc0_at, rcI_at, sOK0, sOK1, sOK2, sOK3, sOK4, true_and, and_true, kil, Option.toList_some, Option.toList_none, List.nil_append, List.cons_append, Option.some.injEq, exists_eq_left', Value.int.injEq, Value.ref.injEq, Value.long.injEq]
      · by_cases w1 : what = 1
        · subst w1
          simp only [r57_0, r57_1, r57_2, r57_5, r57_8, r57_10, r57_11, r57_12, r57_40, r57_41, r57_44, r57_47, r57_48, r57_51, r57_52, r57_53, r57_56, r57_59, r57_60, r57_63, r57_64, r57_65, r57_68, r57_69, r57_72, r57_73, r57_75, List.length_cons, List.length_nil, Nat.reduceAdd, Nat.reduceLT, if_true, l10, l01, l20, l21, l02, l12, List.append_nil, List.getElem?_cons_zero, List.getElem?_cons_succ, List.set_cons_zero, List.set_cons_succ, not_false_eq_true, not_true_eq_false, false_implies, true_implies, forall_const, Classical.not_not, rc0_at, rcI_at, sOK0, sOK1, sOK2, sOK3, sOK4, true_and, and_true, kil, Option.toList_some, Option.toList_none, List.nil_append, List.cons_append, Option.some.injEq, exists_eq_left', Value.int.injEq, Value.ref.injEq, Value.long.injEq, w0, gf_at x0, gf_at x3, hr5, if_false]
          refine ⟨_, _, c_shapeAt (d + 1) x.2.2.1.2.1 hi, ?_⟩
          simp only [r57_0, r57_1, r57_2, r57_5, r57_8, r57_10, r57_11, r57_12, r57_40, r57_41, r57_44, r57_47, r57_48, r57_51, r57_52, r57_53, r57_56, r57_59, r57_60, r57_63, r57_64, r57_65, r57_68, r57_69, r57_72, r57_73, r57_75, List.length_cons, List.length_nil, Nat.reduceAdd, Nat.reduceLT, if_true, l10, l01, l20, l21, l02, l12, List.append_nil, List.getElem?_cons_zero, List.getElem?_cons_succ, List.set_cons_zero, List.set_cons_succ, not_false_eq_true, not_true_eq_false, false_implies, true_implies, forall_const, Classical.not_not, rc0_at, rcI_at, sOK0, sOK1, sOK2, sOK3, sOK4, true_and, and_true, kil, Option.toList_some, Option.toList_none, List.nil_append, List.cons_append, Option.some.injEq, exists_eq_left', Value.int.injEq, Value.ref.injEq, Value.long.injEq]
        · by_cases w2 : what = 2
          · subst w2
            simp only [r57_0, r57_1, r57_2, r57_5, r57_8, r57_10, r57_11, r57_12, r57_40, r57_41, r57_44, r57_47, r57_48, r57_51, r57_52, r57_53, r57_56, r57_59, r57_60, r57_63, r57_64, r57_65, r57_68, r57_69, r57_72, r57_73, r57_75, List.length_cons, List.length_nil, Nat.reduceAdd, Nat.reduceLT, if_true, l10, l01, l20, l21, l02, l12, List.append_nil, List.getElem?_cons_zero, List.getElem?_cons_succ, List.set_cons_zero, List.set_cons_succ, not_false_eq_true, not_true_eq_false, false_implies, true_implies, forall_const, Classical.not_not, rc0_at, rcI_at, sOK0, sOK1, sOK2, sOK3, sOK4, true_and, and_true, kil, Option.toList_some, Option.toList_none, List.nil_append, List.cons_append, Option.some.injEq, exists_eq_left', Value.int.injEq, Value.ref.injEq, Value.long.injEq, w0, w1, gf_at x0, hr2, if_false]
            refine ⟨_, _, c_walkersAt d x.2.2.1 hi, ?_⟩
            simp only [r57_0, r57_1, r57_2, r57_5, r57_8, r57_10, r57_11, r57_12, r57_40, r57_41, r57_44, r57_47, r57_48, r57_51, r57_52, r57_53, r57_56, r57_59, r57_60, r57_63, r57_64, r57_65, r57_68, r57_69, r57_72, r57_73, r57_75, List.length_cons, List.length_nil, Nat.reduceAdd, Nat.reduceLT, if_true, l10, l01, l20, l21, l02, l12, List.append_nil, List.getElem?_cons_zero, List.getElem?_cons_succ, List.set_cons_zero, List.set_cons_succ, not_false_eq_true, not_true_eq_false, false_implies, true_implies, forall_const, Classical.not_not, rc0_at, rcI_at, sOK0, sOK1, sOK2, sOK3, sOK4, true_and, and_true, kil, Option.toList_some, Option.toList_none, List.nil_append, List.cons_append, Option.some.injEq, exists_eq_left', Value.int.injEq, Value.ref.injEq, Value.long.injEq]
          · simp only [r57_0, r57_1, r57_2, r57_5, r57_8, r57_10, r57_11, r57_12, r57_40, r57_41, r57_44, r57_47, r57_48, r57_51, r57_52, r57_53, r57_56, r57_59, r57_60, r57_63, r57_64, r57_65, r57_68, r57_69, r57_72, r57_73, r57_75, List.length_cons, List.length_nil, Nat.reduceAdd, Nat.reduceLT, if_true, l10, l01, l20, l21, l02, l12, List.append_nil, List.getElem?_cons_zero, List.getElem?_cons_succ, List.set_cons_zero, List.set_cons_succ, not_false_eq_true, not_true_eq_false, false_implies, true_implies, forall_const, Classical.not_not, rc0_at, rcI_at, sOK0, sOK1, sOK2, sOK3, sOK4, true_and, and_true, kil, Option.toList_some, Option.toList_none, List.nil_append, List.cons_append, Option.some.injEq, exists_eq_left', Value.int.injEq, Value.ref.injEq, Value.long.injEq, w0, w1, w2, if_false]
    · rw [ixF hcc] at e2; cases e2
theorem x_cell (d : Nat) {h : pH} {s : stT} (x : XS h s) (c what : Int32) : ∃ h', Cl (d + 3) 57 [.ref 0, .int c, .int what] h (some (.int (q_cell s c what).2)) h' ∧ XS h' (q_cell s c what).1 ∧ Up h h' := ⟨h, c_cell7 d x c what, x, Up.rf⟩
def q_wind (s : stT) (b : Bool) : stT × Int32 := if s.2.2.2.2.2.1 then ((s.1, s.2.1, (s.2.2.1.1, b, s.2.2.1.2.2), s.2.2.2), b2i s.2.2.1.2.1) else (s, -103)
theorem x_wind (d : Nat) {h : pH} {s : stT} (x : XS h s) (b : Bool) : ∃ h', Cl (d + 2) 58 [.ref 0, .int (b2i b)] h (some (.int (q_wind s b).2)) h' ∧ XS h' (q_wind s b).1 ∧ Up h h' := by
  obtain ⟨cs, n, A, B, bf, hd, hm, hb, tr⟩ := s
  obtain ⟨hs, w, ws, cnt, nt⟩ := A
  have x0 := x.1
  dsimp only [obC] at x0
  cases hd with
  | false =>
    refine ⟨h, ?_, x, Up.rf⟩
    refine Cl_o 3 rfl [some (.ref 0), some (.int (b2i b)), none] rfl rfl ?_
    have e0 : b2i false = 0 := rfl
    simp only [r58_0, r58_1, r58_4, r58_7, r58_9, r58_10, r58_11, r58_14, r58_17, r58_20, r58_23, r58_24, r58_25, r58_28, r58_31, r58_32, r58_35, r58_36, List.length_cons, List.length_nil, Nat.reduceAdd, Nat.reduceLT, if_true, l10, l01, l20, l21, l02, l12, List.append_nil, List.getElem?_cons_zero, List.getElem?_cons_succ, List.set_cons_zero, List.set_cons_succ, not_false_eq_true, not_true_eq_false, false_implies, true_implies, forall_const, Classical.not_not, rc0_at, rcI_at, sOK0, sOK1, sOK2, sOK3, sOK4, true_and, and_true, kil, Option.toList_some, Option.toList_none, List.nil_append, List.cons_append, Option.some.injEq, exists_eq_left', Value.int.injEq, Value.ref.injEq, Value.long.injEq, gf_at x0, e0]
    rfl
  | true =>
    have s4 := x.2.2.1.2.1
    dsimp only at s4
    have m : Sm (3 + 1) (3 + 3) h (h.set 4 (.inr (.inr (5, [.ref (4 + 1), .int (b2i b)])))) := Sm.set (by omega) (by omega)
    refine ⟨h.set 4 (.inr (.inr (5, [.ref (4 + 1), .int (b2i b)]))), ?_, x.ld (m.mono (by omega) (by omega)) (Lnd.setS x.2.2.1 m (s4.wind b)), Up.sm m (by omega)⟩
    refine Cl_o 3 rfl [some (.ref 0), some (.int (b2i b)), none] rfl rfl ?_
    have e0 : b2i true = 1 := rfl
    have x3 := x.2.2.1.1
    have e31 : (3 : Nat) + 1 = 4 := rfl
    dsimp only at x3
    have s41 := s4.1
    rw [e31] at x3 s41
    simp only [r58_0, r58_1, r58_4, r58_7, r58_9, r58_10, r58_11, r58_14, r58_17, r58_20, r58_23, r58_24, r58_25, r58_28, r58_31, r58_32, r58_35, r58_36, List.length_cons, List.length_nil, Nat.reduceAdd, Nat.reduceLT, if_true, l10, l01, l20, l21, l02, l12, List.append_nil, List.getElem?_cons_zero, List.getElem?_cons_succ, List.set_cons_zero, List.set_cons_succ, not_false_eq_true, not_true_eq_false, false_implies, true_implies, forall_const, Classical.not_not, rc0_at, rcI_at, sOK0, sOK1, sOK2, sOK3, sOK4, true_and, and_true, kil, Option.toList_some, Option.toList_none, List.nil_append, List.cons_append, Option.some.injEq, exists_eq_left', Value.int.injEq, Value.ref.injEq, Value.long.injEq, gf_at x0, e0, gf_at x3, gf_at s41]
    refine ⟨_, _, c_asNumber d h w, ?_⟩
    simp only [r58_0, r58_1, r58_4, r58_7, r58_9, r58_10, r58_11, r58_14, r58_17, r58_20, r58_23, r58_24, r58_25, r58_28, r58_31, r58_32, r58_35, r58_36, List.length_cons, List.length_nil, Nat.reduceAdd, Nat.reduceLT, if_true, l10, l01, l20, l21, l02, l12, List.append_nil, List.getElem?_cons_zero, List.getElem?_cons_succ, List.set_cons_zero, List.set_cons_succ, not_false_eq_true, not_true_eq_false, false_implies, true_implies, forall_const, Classical.not_not, rc0_at, rcI_at, sOK0, sOK1, sOK2, sOK3, sOK4, true_and, and_true, kil, Option.toList_some, Option.toList_none, List.nil_append, List.cons_append, Option.some.injEq, exists_eq_left', Value.int.injEq, Value.ref.injEq, Value.long.injEq, gf_at x0, gf_at x3, b2i_01, pf_at s41 (show 1 < 2 by decide)]
    rfl
def q_night (s : stT) : stT × Int32 := if s.2.2.2.2.2.1 then ((s.1, s.2.1, (ngt s.2.2.1.2.1 s.2.2.1.1, s.2.2.1.2.1, s.2.2.1.2.2.1, s.2.2.1.2.2.2.1, s.2.2.1.2.2.2.2 + 1), s.2.2.2), cn8 (isC s.2.2.1.1)) else (s, -103)
theorem x_night (d : Nat) {h : pH} {s : stT} (x : XS h s) : ∃ h', Cl (d + 4) 59 [.ref 0] h (some (.int (q_night s).2)) h' ∧ XS h' (q_night s).1 ∧ Up h h' := by
  obtain ⟨cs, n, A, B, bf, hd, hm, hb, tr⟩ := s
  obtain ⟨hs, w, ws, cnt, nt⟩ := A
  have x0 := x.1
  dsimp only [obC] at x0
  cases hd with
  | false =>
    refine ⟨h, ?_, x, Up.rf⟩
    refine Cl_o 1 rfl [some (.ref 0)] rfl rfl ?_
    have e0 : b2i false = 0 := rfl
    simp only [r59_0, r59_1, r59_4, r59_7, r59_9, r59_10, r59_11, r59_14, r59_15, r59_18, r59_19, r59_20, r59_23, r59_24, r59_27, r59_30, r59_33, List.length_cons, List.length_nil, Nat.reduceAdd, Nat.reduceLT, if_true, l10, l01, l20, l21, l02, l12, List.append_nil, List.getElem?_cons_zero, List.getElem?_cons_succ, List.set_cons_zero, List.set_cons_succ, not_false_eq_true, not_true_eq_false, false_implies, true_implies, forall_const, Classical.not_not, rc0_at, rcI_at, sOK0, sOK1, sOK2, sOK3, sOK4, true_and, and_true, kil, Option.toList_some, Option.toList_none, List.nil_append, List.cons_append, Option.some.injEq, exists_eq_left', Value.int.injEq, Value.ref.injEq, Value.long.injEq, gf_at x0, e0]
    rfl
  | true =>
    have x3 := x.2.2.1.1
    have e31 : (3 : Nat) + 1 = 4 := rfl
    dsimp only at x3
    have m1 : Sm 3 15 h (h.set 3 (lndC 3 cnt (nt + 1))) := Sm.set (by omega) (by omega)
    have y1 : XS (h.set 3 (lndC 3 cnt (nt + 1))) (cs, n, (hs, w, ws, cnt, nt + 1), B, bf, true, hm, hb, tr) := x.ld m1 (Lnd.setC x.2.2.1 cnt (nt + 1) x.2.2.1.2.2.2.2)
    have s4 := y1.2.2.1.2.1
    dsimp only at s4
    have m2 : Sm (3 + 1) (3 + 3) (h.set 3 (lndC 3 cnt (nt + 1))) ((h.set 3 (lndC 3 cnt (nt + 1))).set (4 + 1) (.inl (ngt w hs))) := Sm.set (by omega) (by omega)
    refine ⟨_, ?_, y1.ld (m2.mono (by omega) (by omega)) (Lnd.setS y1.2.2.1 m2 (s4.set (by rw [ngt_len]; exact s4.2.2))), (Up.sm m1 (by omega)).tr (Up.sm m2 (by omega))⟩
    refine Cl_o 1 rfl [some (.ref 0)] rfl rfl ?_
    have e0 : b2i true = 1 := rfl
    have z0 := y1.1
    dsimp only [obC] at z0
    have z3 := y1.2.2.1.1
    dsimp only at z3
    have s41 := s4.1
    rw [e31] at z3 s41
    have hpf := pf_at (j := 3) (v := .int (nt + 1)) x3 (show 3 < 4 by decide)
    simp only [List.set_cons_zero, List.set_cons_succ] at hpf
    generalize hh : h.set 3 (lndC 3 cnt (nt + 1)) = h1 at *
    have hh' : h.set 3 (.inr (.inr (2, [.ref (3 + 1), .ref (3 + 3), .int (nI cnt), .int (nt + 1)]))) = h1 := hh
    rw [hh'] at hpf
    simp only [r59_0, r59_1, r59_4, r59_7, r59_9, r59_10, r59_11, r59_14, r59_15, r59_18, r59_19, r59_20, r59_23, r59_24, r59_27, r59_30, r59_33, List.length_cons, List.length_nil, Nat.reduceAdd, Nat.reduceLT, if_true, l10, l01, l20, l21, l02, l12, List.append_nil, List.getElem?_cons_zero, List.getElem?_cons_succ, List.set_cons_zero, List.set_cons_succ, not_false_eq_true, not_true_eq_false, false_implies, true_implies, forall_const, Classical.not_not, rc0_at, rcI_at, sOK0, sOK1, sOK2, sOK3, sOK4, true_and, and_true, kil, Option.toList_some, Option.toList_none, List.nil_append, List.cons_append, Option.some.injEq, exists_eq_left', Value.int.injEq, Value.ref.injEq, Value.long.injEq, gf_at x0, e0, gf_at x3, hpf, gf_at z0, gf_at z3, rcV_at s41]
    refine ⟨_, _, c_passNight d s4, ?_⟩
    simp only [r59_0, r59_1, r59_4, r59_7, r59_9, r59_10, r59_11, r59_14, r59_15, r59_18, r59_19, r59_20, r59_23, r59_24, r59_27, r59_30, r59_33, List.length_cons, List.length_nil, Nat.reduceAdd, Nat.reduceLT, if_true, l10, l01, l20, l21, l02, l12, List.append_nil, List.getElem?_cons_zero, List.getElem?_cons_succ, List.set_cons_zero, List.set_cons_succ, not_false_eq_true, not_true_eq_false, false_implies, true_implies, forall_const, Classical.not_not, rc0_at, rcI_at, sOK0, sOK1, sOK2, sOK3, sOK4, true_and, and_true, kil, Option.toList_some, Option.toList_none, List.nil_append, List.cons_append, Option.some.injEq, exists_eq_left', Value.int.injEq, Value.ref.injEq, Value.long.injEq]
    rfl
def q_walker (s : stT) (kind c : Int32) : stT × Int32 := if ixv kind 5 then if (s.2.2.2.2.2.1 && ixv c 8) = true then if s.2.2.1.2.2.2.1 < 4 then ((s.1, s.2.1, (s.2.2.1.1, s.2.2.1.2.1, upw s.2.2.1.2.2.1 s.2.2.1.2.2.2.1 (kind.toNatClampNeg, c.toNatClampNeg, 0, 0, 0, (s.2.2.1.2.2.1 s.2.2.1.2.2.2.1).2.2.2.2.2), s.2.2.1.2.2.2.1 + 1, s.2.2.1.2.2.2.2), s.2.2.2), nI s.2.2.1.2.2.2.1) else (s, -104) else (s, -101) else (s, -102)
theorem x_walker (d : Nat) {h : pH} {s : stT} (x : XS h s) (kind c : Int32) : ∃ h', Cl (d + 3) 60 [.ref 0, .int kind, .int c] h (some (.int (q_walker s kind c).2)) h' ∧ XS h' (q_walker s kind c).1 ∧ Up h h' := by
  have hc := c_isCell (d + 1) x c
  obtain ⟨cs, n, A, B, bf, hd, hm, hb, tr⟩ := s
  obtain ⟨hs, w, ws, cnt, nt⟩ := A
  have x0 := x.1
  dsimp only [obC] at x0 hc
  have hr : ∀ as, rcV 7 h (Value.ref 0 :: as) = True := fun as => rcV_at (fs := _) x0
  have hr2 : ∀ as, rcV 2 h (Value.ref 3 :: as) = True := fun as => rcV_at (fs := _) x.2.2.1.1
  have hk := c_isKind (d + 1) h kind
  unfold q_walker
  dsimp only
  rcases ix_or kind 5 (by decide) with ⟨i, hi, rfl⟩ | hkk
  · rw [ixT hi (by decide)] at hk ⊢
    cases e : (hd && ixv c 8) with
    | false =>
      rw [e] at hc
      refine ⟨h, ?_, x, Up.rf⟩
      refine Cl_o 3 rfl [some (.ref 0), some (.int (nI i)), some (.int c)] rfl rfl ?_
      simp only [r60_0, r60_1, r60_4, r60_7, r60_9, r60_10, r60_11, r60_12, r60_15, r60_18, r60_20, r60_21, r60_22, r60_25, r60_26, r60_27, r60_30, List.length_cons, List.length_nil, Nat.reduceAdd, Nat.reduceLT, if_true, l10, l01, l20, l21, l02, l12, List.append_nil, List.getElem?_cons_zero, List.getElem?_cons_succ, List.set_cons_zero, List.set_cons_succ, not_false_eq_true, not_true_eq_false, false_implies, true_implies, forall_const, Classical.not_not, rc0_at, rcI_at, sOK0, sOK1, sOK2, sOK3, sOK4, true_and, and_true, kil, Option.toList_some, Option.toList_none, List.nil_append, List.cons_append, Option.some.injEq, exists_eq_left', Value.int.injEq, Value.ref.injEq, Value.long.injEq]
      refine ⟨_, _, hk, ?_⟩
      simp only [r60_0, r60_1, r60_4, r60_7, r60_9, r60_10, r60_11, r60_12, r60_15, r60_18, r60_20, r60_21, r60_22, r60_25, r60_26, r60_27, r60_30, List.length_cons, List.length_nil, Nat.reduceAdd, Nat.reduceLT, if_true, l10, l01, l20, l21, l02, l12, List.append_nil, List.getElem?_cons_zero, List.getElem?_cons_succ, List.set_cons_zero, List.set_cons_succ, not_false_eq_true, not_true_eq_false, false_implies, true_implies, forall_const, Classical.not_not, rc0_at, rcI_at, sOK0, sOK1, sOK2, sOK3, sOK4, true_and, and_true, kil, Option.toList_some, Option.toList_none, List.nil_append, List.cons_append, Option.some.injEq, exists_eq_left', Value.int.injEq, Value.ref.injEq, Value.long.injEq, b2i, hr]
      refine ⟨_, _, hc, ?_⟩
      simp only [r60_0, r60_1, r60_4, r60_7, r60_9, r60_10, r60_11, r60_12, r60_15, r60_18, r60_20, r60_21, r60_22, r60_25, r60_26, r60_27, r60_30, List.length_cons, List.length_nil, Nat.reduceAdd, Nat.reduceLT, if_true, l10, l01, l20, l21, l02, l12, List.append_nil, List.getElem?_cons_zero, List.getElem?_cons_succ, List.set_cons_zero, List.set_cons_succ, not_false_eq_true, not_true_eq_false, false_implies, true_implies, forall_const, Classical.not_not, rc0_at, rcI_at, sOK0, sOK1, sOK2, sOK3, sOK4, true_and, and_true, kil, Option.toList_some, Option.toList_none, List.nil_append, List.cons_append, Option.some.injEq, exists_eq_left', Value.int.injEq, Value.ref.injEq, Value.long.injEq, b2i, Bool.false_eq_true, if_false]
    | true =>
      rw [e] at hc
      have e2 := (Bool.and_eq_true _ _ ▸ e : hd = true ∧ ixv c 8 = true).2
      rcases ix_or c 8 (by decide) with ⟨j, hj, rfl⟩ | hcc
      · rw [nI_clamp (show i < 2 ^ 31 by omega), nI_clamp (show j < 2 ^ 31 by omega)]
        obtain ⟨h', r1, r2, r3⟩ := c_arrive2 d x.2.2.1 hi hj
        dsimp only at r1 r2
        refine ⟨h', ?_, ?_, Up.sm r3 (by omega)⟩
        · refine Cl_o 3 rfl [some (.ref 0), some (.int (nI i)), some (.int (nI j))] rfl rfl ?_
          simp only [r60_0, r60_1, r60_4, r60_7, r60_9, r60_10, r60_11, r60_12, r60_15, r60_18, r60_20, r60_21, r60_22, r60_25, r60_26, r60_27, r60_30, List.length_cons, List.length_nil, Nat.reduceAdd, Nat.reduceLT, if_true, l10, l01, l20, l21, l02, l12, List.append_nil, List.getElem?_cons_zero, List.getElem?_cons_succ, List.set_cons_zero, List.set_cons_succ, not_false_eq_true, not_true_eq_false, false_implies, true_implies, forall_const, Classical.not_not, rc0_at, rcI_at, sOK0, sOK1, sOK2, sOK3, sOK4, true_and, and_true, kil, Option.toList_some, Option.toList_none, List.nil_append, List.cons_append, Option.some.injEq, exists_eq_left', Value.int.injEq, Value.ref.injEq, Value.long.injEq]
          refine ⟨_, _, hk, ?_⟩
          simp only [r60_0, r60_1, r60_4, r60_7, r60_9, r60_10, r60_11, r60_12, r60_15, r60_18, r60_20, r60_21, r60_22, r60_25, r60_26, r60_27, r60_30, List.length_cons, List.length_nil, Nat.reduceAdd, Nat.reduceLT, if_true, l10, l01, l20, l21, l02, l12, List.append_nil, List.getElem?_cons_zero, List.getElem?_cons_succ, List.set_cons_zero, List.set_cons_succ, not_false_eq_true, not_true_eq_false, false_implies, true_implies, forall_const, Classical.not_not, rc0_at, rcI_at, sOK0, sOK1, sOK2, sOK3, sOK4, true_and, and_true, kil, Option.toList_some, Option.toList_none, List.nil_append, List.cons_append, Option.some.injEq, exists_eq_left', Value.int.injEq, Value.ref.injEq, Value.long.injEq, b2i, hr]
          refine ⟨_, _, hc, ?_⟩
          simp only [r60_0, r60_1, r60_4, r60_7, r60_9, r60_10, r60_11, r60_12, r60_15, r60_18, r60_20, r60_21, r60_22, r60_25, r60_26, r60_27, r60_30, List.length_cons, List.length_nil, Nat.reduceAdd, Nat.reduceLT, if_true, l10, l01, l20, l21, l02, l12, List.append_nil, List.getElem?_cons_zero, List.getElem?_cons_succ, List.set_cons_zero, List.set_cons_succ, not_false_eq_true, not_true_eq_false, false_implies, true_implies, forall_const, Classical.not_not, rc0_at, rcI_at, sOK0, sOK1, sOK2, sOK3, sOK4, true_and, and_true, kil, Option.toList_some, Option.toList_none, List.nil_append, List.cons_append, Option.some.injEq, exists_eq_left', Value.int.injEq, Value.ref.injEq, Value.long.injEq, b2i, gf_at x0, hr2]
          refine ⟨_, _, r1, ?_⟩
          by_cases q : cnt < 4 <;> simp only [r60_0, r60_1, r60_4, r60_7, r60_9, r60_10, r60_11, r60_12, r60_15, r60_18, r60_20, r60_21, r60_22, r60_25, r60_26, r60_27, r60_30, List.length_cons, List.length_nil, Nat.reduceAdd, Nat.reduceLT, if_true, l10, l01, l20, l21, l02, l12, List.append_nil, List.getElem?_cons_zero, List.getElem?_cons_succ, List.set_cons_zero, List.set_cons_succ, not_false_eq_true, not_true_eq_false, false_implies, true_implies, forall_const, Classical.not_not, rc0_at, rcI_at, sOK0, sOK1, sOK2, sOK3, sOK4, true_and, and_true, kil, Option.toList_some, Option.toList_none, List.nil_append, List.cons_append, Option.some.injEq, exists_eq_left', Value.int.injEq, Value.ref.injEq, Value.long.injEq, q, if_false]
        · by_cases q : cnt < 4
          · simp only [q, if_true] at r2 ⊢
            exact x.ld r3 r2
          · simp only [q, if_false, if_true] at r2 ⊢
            exact x.ld r3 r2
      · rw [ixF hcc] at e2; cases e2
  · rw [ixF hkk] at hk ⊢
    refine ⟨h, ?_, x, Up.rf⟩
    refine Cl_o 3 rfl [some (.ref 0), some (.int kind), some (.int c)] rfl rfl ?_
    simp only [r60_0, r60_1, r60_4, r60_7, r60_9, r60_10, r60_11, r60_12, r60_15, r60_18, r60_20, r60_21, r60_22, r60_25, r60_26, r60_27, r60_30, List.length_cons, List.length_nil, Nat.reduceAdd, Nat.reduceLT, if_true, l10, l01, l20, l21, l02, l12, List.append_nil, List.getElem?_cons_zero, List.getElem?_cons_succ, List.set_cons_zero, List.set_cons_succ, not_false_eq_true, not_true_eq_false, false_implies, true_implies, forall_const, Classical.not_not, rc0_at, rcI_at, sOK0, sOK1, sOK2, sOK3, sOK4, true_and, and_true, kil, Option.toList_some, Option.toList_none, List.nil_append, List.cons_append, Option.some.injEq, exists_eq_left', Value.int.injEq, Value.ref.injEq, Value.long.injEq]
    refine ⟨_, _, hk, ?_⟩
    simp only [r60_0, r60_1, r60_4, r60_7, r60_9, r60_10, r60_11, r60_12, r60_15, r60_18, r60_20, r60_21, r60_22, r60_25, r60_26, r60_27, r60_30, List.length_cons, List.length_nil, Nat.reduceAdd, Nat.reduceLT, if_true, l10, l01, l20, l21, l02, l12, List.append_nil, List.getElem?_cons_zero, List.getElem?_cons_succ, List.set_cons_zero, List.set_cons_succ, not_false_eq_true, not_true_eq_false, false_implies, true_implies, forall_const, Classical.not_not, rc0_at, rcI_at, sOK0, sOK1, sOK2, sOK3, sOK4, true_and, and_true, kil, Option.toList_some, Option.toList_none, List.nil_append, List.cons_append, Option.some.injEq, exists_eq_left', Value.int.injEq, Value.ref.injEq, Value.long.injEq, b2i, Bool.false_eq_true, if_false]
