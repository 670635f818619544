theorem ge8f {i : Nat} (h : i < 8) : ((8 : Int32) ≤ nI i) = False := eq_false (nI_ge (a := i) (b := 8) h (by decide))
theorem ge8t : ((8 : Int32) ≤ nI 8) = True := eq_true (by decide)
theorem ge4f {i : Nat} (h : i < 4) : ((4 : Int32) ≤ nI i) = False := eq_false (nI_ge (a := i) (b := 4) h (by decide))
theorem ge4t : ((4 : Int32) ≤ nI 4) = True := eq_true (by decide)
theorem z_nI : (0 : Int32) = nI 0 := rfl
theorem get_ne {h : pH} {a b : Nat} {x y : pC} (ha : h[a]? = some x) (hb : h[b]? = some y) (hn : x ≠ y) : a ≠ b := fun e => by subst e; exact hn (Option.some.inj (ha.symm.trans hb))
theorem Snd.ne {h : pH} {k k2 : Nat} {hs hs2 : List Int32} {w w2 : Bool} (a : Snd h k hs w) (b : Snd h k2 hs2 w2) (hk : k ≠ k2) : k + 1 ≠ k2 ∧ k + 1 ≠ k2 + 1 ∧ k ≠ k2 + 1 := ⟨get_ne a.2.1 b.1 (by simp), by omega, get_ne a.1 b.2.1 (by simp)⟩
theorem Snd.frame {h : pH} {k2 a : Nat} {hs2 : List Int32} {w2 : Bool} {c : pC} (b : Snd h k2 hs2 w2) (h1 : a ≠ k2) (h2 : a ≠ k2 + 1) : Snd (h.set a c) k2 hs2 w2 := ⟨by rw [List.getElem?_set_ne h1]; exact b.1, by rw [List.getElem?_set_ne h2]; exact b.2.1, b.2.2⟩
theorem take_set (hs hs2 : List Int32) (i : Nat) (h1 : i < hs.length) (h2 : i < hs2.length) : (hs.set i (hx hs2 i)).take (i + 1) ++ hs2.drop (i + 1) = hs.take i ++ hs2.drop i := by
  rw [List.take_succ_eq_append_getElem (by simpa using h1), List.drop_eq_getElem_cons h2]
  simp [hx, h2, List.take_set_of_le]
theorem lo_copyHeights (d k k2 : Nat) (hs2 : List Int32) (w w2 : Bool) (hk : k ≠ k2) : ∀ (j i : Nat) (hs : List Int32) (h : pH), i + j = 8 → Snd h k hs w → Snd h k2 hs2 w2 → X 32 d none (h.set (k + 1) (.inl (hs.take i ++ hs2.drop i))) 2 [some (.ref k), some (.ref k2), some (.int (nI i))] [] h := by
  intro j
  induction j with
  | zero =>
    intro i hs h hi a b
    have : i = 8 := by omega
    subst this
    rw [r32_2]; simp only [r32_0, r32_1, r32_3, r32_5, r32_8, r32_9, r32_12, r32_13, r32_14, r32_17, r32_18, r32_19, r32_20, r32_23, r32_26, List.length_cons, List.length_nil, Nat.reduceAdd, Nat.reduceLT, if_true, l10, l01, l20, l21, l02, l12, List.append_nil, List.getElem?_cons_zero, List.getElem?_cons_succ, List.set_cons_zero, List.set_cons_succ, not_false_eq_true, not_true_eq_false, false_implies, true_implies, forall_const, Classical.not_not, rc0_at, rcI_at, sOK0, sOK1, sOK2, sOK3, sOK4, true_and, and_true, kil, Option.toList_some, Option.toList_none, List.nil_append, List.cons_append, Option.some.injEq, exists_eq_left', Value.int.injEq, Value.ref.injEq, Value.long.injEq, ge8t]
    rw [List.take_of_length_le (by rw [a.2.2]; exact Nat.le_refl _), List.drop_of_length_le (by rw [b.2.2]; exact Nat.le_refl _), List.append_nil]
    exact (set_same a.2.1).symm
  | succ j ih =>
    intro i hs h hi a b
    have hi8 : i < 8 := by omega
    rw [r32_2]; simp only [r32_0, r32_1, r32_3, r32_5, r32_8, r32_9, r32_12, r32_13, r32_14, r32_17, r32_18, r32_19, r32_20, r32_23, r32_26, List.length_cons, List.length_nil, Nat.reduceAdd, Nat.reduceLT, if_true, l10, l01, l20, l21, l02, l12, List.append_nil, List.getElem?_cons_zero, List.getElem?_cons_succ, List.set_cons_zero, List.set_cons_succ, not_false_eq_true, not_true_eq_false, false_implies, true_implies, forall_const, Classical.not_not, rc0_at, rcI_at, sOK0, sOK1, sOK2, sOK3, sOK4, true_and, and_true, kil, Option.toList_some, Option.toList_none, List.nil_append, List.cons_append, Option.some.injEq, exists_eq_left', Value.int.injEq, Value.ref.injEq, Value.long.injEq, ge8f hi8, gf_at a.1, gf_at b.1, ild8 b.2.1 b.2.2 hi8, ist8 a.2.1 a.2.2 hi8, nI_1]
    obtain ⟨n1, n2, n3⟩ := a.ne b hk
    have := ih (i + 1) (hs.set i (hx hs2 i)) (h.set (k + 1) (.inl (hs.set i (hx hs2 i)))) (by omega) (a.set (by simp [a.2.2])) (b.frame n1 n2)
    rw [List.set_set, take_set hs hs2 i (by rw [a.2.2]; exact hi8) (by rw [b.2.2]; exact hi8)] at this
    exact this
theorem c_copyHeights (d : Nat) {h : pH} {k k2 : Nat} {hs hs2 : List Int32} {w w2 : Bool} (a : Snd h k hs w) (b : Snd h k2 hs2 w2) (hk : k ≠ k2) : Cl (d + 1) 32 [.ref k, .ref k2] h none (h.set (k + 1) (.inl hs2)) := by
  refine Cl_o 3 rfl [some (.ref k), some (.ref k2), none] rfl rfl ?_
  simp only [r32_0, r32_1, r32_3, r32_5, r32_8, r32_9, r32_12, r32_13, r32_14, r32_17, r32_18, r32_19, r32_20, r32_23, r32_26, List.length_cons, List.length_nil, Nat.reduceAdd, Nat.reduceLT, if_true, l10, l01, l20, l21, l02, l12, List.append_nil, List.getElem?_cons_zero, List.getElem?_cons_succ, List.set_cons_zero, List.set_cons_succ, not_false_eq_true, not_true_eq_false, false_implies, true_implies, forall_const, Classical.not_not, rc0_at, rcI_at, sOK0, sOK1, sOK2, sOK3, sOK4, true_and, and_true, kil, Option.toList_some, Option.toList_none, List.nil_append, List.cons_append, Option.some.injEq, exists_eq_left', Value.int.injEq, Value.ref.injEq, Value.long.injEq]
  exact lo_copyHeights d k k2 hs2 w w2 hk 8 0 hs h rfl a b
theorem Snd.wind {h : pH} {k : Nat} {hs : List Int32} {w : Bool} (a : Snd h k hs w) (w' : Bool) : Snd (h.set k (.inr (.inr (5, [.ref (k + 1), .int (b2i w')])))) k hs w' := by
  have := (List.getElem?_eq_some_iff.mp a.1).1
  exact ⟨by rw [List.getElem?_set_self this], by rw [List.getElem?_set_ne (by omega)]; exact a.2.1, a.2.2⟩
theorem b2i_01 (w : Bool) : (b2i w = 0 ∨ b2i w = 1) = True := by cases w <;> simp [b2i]
/-- the heap with another sand at k -/
def sndH (h : pH) (k : Nat) (hs : List Int32) (w : Bool) : pH := (h.set (k + 1) (.inl hs)).set k (.inr (.inr (5, [.ref (k + 1), .int (b2i w)])))
theorem c_copyFrom (d : Nat) {h : pH} {k k2 : Nat} {hs hs2 : List Int32} {w w2 : Bool} (a : Snd h k hs w) (b : Snd h k2 hs2 w2) (hk : k ≠ k2) : Cl (d + 2) 31 [.ref k, .ref k2] h none (sndH h k hs2 w2) := by
  refine Cl_o 2 rfl [some (.ref k), some (.ref k2)] rfl rfl ?_
  simp only [r31_0, r31_1, r31_2, r31_5, r31_6, r31_7, r31_10, r31_13, List.length_cons, List.length_nil, Nat.reduceAdd, Nat.reduceLT, if_true, l10, l01, l20, l21, l02, l12, List.append_nil, List.getElem?_cons_zero, List.getElem?_cons_succ, List.set_cons_zero, List.set_cons_succ, not_false_eq_true, not_true_eq_false, false_implies, true_implies, forall_const, Classical.not_not, rc0_at, rcI_at, sOK0, sOK1, sOK2, sOK3, sOK4, true_and, and_true, kil, Option.toList_some, Option.toList_none, List.nil_append, List.cons_append, Option.some.injEq, exists_eq_left', Value.int.injEq, Value.ref.injEq, Value.long.injEq, rcV_at a.1]
  refine ⟨_, _, c_copyHeights d a b hk, ?_⟩
  obtain ⟨n1, n2, n3⟩ := a.ne b hk
  have b' := b.frame (c := .inl hs2) n1 n2
  simp only [r31_0, r31_1, r31_2, r31_5, r31_6, r31_7, r31_10, r31_13, List.length_cons, List.length_nil, Nat.reduceAdd, Nat.reduceLT, if_true, l10, l01, l20, l21, l02, l12, List.append_nil, List.getElem?_cons_zero, List.getElem?_cons_succ, List.set_cons_zero, List.set_cons_succ, not_false_eq_true, not_true_eq_false, false_implies, true_implies, forall_const, Classical.not_not, rc0_at, rcI_at, sOK0, sOK1, sOK2, sOK3, sOK4, true_and, and_true, kil, Option.toList_some, Option.toList_none, List.nil_append, List.cons_append, Option.some.injEq, exists_eq_left', Value.int.injEq, Value.ref.injEq, Value.long.injEq, gf_at b'.1, b2i_01, pf_at a.set1 (show 1 < 2 by decide)]
  rfl
theorem drop_cons {hs : List Int32} {i : Nat} (h : i < hs.length) : hs.drop i = hx hs i :: hs.drop (i + 1) := by
  rw [List.drop_eq_getElem_cons h]; simp [hx, h]
theorem lo_isAs (d k k2 : Nat) (hs hs2 : List Int32) (w w2 : Bool) (h : pH) (a : Snd h k hs w) (b : Snd h k2 hs2 w2) : ∀ (j i : Nat), i + j = 8 → X 33 d (some (.int (b2i (decide (hs.drop i = hs2.drop i))))) h 2 [some (.ref k), some (.ref k2), some (.int (nI i))] [] h := by
  intro j
  induction j with
  | zero =>
    intro i hi
    have : i = 8 := by omega
    subst this
    rw [r33_2]; simp only [r33_0, r33_1, r33_3, r33_5, r33_8, r33_9, r33_12, r33_13, r33_14, r33_15, r33_18, r33_19, r33_20, r33_23, r33_24, r33_25, r33_28, r33_31, r33_32, List.length_cons, List.length_nil, Nat.reduceAdd, Nat.reduceLT, if_true, l10, l01, l20, l21, l02, l12, List.append_nil, List.getElem?_cons_zero, List.getElem?_cons_succ, List.set_cons_zero, List.set_cons_succ, not_false_eq_true, not_true_eq_false, false_implies, true_implies, forall_const, Classical.not_not, rc0_at, rcI_at, sOK0, sOK1, sOK2, sOK3, sOK4, true_and, and_true, kil, Option.toList_some, Option.toList_none, List.nil_append, List.cons_append, Option.some.injEq, exists_eq_left', Value.int.injEq, Value.ref.injEq, Value.long.injEq, ge8t]
    rw [List.drop_of_length_le (by rw [a.2.2]; exact Nat.le_refl _), List.drop_of_length_le (by rw [b.2.2]; exact Nat.le_refl _)]
    simp [b2i]
  | succ j ih =>
    intro i hi
    have hi8 : i < 8 := by omega
    rw [r33_2]; simp only [r33_0, r33_1, r33_3, r33_5, r33_8, r33_9, r33_12, r33_13, r33_14, r33_15, r33_18, r33_19, r33_20, r33_23, r33_24, r33_25, r33_28, r33_31, r33_32, List.length_cons, List.length_nil, Nat.reduceAdd, Nat.reduceLT, if_true, l10, l01, l20, l21, l02, l12, List.append_nil, List.getElem?_cons_zero, List.getElem?_cons_succ, List.set_cons_zero, List.set_cons_succ, not_false_eq_true, not_true_eq_false, false_implies, true_implies, forall_const, Classical.not_not, rc0_at, rcI_at, sOK0, sOK1, sOK2, sOK3, sOK4, true_and, and_true, kil, Option.toList_some, Option.toList_none, List.nil_append, List.cons_append, Option.some.injEq, exists_eq_left', Value.int.injEq, Value.ref.injEq, Value.long.injEq, ge8f hi8, gf_at a.1, gf_at b.1, ild8 b.2.1 b.2.2 hi8, ild8 a.2.1 a.2.2 hi8, nI_1]
    rw [drop_cons (hs := hs) (by rw [a.2.2]; exact hi8), drop_cons (hs := hs2) (by rw [b.2.2]; exact hi8)]
    by_cases e : hx hs i = hx hs2 i
    · have := ih (i + 1) (by omega)
      simp only [e, List.cons.injEq, true_and, true_implies, not_true_eq_false, false_implies, and_true]
      exact this
    · simp [e, b2i]
theorem c_isAs (d : Nat) {h : pH} {k k2 : Nat} {hs hs2 : List Int32} {w w2 : Bool} (a : Snd h k hs w) (b : Snd h k2 hs2 w2) : Cl (d + 1) 33 [.ref k, .ref k2] h (some (.int (b2i (decide (hs = hs2))))) h := by
  refine Cl_o 3 rfl [some (.ref k), some (.ref k2), none] rfl rfl ?_
  simp only [r33_0, r33_1, r33_3, r33_5, r33_8, r33_9, r33_12, r33_13, r33_14, r33_15, r33_18, r33_19, r33_20, r33_23, r33_24, r33_25, r33_28, r33_31, r33_32, List.length_cons, List.length_nil, Nat.reduceAdd, Nat.reduceLT, if_true, l10, l01, l20, l21, l02, l12, List.append_nil, List.getElem?_cons_zero, List.getElem?_cons_succ, List.set_cons_zero, List.set_cons_succ, not_false_eq_true, not_true_eq_false, false_implies, true_implies, forall_const, Classical.not_not, rc0_at, rcI_at, sOK0, sOK1, sOK2, sOK3, sOK4, true_and, and_true, kil, Option.toList_some, Option.toList_none, List.nil_append, List.cons_append, Option.some.injEq, exists_eq_left', Value.int.injEq, Value.ref.injEq, Value.long.injEq]
  exact lo_isAs d k k2 hs hs2 w w2 h a b 8 0 rfl
def suml (hs : List Int32) : Int32 := hs.foldl (· + ·) 0
theorem lo_sum (d k : Nat) (hs : List Int32) (w : Bool) (h : pH) (a : Snd h k hs w) : ∀ (j i : Nat) (s : Int32), i + j = 8 → X 34 d (some (.int ((hs.drop i).foldl (· + ·) s))) h 4 [some (.ref k), some (.int s), some (.int (nI i))] [] h := by
  intro j
  induction j with
  | zero =>
    intro i s hi
    have : i = 8 := by omega
    subst this
    rw [List.drop_of_length_le (by rw [a.2.2]; exact Nat.le_refl _)]
    rw [r34_4]; simp only [r34_0, r34_1, r34_2, r34_3, r34_5, r34_7, r34_10, r34_11, r34_12, r34_15, r34_16, r34_17, r34_18, r34_19, r34_22, r34_25, r34_26, List.length_cons, List.length_nil, Nat.reduceAdd, Nat.reduceLT, if_true, l10, l01, l20, l21, l02, l12, List.append_nil, List.getElem?_cons_zero, List.getElem?_cons_succ, List.set_cons_zero, List.set_cons_succ, not_false_eq_true, not_true_eq_false, false_implies, true_implies, forall_const, Classical.not_not, rc0_at, rcI_at, sOK0, sOK1, sOK2, sOK3, sOK4, true_and, and_true, kil, Option.toList_some, Option.toList_none, List.nil_append, List.cons_append, Option.some.injEq, exists_eq_left', Value.int.injEq, Value.ref.injEq, Value.long.injEq, ge8t, List.foldl_nil]
  | succ j ih =>
    intro i s hi
    have hi8 : i < 8 := by omega
    rw [drop_cons (hs := hs) (by rw [a.2.2]; exact hi8)]
    rw [r34_4]; simp only [r34_0, r34_1, r34_2, r34_3, r34_5, r34_7, r34_10, r34_11, r34_12, r34_15, r34_16, r34_17, r34_18, r34_19, r34_22, r34_25, r34_26, List.length_cons, List.length_nil, Nat.reduceAdd, Nat.reduceLT, if_true, l10, l01, l20, l21, l02, l12, List.append_nil, List.getElem?_cons_zero, List.getElem?_cons_succ, List.set_cons_zero, List.set_cons_succ, not_false_eq_true, not_true_eq_false, false_implies, true_implies, forall_const, Classical.not_not, rc0_at, rcI_at, sOK0, sOK1, sOK2, sOK3, sOK4, true_and, and_true, kil, Option.toList_some, Option.toList_none, List.nil_append, List.cons_append, Option.some.injEq, exists_eq_left', Value.int.injEq, Value.ref.injEq, Value.long.injEq, ge8f hi8, gf_at a.1, ild8 a.2.1 a.2.2 hi8, nI_1, List.foldl_cons]
    exact ih (i + 1) _ (by omega)
theorem c_sum (d : Nat) {h : pH} {k : Nat} {hs : List Int32} {w : Bool} (a : Snd h k hs w) : Cl (d + 1) 34 [.ref k] h (some (.int (suml hs))) h := by
  refine Cl_o 3 rfl [some (.ref k), none, none] rfl rfl ?_
  simp only [r34_0, r34_1, r34_2, r34_3, r34_5, r34_7, r34_10, r34_11, r34_12, r34_15, r34_16, r34_17, r34_18, r34_19, r34_22, r34_25, r34_26, List.length_cons, List.length_nil, Nat.reduceAdd, Nat.reduceLT, if_true, l10, l01, l20, l21, l02, l12, List.append_nil, List.getElem?_cons_zero, List.getElem?_cons_succ, List.set_cons_zero, List.set_cons_succ, not_false_eq_true, not_true_eq_false, false_implies, true_implies, forall_const, Classical.not_not, rc0_at, rcI_at, sOK0, sOK1, sOK2, sOK3, sOK4, true_and, and_true, kil, Option.toList_some, Option.toList_none, List.nil_append, List.cons_append, Option.some.injEq, exists_eq_left', Value.int.injEq, Value.ref.injEq, Value.long.injEq]
  exact lo_sum d k hs w h a 8 0 0 rfl
def mxw (x y : Int32) : Int32 := if x < y then y else x
def maxl (hs : List Int32) : Int32 := hs.foldl mxw 0
theorem lo_highest (d k : Nat) (hs : List Int32) (w : Bool) (h : pH) (a : Snd h k hs w) : ∀ (j i : Nat) (s : Int32), i + j = 8 → X 35 d (some (.int ((hs.drop i).foldl mxw s))) h 4 [some (.ref k), some (.int s), some (.int (nI i))] [] h := by
  intro j
  induction j with
  | zero =>
    intro i s hi
    have : i = 8 := by omega
    subst this
    rw [List.drop_of_length_le (by rw [a.2.2]; exact Nat.le_refl _)]
    rw [r35_4]; simp only [r35_0, r35_1, r35_2, r35_3, r35_5, r35_7, r35_10, r35_11, r35_12, r35_15, r35_16, r35_17, r35_20, r35_21, r35_24, r35_27, r35_28, List.length_cons, List.length_nil, Nat.reduceAdd, Nat.reduceLT, if_true, l10, l01, l20, l21, l02, l12, List.append_nil, List.getElem?_cons_zero, List.getElem?_cons_succ, List.set_cons_zero, List.set_cons_succ, not_false_eq_true, not_true_eq_false, false_implies, true_implies, forall_const, Classical.not_not, rc0_at, rcI_at, sOK0, sOK1, sOK2, sOK3, sOK4, true_and, and_true, kil, Option.toList_some, Option.toList_none, List.nil_append, List.cons_append, Option.some.injEq, exists_eq_left', Value.int.injEq, Value.ref.injEq, Value.long.injEq, ge8t, List.foldl_nil]
  | succ j ih =>
    intro i s hi
    have hi8 : i < 8 := by omega
    rw [drop_cons (hs := hs) (by rw [a.2.2]; exact hi8)]
    rw [r35_4]; simp only [r35_0, r35_1, r35_2, r35_3, r35_5, r35_7, r35_10, r35_11, r35_12, r35_15, r35_16, r35_17, r35_20, r35_21, r35_24, r35_27, r35_28, List.length_cons, List.length_nil, Nat.reduceAdd, Nat.reduceLT, if_true, l10, l01, l20, l21, l02, l12, List.append_nil, List.getElem?_cons_zero, List.getElem?_cons_succ, List.set_cons_zero, List.set_cons_succ, not_false_eq_true, not_true_eq_false, false_implies, true_implies, forall_const, Classical.not_not, rc0_at, rcI_at, sOK0, sOK1, sOK2, sOK3, sOK4, true_and, and_true, kil, Option.toList_some, Option.toList_none, List.nil_append, List.cons_append, Option.some.injEq, exists_eq_left', Value.int.injEq, Value.ref.injEq, Value.long.injEq, ge8f hi8, gf_at a.1, ild8 a.2.1 a.2.2 hi8, nI_1, List.foldl_cons]
    exact ih (i + 1) _ (by omega)
theorem c_highest (d : Nat) {h : pH} {k : Nat} {hs : List Int32} {w : Bool} (a : Snd h k hs w) : Cl (d + 1) 35 [.ref k] h (some (.int (maxl hs))) h := by
  refine Cl_o 3 rfl [some (.ref k), none, none] rfl rfl ?_
  simp only [r35_0, r35_1, r35_2, r35_3, r35_5, r35_7, r35_10, r35_11, r35_12, r35_15, r35_16, r35_17, r35_20, r35_21, r35_24, r35_27, r35_28, List.length_cons, List.length_nil, Nat.reduceAdd, Nat.reduceLT, if_true, l10, l01, l20, l21, l02, l12, List.append_nil, List.getElem?_cons_zero, List.getElem?_cons_succ, List.set_cons_zero, List.set_cons_succ, not_false_eq_true, not_true_eq_false, false_implies, true_implies, forall_const, Classical.not_not, rc0_at, rcI_at, sOK0, sOK1, sOK2, sOK3, sOK4, true_and, and_true, kil, Option.toList_some, Option.toList_none, List.nil_append, List.cons_append, Option.some.injEq, exists_eq_left', Value.int.injEq, Value.ref.injEq, Value.long.injEq]
  exact lo_highest d k hs w h a 8 0 0 rfl
def isC (hs : List Int32) (c : Nat) : Bool := decide (shp hs c = 1)
def cbs (b : Nat → Bool) : Nat → Nat → Int32 → Int32
  | 0, _, s => s
  | j + 1, i, s => cbs b j (i + 1) (if b i then s ||| ((1 : Int32) <<< (nI i &&& 31)) else s)
theorem lo_crests (d k : Nat) (hs : List Int32) (w : Bool) (h : pH) (a : Snd h k hs w) : ∀ (j i : Nat) (s : Int32), i + j = 8 → X 37 (d + 1) (some (.int (cbs (isC hs) j i s))) h 4 [some (.ref k), some (.int s), some (.int (nI i))] [] h := by
  intro j
  induction j with
  | zero =>
    intro i s hi
    have : i = 8 := by omega
    subst this
    rw [r37_4]; simp only [r37_0, r37_1, r37_2, r37_3, r37_5, r37_7, r37_10, r37_11, r37_12, r37_15, r37_16, r37_19, r37_20, r37_21, r37_22, r37_23, r37_24, r37_25, r37_28, r37_31, r37_32, List.length_cons, List.length_nil, Nat.reduceAdd, Nat.reduceLT, if_true, l10, l01, l20, l21, l02, l12, List.append_nil, List.getElem?_cons_zero, List.getElem?_cons_succ, List.set_cons_zero, List.set_cons_succ, not_false_eq_true, not_true_eq_false, false_implies, true_implies, forall_const, Classical.not_not, rc0_at, rcI_at, sOK0, sOK1, sOK2, sOK3, sOK4, true_and, and_true, kil, Option.toList_some, Option.toList_none, List.nil_append, List.cons_append, Option.some.injEq, exists_eq_left', Value.int.injEq, Value.ref.injEq, Value.long.injEq, ge8t, cbs]
  | succ j ih =>
    intro i s hi
    have hi8 : i < 8 := by omega
    rw [r37_4]; simp only [r37_0, r37_1, r37_2, r37_3, r37_5, r37_7, r37_10, r37_11, r37_12, r37_15, r37_16, r37_19, r37_20, r37_21, r37_22, r37_23, r37_24, r37_25, r37_28, r37_31, r37_32, List.length_cons, List.length_nil, Nat.reduceAdd, Nat.reduceLT, if_true, l10, l01, l20, l21, l02, l12, List.append_nil, List.getElem?_cons_zero, List.getElem?_cons_succ, List.set_cons_zero, List.set_cons_succ, not_false_eq_true, not_true_eq_false, false_implies, true_implies, forall_const, Classical.not_not, rc0_at, rcI_at, sOK0, sOK1, sOK2, sOK3, sOK4, true_and, and_true, kil, Option.toList_some, Option.toList_none, List.nil_append, List.cons_append, Option.some.injEq, exists_eq_left', Value.int.injEq, Value.ref.injEq, Value.long.injEq, ge8f hi8, rcV_at a.1]
    refine ⟨_, _, c_shapeAt d a hi8, ?_⟩
    have := ih (i + 1) (if isC hs i then s ||| ((1 : Int32) <<< (nI i &&& 31)) else s) (by omega)
    by_cases e : shp hs i = 1
    · have e2 : isC hs i = true := by simp [isC, e]
      rw [e2, if_pos rfl] at this
      simp only [r37_0, r37_1, r37_2, r37_3, r37_5, r37_7, r37_10, r37_11, r37_12, r37_15, r37_16, r37_19, r37_20, r37_21, r37_22, r37_23, r37_24, r37_25, r37_28, r37_31, r37_32, List.length_cons, List.length_nil, Nat.reduceAdd, Nat.reduceLT, if_true, l10, l01, l20, l21, l02, l12, List.append_nil, List.getElem?_cons_zero, List.getElem?_cons_succ, List.set_cons_zero, List.set_cons_succ, not_false_eq_true, not_true_eq_false, false_implies, true_implies, forall_const, Classical.not_not, rc0_at, rcI_at, sOK0, sOK1, sOK2, sOK3, sOK4, true_and, and_true, kil, Option.toList_some, Option.toList_none, List.nil_append, List.cons_append, Option.some.injEq, exists_eq_left', Value.int.injEq, Value.ref.injEq, Value.long.injEq, e, nI_1, cbs, e2, if_true]
      exact this
    · have e2 : isC hs i = false := by simp [isC, e]
      rw [e2, if_neg (by decide)] at this
      simp only [r37_0, r37_1, r37_2, r37_3, r37_5, r37_7, r37_10, r37_11, r37_12, r37_15, r37_16, r37_19, r37_20, r37_21, r37_22, r37_23, r37_24, r37_25, r37_28, r37_31, r37_32, List.length_cons, List.length_nil, Nat.reduceAdd, Nat.reduceLT, if_true, l10, l01, l20, l21, l02, l12, List.append_nil, List.getElem?_cons_zero, List.getElem?_cons_succ, List.set_cons_zero, List.set_cons_succ, not_false_eq_true, not_true_eq_false, false_implies, true_implies, forall_const, Classical.not_not, rc0_at, rcI_at, sOK0, sOK1, sOK2, sOK3, sOK4, true_and, and_true, kil, Option.toList_some, Option.toList_none, List.nil_append, List.cons_append, Option.some.injEq, exists_eq_left', Value.int.injEq, Value.ref.injEq, Value.long.injEq, e, nI_1, cbs, e2, if_false, Bool.false_eq_true]
      exact this
theorem c_crests (d : Nat) {h : pH} {k : Nat} {hs : List Int32} {w : Bool} (a : Snd h k hs w) : Cl (d + 2) 37 [.ref k] h (some (.int (cbs (isC hs) 8 0 0))) h := by
  refine Cl_o 3 rfl [some (.ref k), none, none] rfl rfl ?_
  simp only [r37_0, r37_1, r37_2, r37_3, r37_5, r37_7, r37_10, r37_11, r37_12, r37_15, r37_16, r37_19, r37_20, r37_21, r37_22, r37_23, r37_24, r37_25, r37_28, r37_31, r37_32, List.length_cons, List.length_nil, Nat.reduceAdd, Nat.reduceLT, if_true, l10, l01, l20, l21, l02, l12, List.append_nil, List.getElem?_cons_zero, List.getElem?_cons_succ, List.set_cons_zero, List.set_cons_succ, not_false_eq_true, not_true_eq_false, false_implies, true_implies, forall_const, Classical.not_not, rc0_at, rcI_at, sOK0, sOK1, sOK2, sOK3, sOK4, true_and, and_true, kil, Option.toList_some, Option.toList_none, List.nil_append, List.cons_append, Option.some.injEq, exists_eq_left', Value.int.injEq, Value.ref.injEq, Value.long.injEq]
  exact lo_crests d k hs w h a 8 0 0 rfl
