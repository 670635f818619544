def dgs (h : Int64) (n : Int32) : Int64 := 31 * h + n.toInt64
theorem c_with (d : Nat) (h : pH) (v : Int64) (n : Int32) : Cl (d + 1) 77 [.long v, .int n] h (some (.long (dgs v n))) h := by
  refine Cl_o 3 rfl [some (.long v), none, some (.int n)] rfl rfl ?_
  simp only [r77_0, r77_3, r77_4, r77_5, r77_6, r77_7, r77_8, List.length_cons, List.length_nil, Nat.reduceAdd, Nat.reduceLT, if_true, l10, l01, l20, l21, l02, l12, List.append_nil, List.getElem?_cons_zero, List.getElem?_cons_succ, List.set_cons_zero, List.set_cons_succ, not_false_eq_true, not_true_eq_false, false_implies, true_implies, forall_const, Classical.not_not, rc0_at, rcI_at, sOK0, sOK1, sOK2, sOK3, sOK4, true_and, and_true, kil, Option.toList_some, Option.toList_none, List.nil_append, List.cons_append, Option.some.injEq, exists_eq_left', Value.int.injEq, Value.ref.injEq, Value.long.injEq]
  rfl
theorem gt2f {i : Nat} (h : i ≤ 2) : ((2 : Int32) < nI i) = False := eq_false (nI_nlt (a := 2) (b := i) h (by decide))
theorem gt2t : ((2 : Int32) < nI 3) = True := eq_true (by decide)
def fInn (f : Nat → Int32) (j i : Nat) (h : Int64) : Int64 := (List.range' i j).foldl (fun h i => dgs h (f i)) h
theorem fInn_s (f : Nat → Int32) (j i : Nat) (h : Int64) : fInn f (j + 1) i h = fInn f j (i + 1) (dgs h (f i)) := by simp [fInn, List.range'_succ]
theorem q_cell_at (s : stT) (hd : s.2.2.2.2.2.1 = true) {c : Nat} (hc : c < 8) (what : Int32) : (q_cell s (nI c) what).2 = cel s.2.2.1 c what := by
  unfold q_cell
  rw [hd, ixT hc (by decide), nI_clamp (by omega)]
  rfl
theorem lo_wcI (d : Nat) {h : pH} {s : stT} (x : XS h s) (hd : s.2.2.2.2.2.1 = true) {c : Nat} (hc : c < 8) (r : Option Value) (h' : pH) : ∀ (j i : Nat) (v : Int64), i + j = 3 → X 75 (d + 3) r h' 35 [some (.ref 0), some (.long (fInn (fun i => cel s.2.2.1 c (nI i)) j i v)), none, some (.int (nI c)), some (.int (nI 3))] [] h → X 75 (d + 3) r h' 11 [some (.ref 0), some (.long v), none, some (.int (nI c)), some (.int (nI i))] [] h := by
  have hr : ∀ as, rcV 7 h (Value.ref 0 :: as) = True := fun as => rcV_at (fs := _) x.1
  intro j
  induction j with
  | zero =>
    intro i v hi hk
    have : i = 3 := by omega
    subst this
    rw [r75_11]
    simp only [r75_13, r75_14, gt2t, true_implies, not_true_eq_false, false_implies, and_true]
    exact hk
  | succ j ih =>
    intro i v hi hk
    rw [fInn_s] at hk
    rw [r75_11]; simp only [r75_0, r75_1, r75_3, r75_5, r75_8, r75_9, r75_13, r75_14, r75_17, r75_18, r75_19, r75_20, r75_22, r75_25, r75_28, r75_29, r75_32, r75_35, r75_38, r75_41, r75_42, List.length_cons, List.length_nil, Nat.reduceAdd, Nat.reduceLT, if_true, l10, l01, l20, l21, l02, l12, List.append_nil, List.getElem?_cons_zero, List.getElem?_cons_succ, List.set_cons_zero, List.set_cons_succ, not_false_eq_true, not_true_eq_false, false_implies, true_implies, forall_const, Classical.not_not, rc0_at, rcI_at, sOK0, sOK1, sOK2, sOK3, sOK4, true_and, and_true, kil, Option.toList_some, Option.toList_none, List.nil_append, List.cons_append, Option.some.injEq, exists_eq_left', Value.int.injEq, Value.ref.injEq, Value.long.injEq, gt2f (show i ≤ 2 by omega), hr]
    have r1 := c_cell7 d x (nI c) (nI i)
    rw [q_cell_at s hd hc] at r1
    refine ⟨_, _, r1, ?_⟩
    simp only [r75_0, r75_1, r75_3, r75_5, r75_8, r75_9, r75_13, r75_14, r75_17, r75_18, r75_19, r75_20, r75_22, r75_25, r75_28, r75_29, r75_32, r75_35, r75_38, r75_41, r75_42, List.length_cons, List.length_nil, Nat.reduceAdd, Nat.reduceLT, if_true, l10, l01, l20, l21, l02, l12, List.append_nil, List.getElem?_cons_zero, List.getElem?_cons_succ, List.set_cons_zero, List.set_cons_succ, not_false_eq_true, not_true_eq_false, false_implies, true_implies, forall_const, Classical.not_not, rc0_at, rcI_at, sOK0, sOK1, sOK2, sOK3, sOK4, true_and, and_true, kil, Option.toList_some, Option.toList_none, List.nil_append, List.cons_append, Option.some.injEq, exists_eq_left', Value.int.injEq, Value.ref.injEq, Value.long.injEq]
    refine ⟨_, _, c_with (d + 2) _ v _, ?_⟩
    simp only [r75_0, r75_1, r75_3, r75_5, r75_8, r75_9, r75_13, r75_14, r75_17, r75_18, r75_19, r75_20, r75_22, r75_25, r75_28, r75_29, r75_32, r75_35, r75_38, r75_41, r75_42, List.length_cons, List.length_nil, Nat.reduceAdd, Nat.reduceLT, if_true, l10, l01, l20, l21, l02, l12, List.append_nil, List.getElem?_cons_zero, List.getElem?_cons_succ, List.set_cons_zero, List.set_cons_succ, not_false_eq_true, not_true_eq_false, false_implies, true_implies, forall_const, Classical.not_not, rc0_at, rcI_at, sOK0, sOK1, sOK2, sOK3, sOK4, true_and, and_true, kil, Option.toList_some, Option.toList_none, List.nil_append, List.cons_append, Option.some.injEq, exists_eq_left', Value.int.injEq, Value.ref.injEq, Value.long.injEq, nI_1]
    exact ih (i + 1) _ (by omega) hk
def fCel (A : landT) (j c : Nat) (h : Int64) : Int64 := (List.range' c j).foldl (fun h c => fInn (fun i => cel A c (nI i)) 3 0 h) h
theorem fCel_s (A : landT) (j c : Nat) (h : Int64) : fCel A (j + 1) c h = fCel A j (c + 1) (fInn (fun i => cel A c (nI i)) 3 0 h) := by simp [fCel, List.range'_succ]
theorem lo_wcO (d : Nat) {h : pH} {s : stT} (x : XS h s) (hd : s.2.2.2.2.2.1 = true) : ∀ (j c : Nat) (v : Int64) (v4 : Option Value), c + j = 8 → X 75 (d + 3) (some (.long (fCel s.2.2.1 j c v))) h 2 [some (.ref 0), some (.long v), none, some (.int (nI c)), v4] [] h := by
  intro j
  induction j with
  | zero =>
    intro c v v4 hc
    have : c = 8 := by omega
    subst this
    rw [r75_2]; simp only [r75_0, r75_1, r75_3, r75_5, r75_8, r75_9, r75_13, r75_14, r75_17, r75_18, r75_19, r75_20, r75_22, r75_25, r75_28, r75_29, r75_32, r75_35, r75_38, r75_41, r75_42, List.length_cons, List.length_nil, Nat.reduceAdd, Nat.reduceLT, if_true, l10, l01, l20, l21, l02, l12, List.append_nil, List.getElem?_cons_zero, List.getElem?_cons_succ, List.set_cons_zero, List.set_cons_succ, not_false_eq_true, not_true_eq_false, false_implies, true_implies, forall_const, Classical.not_not, rc0_at, rcI_at, sOK0, sOK1, sOK2, sOK3, sOK4, true_and, and_true, kil, Option.toList_some, Option.toList_none, List.nil_append, List.cons_append, Option.some.injEq, exists_eq_left', Value.int.injEq, Value.ref.injEq, Value.long.injEq, ge8t]
    rfl
  | succ j ih =>
    intro c v v4 hc
    rw [fCel_s]
    rw [r75_2]; simp only [r75_0, r75_1, r75_3, r75_5, r75_8, r75_9, r75_13, r75_14, r75_17, r75_18, r75_19, r75_20, r75_22, r75_25, r75_28, r75_29, r75_32, r75_35, r75_38, r75_41, r75_42, List.length_cons, List.length_nil, Nat.reduceAdd, Nat.reduceLT, if_true, l10, l01, l20, l21, l02, l12, List.append_nil, List.getElem?_cons_zero, List.getElem?_cons_succ, List.set_cons_zero, List.set_cons_succ, not_false_eq_true, not_true_eq_false, false_implies, true_implies, forall_const, Classical.not_not, rc0_at, rcI_at, sOK0, sOK1, sOK2, sOK3, sOK4, true_and, and_true, kil, Option.toList_some, Option.toList_none, List.nil_append, List.cons_append, Option.some.injEq, exists_eq_left', Value.int.injEq, Value.ref.injEq, Value.long.injEq, ge8f (show c < 8 by omega)]
    refine lo_wcI d x hd (show c < 8 by omega) _ _ 3 0 v rfl ?_
    simp only [r75_0, r75_1, r75_3, r75_5, r75_8, r75_9, r75_13, r75_14, r75_17, r75_18, r75_19, r75_20, r75_22, r75_25, r75_28, r75_29, r75_32, r75_35, r75_38, r75_41, r75_42, List.length_cons, List.length_nil, Nat.reduceAdd, Nat.reduceLT, if_true, l10, l01, l20, l21, l02, l12, List.append_nil, List.getElem?_cons_zero, List.getElem?_cons_succ, List.set_cons_zero, List.set_cons_succ, not_false_eq_true, not_true_eq_false, false_implies, true_implies, forall_const, Classical.not_not, rc0_at, rcI_at, sOK0, sOK1, sOK2, sOK3, sOK4, true_and, and_true, kil, Option.toList_some, Option.toList_none, List.nil_append, List.cons_append, Option.some.injEq, exists_eq_left', Value.int.injEq, Value.ref.injEq, Value.long.injEq, nI_1]
    exact ih (c + 1) _ _ (by omega)
theorem c_withCells (d : Nat) {h : pH} {s : stT} (x : XS h s) (hd : s.2.2.2.2.2.1 = true) (v : Int64) : Cl (d + 4) 75 [.ref 0, .long v] h (some (.long (fCel s.2.2.1 8 0 v))) h := by
  refine Cl_o 5 rfl [some (.ref 0), some (.long v), none, none, none] rfl rfl ?_
  simp only [r75_0, r75_1, r75_3, r75_5, r75_8, r75_9, r75_13, r75_14, r75_17, r75_18, r75_19, r75_20, r75_22, r75_25, r75_28, r75_29, r75_32, r75_35, r75_38, r75_41, r75_42, List.length_cons, List.length_nil, Nat.reduceAdd, Nat.reduceLT, if_true, l10, l01, l20, l21, l02, l12, List.append_nil, List.getElem?_cons_zero, List.getElem?_cons_succ, List.set_cons_zero, List.set_cons_succ, not_false_eq_true, not_true_eq_false, false_implies, true_implies, forall_const, Classical.not_not, rc0_at, rcI_at, sOK0, sOK1, sOK2, sOK3, sOK4, true_and, and_true, kil, Option.toList_some, Option.toList_none, List.nil_append, List.cons_append, Option.some.injEq, exists_eq_left', Value.int.injEq, Value.ref.injEq, Value.long.injEq]
  exact lo_wcO d x hd 8 0 v none rfl
def gor (A : landT) (t : Nat) : Int32 := if mps A.2.2.1 A.2.2.2.1 ≤ t then -1 else nI ((ordS A).1.getD t 0)
theorem lo_wo (d : Nat) {h : pH} {st : od3} (A : landT) {f8 f9 f10 f11 : Value} (x0 : h[0]? = some (.inr (.inr (7, [.ref 1, .ref 3, .ref 15, .ref 27, .ref 29, .ref 31, .ref 45, .ref 65, f8, f9, f10, f11])))) (o : Od h 31 (nI (mps A.2.2.1 A.2.2.2.1)) st) (hm : mps A.2.2.1 A.2.2.2.1 ≤ 4) (hb : ∀ t, t < mps A.2.2.1 A.2.2.2.1 → hx st.2.1 t = nI ((ordS A).1.getD t 0)) : ∀ (j t : Nat) (v : Int64), t + j = 4 → X 76 (d + 1) (some (.long (fInn (gor A) j t v))) h 25 [some (.ref 0), some (.long v), none, some (.int (nI t))] [] h := by
  have hr3 : ∀ as, rcV 3 h (Value.ref 31 :: as) = True := fun as => rcV_at (fs := _) o.1
  intro j
  induction j with
  | zero =>
    intro t v ht
    have : t = 4 := by omega
    subst this
    rw [r76_25]; simp only [r76_0, r76_1, r76_4, r76_5, r76_8, r76_11, r76_12, r76_13, r76_16, r76_19, r76_22, r76_23, r76_24, r76_26, r76_27, r76_30, r76_31, r76_32, r76_35, r76_36, r76_39, r76_42, r76_43, r76_46, r76_49, r76_50, List.length_cons, List.length_nil, Nat.reduceAdd, Nat.reduceLT, if_true, l10, l01, l20, l21, l02, l12, List.append_nil, List.getElem?_cons_zero, List.getElem?_cons_succ, List.set_cons_zero, List.set_cons_succ, not_false_eq_true, not_true_eq_false, false_implies, true_implies, forall_const, Classical.not_not, rc0_at, rcI_at, sOK0, sOK1, sOK2, sOK3, sOK4, true_and, and_true, kil, Option.toList_some, Option.toList_none, List.nil_append, List.cons_append, Option.some.injEq, exists_eq_left', Value.int.injEq, Value.ref.injEq, Value.long.injEq, ge4t]
    rfl
  | succ j ih =>
    intro t v ht
    rw [fInn_s]
    rw [r76_25]; simp only [r76_0, r76_1, r76_4, r76_5, r76_8, r76_11, r76_12, r76_13, r76_16, r76_19, r76_22, r76_23, r76_24, r76_26, r76_27, r76_30, r76_31, r76_32, r76_35, r76_36, r76_39, r76_42, r76_43, r76_46, r76_49, r76_50, List.length_cons, List.length_nil, Nat.reduceAdd, Nat.reduceLT, if_true, l10, l01, l20, l21, l02, l12, List.append_nil, List.getElem?_cons_zero, List.getElem?_cons_succ, List.set_cons_zero, List.set_cons_succ, not_false_eq_true, not_true_eq_false, false_implies, true_implies, forall_const, Classical.not_not, rc0_at, rcI_at, sOK0, sOK1, sOK2, sOK3, sOK4, true_and, and_true, kil, Option.toList_some, Option.toList_none, List.nil_append, List.cons_append, Option.some.injEq, exists_eq_left', Value.int.injEq, Value.ref.injEq, Value.long.injEq, ge4f (show t < 4 by omega), gf_at x0, hr3]
    refine ⟨_, _, c_goerAt d o hm (show t < 4 by omega), ?_⟩
    have eg : (if mps A.2.2.1 A.2.2.2.1 ≤ t then (-1 : Int32) else hx st.2.1 t) = gor A t := by
      unfold gor
      by_cases q : mps A.2.2.1 A.2.2.2.1 ≤ t
      · rw [if_pos q, if_pos q]
      · rw [if_neg q, if_neg q, hb t (by omega)]
    rw [eg]
    simp only [r76_0, r76_1, r76_4, r76_5, r76_8, r76_11, r76_12, r76_13, r76_16, r76_19, r76_22, r76_23, r76_24, r76_26, r76_27, r76_30, r76_31, r76_32, r76_35, r76_36, r76_39, r76_42, r76_43, r76_46, r76_49, r76_50, List.length_cons, List.length_nil, Nat.reduceAdd, Nat.reduceLT, if_true, l10, l01, l20, l21, l02, l12, List.append_nil, List.getElem?_cons_zero, List.getElem?_cons_succ, List.set_cons_zero, List.set_cons_succ, not_false_eq_true, not_true_eq_false, false_implies, true_implies, forall_const, Classical.not_not, rc0_at, rcI_at, sOK0, sOK1, sOK2, sOK3, sOK4, true_and, and_true, kil, Option.toList_some, Option.toList_none, List.nil_append, List.cons_append, Option.some.injEq, exists_eq_left', Value.int.injEq, Value.ref.injEq, Value.long.injEq]
    refine ⟨_, _, c_with d _ v _, ?_⟩
    simp only [r76_0, r76_1, r76_4, r76_5, r76_8, r76_11, r76_12, r76_13, r76_16, r76_19, r76_22, r76_23, r76_24, r76_26, r76_27, r76_30, r76_31, r76_32, r76_35, r76_36, r76_39, r76_42, r76_43, r76_46, r76_49, r76_50, List.length_cons, List.length_nil, Nat.reduceAdd, Nat.reduceLT, if_true, l10, l01, l20, l21, l02, l12, List.append_nil, List.getElem?_cons_zero, List.getElem?_cons_succ, List.set_cons_zero, List.set_cons_succ, not_false_eq_true, not_true_eq_false, false_implies, true_implies, forall_const, Classical.not_not, rc0_at, rcI_at, sOK0, sOK1, sOK2, sOK3, sOK4, true_and, and_true, kil, Option.toList_some, Option.toList_none, List.nil_append, List.cons_append, Option.some.injEq, exists_eq_left', Value.int.injEq, Value.ref.injEq, Value.long.injEq, nI_1]
    exact ih (t + 1) _ (by omega)
def fOrd (A : landT) (v : Int64) : Int64 := fInn (gor A) 4 0 (dgs v (Int32.ofInt (ordS A).2))
theorem x_withOrder (d : Nat) {h : pH} {s : stT} (x : XS h s) (v : Int64) : ∃ h', Cl (d + 10) 76 [.ref 0, .long v] h (some (.long (fOrd s.2.2.1 v))) h' ∧ XS h' s ∧ Up h h' := by
  obtain ⟨cs, n, A, B, bf, hd, hm, hb, tr⟩ := s
  have x0 := x.1
  dsimp only [obC] at x0
  obtain ⟨go0, st0, od⟩ := x.2.2.2.2.2.2.1
  obtain ⟨h', r1, r2, r3⟩ := c_ordering d od x.2.2.1 (by omega)
  have x' := x.sc (r3.mono (by omega) (by omega)) (x.2.2.2.2.2.od r3 r2)
  have z0 := x'.1
  dsimp only [obC] at z0
  have ok := odS_ok A x.2.2.1.2.2.2.2 st0.1 st0.2.1 od.2.2.1.2 od.2.2.2.1.2
  have hmp : mps A.2.2.1 A.2.2.2.1 ≤ 4 := Nat.le_trans (mps_le _ _) x.2.2.1.2.2.2.2
  refine ⟨h', ?_, x', Up.sm r3 (by omega)⟩
  refine Cl_o 4 rfl [some (.ref 0), some (.long v), none, none] rfl rfl ?_
  have hr3 : ∀ as, rcV 3 h (Value.ref 31 :: as) = True := fun as => rcV_at (fs := _) od.1
  have r21 := r2.1
  unfold odC at r21
  simp only [r76_0, r76_1, r76_4, r76_5, r76_8, r76_11, r76_12, r76_13, r76_16, r76_19, r76_22, r76_23, r76_24, r76_26, r76_27, r76_30, r76_31, r76_32, r76_35, r76_36, r76_39, r76_42, r76_43, r76_46, r76_49, r76_50, List.length_cons, List.length_nil, Nat.reduceAdd, Nat.reduceLT, if_true, l10, l01, l20, l21, l02, l12, List.append_nil, List.getElem?_cons_zero, List.getElem?_cons_succ, List.set_cons_zero, List.set_cons_succ, not_false_eq_true, not_true_eq_false, false_implies, true_implies, forall_const, Classical.not_not, rc0_at, rcI_at, sOK0, sOK1, sOK2, sOK3, sOK4, true_and, and_true, kil, Option.toList_some, Option.toList_none, List.nil_append, List.cons_append, Option.some.injEq, exists_eq_left', Value.int.injEq, Value.ref.injEq, Value.long.injEq, gf_at x0, hr3]
  refine ⟨_, _, r1, ?_⟩
  simp only [r76_0, r76_1, r76_4, r76_5, r76_8, r76_11, r76_12, r76_13, r76_16, r76_19, r76_22, r76_23, r76_24, r76_26, r76_27, r76_30, r76_31, r76_32, r76_35, r76_36, r76_39, r76_42, r76_43, r76_46, r76_49, r76_50, List.length_cons, List.length_nil, Nat.reduceAdd, Nat.reduceLT, if_true, l10, l01, l20, l21, l02, l12, List.append_nil, List.getElem?_cons_zero, List.getElem?_cons_succ, List.set_cons_zero, List.set_cons_succ, not_false_eq_true, not_true_eq_false, false_implies, true_implies, forall_const, Classical.not_not, rc0_at, rcI_at, sOK0, sOK1, sOK2, sOK3, sOK4, true_and, and_true, kil, Option.toList_some, Option.toList_none, List.nil_append, List.cons_append, Option.some.injEq, exists_eq_left', Value.int.injEq, Value.ref.injEq, Value.long.injEq, gf_at z0, gf_at r21]
  refine ⟨_, _, c_with (d + 8) _ v _, ?_⟩
  simp only [r76_0, r76_1, r76_4, r76_5, r76_8, r76_11, r76_12, r76_13, r76_16, r76_19, r76_22, r76_23, r76_24, r76_26, r76_27, r76_30, r76_31, r76_32, r76_35, r76_36, r76_39, r76_42, r76_43, r76_46, r76_49, r76_50, List.length_cons, List.length_nil, Nat.reduceAdd, Nat.reduceLT, if_true, l10, l01, l20, l21, l02, l12, List.append_nil, List.getElem?_cons_zero, List.getElem?_cons_succ, List.set_cons_zero, List.set_cons_succ, not_false_eq_true, not_true_eq_false, false_implies, true_implies, forall_const, Classical.not_not, rc0_at, rcI_at, sOK0, sOK1, sOK2, sOK3, sOK4, true_and, and_true, kil, Option.toList_some, Option.toList_none, List.nil_append, List.cons_append, Option.some.injEq, exists_eq_left', Value.int.injEq, Value.ref.injEq, Value.long.injEq]
  have e1 : (odS A.2.1 A.2.2.1 A.2.2.2.1 A.1 st0.1 st0.2.1).2.2 = Int32.ofInt (ordS A).2 := by
    rw [← ok.2.2.2.1.1]; exact (Int32.ofInt_toInt _).symm
  rw [e1]
  exact lo_wo (d + 8) A z0 r2 hmp (ok.2.2.2.2 (ordS_pos A)).2 4 0 _ rfl
theorem gt7f {i : Nat} (h : i ≤ 7) : ((7 : Int32) < nI i) = False := eq_false (nI_nlt (a := 7) (b := i) h (by decide))
theorem gt7t : ((7 : Int32) < nI 8) = True := eq_true (by decide)
theorem gt10f {i : Nat} (h : i ≤ 10) : ((10 : Int32) < nI i) = False := eq_false (nI_nlt (a := 10) (b := i) h (by decide))
theorem gt10t : ((10 : Int32) < nI 11) = True := eq_true (by decide)
theorem q_about_at (s : stT) {k : Nat} (hk : k < s.2.2.1.2.2.2.1) (h4 : s.2.2.1.2.2.2.1 ≤ 4) (what : Int32) : (q_about s (nI k) what).2 = abt s.2.2.1 k what := by
  unfold q_about
  rw [ixT hk (by omega), nI_clamp (by omega)]
  rfl
theorem lo_dgI (d : Nat) {h : pH} {s : stT} (x : XS h s) {k : Nat} (hk : k < s.2.2.1.2.2.2.1) (r : Option Value) (h' : pH) : ∀ (j i : Nat) (v : Int64), i + j = 8 → X 74 (d + 3) r h' 62 [some (.ref 0), some (.long (fInn (fun i => abt s.2.2.1 k (nI i)) j i v)), none, some (.int (nI k)), some (.int (nI 8))] [] h → X 74 (d + 3) r h' 37 [some (.ref 0), some (.long v), none, some (.int (nI k)), some (.int (nI i))] [] h := by
  have hr : ∀ as, rcV 7 h (Value.ref 0 :: as) = True := fun as => rcV_at (fs := _) x.1
  intro j
  induction j with
  | zero =>
    intro i v hi hK
    have : i = 8 := by omega
    subst this
    rw [r74_37]
    simp only [r74_39, r74_41, gt7t, true_implies, not_true_eq_false, false_implies, and_true]
    exact hK
  | succ j ih =>
    intro i v hi hK
    rw [fInn_s] at hK
    have r1 := c_about7 d x (nI k) (nI i)
    rw [q_about_at s hk x.2.2.1.2.2.2.2] at r1
    rw [r74_37]
    simp only [r74_39, r74_41, r74_44, r74_45, r74_46, r74_47, r74_49, gt7f (show i ≤ 7 by omega), hr, List.length_cons, List.length_nil, Nat.reduceAdd, Nat.reduceLT, if_true, l10, l01, l20, l21, l02, l12, List.append_nil, List.getElem?_cons_zero, List.getElem?_cons_succ, List.set_cons_zero, List.set_cons_succ, not_false_eq_true, not_true_eq_false, false_implies, true_implies, forall_const, Classical.not_not, rc0_at, rcI_at, sOK0, sOK1, sOK2, sOK3, sOK4, true_and, and_true, kil, Option.toList_some, Option.toList_none, List.nil_append, List.cons_append, Option.some.injEq, exists_eq_left', Value.int.injEq, Value.ref.injEq, Value.long.injEq]
    refine ⟨_, _, r1, ?_⟩
    simp only [r74_52, List.length_cons, List.length_nil, Nat.reduceAdd, Nat.reduceLT, if_true, l10, l01, l20, l21, l02, l12, List.append_nil, List.getElem?_cons_zero, List.getElem?_cons_succ, List.set_cons_zero, List.set_cons_succ, not_false_eq_true, not_true_eq_false, false_implies, true_implies, forall_const, Classical.not_not, rc0_at, rcI_at, sOK0, sOK1, sOK2, sOK3, sOK4, true_and, and_true, kil, Option.toList_some, Option.toList_none, List.nil_append, List.cons_append, Option.some.injEq, exists_eq_left', Value.int.injEq, Value.ref.injEq, Value.long.injEq]
    refine ⟨_, _, c_with (d + 2) _ v _, ?_⟩
    simp only [r74_55, r74_56, r74_59, nI_1, List.length_cons, List.length_nil, Nat.reduceAdd, Nat.reduceLT, if_true, l10, l01, l20, l21, l02, l12, List.append_nil, List.getElem?_cons_zero, List.getElem?_cons_succ, List.set_cons_zero, List.set_cons_succ, not_false_eq_true, not_true_eq_false, false_implies, true_implies, forall_const, Classical.not_not, rc0_at, rcI_at, sOK0, sOK1, sOK2, sOK3, sOK4, true_and, and_true, kil, Option.toList_some, Option.toList_none, List.nil_append, List.cons_append, Option.some.injEq, exists_eq_left', Value.int.injEq, Value.ref.injEq, Value.long.injEq]
    exact ih (i + 1) _ (by omega) hK
def fWk (A : landT) (j k : Nat) (h : Int64) : Int64 := (List.range' k j).foldl (fun h k => fInn (fun i => abt A k (nI i)) 8 0 h) h
theorem fWk_s (A : landT) (j c : Nat) (h : Int64) : fWk A (j + 1) c h = fWk A j (c + 1) (fInn (fun i => abt A c (nI i)) 8 0 h) := by simp [fWk, List.range'_succ]
theorem lo_dgO (d : Nat) {h : pH} {s : stT} (x : XS h s) (r : Option Value) (h' : pH) : ∀ (j k : Nat) (v : Int64) (v4 : Option Value), k + j = s.2.2.1.2.2.2.1 → (∀ v4, X 74 (d + 3) r h' 68 [some (.ref 0), some (.long (fWk s.2.2.1 j k v)), none, some (.int (nI s.2.2.1.2.2.2.1)), v4] [] h) → X 74 (d + 3) r h' 23 [some (.ref 0), some (.long v), none, some (.int (nI k)), v4] [] h := by
  have x0 := x.1
  dsimp only [obC] at x0
  have x3 := x.2.2.1.1
  have hc4 := x.2.2.1.2.2.2.2
  intro j
  induction j with
  | zero =>
    intro k v v4 hk hK
    have : k = s.2.2.1.2.2.2.1 := by omega
    subst this
    rw [r74_23]
    simp only [r74_24, r74_25, r74_28, r74_31, gf_at x0, gf_at x3, Int32.le_refl, List.length_cons, List.length_nil, Nat.reduceAdd, Nat.reduceLT, if_true, l10, l01, l20, l21, l02, l12, List.append_nil, List.getElem?_cons_zero, List.getElem?_cons_succ, List.set_cons_zero, List.set_cons_succ, not_false_eq_true, not_true_eq_false, false_implies, true_implies, forall_const, Classical.not_not, rc0_at, rcI_at, sOK0, sOK1, sOK2, sOK3, sOK4, true_and, and_true, kil, Option.toList_some, Option.toList_none, List.nil_append, List.cons_append, Option.some.injEq, exists_eq_left', Value.int.injEq, Value.ref.injEq, Value.long.injEq]
    exact hK v4
  | succ j ih =>
    intro k v v4 hk hK
    have e : (nI s.2.2.1.2.2.2.1 ≤ nI k) = False := eq_false (nI_ge (by omega) (by omega))
    rw [r74_23]
    simp only [r74_24, r74_25, r74_28, r74_31, r74_34, r74_35, gf_at x0, gf_at x3, e, List.length_cons, List.length_nil, Nat.reduceAdd, Nat.reduceLT, if_true, l10, l01, l20, l21, l02, l12, List.append_nil, List.getElem?_cons_zero, List.getElem?_cons_succ, List.set_cons_zero, List.set_cons_succ, not_false_eq_true, not_true_eq_false, false_implies, true_implies, forall_const, Classical.not_not, rc0_at, rcI_at, sOK0, sOK1, sOK2, sOK3, sOK4, true_and, and_true, kil, Option.toList_some, Option.toList_none, List.nil_append, List.cons_append, Option.some.injEq, exists_eq_left', Value.int.injEq, Value.ref.injEq, Value.long.injEq]
    refine lo_dgI d x (show k < _ by omega) r h' 8 0 v rfl ?_
    simp only [r74_62, r74_65, nI_1, List.length_cons, List.length_nil, Nat.reduceAdd, Nat.reduceLT, if_true, l10, l01, l20, l21, l02, l12, List.append_nil, List.getElem?_cons_zero, List.getElem?_cons_succ, List.set_cons_zero, List.set_cons_succ, not_false_eq_true, not_true_eq_false, false_implies, true_implies, forall_const, Classical.not_not, rc0_at, rcI_at, sOK0, sOK1, sOK2, sOK3, sOK4, true_and, and_true, kil, Option.toList_some, Option.toList_none, List.nil_append, List.cons_append, Option.some.injEq, exists_eq_left', Value.int.injEq, Value.ref.injEq, Value.long.injEq]
    refine ih (k + 1) _ _ (by omega) (fun v4 => ?_)
    have := hK v4
    rw [fWk_s] at this
    exact this
theorem lo_dgP (d : Nat) {h : pH} {s : stT} (x : XS h s) (r : Option Value) (h' : pH) (v4 : Option Value) : ∀ (j p : Nat) (v : Int64), p + j = s.2.1 → X 74 (d + 2) r h' 151 [some (.ref 0), some (.long (fInn (hx s.1) j p v)), none, some (.int (nI s.2.1)), v4] [] h → X 74 (d + 2) r h' 121 [some (.ref 0), some (.long v), none, some (.int (nI p)), v4] [] h := by
  have x0 := x.1
  dsimp only [obC] at x0
  have x1 := x.2.1.1
  have hn := x.2.1.2.2.2
  have hr : ∀ as, rcV 4 h (Value.ref 1 :: as) = True := fun as => rcV_at (fs := _) x.2.1.1
  intro j
  induction j with
  | zero =>
    intro p v hp hK
    have : p = s.2.1 := by omega
    subst this
    rw [r74_121]
    simp only [r74_122, r74_123, r74_126, r74_129, gf_at x0, gf_at x1, Int32.le_refl, List.length_cons, List.length_nil, Nat.reduceAdd, Nat.reduceLT, if_true, l10, l01, l20, l21, l02, l12, List.append_nil, List.getElem?_cons_zero, List.getElem?_cons_succ, List.set_cons_zero, List.set_cons_succ, not_false_eq_true, not_true_eq_false, false_implies, true_implies, forall_const, Classical.not_not, rc0_at, rcI_at, sOK0, sOK1, sOK2, sOK3, sOK4, true_and, and_true, kil, Option.toList_some, Option.toList_none, List.nil_append, List.cons_append, Option.some.injEq, exists_eq_left', Value.int.injEq, Value.ref.injEq, Value.long.injEq]
    exact hK
  | succ j ih =>
    intro p v hp hK
    rw [fInn_s] at hK
    have e : (nI s.2.1 ≤ nI p) = False := eq_false (nI_ge (by omega) (by omega))
    rw [r74_121]
    simp only [r74_122, r74_123, r74_126, r74_129, r74_132, r74_133, r74_134, r74_137, r74_138, gf_at x0, gf_at x1, e, hr, List.length_cons, List.length_nil, Nat.reduceAdd, Nat.reduceLT, if_true, l10, l01, l20, l21, l02, l12, List.append_nil, List.getElem?_cons_zero, List.getElem?_cons_succ, List.set_cons_zero, List.set_cons_succ, not_false_eq_true, not_true_eq_false, false_implies, true_implies, forall_const, Classical.not_not, rc0_at, rcI_at, sOK0, sOK1, sOK2, sOK3, sOK4, true_and, and_true, kil, Option.toList_some, Option.toList_none, List.nil_append, List.cons_append, Option.some.injEq, exists_eq_left', Value.int.injEq, Value.ref.injEq, Value.long.injEq]
    refine ⟨_, _, c_codeAt (d + 1) x.2.1 (show p < 12 by omega), ?_⟩
    simp only [r74_141, List.length_cons, List.length_nil, Nat.reduceAdd, Nat.reduceLT, if_true, l10, l01, l20, l21, l02, l12, List.append_nil, List.getElem?_cons_zero, List.getElem?_cons_succ, List.set_cons_zero, List.set_cons_succ, not_false_eq_true, not_true_eq_false, false_implies, true_implies, forall_const, Classical.not_not, rc0_at, rcI_at, sOK0, sOK1, sOK2, sOK3, sOK4, true_and, and_true, kil, Option.toList_some, Option.toList_none, List.nil_append, List.cons_append, Option.some.injEq, exists_eq_left', Value.int.injEq, Value.ref.injEq, Value.long.injEq]
    refine ⟨_, _, c_with (d + 1) _ v _, ?_⟩
    simp only [r74_144, r74_145, r74_148, nI_1, List.length_cons, List.length_nil, Nat.reduceAdd, Nat.reduceLT, if_true, l10, l01, l20, l21, l02, l12, List.append_nil, List.getElem?_cons_zero, List.getElem?_cons_succ, List.set_cons_zero, List.set_cons_succ, not_false_eq_true, not_true_eq_false, false_implies, true_implies, forall_const, Classical.not_not, rc0_at, rcI_at, sOK0, sOK1, sOK2, sOK3, sOK4, true_and, and_true, kil, Option.toList_some, Option.toList_none, List.nil_append, List.cons_append, Option.some.injEq, exists_eq_left', Value.int.injEq, Value.ref.injEq, Value.long.injEq]
    exact ih (p + 1) _ (by omega) hK
theorem lo_dgC (d : Nat) {h : pH} {s : stT} (x : XS h s) (v4 : Option Value) : ∀ (j i : Nat) (v : Int64), i + j = 11 → X 74 (d + 4) (some (.long (fInn (fun i => cou s (nI i)) j i v))) h 153 [some (.ref 0), some (.long v), none, some (.int (nI i)), v4] [] h := by
  have hr : ∀ as, rcV 7 h (Value.ref 0 :: as) = True := fun as => rcV_at (fs := _) x.1
  intro j
  induction j with
  | zero =>
    intro i v hi
    have : i = 11 := by omega
    subst this
    rw [r74_153]; simp only [r74_0, r74_3, r74_4, r74_5, r74_8, r74_11, r74_12, r74_13, r74_14, r74_17, r74_20, r74_21, r74_22, r74_24, r74_25, r74_28, r74_31, r74_34, r74_35, r74_39, r74_41, r74_44, r74_45, r74_46, r74_47, r74_49, r74_52, r74_55, r74_56, r74_59, r74_62, r74_65, r74_68, r74_69, r74_72, r74_75, r74_76, r74_79, r74_80, r74_83, r74_84, r74_87, r74_90, r74_91, r74_94, r74_97, r74_98, r74_99, r74_102, r74_105, r74_108, r74_109, r74_112, r74_115, r74_118, r74_119, r74_120, r74_122, r74_123, r74_126, r74_129, r74_132, r74_133, r74_134, r74_137, r74_138, r74_141, r74_144, r74_145, r74_148, r74_151, r74_152, r74_154, r74_156, r74_159, r74_160, r74_161, r74_162, r74_165, r74_168, r74_169, r74_172, r74_175, r74_176, List.length_cons, List.length_nil, Nat.reduceAdd, Nat.reduceLT, if_true, l10, l01, l20, l21, l02, l12, List.append_nil, List.getElem?_cons_zero, List.getElem?_cons_succ, List.set_cons_zero, List.set_cons_succ, not_false_eq_true, not_true_eq_false, false_implies, true_implies, forall_const, Classical.not_not, rc0_at, rcI_at, sOK0, sOK1, sOK2, sOK3, sOK4, true_and, and_true, kil, Option.toList_some, Option.toList_none, List.nil_append, List.cons_append, Option.some.injEq, exists_eq_left', Value.int.injEq, Value.ref.injEq, Value.long.injEq, gt10t]
    rfl
  | succ j ih =>
    intro i v hi
    rw [fInn_s]
    rw [r74_153]; simp only [r74_0, r74_3, r74_4, r74_5, r74_8, r74_11, r74_12, r74_13, r74_14, r74_17, r74_20, r74_21, r74_22, r74_24, r74_25, r74_28, r74_31, r74_34, r74_35, r74_39, r74_41, r74_44, r74_45, r74_46, r74_47, r74_49, r74_52, r74_55, r74_56, r74_59, r74_62, r74_65, r74_68, r74_69, r74_72, r74_75, r74_76, r74_79, r74_80, r74_83, r74_84, r74_87, r74_90, r74_91, r74_94, r74_97, r74_98, r74_99, r74_102, r74_105, r74_108, r74_109, r74_112, r74_115, r74_118, r74_119, r74_120, r74_122, r74_123, r74_126, r74_129, r74_132, r74_133, r74_134, r74_137, r74_138, r74_141, r74_144, r74_145, r74_148, r74_151, r74_152, r74_154, r74_156, r74_159, r74_160, r74_161, r74_162, r74_165, r74_168, r74_169, r74_172, r74_175, r74_176, List.length_cons, List.length_nil, Nat.reduceAdd, Nat.reduceLT, if_true, l10, l01, l20, l21, l02, l12, List.append_nil, List.getElem?_cons_zero, List.getElem?_cons_succ, List.set_cons_zero, List.set_cons_succ, not_false_eq_true, not_true_eq_false, false_implies, true_implies, forall_const, Classical.not_not, rc0_at, rcI_at, sOK0, sOK1, sOK2, sOK3, sOK4, true_and, and_true, kil, Option.toList_some, Option.toList_none, List.nil_append, List.cons_append, Option.some.injEq, exists_eq_left', Value.int.injEq, Value.ref.injEq, Value.long.injEq, gt10f (show i ≤ 10 by omega), hr]
    refine ⟨_, _, c_count d x (nI i), ?_⟩
    simp only [r74_0, r74_3, r74_4, r74_5, r74_8, r74_11, r74_12, r74_13, r74_14, r74_17, r74_20, r74_21, r74_22, r74_24, r74_25, r74_28, r74_31, r74_34, r74_35, r74_39, r74_41, r74_44, r74_45, r74_46, r74_47, r74_49, r74_52, r74_55, r74_56, r74_59, r74_62, r74_65, r74_68, r74_69, r74_72, r74_75, r74_76, r74_79, r74_80, r74_83, r74_84, r74_87, r74_90, r74_91, r74_94, r74_97, r74_98, r74_99, r74_102, r74_105, r74_108, r74_109, r74_112, r74_115, r74_118, r74_119, r74_120, r74_122, r74_123, r74_126, r74_129, r74_132, r74_133, r74_134, r74_137, r74_138, r74_141, r74_144, r74_145, r74_148, r74_151, r74_152, r74_154, r74_156, r74_159, r74_160, r74_161, r74_162, r74_165, r74_168, r74_169, r74_172, r74_175, r74_176, List.length_cons, List.length_nil, Nat.reduceAdd, Nat.reduceLT, if_true, l10, l01, l20, l21, l02, l12, List.append_nil, List.getElem?_cons_zero, List.getElem?_cons_succ, List.set_cons_zero, List.set_cons_succ, not_false_eq_true, not_true_eq_false, false_implies, true_implies, forall_const, Classical.not_not, rc0_at, rcI_at, sOK0, sOK1, sOK2, sOK3, sOK4, true_and, and_true, kil, Option.toList_some, Option.toList_none, List.nil_append, List.cons_append, Option.some.injEq, exists_eq_left', Value.int.injEq, Value.ref.injEq, Value.long.injEq]
    refine ⟨_, _, c_with (d + 3) _ v _, ?_⟩
    simp only [r74_0, r74_3, r74_4, r74_5, r74_8, r74_11, r74_12, r74_13, r74_14, r74_17, r74_20, r74_21, r74_22, r74_24, r74_25, r74_28, r74_31, r74_34, r74_35, r74_39, r74_41, r74_44, r74_45, r74_46, r74_47, r74_49, r74_52, r74_55, r74_56, r74_59, r74_62, r74_65, r74_68, r74_69, r74_72, r74_75, r74_76, r74_79, r74_80, r74_83, r74_84, r74_87, r74_90, r74_91, r74_94, r74_97, r74_98, r74_99, r74_102, r74_105, r74_108, r74_109, r74_112, r74_115, r74_118, r74_119, r74_120, r74_122, r74_123, r74_126, r74_129, r74_132, r74_133, r74_134, r74_137, r74_138, r74_141, r74_144, r74_145, r74_148, r74_151, r74_152, r74_154, r74_156, r74_159, r74_160, r74_161, r74_162, r74_165, r74_168, r74_169, r74_172, r74_175, r74_176, List.length_cons, List.length_nil, Nat.reduceAdd, Nat.reduceLT, if_true, l10, l01, l20, l21, l02, l12, List.append_nil, List.getElem?_cons_zero, List.getElem?_cons_succ, List.set_cons_zero, List.set_cons_succ, not_false_eq_true, not_true_eq_false, false_implies, true_implies, forall_const, Classical.not_not, rc0_at, rcI_at, sOK0, sOK1, sOK2, sOK3, sOK4, true_and, and_true, kil, Option.toList_some, Option.toList_none, List.nil_append, List.cons_append, Option.some.injEq, exists_eq_left', Value.int.injEq, Value.ref.injEq, Value.long.injEq, nI_1]
    exact ih (i + 1) _ (by omega)
def dg1 (s : stT) (v : Int64) : Int64 := if s.2.2.2.2.2.1 then fOrd s.2.2.1 (fCel s.2.2.1 8 0 v) else v
def dg2 (s : stT) (v : Int64) : Int64 := fWk s.2.2.1 s.2.2.1.2.2.2.1 0 v
def dg3 (s : stT) (v : Int64) : Int64 := if s.2.2.2.2.2.2.2.1 then dgs (dgs v (whoS s.2.2.1.2.1 s.2.2.2.2.1 s.2.2.1.1).1) (whoS s.2.2.1.2.1 s.2.2.2.2.1 s.2.2.1.1).2 else v
def q_digest (s : stT) : Int64 := fInn (fun i => cou s (nI i)) 11 0 (fInn (hx s.1) s.2.1 0 (dg3 s (dg2 s (dg1 s 881))))
theorem x_dg3 (d : Nat) {h : pH} {s : stT} (x : XS h s) (v : Int64) : ∃ h', (∀ (v4 : Option Value) (k : Nat), X 74 (d + 9) (some (.long (fInn (fun i => cou s (nI i)) 11 0 (fInn (hx s.1) s.2.1 0 (dg3 s v))))) h' 68 [some (.ref 0), some (.long v), none, some (.int (nI k)), v4] [] h) ∧ XS h' s ∧ Up h h' := by
  obtain ⟨cs, n, A, B, bf, hd, hm, hb, tr⟩ := s
  have x0 := x.1
  dsimp only [obC] at x0
  have fin : ∀ (v4 : Option Value) (h : pH) (v : Int64), XS h (cs, n, A, B, bf, hd, hm, hb, tr) → X 74 (d + 9) (some (.long (fInn (fun i => cou (cs, n, A, B, bf, hd, hm, hb, tr) (nI i)) 11 0 (fInn (hx cs) n 0 v)))) h 121 [some (.ref 0), some (.long v), none, some (.int (nI 0)), v4] [] h := by
    intro v4 h v x
    refine lo_dgP (d + 7) x _ _ v4 n 0 v (by show 0 + n = n; omega) ?_
    simp only [r74_151, r74_152, List.length_cons, List.length_nil, Nat.reduceAdd, Nat.reduceLT, if_true, l10, l01, l20, l21, l02, l12, List.append_nil, List.getElem?_cons_zero, List.getElem?_cons_succ, List.set_cons_zero, List.set_cons_succ, not_false_eq_true, not_true_eq_false, false_implies, true_implies, forall_const, Classical.not_not, rc0_at, rcI_at, sOK0, sOK1, sOK2, sOK3, sOK4, true_and, and_true, kil, Option.toList_some, Option.toList_none, List.nil_append, List.cons_append, Option.some.injEq, exists_eq_left', Value.int.injEq, Value.ref.injEq, Value.long.injEq]
    exact lo_dgC (d + 5) x v4 11 0 _ rfl
  cases hb with
  | false =>
    have eb : b2i false = 0 := rfl
    refine ⟨h, fun v4 k => ?_, x, Up.rf⟩
    simp only [r74_68, r74_69, r74_72, r74_119, r74_120, gf_at x0, eb, dg3, Bool.false_eq_true, if_false, List.length_cons, List.length_nil, Nat.reduceAdd, Nat.reduceLT, if_true, l10, l01, l20, l21, l02, l12, List.append_nil, List.getElem?_cons_zero, List.getElem?_cons_succ, List.set_cons_zero, List.set_cons_succ, not_false_eq_true, not_true_eq_false, false_implies, true_implies, forall_const, Classical.not_not, rc0_at, rcI_at, sOK0, sOK1, sOK2, sOK3, sOK4, true_and, and_true, kil, Option.toList_some, Option.toList_none, List.nil_append, List.cons_append, Option.some.injEq, exists_eq_left', Value.int.injEq, Value.ref.injEq, Value.long.injEq]
    exact fin v4 h v x
  | true =>
    have eb : b2i true = 1 := rfl
    obtain ⟨h', r1, r2, r3, r4⟩ := x.dusk (d + 5)
    refine ⟨h', fun v4 k => ?_, r3, r4⟩
    have z0 := r3.1
    dsimp only [obC] at z0
    have x3 := x.2.2.1.1
    have e31 : (3 : Nat) + 1 = 4 := rfl
    rw [e31] at x3
    have hr : ∀ as, rcV 0 h (Value.ref 65 :: as) = True := fun as => by
      obtain ⟨f, l, dk⟩ := x.2.2.2.2.2.2.2.2
      exact rcV_at (fs := _) dk
    unfold dkC at r2
    simp only [r74_68, r74_69, r74_72, r74_75, r74_76, r74_79, r74_80, r74_83, r74_84, r74_87, r74_90, r74_91, r74_94, gf_at x0, gf_at x3, eb, hr, List.length_cons, List.length_nil, Nat.reduceAdd, Nat.reduceLT, if_true, l10, l01, l20, l21, l02, l12, List.append_nil, List.getElem?_cons_zero, List.getElem?_cons_succ, List.set_cons_zero, List.set_cons_succ, not_false_eq_true, not_true_eq_false, false_implies, true_implies, forall_const, Classical.not_not, rc0_at, rcI_at, sOK0, sOK1, sOK2, sOK3, sOK4, true_and, and_true, kil, Option.toList_some, Option.toList_none, List.nil_append, List.cons_append, Option.some.injEq, exists_eq_left', Value.int.injEq, Value.ref.injEq, Value.long.injEq]
    refine ⟨_, _, r1, ?_⟩
    simp only [r74_97, r74_98, r74_99, r74_102, r74_105, gf_at z0, gf_at r2, List.length_cons, List.length_nil, Nat.reduceAdd, Nat.reduceLT, if_true, l10, l01, l20, l21, l02, l12, List.append_nil, List.getElem?_cons_zero, List.getElem?_cons_succ, List.set_cons_zero, List.set_cons_succ, not_false_eq_true, not_true_eq_false, false_implies, true_implies, forall_const, Classical.not_not, rc0_at, rcI_at, sOK0, sOK1, sOK2, sOK3, sOK4, true_and, and_true, kil, Option.toList_some, Option.toList_none, List.nil_append, List.cons_append, Option.some.injEq, exists_eq_left', Value.int.injEq, Value.ref.injEq, Value.long.injEq]
    refine ⟨_, _, c_with (d + 8) _ v _, ?_⟩
    simp only [r74_108, r74_109, r74_112, r74_115, gf_at z0, gf_at r2, List.length_cons, List.length_nil, Nat.reduceAdd, Nat.reduceLT, if_true, l10, l01, l20, l21, l02, l12, List.append_nil, List.getElem?_cons_zero, List.getElem?_cons_succ, List.set_cons_zero, List.set_cons_succ, not_false_eq_true, not_true_eq_false, false_implies, true_implies, forall_const, Classical.not_not, rc0_at, rcI_at, sOK0, sOK1, sOK2, sOK3, sOK4, true_and, and_true, kil, Option.toList_some, Option.toList_none, List.nil_append, List.cons_append, Option.some.injEq, exists_eq_left', Value.int.injEq, Value.ref.injEq, Value.long.injEq]
    refine ⟨_, _, c_with (d + 8) _ _ _, ?_⟩
    simp only [r74_118, r74_119, r74_120, dg3, List.length_cons, List.length_nil, Nat.reduceAdd, Nat.reduceLT, if_true, l10, l01, l20, l21, l02, l12, List.append_nil, List.getElem?_cons_zero, List.getElem?_cons_succ, List.set_cons_zero, List.set_cons_succ, not_false_eq_true, not_true_eq_false, false_implies, true_implies, forall_const, Classical.not_not, rc0_at, rcI_at, sOK0, sOK1, sOK2, sOK3, sOK4, true_and, and_true, kil, Option.toList_some, Option.toList_none, List.nil_append, List.cons_append, Option.some.injEq, exists_eq_left', Value.int.injEq, Value.ref.injEq, Value.long.injEq]
    exact fin v4 h' _ r3
theorem x_dg2 (d : Nat) {h : pH} {s : stT} (x : XS h s) (v : Int64) : ∃ h', X 74 (d + 9) (some (.long (fInn (fun i => cou s (nI i)) 11 0 (fInn (hx s.1) s.2.1 0 (dg3 s (dg2 s v)))))) h' 21 [some (.ref 0), some (.long v), none, none, none] [] h ∧ XS h' s ∧ Up h h' := by
  obtain ⟨h', r1, r2, r3⟩ := x_dg3 d x (dg2 s v)
  refine ⟨h', ?_, r2, r3⟩
  simp only [r74_21, r74_22, List.length_cons, List.length_nil, Nat.reduceAdd, Nat.reduceLT, if_true, l10, l01, l20, l21, l02, l12, List.append_nil, List.getElem?_cons_zero, List.getElem?_cons_succ, List.set_cons_zero, List.set_cons_succ, not_false_eq_true, not_true_eq_false, false_implies, true_implies, forall_const, Classical.not_not, rc0_at, rcI_at, sOK0, sOK1, sOK2, sOK3, sOK4, true_and, and_true, kil, Option.toList_some, Option.toList_none, List.nil_append, List.cons_append, Option.some.injEq, exists_eq_left', Value.int.injEq, Value.ref.injEq, Value.long.injEq]
  exact lo_dgO (d + 6) x _ _ s.2.2.1.2.2.2.1 0 v none (Nat.zero_add _) (fun v4 => r1 v4 _)
theorem x_digest (d : Nat) {h : pH} {s : stT} (x : XS h s) : ∃ h', Cl (d + 11) 74 [.ref 0] h (some (.long (q_digest s))) h' ∧ XS h' s ∧ Up h h' := by
  have x0 := x.1
  dsimp only [obC] at x0
  have hr : ∀ as, rcV 7 h (Value.ref 0 :: as) = True := fun as => rcV_at (fs := _) x.1
  cases hd : s.2.2.2.2.2.1 with
  | false =>
    obtain ⟨h', r1, r2, r3⟩ := x_dg2 (d + 1) x 881
    refine ⟨h', ?_, r2, r3⟩
    refine Cl_o 5 rfl [some (.ref 0), none, none, none, none] rfl rfl ?_
    have eb : b2i false = 0 := rfl
    rw [hd] at x0
    simp only [r74_0, r74_3, r74_4, r74_5, r74_8, gf_at x0, eb, List.length_cons, List.length_nil, Nat.reduceAdd, Nat.reduceLT, if_true, l10, l01, l20, l21, l02, l12, List.append_nil, List.getElem?_cons_zero, List.getElem?_cons_succ, List.set_cons_zero, List.set_cons_succ, not_false_eq_true, not_true_eq_false, false_implies, true_implies, forall_const, Classical.not_not, rc0_at, rcI_at, sOK0, sOK1, sOK2, sOK3, sOK4, true_and, and_true, kil, Option.toList_some, Option.toList_none, List.nil_append, List.cons_append, Option.some.injEq, exists_eq_left', Value.int.injEq, Value.ref.injEq, Value.long.injEq]
    unfold q_digest dg1
    rw [hd]
    exact r1
  | true =>
    obtain ⟨h1, t1, t2, t3⟩ := x_withOrder d x (fCel s.2.2.1 8 0 881)
    obtain ⟨h', r1, r2, r3⟩ := x_dg2 (d + 1) t2 (fOrd s.2.2.1 (fCel s.2.2.1 8 0 881))
    refine ⟨h', ?_, r2, t3.tr r3⟩
    refine Cl_o 5 rfl [some (.ref 0), none, none, none, none] rfl rfl ?_
    have eb : b2i true = 1 := rfl
    rw [hd] at x0
    simp only [r74_0, r74_3, r74_4, r74_5, r74_8, r74_11, r74_12, r74_13, r74_14, gf_at x0, eb, hr, List.length_cons, List.length_nil, Nat.reduceAdd, Nat.reduceLT, if_true, l10, l01, l20, l21, l02, l12, List.append_nil, List.getElem?_cons_zero, List.getElem?_cons_succ, List.set_cons_zero, List.set_cons_succ, not_false_eq_true, not_true_eq_false, false_implies, true_implies, forall_const, Classical.not_not, rc0_at, rcI_at, sOK0, sOK1, sOK2, sOK3, sOK4, true_and, and_true, kil, Option.toList_some, Option.toList_none, List.nil_append, List.cons_append, Option.some.injEq, exists_eq_left', Value.int.injEq, Value.ref.injEq, Value.long.injEq]
    refine ⟨_, _, c_withCells (d + 6) x hd 881, ?_⟩
    simp only [r74_17, hr, List.length_cons, List.length_nil, Nat.reduceAdd, Nat.reduceLT, if_true, l10, l01, l20, l21, l02, l12, List.append_nil, List.getElem?_cons_zero, List.getElem?_cons_succ, List.set_cons_zero, List.set_cons_succ, not_false_eq_true, not_true_eq_false, false_implies, true_implies, forall_const, Classical.not_not, rc0_at, rcI_at, sOK0, sOK1, sOK2, sOK3, sOK4, true_and, and_true, kil, Option.toList_some, Option.toList_none, List.nil_append, List.cons_append, Option.some.injEq, exists_eq_left', Value.int.injEq, Value.ref.injEq, Value.long.injEq]
    refine ⟨_, _, t1, ?_⟩
    simp only [r74_20, List.length_cons, List.length_nil, Nat.reduceAdd, Nat.reduceLT, if_true, l10, l01, l20, l21, l02, l12, List.append_nil, List.getElem?_cons_zero, List.getElem?_cons_succ, List.set_cons_zero, List.set_cons_succ, not_false_eq_true, not_true_eq_false, false_implies, true_implies, forall_const, Classical.not_not, rc0_at, rcI_at, sOK0, sOK1, sOK2, sOK3, sOK4, true_and, and_true, kil, Option.toList_some, Option.toList_none, List.nil_append, List.cons_append, Option.some.injEq, exists_eq_left', Value.int.injEq, Value.ref.injEq, Value.long.injEq]
    unfold q_digest dg1
    rw [hd]
    exact r1
