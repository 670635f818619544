theorem pf_set {h : pH} {k ci j : Nat} {c0 : pC} {fs : List Value} {v : Value} (hk : h[k]? = some c0) : pfh (h.set k (.inr (.inr (ci, fs)))) k ci j v = if j < fs.length then some (h.set k (.inr (.inr (ci, fs.set j v)))) else none := by
  by_cases e : j < fs.length
  · rw [pf_at (get_set hk) e, List.set_set, if_pos e]
  · unfold pfh; rw [get_set hk]; simp [e]
theorem gf_set {h : pH} {k ci j : Nat} {c0 : pC} {fs : List Value} (hk : h[k]? = some c0) : gf (h.set k (.inr (.inr (ci, fs)))) k ci j = fs[j]? := gf_at (get_set hk)
theorem gf_ne {h : pH} {a k ci j : Nat} {c : pC} (hn : a ≠ k) : gf (h.set a c) k ci j = gf h k ci j := by unfold gf; rw [List.getElem?_set_ne hn]
theorem pf_ne {h : pH} {a k ci j : Nat} {c : pC} {fs : List Value} {v : Value} (hn : a ≠ k) (hk : h[k]? = some (.inr (.inr (ci, fs)))) (hj : j < fs.length) : pfh (h.set a c) k ci j v = some ((h.set a c).set k (.inr (.inr (ci, fs.set j v)))) := pf_at (by rw [List.getElem?_set_ne hn]; exact hk) hj
/-- kind, cell, steps gone, the map's way, its steps, what it tells -/
abbrev wkr : Type := Nat × Nat × Int32 × Int32 × Nat × List Int32
def wok (q : wkr) : Prop := q.1 < 5 ∧ q.2.1 < 8 ∧ q.2.2.2.2.1 ≤ 8 ∧ q.2.2.2.2.2.length = 8
def wlkC (k : Nat) (q : wkr) : pC := .inr (.inr (6, [.ref (k + 1), .int (nI q.1), .int (nI q.2.1), .int q.2.2.1, .int q.2.2.2.1, .int (nI q.2.2.2.2.1)]))
def Wlk (h : pH) (k : Nat) (q : wkr) : Prop := h[k]? = some (wlkC k q) ∧ h[k + 1]? = some (.inl q.2.2.2.2.2) ∧ wok q
theorem Wlk.fr {a b k : Nat} {h h1 : pH} {q : wkr} (x : Wlk h k q) (m : Sm a b h h1) (hk : k + 2 ≤ a ∨ b ≤ k) : Wlk h1 k q := ⟨by rw [m k (by omega)]; exact x.1, by rw [m (k + 1) (by omega)]; exact x.2.1, x.2.2⟩
theorem Wlk.set {h : pH} {k : Nat} {q q' : wkr} (x : Wlk h k q) (ht : q'.2.2.2.2.2 = q.2.2.2.2.2) (hq : wok q') : Wlk (h.set k (wlkC k q')) k q' := ⟨get_set x.1, by rw [List.getElem?_set_ne (by omega), ht]; exact x.2.1, hq⟩
theorem c_arrive6 (d : Nat) {h : pH} {k n c : Nat} {q : wkr} (x : Wlk h k q) : Cl (d + 1) 44 [.ref k, .int (nI n), .int (nI c)] h none (h.set k (wlkC k (n, c, 0, 0, 0, q.2.2.2.2.2))) := by
  refine Cl_o 3 rfl [some (.ref k), some (.int (nI n)), some (.int (nI c))] rfl rfl ?_
  have x1 := x.1
  unfold wlkC at x1 ⊢
  simp only [r44_0, r44_1, r44_2, r44_5, r44_6, r44_7, r44_10, r44_11, r44_12, r44_15, r44_16, r44_17, r44_20, r44_21, r44_22, r44_25, List.length_cons, List.length_nil, Nat.reduceAdd, Nat.reduceLT, if_true, l10, l01, l20, l21, l02, l12, List.append_nil, List.getElem?_cons_zero, List.getElem?_cons_succ, List.set_cons_zero, List.set_cons_succ, not_false_eq_true, not_true_eq_false, false_implies, true_implies, forall_const, Classical.not_not, rc0_at, rcI_at, sOK0, sOK1, sOK2, sOK3, sOK4, true_and, and_true, kil, Option.toList_some, Option.toList_none, List.nil_append, List.cons_append, Option.some.injEq, exists_eq_left', Value.int.injEq, Value.ref.injEq, Value.long.injEq, pf_at x1 (show 1 < 6 by decide), pf_set x1]
  rfl
theorem c_hasMap (d : Nat) {h : pH} {k : Nat} {q : wkr} (x : Wlk h k q) : Cl (d + 1) 46 [.ref k] h (some (.int (b2i (decide (0 < q.2.2.2.2.1))))) h := by
  refine Cl_o 1 rfl [some (.ref k)] rfl rfl ?_
  have x1 := x.1
  have hm := x.2.2.2.2.1
  unfold wlkC at x1
  have e0 : (nI q.2.2.2.2.1 ≤ 0) = (q.2.2.2.2.1 = 0) := propext ⟨fun z => by
    have := (nI_leI (a := q.2.2.2.2.1) (b := 0) (by omega) (by decide)).mp z
    omega, fun z => by rw [z]; decide⟩
  simp only [r46_0, r46_1, r46_4, r46_7, r46_8, r46_11, r46_12, List.length_cons, List.length_nil, Nat.reduceAdd, Nat.reduceLT, if_true, l10, l01, l20, l21, l02, l12, List.append_nil, List.getElem?_cons_zero, List.getElem?_cons_succ, List.set_cons_zero, List.set_cons_succ, not_false_eq_true, not_true_eq_false, false_implies, true_implies, forall_const, Classical.not_not, rc0_at, rcI_at, sOK0, sOK1, sOK2, sOK3, sOK4, true_and, and_true, kil, Option.toList_some, Option.toList_none, List.nil_append, List.cons_append, Option.some.injEq, exists_eq_left', Value.int.injEq, Value.ref.injEq, Value.long.injEq, gf_at x1, e0]
  by_cases z : q.2.2.2.2.1 = 0
  · simp [z, b2i]
  · simp [z, b2i, Nat.pos_of_ne_zero z]
theorem lo_copy6 (d k k2 : Nat) (q q2 : wkr) (hk : k + 2 ≤ k2 ∨ k2 + 2 ≤ k) : ∀ (j i : Nat) (ts : List Int32) (h : pH), i + j = 8 → ts.length = 8 → h[k]? = some (wlkC k q) → h[k + 1]? = some (.inl ts) → Wlk h k2 q2 → X 45 d none (h.set (k + 1) (.inl (ts.take i ++ q2.2.2.2.2.2.drop i))) 42 [some (.ref k), some (.ref k2), some (.int (nI i))] [] h := by
  intro j
  induction j with
  | zero =>
    intro i ts h hi hl x1 x2 b
    have : i = 8 := by omega
    subst this
    rw [r45_42]; simp only [r45_0, r45_1, r45_2, r45_5, r45_8, r45_9, r45_10, r45_13, r45_16, r45_17, r45_18, r45_21, r45_24, r45_25, r45_26, r45_29, r45_32, r45_33, r45_34, r45_37, r45_40, r45_41, r45_43, r45_45, r45_48, r45_49, r45_52, r45_53, r45_54, r45_57, r45_58, r45_59, r45_60, r45_63, r45_66, List.length_cons, List.length_nil, Nat.reduceAdd, Nat.reduceLT, if_true, l10, l01, l20, l21, l02, l12, List.append_nil, List.getElem?_cons_zero, List.getElem?_cons_succ, List.set_cons_zero, List.set_cons_succ, not_false_eq_true, not_true_eq_false, false_implies, true_implies, forall_const, Classical.not_not, rc0_at, rcI_at, sOK0, sOK1, sOK2, sOK3, sOK4, true_and, and_true, kil, Option.toList_some, Option.toList_none, List.nil_append, List.cons_append, Option.some.injEq, exists_eq_left', Value.int.injEq, Value.ref.injEq, Value.long.injEq, ge8t]
    rw [List.take_of_length_le (by rw [hl]; exact Nat.le_refl _), List.drop_of_length_le (by rw [b.2.2.2.2.2]; exact Nat.le_refl _), List.append_nil]
    exact (set_same x2).symm
  | succ j ih =>
    intro i ts h hi hl x1 x2 b
    have hi8 : i < 8 := by omega
    have x1' := x1
    have b1 := b.1
    unfold wlkC at x1' b1
    rw [r45_42]; simp only [r45_0, r45_1, r45_2, r45_5, r45_8, r45_9, r45_10, r45_13, r45_16, r45_17, r45_18, r45_21, r45_24, r45_25, r45_26, r45_29, r45_32, r45_33, r45_34, r45_37, r45_40, r45_41, r45_43, r45_45, r45_48, r45_49, r45_52, r45_53, r45_54, r45_57, r45_58, r45_59, r45_60, r45_63, r45_66, List.length_cons, List.length_nil, Nat.reduceAdd, Nat.reduceLT, if_true, l10, l01, l20, l21, l02, l12, List.append_nil, List.getElem?_cons_zero, List.getElem?_cons_succ, List.set_cons_zero, List.set_cons_succ, not_false_eq_true, not_true_eq_false, false_implies, true_implies, forall_const, Classical.not_not, rc0_at, rcI_at, sOK0, sOK1, sOK2, sOK3, sOK4, true_and, and_true, kil, Option.toList_some, Option.toList_none, List.nil_append, List.cons_append, Option.some.injEq, exists_eq_left', Value.int.injEq, Value.ref.injEq, Value.long.injEq, ge8f hi8, gf_at x1', gf_at b1, ild8 b.2.1 b.2.2.2.2.2 hi8, ist8 x2 hl hi8, nI_1]
    have := ih (i + 1) (ts.set i (hx q2.2.2.2.2.2 i)) (h.set (k + 1) (.inl (ts.set i (hx q2.2.2.2.2.2 i)))) (by omega) (by simp [hl]) (by rw [List.getElem?_set_ne (by omega)]; exact x1) (get_set x2) (b.fr (Sm.set (a := k) (b := k + 2) (by omega) (by omega)) (by omega))
    rw [List.set_set, take_set ts q2.2.2.2.2.2 i (by omega) (by rw [b.2.2.2.2.2]; exact hi8)] at this
    exact this
theorem c_copy6 (d : Nat) {h : pH} {k k2 : Nat} {q q2 : wkr} (x : Wlk h k q) (b : Wlk h k2 q2) (hk : k + 2 ≤ k2 ∨ k2 + 2 ≤ k) : Cl (d + 1) 45 [.ref k, .ref k2] h none ((h.set k (wlkC k q2)).set (k + 1) (.inl q2.2.2.2.2.2)) := by
  refine Cl_o 3 rfl [some (.ref k), some (.ref k2), none] rfl rfl ?_
  have x1 := x.1
  have b1 := b.1
  unfold wlkC at x1 b1
  have hn : k ≠ k2 := by omega
  simp only [r45_0, r45_1, r45_2, r45_5, r45_8, r45_9, r45_10, r45_13, r45_16, r45_17, r45_18, r45_21, r45_24, r45_25, r45_26, r45_29, r45_32, r45_33, r45_34, r45_37, r45_40, r45_41, r45_43, r45_45, r45_48, r45_49, r45_52, r45_53, r45_54, r45_57, r45_58, r45_59, r45_60, r45_63, r45_66, List.length_cons, List.length_nil, Nat.reduceAdd, Nat.reduceLT, if_true, l10, l01, l20, l21, l02, l12, List.append_nil, List.getElem?_cons_zero, List.getElem?_cons_succ, List.set_cons_zero, List.set_cons_succ, not_false_eq_true, not_true_eq_false, false_implies, true_implies, forall_const, Classical.not_not, rc0_at, rcI_at, sOK0, sOK1, sOK2, sOK3, sOK4, true_and, and_true, kil, Option.toList_some, Option.toList_none, List.nil_append, List.cons_append, Option.some.injEq, exists_eq_left', Value.int.injEq, Value.ref.injEq, Value.long.injEq, gf_at b1, gf_ne hn, pf_at x1 (show 1 < 6 by decide), pf_set x1]
  have := lo_copy6 d k k2 q2 q2 hk 8 0 q.2.2.2.2.2 (h.set k (wlkC k q2)) rfl x.2.2.2.2.2 (get_set x.1) (by rw [List.getElem?_set_ne (by omega)]; exact x.2.1) (b.fr (Sm.set (a := k) (b := k + 2) (by omega) (by omega)) (by omega))
  exact this
/-- drawing a map: j steps from the i-th on -/
def drw (hs : List Int32) (way : Int32) : Nat → Nat → Nat → List Int32 → Int32 → List Int32 × Int32
  | 0, _, _, td, s => (td, s)
  | j + 1, i, c, td, s => drw hs way j (i + 1) (bes c way) (td.set i (hx hs (bes c way))) (s + hx hs (bes c way))
theorem drw_len (hs : List Int32) (way : Int32) : ∀ (j i c : Nat) (td : List Int32) (s : Int32), (drw hs way j i c td s).1.length = td.length
  | 0, _, _, _, _ => rfl
  | j + 1, i, c, td, s => by unfold drw; rw [drw_len]; simp
theorem lo_draw (d k k2 n : Nat) (way : Int32) (hs : List Int32) (w : Bool) (fs : List Value) (v5 : Int32) (hn : n ≤ 8) (hk : k + 2 ≤ k2 ∨ k2 + 2 ≤ k) (hf : fs[0]? = some (.ref (k + 1))) (a5 : Option Value) : ∀ (j i c : Nat) (td : List Int32) (s : Int32) (h : pH), i + j = n → c < 8 → td.length = 8 → h[k]? = some (.inr (.inr (6, fs))) → h[k + 1]? = some (.inl td) → Snd h k2 hs w → X 47 (d + 1) (some (.int (drw hs way j i c td s).2)) (h.set (k + 1) (.inl (drw hs way j i c td s).1)) 22 [some (.ref k), some (.ref k2), some (.int way), some (.int (nI n)), some (.int s), some (.int (nI c)), some (.int (nI i))] [] h := by
  intro j
  induction j with
  | zero =>
    intro i c td s h hi hc hl x1 x2 a
    have : i = n := by omega
    subst this
    rw [r47_22]; simp only [r47_0, r47_1, r47_2, r47_5, r47_6, r47_7, r47_10, r47_11, r47_13, r47_14, r47_17, r47_19, r47_20, r47_24, r47_25, r47_28, r47_30, r47_32, r47_35, r47_37, r47_38, r47_41, r47_43, r47_44, r47_47, r47_49, r47_50, r47_52, r47_55, r47_56, r47_58, r47_59, r47_62, r47_64, r47_65, r47_66, r47_68, r47_71, r47_74, r47_76, List.length_cons, List.length_nil, Nat.reduceAdd, Nat.reduceLT, if_true, l10, l01, l20, l21, l02, l12, List.append_nil, List.getElem?_cons_zero, List.getElem?_cons_succ, List.set_cons_zero, List.set_cons_succ, not_false_eq_true, not_true_eq_false, false_implies, true_implies, forall_const, Classical.not_not, rc0_at, rcI_at, sOK0, sOK1, sOK2, sOK3, sOK4, true_and, and_true, kil, Option.toList_some, Option.toList_none, List.nil_append, List.cons_append, Option.some.injEq, exists_eq_left', Value.int.injEq, Value.ref.injEq, Value.long.injEq, Int32.le_refl, drw, set_same x2]
  | succ j ih =>
    intro i c td s h hi hc hl x1 x2 a
    have hi8 : i < 8 := by omega
    have e : (nI n ≤ nI i) = False := eq_false (nI_ge (by omega) (by omega))
    rw [r47_22]; simp only [r47_0, r47_1, r47_2, r47_5, r47_6, r47_7, r47_10, r47_11, r47_13, r47_14, r47_17, r47_19, r47_20, r47_24, r47_25, r47_28, r47_30, r47_32, r47_35, r47_37, r47_38, r47_41, r47_43, r47_44, r47_47, r47_49, r47_50, r47_52, r47_55, r47_56, r47_58, r47_59, r47_62, r47_64, r47_65, r47_66, r47_68, r47_71, r47_74, r47_76, List.length_cons, List.length_nil, Nat.reduceAdd, Nat.reduceLT, if_true, l10, l01, l20, l21, l02, l12, List.append_nil, List.getElem?_cons_zero, List.getElem?_cons_succ, List.set_cons_zero, List.set_cons_succ, not_false_eq_true, not_true_eq_false, false_implies, true_implies, forall_const, Classical.not_not, rc0_at, rcI_at, sOK0, sOK1, sOK2, sOK3, sOK4, true_and, and_true, kil, Option.toList_some, Option.toList_none, List.nil_append, List.cons_append, Option.some.injEq, exists_eq_left', Value.int.injEq, Value.ref.injEq, Value.long.injEq, e, ge8f hi8]
    refine ⟨_, _, c_beside d h hc way, ?_⟩
    simp only [r47_0, r47_1, r47_2, r47_5, r47_6, r47_7, r47_10, r47_11, r47_13, r47_14, r47_17, r47_19, r47_20, r47_24, r47_25, r47_28, r47_30, r47_32, r47_35, r47_37, r47_38, r47_41, r47_43, r47_44, r47_47, r47_49, r47_50, r47_52, r47_55, r47_56, r47_58, r47_59, r47_62, r47_64, r47_65, r47_66, r47_68, r47_71, r47_74, r47_76, List.length_cons, List.length_nil, Nat.reduceAdd, Nat.reduceLT, if_true, l10, l01, l20, l21, l02, l12, List.append_nil, List.getElem?_cons_zero, List.getElem?_cons_succ, List.set_cons_zero, List.set_cons_succ, not_false_eq_true, not_true_eq_false, false_implies, true_implies, forall_const, Classical.not_not, rc0_at, rcI_at, sOK0, sOK1, sOK2, sOK3, sOK4, true_and, and_true, kil, Option.toList_some, Option.toList_none, List.nil_append, List.cons_append, Option.some.injEq, exists_eq_left', Value.int.injEq, Value.ref.injEq, Value.long.injEq, gf_at x1, hf, rcV_at a.1]
    refine ⟨_, _, c_heightAt d a (bes_lt c way), ?_⟩
    have y2 := get_set (c' := .inl (td.set i (hx hs (bes c way)))) x2
    have y1 : (h.set (k + 1) (.inl (td.set i (hx hs (bes c way)))))[k]? = some (.inr (.inr (6, fs))) := by rw [List.getElem?_set_ne (by omega)]; exact x1
    have ye : hx (td.set i (hx hs (bes c way))) i = hx hs (bes c way) := by unfold hx; simp [hl, hi8]
    simp only [r47_0, r47_1, r47_2, r47_5, r47_6, r47_7, r47_10, r47_11, r47_13, r47_14, r47_17, r47_19, r47_20, r47_24, r47_25, r47_28, r47_30, r47_32, r47_35, r47_37, r47_38, r47_41, r47_43, r47_44, r47_47, r47_49, r47_50, r47_52, r47_55, r47_56, r47_58, r47_59, r47_62, r47_64, r47_65, r47_66, r47_68, r47_71, r47_74, r47_76, List.length_cons, List.length_nil, Nat.reduceAdd, Nat.reduceLT, if_true, l10, l01, l20, l21, l02, l12, List.append_nil, List.getElem?_cons_zero, List.getElem?_cons_succ, List.set_cons_zero, List.set_cons_succ, not_false_eq_true, not_true_eq_false, false_implies, true_implies, forall_const, Classical.not_not, rc0_at, rcI_at, sOK0, sOK1, sOK2, sOK3, sOK4, true_and, and_true, kil, Option.toList_some, Option.toList_none, List.nil_append, List.cons_append, Option.some.injEq, exists_eq_left', Value.int.injEq, Value.ref.injEq, Value.long.injEq, gf_at x1, gf_at y1, hf, ist8 x2 hl hi8, ild8 y2 (show (td.set i (hx hs (bes c way))).length = 8 by simp [hl]) hi8, ye, nI_1]
    have := ih (i + 1) (bes c way) (td.set i (hx hs (bes c way))) (s + hx hs (bes c way)) _ (by omega) (bes_lt c way) (by simp [hl]) y1 y2 (a.fr (Sm.set (a := k) (b := k + 2) (by omega) (by omega)) (by omega))
    rw [List.set_set] at this
    exact this
theorem c_drawMap (d : Nat) {h : pH} {k k2 n : Nat} {q : wkr} {hs : List Int32} {w : Bool} (x : Wlk h k q) (a : Snd h k2 hs w) (hk : k + 2 ≤ k2 ∨ k2 + 2 ≤ k) (way : Int32) (hn : n ≤ 8) : Cl (d + 2) 47 [.ref k, .ref k2, .int way, .int (nI n)] h (some (.int (drw hs way n 0 q.2.1 q.2.2.2.2.2 0).2)) ((h.set k (wlkC k (q.1, q.2.1, q.2.2.1, way, n, q.2.2.2.2.2))).set (k + 1) (.inl (drw hs way n 0 q.2.1 q.2.2.2.2.2 0).1)) := by
  refine Cl_o 7 rfl [some (.ref k), some (.ref k2), some (.int way), some (.int (nI n)), none, none, none] rfl rfl ?_
  have x1 := x.1
  unfold wlkC at x1
  simp only [r47_0, r47_1, r47_2, r47_5, r47_6, r47_7, r47_10, r47_11, r47_13, r47_14, r47_17, r47_19, r47_20, r47_24, r47_25, r47_28, r47_30, r47_32, r47_35, r47_37, r47_38, r47_41, r47_43, r47_44, r47_47, r47_49, r47_50, r47_52, r47_55, r47_56, r47_58, r47_59, r47_62, r47_64, r47_65, r47_66, r47_68, r47_71, r47_74, r47_76, List.length_cons, List.length_nil, Nat.reduceAdd, Nat.reduceLT, if_true, l10, l01, l20, l21, l02, l12, List.append_nil, List.getElem?_cons_zero, List.getElem?_cons_succ, List.set_cons_zero, List.set_cons_succ, not_false_eq_true, not_true_eq_false, false_implies, true_implies, forall_const, Classical.not_not, rc0_at, rcI_at, sOK0, sOK1, sOK2, sOK3, sOK4, true_and, and_true, kil, Option.toList_some, Option.toList_none, List.nil_append, List.cons_append, Option.some.injEq, exists_eq_left', Value.int.injEq, Value.ref.injEq, Value.long.injEq, pf_at x1 (show 4 < 6 by decide), pf_set x1, gf_set x1]
  exact lo_draw d k k2 n way hs w _ 0 hn hk rfl none n 0 q.2.1 q.2.2.2.2.2 0 _ (by omega) x.2.2.2.1 x.2.2.2.2.2 (get_set x.1) (by rw [List.getElem?_set_ne (by omega)]; exact x.2.1) (a.fr (Sm.set (a := k) (b := k + 2) (by omega) (by omega)) (by omega))
def gdm (hs : List Int32) (way : Int32) (td : List Int32) : Nat → Nat → Nat → Bool
  | 0, _, _ => true
  | j + 1, i, c => decide (hx td i = hx hs (bes c way)) && gdm hs way td j (i + 1) (bes c way)
def good (hs : List Int32) (q : wkr) : Bool := gdm hs q.2.2.2.1 q.2.2.2.2.2 q.2.2.2.2.1 0 q.2.1 && decide (0 < q.2.2.2.2.1)
theorem lo_good (d k k2 : Nat) (q : wkr) (hs : List Int32) (w : Bool) (h : pH) (x : Wlk h k q) (a : Snd h k2 hs w) : ∀ (j i c : Nat), i + j = q.2.2.2.2.1 → c < 8 → X 48 (d + 1) (some (.int (b2i (gdm hs q.2.2.2.1 q.2.2.2.2.2 j i c && decide (0 < q.2.2.2.2.1))))) h 7 [some (.ref k), some (.ref k2), some (.int (nI c)), some (.int (nI i))] [] h := by
  intro j
  have x1 := x.1
  have hm := x.2.2.2.2.1
  have hl := x.2.2.2.2.2
  unfold wlkC at x1
  induction j with
  | zero =>
    intro i c hi hc
    have hi' : i = q.2.2.2.2.1 := by omega
    subst hi'
    rw [r48_7]; simp only [r48_0, r48_1, r48_4, r48_5, r48_6, r48_8, r48_9, r48_12, r48_15, r48_16, r48_18, r48_21, r48_22, r48_23, r48_26, r48_29, r48_30, r48_31, r48_34, r48_35, r48_36, r48_37, r48_38, r48_41, r48_44, r48_45, r48_46, r48_49, r48_52, r48_53, r48_56, List.length_cons, List.length_nil, Nat.reduceAdd, Nat.reduceLT, if_true, l10, l01, l20, l21, l02, l12, List.append_nil, List.getElem?_cons_zero, List.getElem?_cons_succ, List.set_cons_zero, List.set_cons_succ, not_false_eq_true, not_true_eq_false, false_implies, true_implies, forall_const, Classical.not_not, rc0_at, rcI_at, sOK0, sOK1, sOK2, sOK3, sOK4, true_and, and_true, kil, Option.toList_some, Option.toList_none, List.nil_append, List.cons_append, Option.some.injEq, exists_eq_left', Value.int.injEq, Value.ref.injEq, Value.long.injEq, gf_at x1, Int32.le_refl, rcV_at x1]
    refine ⟨_, _, c_hasMap d x, ?_⟩
    simp only [r48_0, r48_1, r48_4, r48_5, r48_6, r48_8, r48_9, r48_12, r48_15, r48_16, r48_18, r48_21, r48_22, r48_23, r48_26, r48_29, r48_30, r48_31, r48_34, r48_35, r48_36, r48_37, r48_38, r48_41, r48_44, r48_45, r48_46, r48_49, r48_52, r48_53, r48_56, List.length_cons, List.length_nil, Nat.reduceAdd, Nat.reduceLT, if_true, l10, l01, l20, l21, l02, l12, List.append_nil, List.getElem?_cons_zero, List.getElem?_cons_succ, List.set_cons_zero, List.set_cons_succ, not_false_eq_true, not_true_eq_false, false_implies, true_implies, forall_const, Classical.not_not, rc0_at, rcI_at, sOK0, sOK1, sOK2, sOK3, sOK4, true_and, and_true, kil, Option.toList_some, Option.toList_none, List.nil_append, List.cons_append, Option.some.injEq, exists_eq_left', Value.int.injEq, Value.ref.injEq, Value.long.injEq, gdm, b2i_01, Bool.true_and]
  | succ j ih =>
    intro i c hi hc
    have hi8 : i < 8 := by omega
    have e : (nI q.2.2.2.2.1 ≤ nI i) = False := eq_false (nI_ge (by omega) (by omega))
    rw [r48_7]; simp only [r48_0, r48_1, r48_4, r48_5, r48_6, r48_8, r48_9, r48_12, r48_15, r48_16, r48_18, r48_21, r48_22, r48_23, r48_26, r48_29, r48_30, r48_31, r48_34, r48_35, r48_36, r48_37, r48_38, r48_41, r48_44, r48_45, r48_46, r48_49, r48_52, r48_53, r48_56, List.length_cons, List.length_nil, Nat.reduceAdd, Nat.reduceLT, if_true, l10, l01, l20, l21, l02, l12, List.append_nil, List.getElem?_cons_zero, List.getElem?_cons_succ, List.set_cons_zero, List.set_cons_succ, not_false_eq_true, not_true_eq_false, false_implies, true_implies, forall_const, Classical.not_not, rc0_at, rcI_at, sOK0, sOK1, sOK2, sOK3, sOK4, true_and, and_true, kil, Option.toList_some, Option.toList_none, List.nil_append, List.cons_append, Option.some.injEq, exists_eq_left', Value.int.injEq, Value.ref.injEq, Value.long.injEq, gf_at x1, e, ge8f hi8]
    refine ⟨_, _, c_beside d h hc _, ?_⟩
    simp only [r48_0, r48_1, r48_4, r48_5, r48_6, r48_8, r48_9, r48_12, r48_15, r48_16, r48_18, r48_21, r48_22, r48_23, r48_26, r48_29, r48_30, r48_31, r48_34, r48_35, r48_36, r48_37, r48_38, r48_41, r48_44, r48_45, r48_46, r48_49, r48_52, r48_53, r48_56, List.length_cons, List.length_nil, Nat.reduceAdd, Nat.reduceLT, if_true, l10, l01, l20, l21, l02, l12, List.append_nil, List.getElem?_cons_zero, List.getElem?_cons_succ, List.set_cons_zero, List.set_cons_succ, not_false_eq_true, not_true_eq_false, false_implies, true_implies, forall_const, Classical.not_not, rc0_at, rcI_at, sOK0, sOK1, sOK2, sOK3, sOK4, true_and, and_true, kil, Option.toList_some, Option.toList_none, List.nil_append, List.cons_append, Option.some.injEq, exists_eq_left', Value.int.injEq, Value.ref.injEq, Value.long.injEq, gf_at x1, ild8 x.2.1 hl hi8, rcV_at a.1]
    refine ⟨_, _, c_heightAt d a (bes_lt c _), ?_⟩
    by_cases z : hx q.2.2.2.2.2 i = hx hs (bes c q.2.2.2.1)
    · simp only [r48_0, r48_1, r48_4, r48_5, r48_6, r48_8, r48_9, r48_12, r48_15, r48_16, r48_18, r48_21, r48_22, r48_23, r48_26, r48_29, r48_30, r48_31, r48_34, r48_35, r48_36, r48_37, r48_38, r48_41, r48_44, r48_45, r48_46, r48_49, r48_52, r48_53, r48_56, List.length_cons, List.length_nil, Nat.reduceAdd, Nat.reduceLT, if_true, l10, l01, l20, l21, l02, l12, List.append_nil, List.getElem?_cons_zero, List.getElem?_cons_succ, List.set_cons_zero, List.set_cons_succ, not_false_eq_true, not_true_eq_false, false_implies, true_implies, forall_const, Classical.not_not, rc0_at, rcI_at, sOK0, sOK1, sOK2, sOK3, sOK4, true_and, and_true, kil, Option.toList_some, Option.toList_none, List.nil_append, List.cons_append, Option.some.injEq, exists_eq_left', Value.int.injEq, Value.ref.injEq, Value.long.injEq, z, nI_1, gdm, decide_true, Bool.true_and]
      exact ih (i + 1) _ (by omega) (bes_lt c _)
    · simp only [r48_0, r48_1, r48_4, r48_5, r48_6, r48_8, r48_9, r48_12, r48_15, r48_16, r48_18, r48_21, r48_22, r48_23, r48_26, r48_29, r48_30, r48_31, r48_34, r48_35, r48_36, r48_37, r48_38, r48_41, r48_44, r48_45, r48_46, r48_49, r48_52, r48_53, r48_56, List.length_cons, List.length_nil, Nat.reduceAdd, Nat.reduceLT, if_true, l10, l01, l20, l21, l02, l12, List.append_nil, List.getElem?_cons_zero, List.getElem?_cons_succ, List.set_cons_zero, List.set_cons_succ, not_false_eq_true, not_true_eq_false, false_implies, true_implies, forall_const, Classical.not_not, rc0_at, rcI_at, sOK0, sOK1, sOK2, sOK3, sOK4, true_and, and_true, kil, Option.toList_some, Option.toList_none, List.nil_append, List.cons_append, Option.some.injEq, exists_eq_left', Value.int.injEq, Value.ref.injEq, Value.long.injEq, z, gdm, decide_false, Bool.false_and, b2i, Bool.false_eq_true, if_false, true_or]
theorem c_good (d : Nat) {h : pH} {k k2 : Nat} {q : wkr} {hs : List Int32} {w : Bool} (x : Wlk h k q) (a : Snd h k2 hs w) : Cl (d + 2) 48 [.ref k, .ref k2] h (some (.int (b2i (good hs q)))) h := by
  refine Cl_o 4 rfl [some (.ref k), some (.ref k2), none, none] rfl rfl ?_
  have x1 := x.1
  unfold wlkC at x1
  simp only [r48_0, r48_1, r48_4, r48_5, r48_6, r48_8, r48_9, r48_12, r48_15, r48_16, r48_18, r48_21, r48_22, r48_23, r48_26, r48_29, r48_30, r48_31, r48_34, r48_35, r48_36, r48_37, r48_38, r48_41, r48_44, r48_45, r48_46, r48_49, r48_52, r48_53, r48_56, List.length_cons, List.length_nil, Nat.reduceAdd, Nat.reduceLT, if_true, l10, l01, l20, l21, l02, l12, List.append_nil, List.getElem?_cons_zero, List.getElem?_cons_succ, List.set_cons_zero, List.set_cons_succ, not_false_eq_true, not_true_eq_false, false_implies, true_implies, forall_const, Classical.not_not, rc0_at, rcI_at, sOK0, sOK1, sOK2, sOK3, sOK4, true_and, and_true, kil, Option.toList_some, Option.toList_none, List.nil_append, List.cons_append, Option.some.injEq, exists_eq_left', Value.int.injEq, Value.ref.injEq, Value.long.injEq, gf_at x1]
  exact lo_good d k k2 q hs w h x a _ 0 _ (by omega) x.2.2.2.1
theorem c_stepOn (d : Nat) {h : pH} {k k2 : Nat} {q : wkr} {hs : List Int32} {w : Bool} (x : Wlk h k q) (a : Snd h k2 hs w) (hk : k + 2 ≤ k2 ∨ k2 + 2 ≤ k) (way : Int32) : Cl (d + 3) 49 [.ref k, .ref k2, .int way] h (some (.int (trd hs w (bes q.2.1 way) q.1).1)) ((h.set k (wlkC k (q.1, bes q.2.1 way, q.2.2.1 + 1, q.2.2.2))).set (k2 + 1) (.inl (trd hs w (bes q.2.1 way) q.1).2)) := by
  refine Cl_o 3 rfl [some (.ref k), some (.ref k2), some (.int way)] rfl rfl ?_
  have x1 := x.1
  unfold wlkC at x1
  simp only [r49_0, r49_1, r49_2, r49_5, r49_6, r49_9, r49_12, r49_13, r49_14, r49_17, r49_18, r49_19, r49_22, r49_23, r49_24, r49_27, r49_28, r49_31, r49_34, List.length_cons, List.length_nil, Nat.reduceAdd, Nat.reduceLT, if_true, l10, l01, l20, l21, l02, l12, List.append_nil, List.getElem?_cons_zero, List.getElem?_cons_succ, List.set_cons_zero, List.set_cons_succ, not_false_eq_true, not_true_eq_false, false_implies, true_implies, forall_const, Classical.not_not, rc0_at, rcI_at, sOK0, sOK1, sOK2, sOK3, sOK4, true_and, and_true, kil, Option.toList_some, Option.toList_none, List.nil_append, List.cons_append, Option.some.injEq, exists_eq_left', Value.int.injEq, Value.ref.injEq, Value.long.injEq, gf_at x1]
  refine ⟨_, _, c_beside (d + 1) h x.2.2.2.1 way, ?_⟩
  have a' := a.fr (Sm.set (h := h) (i := k) (c := wlkC k (q.1, bes q.2.1 way, q.2.2.1 + 1, q.2.2.2)) (a := k) (b := k + 2) (by omega) (by omega)) (by omega)
  simp only [r49_0, r49_1, r49_2, r49_5, r49_6, r49_9, r49_12, r49_13, r49_14, r49_17, r49_18, r49_19, r49_22, r49_23, r49_24, r49_27, r49_28, r49_31, r49_34, List.length_cons, List.length_nil, Nat.reduceAdd, Nat.reduceLT, if_true, l10, l01, l20, l21, l02, l12, List.append_nil, List.getElem?_cons_zero, List.getElem?_cons_succ, List.set_cons_zero, List.set_cons_succ, not_false_eq_true, not_true_eq_false, false_implies, true_implies, forall_const, Classical.not_not, rc0_at, rcI_at, sOK0, sOK1, sOK2, sOK3, sOK4, true_and, and_true, kil, Option.toList_some, Option.toList_none, List.nil_append, List.cons_append, Option.some.injEq, exists_eq_left', Value.int.injEq, Value.ref.injEq, Value.long.injEq, pf_at x1 (show 2 < 6 by decide), gf_set x1, pf_set x1, rcV_at a'.1]
  have hr : rcV 5 (h.set k (wlkC k (q.1, bes q.2.1 way, q.2.2.1 + 1, q.2.2.2))) [Value.ref k2, .int (nI (bes q.2.1 way)), .int (nI q.1)] := by rw [rcV_at a'.1]; trivial
  refine ⟨hr, _, _, c_tread d a' (bes_lt _ _) x.2.2.1, ?_⟩
  simp only [r49_0, r49_1, r49_2, r49_5, r49_6, r49_9, r49_12, r49_13, r49_14, r49_17, r49_18, r49_19, r49_22, r49_23, r49_24, r49_27, r49_28, r49_31, r49_34, List.length_cons, List.length_nil, Nat.reduceAdd, Nat.reduceLT, if_true, l10, l01, l20, l21, l02, l12, List.append_nil, List.getElem?_cons_zero, List.getElem?_cons_succ, List.set_cons_zero, List.set_cons_succ, not_false_eq_true, not_true_eq_false, false_implies, true_implies, forall_const, Classical.not_not, rc0_at, rcI_at, sOK0, sOK1, sOK2, sOK3, sOK4, true_and, and_true, kil, Option.toList_some, Option.toList_none, List.nil_append, List.cons_append, Option.some.injEq, exists_eq_left', Value.int.injEq, Value.ref.injEq, Value.long.injEq]
  rfl
/-- going j steps: where he is then, and the heights -/
def gos (w : Bool) (way : Int32) (n : Nat) : Nat → Nat → List Int32 → Nat × List Int32
  | 0, c, hs => (c, hs)
  | j + 1, c, hs => gos w way n j (bes c way) (trd hs w (bes c way) n).2
theorem gos_len (w : Bool) (way : Int32) (n : Nat) : ∀ (j c : Nat) (hs : List Int32), (gos w way n j c hs).2.length = hs.length
  | 0, _, _ => rfl
  | j + 1, c, hs => by unfold gos; rw [gos_len, trd_len]
theorem gos_lt (w : Bool) (way : Int32) (n : Nat) : ∀ (j c : Nat) (hs : List Int32), c < 8 → (gos w way n j c hs).1 < 8
  | 0, _, _, h => h
  | j + 1, c, hs, _ => by unfold gos; exact gos_lt w way n j _ _ (bes_lt c way)
theorem set4 {h : pH} {a b : Nat} {c1 c2 c3 c4 : pC} (hn : a ≠ b) : (((h.set a c1).set b c2).set a c3).set b c4 = (h.set a c3).set b c4 := by
  rw [List.set_comm _ _ hn.symm, List.set_set, List.set_set]
theorem lo_go (d k k2 : Nat) (w : Bool) (hk : k + 2 ≤ k2 ∨ k2 + 2 ≤ k) : ∀ (j i : Nat) (q : wkr) (hs : List Int32) (h : pH), i + j = q.2.2.2.2.1 → Wlk h k q → Snd h k2 hs w → X 50 (d + 3) none ((h.set k (wlkC k (q.1, (gos w q.2.2.2.1 q.1 j q.2.1 hs).1, q.2.2.1 + nI j, q.2.2.2.1, 0, q.2.2.2.2.2))).set (k2 + 1) (.inl (gos w q.2.2.2.1 q.1 j q.2.1 hs).2)) 2 [some (.ref k), some (.ref k2), some (.int (nI i))] [] h := by
  intro j
  induction j with
  | zero =>
    intro i q hs h hi x a
    have hi' : i = q.2.2.2.2.1 := by omega
    subst hi'
    have x1 := x.1
    unfold wlkC at x1
    rw [r50_2]; simp only [r50_0, r50_1, r50_3, r50_4, r50_7, r50_10, r50_11, r50_12, r50_13, r50_16, r50_19, r50_20, r50_23, r50_26, r50_27, r50_28, r50_31, List.length_cons, List.length_nil, Nat.reduceAdd, Nat.reduceLT, if_true, l10, l01, l20, l21, l02, l12, List.append_nil, List.getElem?_cons_zero, List.getElem?_cons_succ, List.set_cons_zero, List.set_cons_succ, not_false_eq_true, not_true_eq_false, false_implies, true_implies, forall_const, Classical.not_not, rc0_at, rcI_at, sOK0, sOK1, sOK2, sOK3, sOK4, true_and, and_true, kil, Option.toList_some, Option.toList_none, List.nil_append, List.cons_append, Option.some.injEq, exists_eq_left', Value.int.injEq, Value.ref.injEq, Value.long.injEq, gf_at x1, Int32.le_refl, pf_at x1 (show 5 < 6 by decide), gos]
    have e0 : q.2.2.1 + nI 0 = q.2.2.1 := by rw [nI_0]; exact Int32.add_zero _
    rw [e0]
    have : (h.set k (wlkC k (q.1, q.2.1, q.2.2.1, q.2.2.2.1, 0, q.2.2.2.2.2)))[k2 + 1]? = some (.inl hs) := by rw [List.getElem?_set_ne (by omega)]; exact a.2.1
    exact (set_same this).symm
  | succ j ih =>
    intro i q hs h hi x a
    have x1 := x.1
    have hm := x.2.2.2.2.1
    unfold wlkC at x1
    have e : (nI q.2.2.2.2.1 ≤ nI i) = False := eq_false (nI_ge (by omega) (by omega))
    rw [r50_2]; simp only [r50_0, r50_1, r50_3, r50_4, r50_7, r50_10, r50_11, r50_12, r50_13, r50_16, r50_19, r50_20, r50_23, r50_26, r50_27, r50_28, r50_31, List.length_cons, List.length_nil, Nat.reduceAdd, Nat.reduceLT, if_true, l10, l01, l20, l21, l02, l12, List.append_nil, List.getElem?_cons_zero, List.getElem?_cons_succ, List.set_cons_zero, List.set_cons_succ, not_false_eq_true, not_true_eq_false, false_implies, true_implies, forall_const, Classical.not_not, rc0_at, rcI_at, sOK0, sOK1, sOK2, sOK3, sOK4, true_and, and_true, kil, Option.toList_some, Option.toList_none, List.nil_append, List.cons_append, Option.some.injEq, exists_eq_left', Value.int.injEq, Value.ref.injEq, Value.long.injEq, gf_at x1, e, rcV_at x1]
    refine ⟨_, _, c_stepOn d x a hk _, ?_⟩
    simp only [r50_0, r50_1, r50_3, r50_4, r50_7, r50_10, r50_11, r50_12, r50_13, r50_16, r50_19, r50_20, r50_23, r50_26, r50_27, r50_28, r50_31, List.length_cons, List.length_nil, Nat.reduceAdd, Nat.reduceLT, if_true, l10, l01, l20, l21, l02, l12, List.append_nil, List.getElem?_cons_zero, List.getElem?_cons_succ, List.set_cons_zero, List.set_cons_succ, not_false_eq_true, not_true_eq_false, false_implies, true_implies, forall_const, Classical.not_not, rc0_at, rcI_at, sOK0, sOK1, sOK2, sOK3, sOK4, true_and, and_true, kil, Option.toList_some, Option.toList_none, List.nil_append, List.cons_append, Option.some.injEq, exists_eq_left', Value.int.injEq, Value.ref.injEq, Value.long.injEq, nI_1]
    have hne : k ≠ k2 + 1 := by omega
    have x' : Wlk ((h.set k (wlkC k (q.1, bes q.2.1 q.2.2.2.1, q.2.2.1 + 1, q.2.2.2))).set (k2 + 1) (.inl (trd hs w (bes q.2.1 q.2.2.2.1) q.1).2)) k (q.1, bes q.2.1 q.2.2.2.1, q.2.2.1 + 1, q.2.2.2) := (x.set (q' := (q.1, bes q.2.1 q.2.2.2.1, q.2.2.1 + 1, q.2.2.2)) rfl ⟨x.2.2.1, bes_lt _ _, x.2.2.2.2⟩).fr (Sm.set (a := k2) (b := k2 + 2) (by omega) (by omega)) (by omega)
    have a' : Snd ((h.set k (wlkC k (q.1, bes q.2.1 q.2.2.2.1, q.2.2.1 + 1, q.2.2.2))).set (k2 + 1) (.inl (trd hs w (bes q.2.1 q.2.2.2.1) q.1).2)) k2 (trd hs w (bes q.2.1 q.2.2.2.1) q.1).2 w := (a.fr (Sm.set (a := k) (b := k + 2) (by omega) (by omega)) (by omega)).set (by rw [trd_len]; exact a.2.2)
    have := ih (i + 1) _ _ _ (by show i + 1 + j = q.2.2.2.2.1; omega) x' a'
    rw [set4 hne] at this
    have e1 : q.2.2.1 + 1 + nI j = q.2.2.1 + nI (j + 1) := by rw [Int32.add_assoc, Int32.add_comm 1, nI_1]
    dsimp only at this
    rw [e1] at this
    unfold gos
    exact this
theorem c_goByMap (d : Nat) {h : pH} {k k2 : Nat} {q : wkr} {hs : List Int32} {w : Bool} (x : Wlk h k q) (a : Snd h k2 hs w) (hk : k + 2 ≤ k2 ∨ k2 + 2 ≤ k) : Cl (d + 4) 50 [.ref k, .ref k2] h none ((h.set k (wlkC k (q.1, (gos w q.2.2.2.1 q.1 q.2.2.2.2.1 q.2.1 hs).1, q.2.2.1 + nI q.2.2.2.2.1, q.2.2.2.1, 0, q.2.2.2.2.2))).set (k2 + 1) (.inl (gos w q.2.2.2.1 q.1 q.2.2.2.2.1 q.2.1 hs).2)) := by
  refine Cl_o 3 rfl [some (.ref k), some (.ref k2), none] rfl rfl ?_
  simp only [r50_0, r50_1, r50_3, r50_4, r50_7, r50_10, r50_11, r50_12, r50_13, r50_16, r50_19, r50_20, r50_23, r50_26, r50_27, r50_28, r50_31, List.length_cons, List.length_nil, Nat.reduceAdd, Nat.reduceLT, if_true, l10, l01, l20, l21, l02, l12, List.append_nil, List.getElem?_cons_zero, List.getElem?_cons_succ, List.set_cons_zero, List.set_cons_succ, not_false_eq_true, not_true_eq_false, false_implies, true_implies, forall_const, Classical.not_not, rc0_at, rcI_at, sOK0, sOK1, sOK2, sOK3, sOK4, true_and, and_true, kil, Option.toList_some, Option.toList_none, List.nil_append, List.cons_append, Option.some.injEq, exists_eq_left', Value.int.injEq, Value.ref.injEq, Value.long.injEq]
  exact lo_go d k k2 w hk _ 0 q hs h (by omega) x a
theorem lo_would (d k k2 : Nat) (w : Bool) (q : wkr) (hk : k + 2 ≤ k2 ∨ k2 + 2 ≤ k) : ∀ (j i c : Nat) (hs : List Int32) (h : pH), i + j = q.2.2.2.2.1 → c < 8 → Wlk h k q → Snd h k2 hs w → X 51 (d + 2) none (h.set (k2 + 1) (.inl (gos w q.2.2.2.1 q.1 j c hs).2)) 7 [some (.ref k), some (.ref k2), some (.int (nI c)), some (.int (nI i))] [] h := by
  intro j
  induction j with
  | zero =>
    intro i c hs h hi hc x a
    have hi' : i = q.2.2.2.2.1 := by omega
    subst hi'
    have x1 := x.1
    unfold wlkC at x1
    rw [r51_7]; simp only [r51_0, r51_1, r51_4, r51_5, r51_6, r51_8, r51_9, r51_12, r51_15, r51_16, r51_17, r51_20, r51_23, r51_24, r51_25, r51_26, r51_27, r51_30, r51_33, r51_34, r51_37, r51_40, List.length_cons, List.length_nil, Nat.reduceAdd, Nat.reduceLT, if_true, l10, l01, l20, l21, l02, l12, List.append_nil, List.getElem?_cons_zero, List.getElem?_cons_succ, List.set_cons_zero, List.set_cons_succ, not_false_eq_true, not_true_eq_false, false_implies, true_implies, forall_const, Classical.not_not, rc0_at, rcI_at, sOK0, sOK1, sOK2, sOK3, sOK4, true_and, and_true, kil, Option.toList_some, Option.toList_none, List.nil_append, List.cons_append, Option.some.injEq, exists_eq_left', Value.int.injEq, Value.ref.injEq, Value.long.injEq, gf_at x1, Int32.le_refl, gos, set_same a.2.1]
  | succ j ih =>
    intro i c hs h hi hc x a
    have x1 := x.1
    have hm := x.2.2.2.2.1
    unfold wlkC at x1
    have e : (nI q.2.2.2.2.1 ≤ nI i) = False := eq_false (nI_ge (by omega) (by omega))
    rw [r51_7]; simp only [r51_0, r51_1, r51_4, r51_5, r51_6, r51_8, r51_9, r51_12, r51_15, r51_16, r51_17, r51_20, r51_23, r51_24, r51_25, r51_26, r51_27, r51_30, r51_33, r51_34, r51_37, r51_40, List.length_cons, List.length_nil, Nat.reduceAdd, Nat.reduceLT, if_true, l10, l01, l20, l21, l02, l12, List.append_nil, List.getElem?_cons_zero, List.getElem?_cons_succ, List.set_cons_zero, List.set_cons_succ, not_false_eq_true, not_true_eq_false, false_implies, true_implies, forall_const, Classical.not_not, rc0_at, rcI_at, sOK0, sOK1, sOK2, sOK3, sOK4, true_and, and_true, kil, Option.toList_some, Option.toList_none, List.nil_append, List.cons_append, Option.some.injEq, exists_eq_left', Value.int.injEq, Value.ref.injEq, Value.long.injEq, gf_at x1, e]
    refine ⟨_, _, c_beside (d + 1) h hc _, ?_⟩
    simp only [r51_0, r51_1, r51_4, r51_5, r51_6, r51_8, r51_9, r51_12, r51_15, r51_16, r51_17, r51_20, r51_23, r51_24, r51_25, r51_26, r51_27, r51_30, r51_33, r51_34, r51_37, r51_40, List.length_cons, List.length_nil, Nat.reduceAdd, Nat.reduceLT, if_true, l10, l01, l20, l21, l02, l12, List.append_nil, List.getElem?_cons_zero, List.getElem?_cons_succ, List.set_cons_zero, List.set_cons_succ, not_false_eq_true, not_true_eq_false, false_implies, true_implies, forall_const, Classical.not_not, rc0_at, rcI_at, sOK0, sOK1, sOK2, sOK3, sOK4, true_and, and_true, kil, Option.toList_some, Option.toList_none, List.nil_append, List.cons_append, Option.some.injEq, exists_eq_left', Value.int.injEq, Value.ref.injEq, Value.long.injEq, gf_at x1, rcV_at a.1]
    refine ⟨_, _, c_tread d a (bes_lt _ _) x.2.2.1, ?_⟩
    simp only [r51_0, r51_1, r51_4, r51_5, r51_6, r51_8, r51_9, r51_12, r51_15, r51_16, r51_17, r51_20, r51_23, r51_24, r51_25, r51_26, r51_27, r51_30, r51_33, r51_34, r51_37, r51_40, List.length_cons, List.length_nil, Nat.reduceAdd, Nat.reduceLT, if_true, l10, l01, l20, l21, l02, l12, List.append_nil, List.getElem?_cons_zero, List.getElem?_cons_succ, List.set_cons_zero, List.set_cons_succ, not_false_eq_true, not_true_eq_false, false_implies, true_implies, forall_const, Classical.not_not, rc0_at, rcI_at, sOK0, sOK1, sOK2, sOK3, sOK4, true_and, and_true, kil, Option.toList_some, Option.toList_none, List.nil_append, List.cons_append, Option.some.injEq, exists_eq_left', Value.int.injEq, Value.ref.injEq, Value.long.injEq, nI_1]
    have := ih (i + 1) (bes c q.2.2.2.1) _ _ (by omega) (bes_lt _ _) (x.fr (Sm.set (a := k2) (b := k2 + 2) (by omega) (by omega)) (by omega)) (a.set (hs' := (trd hs w (bes c q.2.2.2.1) q.1).2) (by rw [trd_len]; exact a.2.2))
    rw [List.set_set] at this
    unfold gos
    exact this
theorem c_wouldGo (d : Nat) {h : pH} {k k2 : Nat} {q : wkr} {hs : List Int32} {w : Bool} (x : Wlk h k q) (a : Snd h k2 hs w) (hk : k + 2 ≤ k2 ∨ k2 + 2 ≤ k) : Cl (d + 3) 51 [.ref k, .ref k2] h none (h.set (k2 + 1) (.inl (gos w q.2.2.2.1 q.1 q.2.2.2.2.1 q.2.1 hs).2)) := by
  refine Cl_o 4 rfl [some (.ref k), some (.ref k2), none, none] rfl rfl ?_
  have x1 := x.1
  unfold wlkC at x1
  simp only [r51_0, r51_1, r51_4, r51_5, r51_6, r51_8, r51_9, r51_12, r51_15, r51_16, r51_17, r51_20, r51_23, r51_24, r51_25, r51_26, r51_27, r51_30, r51_33, r51_34, r51_37, r51_40, List.length_cons, List.length_nil, Nat.reduceAdd, Nat.reduceLT, if_true, l10, l01, l20, l21, l02, l12, List.append_nil, List.getElem?_cons_zero, List.getElem?_cons_succ, List.set_cons_zero, List.set_cons_succ, not_false_eq_true, not_true_eq_false, false_implies, true_implies, forall_const, Classical.not_not, rc0_at, rcI_at, sOK0, sOK1, sOK2, sOK3, sOK4, true_and, and_true, kil, Option.toList_some, Option.toList_none, List.nil_append, List.cons_append, Option.some.injEq, exists_eq_left', Value.int.injEq, Value.ref.injEq, Value.long.injEq, gf_at x1]
  exact lo_would d k k2 w q hk _ 0 _ hs h (by omega) x.2.2.2.1 x a
