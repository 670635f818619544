theorem c_asNumber (d : Nat) (h : pH) (b : Bool) : Cl (d + 1) 81 [.int (b2i b)] h (some (.int (b2i b))) h := by
  refine Cl_o 1 rfl [some (.int (b2i b))] rfl rfl ?_
  cases b
  · simp only [r81_0, r81_1, r81_4, r81_5, r81_8, r81_9, List.length_cons, List.length_nil, Nat.reduceAdd, Nat.reduceLT, if_true, l10, l01, l20, l21, l02, l12, List.append_nil, List.getElem?_cons_zero, List.getElem?_cons_succ, List.set_cons_zero, List.set_cons_succ, not_false_eq_true, not_true_eq_false, false_implies, true_implies, forall_const, Classical.not_not, rc0_at, rcI_at, sOK0, sOK1, sOK2, sOK3, sOK4, true_and, and_true, kil, Option.toList_some, Option.toList_none, List.nil_append, List.cons_append, Option.some.injEq, exists_eq_left', Value.int.injEq, Value.ref.injEq, Value.long.injEq, b2i, Bool.false_eq_true, if_false]
  · simp only [r81_0, r81_1, r81_4, r81_5, r81_8, r81_9, List.length_cons, List.length_nil, Nat.reduceAdd, Nat.reduceLT, if_true, l10, l01, l20, l21, l02, l12, List.append_nil, List.getElem?_cons_zero, List.getElem?_cons_succ, List.set_cons_zero, List.set_cons_succ, not_false_eq_true, not_true_eq_false, false_implies, true_implies, forall_const, Classical.not_not, rc0_at, rcI_at, sOK0, sOK1, sOK2, sOK3, sOK4, true_and, and_true, kil, Option.toList_some, Option.toList_none, List.nil_append, List.cons_append, Option.some.injEq, exists_eq_left', Value.int.injEq, Value.ref.injEq, Value.long.injEq, b2i]
def Lnd (h : pH) (k : Nat) (hs : List Int32) (w : Bool) (ws : Nat → wkr) (cnt : Nat) (nt : Int32) : Prop :=
  h[k]? = some (.inr (.inr (2, [.ref (k + 1), .ref (k + 3), .int (nI cnt), .int nt]))) ∧ Snd h (k + 1) hs w ∧ h[k + 3]? = some (.inr (.inl (1, [some (k + 4), some (k + 6), some (k + 8), some (k + 10)]))) ∧ (∀ i, i < 4 → Wlk h (k + 4 + 2 * i) (ws i)) ∧ cnt ≤ 4
theorem Lnd.fr {a b k : Nat} {h h1 : pH} {hs : List Int32} {w : Bool} {ws : Nat → wkr} {cnt : Nat} {nt : Int32} (x : Lnd h k hs w ws cnt nt) (m : Sm a b h h1) (hk : k + 12 ≤ a ∨ b ≤ k) : Lnd h1 k hs w ws cnt nt := ⟨by rw [m k (by omega)]; exact x.1, x.2.1.fr m (by omega), by rw [m (k + 3) (by omega)]; exact x.2.2.1, fun i hi => (x.2.2.2.1 i hi).fr m (by omega), x.2.2.2.2⟩
theorem ald_at {h : pH} {a i t n : Nat} {rs : List (Option Nat)} (ha : h[a]? = some (.inr (.inl (t, rs)))) (ht : t < 2) (hi : i < 2 ^ 31) (hr : rs[i]? = some (some n)) : ald h a (nI i) = some (.ref n) := by
  unfold ald
  rw [ha]
  simp only [nI_clamp hi, nI_pos hi, false_or]
  rw [if_neg (by omega), hr]
  rfl
theorem Lnd.ald {h : pH} {k i : Nat} {hs : List Int32} {w : Bool} {ws : Nat → wkr} {cnt : Nat} {nt : Int32} (x : Lnd h k hs w ws cnt nt) (hi : i < 4) : ald h (k + 3) (nI i) = some (.ref (k + 4 + 2 * i)) := by
  refine ald_at x.2.2.1 (by decide) (by omega) ?_
  match i, hi with
  | 0, _ => rfl
  | 1, _ => rfl
  | 2, _ => rfl
  | 3, _ => rfl
def lndC (k cnt : Nat) (nt : Int32) : pC := .inr (.inr (2, [.ref (k + 1), .ref (k + 3), .int (nI cnt), .int nt]))
theorem Lnd.setC {h : pH} {k : Nat} {hs : List Int32} {w : Bool} {ws : Nat → wkr} {cnt : Nat} {nt : Int32} (x : Lnd h k hs w ws cnt nt) (cnt' : Nat) (nt' : Int32) (hc : cnt' ≤ 4) : Lnd (h.set k (lndC k cnt' nt')) k hs w ws cnt' nt' :=
  ⟨get_set x.1, x.2.1.fr (Sm.set (a := k) (b := k + 1) (by omega) (by omega)) (by omega), by rw [List.getElem?_set_ne (by omega)]; exact x.2.2.1, fun i hi => (x.2.2.2.1 i hi).fr (Sm.set (a := k) (b := k + 1) (by omega) (by omega)) (by omega), hc⟩
theorem Lnd.setS {h h1 : pH} {k : Nat} {hs hs' : List Int32} {w w' : Bool} {ws : Nat → wkr} {cnt : Nat} {nt : Int32} (x : Lnd h k hs w ws cnt nt) (m : Sm (k + 1) (k + 3) h h1) (s : Snd h1 (k + 1) hs' w') : Lnd h1 k hs' w' ws cnt nt :=
  ⟨by rw [m k (by omega)]; exact x.1, s, by rw [m (k + 3) (by omega)]; exact x.2.2.1, fun i hi => (x.2.2.2.1 i hi).fr m (by omega), x.2.2.2.2⟩
def upw (ws : Nat → wkr) (n : Nat) (q : wkr) : Nat → wkr := fun i => if i = n then q else ws i
theorem Lnd.setW {h h1 : pH} {k n : Nat} {hs : List Int32} {w : Bool} {ws : Nat → wkr} {cnt : Nat} {nt : Int32} {q : wkr} (x : Lnd h k hs w ws cnt nt) (hn : n < 4) (m : Sm (k + 4 + 2 * n) (k + 6 + 2 * n) h h1) (s : Wlk h1 (k + 4 + 2 * n) q) : Lnd h1 k hs w (upw ws n q) cnt nt :=
  ⟨by rw [m k (by omega)]; exact x.1, x.2.1.fr m (by omega), by rw [m (k + 3) (by omega)]; exact x.2.2.1, fun i hi => by
    by_cases e : i = n
    · subst e; simp only [upw, if_true]; exact s
    · simp only [upw, if_neg e]; exact (x.2.2.2.1 i hi).fr m (by omega), x.2.2.2.2⟩
theorem c_empty (d : Nat) {h : pH} {k : Nat} {hs : List Int32} {w : Bool} {ws : Nat → wkr} {cnt : Nat} {nt : Int32} (x : Lnd h k hs w ws cnt nt) : Cl (d + 1) 7 [.ref k] h none (h.set k (lndC k 0 0)) := by
  refine Cl_o 1 rfl [some (.ref k)] rfl rfl ?_
  simp only [r7_0, r7_1, r7_2, r7_5, r7_6, r7_7, r7_10, List.length_cons, List.length_nil, Nat.reduceAdd, Nat.reduceLT, if_true, l10, l01, l20, l21, l02, l12, List.append_nil, List.getElem?_cons_zero, List.getElem?_cons_succ, List.set_cons_zero, List.set_cons_succ, not_false_eq_true, not_true_eq_false, false_implies, true_implies, forall_const, Classical.not_not, rc0_at, rcI_at, sOK0, sOK1, sOK2, sOK3, sOK4, true_and, and_true, kil, Option.toList_some, Option.toList_none, List.nil_append, List.cons_append, Option.some.injEq, exists_eq_left', Value.int.injEq, Value.ref.injEq, Value.long.injEq, pf_at x.1 (show 2 < 4 by decide), pf_set x.1]
  rfl
theorem c_named (d : Nat) {h : pH} {k i : Nat} {hs : List Int32} {w : Bool} {ws : Nat → wkr} {cnt : Nat} {nt : Int32} (x : Lnd h k hs w ws cnt nt) (hi : i < cnt) : Cl (d + 1) 9 [.ref k, .int (nI i)] h (some (.ref (k + 4 + 2 * i))) h := by
  refine Cl_o 3 rfl [some (.ref k), some (.int (nI i)), none] rfl rfl ?_
  have hc := x.2.2.2.2
  have e1 : (nI cnt ≤ nI i) = False := eq_false (nI_ge hi (by omega))
  simp only [r9_0, r9_1, r9_4, r9_5, r9_6, r9_9, r9_12, r9_13, r9_14, r9_17, r9_18, r9_21, r9_22, r9_23, r9_24, r9_27, r9_28, r9_31, r9_32, r9_33, r9_36, r9_37_n, r9_37, List.length_cons, List.length_nil, Nat.reduceAdd, Nat.reduceLT, if_true, l10, l01, l20, l21, l02, l12, List.append_nil, List.getElem?_cons_zero, List.getElem?_cons_succ, List.set_cons_zero, List.set_cons_succ, not_false_eq_true, not_true_eq_false, false_implies, true_implies, forall_const, Classical.not_not, rc0_at, rcI_at, sOK0, sOK1, sOK2, sOK3, sOK4, true_and, and_true, kil, Option.toList_some, Option.toList_none, List.nil_append, List.cons_append, Option.some.injEq, exists_eq_left', Value.int.injEq, Value.ref.injEq, Value.long.injEq, gf_at x.1, nIneg (show i < 2 ^ 31 by omega), e1, ge4f (show i < 4 by omega), x.ald (show i < 4 by omega)]
theorem c_namedN (d : Nat) {h : pH} {k : Nat} {hs : List Int32} {w : Bool} {ws : Nat → wkr} {cnt : Nat} {nt v : Int32} (x : Lnd h k hs w ws cnt nt) (hv : v < 0 ∨ nI cnt ≤ v) : Cl (d + 1) 9 [.ref k, .int v] h (some .null) h := by
  refine Cl_o 3 rfl [some (.ref k), some (.int v), none] rfl rfl ?_
  simp only [r9_0, r9_1, r9_4, r9_5, r9_6, r9_9, r9_12, r9_13, r9_14, r9_17, r9_18, r9_21, r9_22, r9_23, r9_24, r9_27, r9_28, r9_31, r9_32, r9_33, r9_36, r9_37_n, r9_37, List.length_cons, List.length_nil, Nat.reduceAdd, Nat.reduceLT, if_true, l10, l01, l20, l21, l02, l12, List.append_nil, List.getElem?_cons_zero, List.getElem?_cons_succ, List.set_cons_zero, List.set_cons_succ, not_false_eq_true, not_true_eq_false, false_implies, true_implies, forall_const, Classical.not_not, rc0_at, rcI_at, sOK0, sOK1, sOK2, sOK3, sOK4, true_and, and_true, kil, Option.toList_some, Option.toList_none, List.nil_append, List.cons_append, Option.some.injEq, exists_eq_left', Value.int.injEq, Value.ref.injEq, Value.long.injEq, gf_at x.1]
  by_cases e1 : v < 0
  · simp [e1]
  · have e2 : nI cnt ≤ v := hv.resolve_left e1
    simp [e1, e2]
theorem c_arrive2 (d : Nat) {h : pH} {k n c : Nat} {hs : List Int32} {w : Bool} {ws : Nat → wkr} {cnt : Nat} {nt : Int32} (x : Lnd h k hs w ws cnt nt) (hn : n < 5) (hc : c < 8) : ∃ h', Cl (d + 2) 10 [.ref k, .int (nI n), .int (nI c)] h (some (.int (if cnt < 4 then nI cnt else -104))) h' ∧ Lnd h' k hs w (if cnt < 4 then upw ws cnt (n, c, 0, 0, 0, (ws cnt).2.2.2.2.2) else ws) (if cnt < 4 then cnt + 1 else cnt) nt ∧ Sm k (k + 12) h h' := by
  have hc4 := x.2.2.2.2
  by_cases e : cnt < 4
  · have y := x.2.2.2.1 cnt e
    have z : Lnd (h.set (k + 4 + 2 * cnt) (wlkC (k + 4 + 2 * cnt) (n, c, 0, 0, 0, (ws cnt).2.2.2.2.2))) k hs w (upw ws cnt (n, c, 0, 0, 0, (ws cnt).2.2.2.2.2)) cnt nt := x.setW e (Sm.set (by omega) (by omega)) (y.set rfl ⟨hn, hc, Nat.zero_le _, y.2.2.2.2.2⟩)
    refine ⟨_, ?_, by simp only [e, if_true]; exact z.setC (cnt + 1) nt (by omega), (Sm.set (by omega) (by omega)).tr (Sm.set (by omega) (by omega))⟩
    refine Cl_o 3 rfl [some (.ref k), some (.int (nI n)), some (.int (nI c))] rfl rfl ?_
    have e4 : (nI cnt < 4) = True := eq_true (nI_lt (a := cnt) (b := 4) e (by decide))
    simp only [r10_0, r10_1, r10_4, r10_7, r10_8, r10_11, r10_12, r10_15, r10_17, r10_18, r10_19, r10_22, r10_23, r10_26, r10_27, r10_28, r10_29, r10_32, r10_33, r10_34, r10_37, r10_38, r10_39, r10_42, r10_43, r10_46, r10_47, r10_48, List.length_cons, List.length_nil, Nat.reduceAdd, Nat.reduceLT, if_true, l10, l01, l20, l21, l02, l12, List.append_nil, List.getElem?_cons_zero, List.getElem?_cons_succ, List.set_cons_zero, List.set_cons_succ, not_false_eq_true, not_true_eq_false, false_implies, true_implies, forall_const, Classical.not_not, rc0_at, rcI_at, sOK0, sOK1, sOK2, sOK3, sOK4, true_and, and_true, kil, Option.toList_some, Option.toList_none, List.nil_append, List.cons_append, Option.some.injEq, exists_eq_left', Value.int.injEq, Value.ref.injEq, Value.long.injEq, gf_at x.1, nIneg (show cnt < 2 ^ 31 by omega), ge4f e, e4, x.ald e, rcV_at y.1]
    refine ⟨_, _, c_arrive6 d y, ?_⟩
    simp only [r10_0, r10_1, r10_4, r10_7, r10_8, r10_11, r10_12, r10_15, r10_17, r10_18, r10_19, r10_22, r10_23, r10_26, r10_27, r10_28, r10_29, r10_32, r10_33, r10_34, r10_37, r10_38, r10_39, r10_42, r10_43, r10_46, r10_47, r10_48, List.length_cons, List.length_nil, Nat.reduceAdd, Nat.reduceLT, if_true, l10, l01, l20, l21, l02, l12, List.append_nil, List.getElem?_cons_zero, List.getElem?_cons_succ, List.set_cons_zero, List.set_cons_succ, not_false_eq_true, not_true_eq_false, false_implies, true_implies, forall_const, Classical.not_not, rc0_at, rcI_at, sOK0, sOK1, sOK2, sOK3, sOK4, true_and, and_true, kil, Option.toList_some, Option.toList_none, List.nil_append, List.cons_append, Option.some.injEq, exists_eq_left', Value.int.injEq, Value.ref.injEq, Value.long.injEq, gf_at z.1, pf_at z.1 (show 2 < 4 by decide), gf_set z.1, nI_1, nI_pred, e]
    rfl
  · have e2 : cnt = 4 := by omega
    subst e2
    refine ⟨h, ?_, by simp only [e, if_false]; exact x, Sm.rf⟩
    refine Cl_o 3 rfl [some (.ref k), some (.int (nI n)), some (.int (nI c))] rfl rfl ?_
    have e4 : (nI 4 < 4) = False := eq_false (by decide)
    simp only [r10_0, r10_1, r10_4, r10_7, r10_8, r10_11, r10_12, r10_15, r10_17, r10_18, r10_19, r10_22, r10_23, r10_26, r10_27, r10_28, r10_29, r10_32, r10_33, r10_34, r10_37, r10_38, r10_39, r10_42, r10_43, r10_46, r10_47, r10_48, List.length_cons, List.length_nil, Nat.reduceAdd, Nat.reduceLT, if_true, l10, l01, l20, l21, l02, l12, List.append_nil, List.getElem?_cons_zero, List.getElem?_cons_succ, List.set_cons_zero, List.set_cons_succ, not_false_eq_true, not_true_eq_false, false_implies, true_implies, forall_const, Classical.not_not, rc0_at, rcI_at, sOK0, sOK1, sOK2, sOK3, sOK4, true_and, and_true, kil, Option.toList_some, Option.toList_none, List.nil_append, List.cons_append, Option.some.injEq, exists_eq_left', Value.int.injEq, Value.ref.injEq, Value.long.injEq, gf_at x.1, nIneg (show 4 < 2 ^ 31 by decide), ge4t, e4, e, if_false]
def sto (f : Nat → Int32) : Nat → Nat → Int32 → Int32
  | 0, _, s => s
  | j + 1, i, s => sto f j (i + 1) (s + f i)
theorem lo_walkersAt (d k c : Nat) (hs : List Int32) (w : Bool) (ws : Nat → wkr) (cnt : Nat) (nt : Int32) (h : pH) (x : Lnd h k hs w ws cnt nt) (hc : c < 8) : ∀ (j i : Nat) (s : Int32), i + j = cnt → X 11 (d + 1) (some (.int (sto (fun i => b2i (decide ((ws i).2.1 = c))) j i s))) h 4 [some (.ref k), some (.int (nI c)), some (.int s), some (.int (nI i))] [] h := by
  intro j
  have hc4 := x.2.2.2.2
  induction j with
  | zero =>
    intro i s hi
    have : i = cnt := by omega
    subst this
    rw [r11_4]; simp only [r11_0, r11_1, r11_2, r11_3, r11_5, r11_6, r11_9, r11_12, r11_13, r11_14, r11_17, r11_18, r11_19, r11_22, r11_23, r11_24, r11_27, r11_28, r11_31, r11_32, r11_35, r11_36, r11_39, r11_40, r11_41, r11_44, r11_47, r11_48, List.length_cons, List.length_nil, Nat.reduceAdd, Nat.reduceLT, if_true, l10, l01, l20, l21, l02, l12, List.append_nil, List.getElem?_cons_zero, List.getElem?_cons_succ, List.set_cons_zero, List.set_cons_succ, not_false_eq_true, not_true_eq_false, false_implies, true_implies, forall_const, Classical.not_not, rc0_at, rcI_at, sOK0, sOK1, sOK2, sOK3, sOK4, true_and, and_true, kil, Option.toList_some, Option.toList_none, List.nil_append, List.cons_append, Option.some.injEq, exists_eq_left', Value.int.injEq, Value.ref.injEq, Value.long.injEq, gf_at x.1, Int32.le_refl, sto]
  | succ j ih =>
    intro i s hi
    have hi4 : i < 4 := by omega
    have e : (nI cnt ≤ nI i) = False := eq_false (nI_ge (by omega) (by omega))
    have y := x.2.2.2.1 i hi4
    have y1 := y.1
    unfold wlkC at y1
    have ec : (nI (ws i).2.1 = nI c) = ((ws i).2.1 = c) := propext (nI_eq (by have := y.2.2.2.1; omega) (by omega))
    rw [r11_4]; simp only [r11_0, r11_1, r11_2, r11_3, r11_5, r11_6, r11_9, r11_12, r11_13, r11_14, r11_17, r11_18, r11_19, r11_22, r11_23, r11_24, r11_27, r11_28, r11_31, r11_32, r11_35, r11_36, r11_39, r11_40, r11_41, r11_44, r11_47, r11_48, List.length_cons, List.length_nil, Nat.reduceAdd, Nat.reduceLT, if_true, l10, l01, l20, l21, l02, l12, List.append_nil, List.getElem?_cons_zero, List.getElem?_cons_succ, List.set_cons_zero, List.set_cons_succ, not_false_eq_true, not_true_eq_false, false_implies, true_implies, forall_const, Classical.not_not, rc0_at, rcI_at, sOK0, sOK1, sOK2, sOK3, sOK4, true_and, and_true, kil, Option.toList_some, Option.toList_none, List.nil_append, List.cons_append, Option.some.injEq, exists_eq_left', Value.int.injEq, Value.ref.injEq, Value.long.injEq, gf_at x.1, e, ge4f hi4, x.ald hi4, gf_at y1, ec, nI_1]
    have := ih (i + 1) (s + b2i (decide ((ws i).2.1 = c))) (by omega)
    by_cases z : (ws i).2.1 = c
    · simp only [z, true_implies, false_implies, not_true_eq_false, and_true, true_and]
      refine ⟨_, _, c_asNumber d h true, ?_⟩
      simp only [r11_0, r11_1, r11_2, r11_3, r11_5, r11_6, r11_9, r11_12, r11_13, r11_14, r11_17, r11_18, r11_19, r11_22, r11_23, r11_24, r11_27, r11_28, r11_31, r11_32, r11_35, r11_36, r11_39, r11_40, r11_41, r11_44, r11_47, r11_48, List.length_cons, List.length_nil, Nat.reduceAdd, Nat.reduceLT, if_true, l10, l01, l20, l21, l02, l12, List.append_nil, List.getElem?_cons_zero, List.getElem?_cons_succ, List.set_cons_zero, List.set_cons_succ, not_false_eq_true, not_true_eq_false, false_implies, true_implies, forall_const, Classical.not_not, rc0_at, rcI_at, sOK0, sOK1, sOK2, sOK3, sOK4, true_and, and_true, kil, Option.toList_some, Option.toList_none, List.nil_append, List.cons_append, Option.some.injEq, exists_eq_left', Value.int.injEq, Value.ref.injEq, Value.long.injEq, nI_1]
      simp only [z, decide_true] at this
      unfold sto
      simp only [z, decide_true]
      exact this
    · simp only [z, true_implies, false_implies, not_false_eq_true, and_true, true_and]
      refine ⟨_, _, c_asNumber d h false, ?_⟩
      simp only [r11_0, r11_1, r11_2, r11_3, r11_5, r11_6, r11_9, r11_12, r11_13, r11_14, r11_17, r11_18, r11_19, r11_22, r11_23, r11_24, r11_27, r11_28, r11_31, r11_32, r11_35, r11_36, r11_39, r11_40, r11_41, r11_44, r11_47, r11_48, List.length_cons, List.length_nil, Nat.reduceAdd, Nat.reduceLT, if_true, l10, l01, l20, l21, l02, l12, List.append_nil, List.getElem?_cons_zero, List.getElem?_cons_succ, List.set_cons_zero, List.set_cons_succ, not_false_eq_true, not_true_eq_false, false_implies, true_implies, forall_const, Classical.not_not, rc0_at, rcI_at, sOK0, sOK1, sOK2, sOK3, sOK4, true_and, and_true, kil, Option.toList_some, Option.toList_none, List.nil_append, List.cons_append, Option.some.injEq, exists_eq_left', Value.int.injEq, Value.ref.injEq, Value.long.injEq, nI_1]
      simp only [z, decide_false] at this
      unfold sto
      simp only [z, decide_false]
      exact this
theorem c_walkersAt (d : Nat) {h : pH} {k c : Nat} {hs : List Int32} {w : Bool} {ws : Nat → wkr} {cnt : Nat} {nt : Int32} (x : Lnd h k hs w ws cnt nt) (hc : c < 8) : Cl (d + 2) 11 [.ref k, .int (nI c)] h (some (.int (sto (fun i => b2i (decide ((ws i).2.1 = c))) cnt 0 0))) h := by
  refine Cl_o 4 rfl [some (.ref k), some (.int (nI c)), none, none] rfl rfl ?_
  simp only [r11_0, r11_1, r11_2, r11_3, r11_5, r11_6, r11_9, r11_12, r11_13, r11_14, r11_17, r11_18, r11_19, r11_22, r11_23, r11_24, r11_27, r11_28, r11_31, r11_32, r11_35, r11_36, r11_39, r11_40, r11_41, r11_44, r11_47, r11_48, List.length_cons, List.length_nil, Nat.reduceAdd, Nat.reduceLT, if_true, l10, l01, l20, l21, l02, l12, List.append_nil, List.getElem?_cons_zero, List.getElem?_cons_succ, List.set_cons_zero, List.set_cons_succ, not_false_eq_true, not_true_eq_false, false_implies, true_implies, forall_const, Classical.not_not, rc0_at, rcI_at, sOK0, sOK1, sOK2, sOK3, sOK4, true_and, and_true, kil, Option.toList_some, Option.toList_none, List.nil_append, List.cons_append, Option.some.injEq, exists_eq_left', Value.int.injEq, Value.ref.injEq, Value.long.injEq]
  exact lo_walkersAt d k c hs w ws cnt nt h x hc cnt 0 0 (by omega)
theorem lo_maps (d k : Nat) (hs : List Int32) (w : Bool) (ws : Nat → wkr) (cnt : Nat) (nt : Int32) (h : pH) (x : Lnd h k hs w ws cnt nt) : ∀ (j i : Nat) (s : Int32), i + j = cnt → X 12 (d + 1) (some (.int (sto (fun i => b2i (decide (0 < (ws i).2.2.2.2.1))) j i s))) h 4 [some (.ref k), some (.int s), some (.int (nI i))] [] h := by
  intro j
  have hc4 := x.2.2.2.2
  induction j with
  | zero =>
    intro i s hi
    have : i = cnt := by omega
    subst this
    rw [r12_4]; simp only [r12_0, r12_1, r12_2, r12_3, r12_5, r12_6, r12_9, r12_12, r12_13, r12_14, r12_17, r12_18, r12_19, r12_22, r12_23, r12_24, r12_27, r12_30, r12_31, r12_32, r12_35, r12_38, r12_39, List.length_cons, List.length_nil, Nat.reduceAdd, Nat.reduceLT, if_true, l10, l01, l20, l21, l02, l12, List.append_nil, List.getElem?_cons_zero, List.getElem?_cons_succ, List.set_cons_zero, List.set_cons_succ, not_false_eq_true, not_true_eq_false, false_implies, true_implies, forall_const, Classical.not_not, rc0_at, rcI_at, sOK0, sOK1, sOK2, sOK3, sOK4, true_and, and_true, kil, Option.toList_some, Option.toList_none, List.nil_append, List.cons_append, Option.some.injEq, exists_eq_left', Value.int.injEq, Value.ref.injEq, Value.long.injEq, gf_at x.1, Int32.le_refl, sto]
  | succ j ih =>
    intro i s hi
    have hi4 : i < 4 := by omega
    have e : (nI cnt ≤ nI i) = False := eq_false (nI_ge (by omega) (by omega))
    have y := x.2.2.2.1 i hi4
    have hr : rcV 6 h [Value.ref (k + 4 + 2 * i)] = True := rcV_at (fs := _) y.1
    rw [r12_4]; simp only [r12_0, r12_1, r12_2, r12_3, r12_5, r12_6, r12_9, r12_12, r12_13, r12_14, r12_17, r12_18, r12_19, r12_22, r12_23, r12_24, r12_27, r12_30, r12_31, r12_32, r12_35, r12_38, r12_39, List.length_cons, List.length_nil, Nat.reduceAdd, Nat.reduceLT, if_true, l10, l01, l20, l21, l02, l12, List.append_nil, List.getElem?_cons_zero, List.getElem?_cons_succ, List.set_cons_zero, List.set_cons_succ, not_false_eq_true, not_true_eq_false, false_implies, true_implies, forall_const, Classical.not_not, rc0_at, rcI_at, sOK0, sOK1, sOK2, sOK3, sOK4, true_and, and_true, kil, Option.toList_some, Option.toList_none, List.nil_append, List.cons_append, Option.some.injEq, exists_eq_left', Value.int.injEq, Value.ref.injEq, Value.long.injEq, gf_at x.1, e, ge4f hi4, x.ald hi4, hr]
    refine ⟨_, _, c_hasMap d y, ?_⟩
    simp only [r12_0, r12_1, r12_2, r12_3, r12_5, r12_6, r12_9, r12_12, r12_13, r12_14, r12_17, r12_18, r12_19, r12_22, r12_23, r12_24, r12_27, r12_30, r12_31, r12_32, r12_35, r12_38, r12_39, List.length_cons, List.length_nil, Nat.reduceAdd, Nat.reduceLT, if_true, l10, l01, l20, l21, l02, l12, List.append_nil, List.getElem?_cons_zero, List.getElem?_cons_succ, List.set_cons_zero, List.set_cons_succ, not_false_eq_true, not_true_eq_false, false_implies, true_implies, forall_const, Classical.not_not, rc0_at, rcI_at, sOK0, sOK1, sOK2, sOK3, sOK4, true_and, and_true, kil, Option.toList_some, Option.toList_none, List.nil_append, List.cons_append, Option.some.injEq, exists_eq_left', Value.int.injEq, Value.ref.injEq, Value.long.injEq]
    refine ⟨_, _, c_asNumber d h _, ?_⟩
    simp only [r12_0, r12_1, r12_2, r12_3, r12_5, r12_6, r12_9, r12_12, r12_13, r12_14, r12_17, r12_18, r12_19, r12_22, r12_23, r12_24, r12_27, r12_30, r12_31, r12_32, r12_35, r12_38, r12_39, List.length_cons, List.length_nil, Nat.reduceAdd, Nat.reduceLT, if_true, l10, l01, l20, l21, l02, l12, List.append_nil, List.getElem?_cons_zero, List.getElem?_cons_succ, List.set_cons_zero, List.set_cons_succ, not_false_eq_true, not_true_eq_false, false_implies, true_implies, forall_const, Classical.not_not, rc0_at, rcI_at, sOK0, sOK1, sOK2, sOK3, sOK4, true_and, and_true, kil, Option.toList_some, Option.toList_none, List.nil_append, List.cons_append, Option.some.injEq, exists_eq_left', Value.int.injEq, Value.ref.injEq, Value.long.injEq, nI_1, sto]
    exact ih (i + 1) _ (by omega)
theorem c_maps (d : Nat) {h : pH} {k : Nat} {hs : List Int32} {w : Bool} {ws : Nat → wkr} {cnt : Nat} {nt : Int32} (x : Lnd h k hs w ws cnt nt) : Cl (d + 2) 12 [.ref k] h (some (.int (sto (fun i => b2i (decide (0 < (ws i).2.2.2.2.1))) cnt 0 0))) h := by
  refine Cl_o 3 rfl [some (.ref k), none, none] rfl rfl ?_
  simp only [r12_0, r12_1, r12_2, r12_3, r12_5, r12_6, r12_9, r12_12, r12_13, r12_14, r12_17, r12_18, r12_19, r12_22, r12_23, r12_24, r12_27, r12_30, r12_31, r12_32, r12_35, r12_38, r12_39, List.length_cons, List.length_nil, Nat.reduceAdd, Nat.reduceLT, if_true, l10, l01, l20, l21, l02, l12, List.append_nil, List.getElem?_cons_zero, List.getElem?_cons_succ, List.set_cons_zero, List.set_cons_succ, not_false_eq_true, not_true_eq_false, false_implies, true_implies, forall_const, Classical.not_not, rc0_at, rcI_at, sOK0, sOK1, sOK2, sOK3, sOK4, true_and, and_true, kil, Option.toList_some, Option.toList_none, List.nil_append, List.cons_append, Option.some.injEq, exists_eq_left', Value.int.injEq, Value.ref.injEq, Value.long.injEq]
  exact lo_maps d k hs w ws cnt nt h x cnt 0 0 (by omega)
theorem lo_goodMaps (d k : Nat) (hs : List Int32) (w : Bool) (ws : Nat → wkr) (cnt : Nat) (nt : Int32) (h : pH) (x : Lnd h k hs w ws cnt nt) : ∀ (j i : Nat) (s : Int32), i + j = cnt → X 13 (d + 2) (some (.int (sto (fun i => b2i (good hs (ws i))) j i s))) h 4 [some (.ref k), some (.int s), some (.int (nI i))] [] h := by
  intro j
  have hc4 := x.2.2.2.2
  induction j with
  | zero =>
    intro i s hi
    have : i = cnt := by omega
    subst this
    rw [r13_4]; simp only [r13_0, r13_1, r13_2, r13_3, r13_5, r13_6, r13_9, r13_12, r13_13, r13_14, r13_17, r13_18, r13_19, r13_22, r13_23, r13_24, r13_25, r13_28, r13_31, r13_34, r13_35, r13_36, r13_39, r13_42, r13_43, List.length_cons, List.length_nil, Nat.reduceAdd, Nat.reduceLT, if_true, l10, l01, l20, l21, l02, l12, List.append_nil, List.getElem?_cons_zero, List.getElem?_cons_succ, List.set_cons_zero, List.set_cons_succ, not_false_eq_true, not_true_eq_false, false_implies, true_implies, forall_const, Classical.not_not, rc0_at, rcI_at, sOK0, sOK1, sOK2, sOK3, sOK4, true_and, and_true, kil, Option.toList_some, Option.toList_none, List.nil_append, List.cons_append, Option.some.injEq, exists_eq_left', Value.int.injEq, Value.ref.injEq, Value.long.injEq, gf_at x.1, Int32.le_refl, sto]
  | succ j ih =>
    intro i s hi
    have hi4 : i < 4 := by omega
    have e : (nI cnt ≤ nI i) = False := eq_false (nI_ge (by omega) (by omega))
    have y := x.2.2.2.1 i hi4
    have hr : rcV 6 h [Value.ref (k + 4 + 2 * i), Value.ref (k + 1)] = True := rcV_at (fs := _) y.1
    rw [r13_4]; simp only [r13_0, r13_1, r13_2, r13_3, r13_5, r13_6, r13_9, r13_12, r13_13, r13_14, r13_17, r13_18, r13_19, r13_22, r13_23, r13_24, r13_25, r13_28, r13_31, r13_34, r13_35, r13_36, r13_39, r13_42, r13_43, List.length_cons, List.length_nil, Nat.reduceAdd, Nat.reduceLT, if_true, l10, l01, l20, l21, l02, l12, List.append_nil, List.getElem?_cons_zero, List.getElem?_cons_succ, List.set_cons_zero, List.set_cons_succ, not_false_eq_true, not_true_eq_false, false_implies, true_implies, forall_const, Classical.not_not, rc0_at, rcI_at, sOK0, sOK1, sOK2, sOK3, sOK4, true_and, and_true, kil, Option.toList_some, Option.toList_none, List.nil_append, List.cons_append, Option.some.injEq, exists_eq_left', Value.int.injEq, Value.ref.injEq, Value.long.injEq, gf_at x.1, e, ge4f hi4, x.ald hi4, hr]
    refine ⟨_, _, c_good d y x.2.1, ?_⟩
    simp only [r13_0, r13_1, r13_2, r13_3, r13_5, r13_6, r13_9, r13_12, r13_13, r13_14, r13_17, r13_18, r13_19, r13_22, r13_23, r13_24, r13_25, r13_28, r13_31, r13_34, r13_35, r13_36, r13_39, r13_42, r13_43, List.length_cons, List.length_nil, Nat.reduceAdd, Nat.reduceLT, if_true, l10, l01, l20, l21, l02, l12, List.append_nil, List.getElem?_cons_zero, List.getElem?_cons_succ, List.set_cons_zero, List.set_cons_succ, not_false_eq_true, not_true_eq_false, false_implies, true_implies, forall_const, Classical.not_not, rc0_at, rcI_at, sOK0, sOK1, sOK2, sOK3, sOK4, true_and, and_true, kil, Option.toList_some, Option.toList_none, List.nil_append, List.cons_append, Option.some.injEq, exists_eq_left', Value.int.injEq, Value.ref.injEq, Value.long.injEq]
    refine ⟨_, _, c_asNumber (d + 1) h _, ?_⟩
    simp only [r13_0, r13_1, r13_2, r13_3, r13_5, r13_6, r13_9, r13_12, r13_13, r13_14, r13_17, r13_18, r13_19, r13_22, r13_23, r13_24, r13_25, r13_28, r13_31, r13_34, r13_35, r13_36, r13_39, r13_42, r13_43, List.length_cons, List.length_nil, Nat.reduceAdd, Nat.reduceLT, if_true, l10, l01, l20, l21, l02, l12, List.append_nil, List.getElem?_cons_zero, List.getElem?_cons_succ, List.set_cons_zero, List.set_cons_succ, not_false_eq_true, not_true_eq_false, false_implies, true_implies, forall_const, Classical.not_not, rc0_at, rcI_at, sOK0, sOK1, sOK2, sOK3, sOK4, true_and, and_true, kil, Option.toList_some, Option.toList_none, List.nil_append, List.cons_append, Option.some.injEq, exists_eq_left', Value.int.injEq, Value.ref.injEq, Value.long.injEq, nI_1, sto]
    exact ih (i + 1) _ (by omega)
theorem c_goodMaps (d : Nat) {h : pH} {k : Nat} {hs : List Int32} {w : Bool} {ws : Nat → wkr} {cnt : Nat} {nt : Int32} (x : Lnd h k hs w ws cnt nt) : Cl (d + 3) 13 [.ref k] h (some (.int (sto (fun i => b2i (good hs (ws i))) cnt 0 0))) h := by
  refine Cl_o 3 rfl [some (.ref k), none, none] rfl rfl ?_
  simp only [r13_0, r13_1, r13_2, r13_3, r13_5, r13_6, r13_9, r13_12, r13_13, r13_14, r13_17, r13_18, r13_19, r13_22, r13_23, r13_24, r13_25, r13_28, r13_31, r13_34, r13_35, r13_36, r13_39, r13_42, r13_43, List.length_cons, List.length_nil, Nat.reduceAdd, Nat.reduceLT, if_true, l10, l01, l20, l21, l02, l12, List.append_nil, List.getElem?_cons_zero, List.getElem?_cons_succ, List.set_cons_zero, List.set_cons_succ, not_false_eq_true, not_true_eq_false, false_implies, true_implies, forall_const, Classical.not_not, rc0_at, rcI_at, sOK0, sOK1, sOK2, sOK3, sOK4, true_and, and_true, kil, Option.toList_some, Option.toList_none, List.nil_append, List.cons_append, Option.some.injEq, exists_eq_left', Value.int.injEq, Value.ref.injEq, Value.long.injEq]
  exact lo_goodMaps d k hs w ws cnt nt h x cnt 0 0 (by omega)
theorem lo_stepsGone (d k : Nat) (hs : List Int32) (w : Bool) (ws : Nat → wkr) (cnt : Nat) (nt : Int32) (h : pH) (x : Lnd h k hs w ws cnt nt) : ∀ (j i : Nat) (s : Int32), i + j = cnt → X 14 d (some (.int (sto (fun i => (ws i).2.2.1) j i s))) h 4 [some (.ref k), some (.int s), some (.int (nI i))] [] h := by
  intro j
  have hc4 := x.2.2.2.2
  induction j with
  | zero =>
    intro i s hi
    have : i = cnt := by omega
    subst this
    rw [r14_4]; simp only [r14_0, r14_1, r14_2, r14_3, r14_5, r14_6, r14_9, r14_12, r14_13, r14_14, r14_17, r14_18, r14_19, r14_22, r14_23, r14_24, r14_27, r14_28, r14_29, r14_32, r14_35, r14_36, List.length_cons, List.length_nil, Nat.reduceAdd, Nat.reduceLT, if_true, l10, l01, l20, l21, l02, l12, List.append_nil, List.getElem?_cons_zero, List.getElem?_cons_succ, List.set_cons_zero, List.set_cons_succ, not_false_eq_true, not_true_eq_false, false_implies, true_implies, forall_const, Classical.not_not, rc0_at, rcI_at, sOK0, sOK1, sOK2, sOK3, sOK4, true_and, and_true, kil, Option.toList_some, Option.toList_none, List.nil_append, List.cons_append, Option.some.injEq, exists_eq_left', Value.int.injEq, Value.ref.injEq, Value.long.injEq, gf_at x.1, Int32.le_refl, sto]
  | succ j ih =>
    intro i s hi
    have hi4 : i < 4 := by omega
    have e : (nI cnt ≤ nI i) = False := eq_false (nI_ge (by omega) (by omega))
    have y := x.2.2.2.1 i hi4
    have y1 := y.1
    unfold wlkC at y1
    rw [r14_4]; simp only [r14_0, r14_1, r14_2, r14_3, r14_5, r14_6, r14_9, r14_12, r14_13, r14_14, r14_17, r14_18, r14_19, r14_22, r14_23, r14_24, r14_27, r14_28, r14_29, r14_32, r14_35, r14_36, List.length_cons, List.length_nil, Nat.reduceAdd, Nat.reduceLT, if_true, l10, l01, l20, l21, l02, l12, List.append_nil, List.getElem?_cons_zero, List.getElem?_cons_succ, List.set_cons_zero, List.set_cons_succ, not_false_eq_true, not_true_eq_false, false_implies, true_implies, forall_const, Classical.not_not, rc0_at, rcI_at, sOK0, sOK1, sOK2, sOK3, sOK4, true_and, and_true, kil, Option.toList_some, Option.toList_none, List.nil_append, List.cons_append, Option.some.injEq, exists_eq_left', Value.int.injEq, Value.ref.injEq, Value.long.injEq, gf_at x.1, e, ge4f hi4, x.ald hi4, gf_at y1, nI_1, sto]
    exact ih (i + 1) _ (by omega)
theorem c_stepsGone (d : Nat) {h : pH} {k : Nat} {hs : List Int32} {w : Bool} {ws : Nat → wkr} {cnt : Nat} {nt : Int32} (x : Lnd h k hs w ws cnt nt) : Cl (d + 1) 14 [.ref k] h (some (.int (sto (fun i => (ws i).2.2.1) cnt 0 0))) h := by
  refine Cl_o 3 rfl [some (.ref k), none, none] rfl rfl ?_
  simp only [r14_0, r14_1, r14_2, r14_3, r14_5, r14_6, r14_9, r14_12, r14_13, r14_14, r14_17, r14_18, r14_19, r14_22, r14_23, r14_24, r14_27, r14_28, r14_29, r14_32, r14_35, r14_36, List.length_cons, List.length_nil, Nat.reduceAdd, Nat.reduceLT, if_true, l10, l01, l20, l21, l02, l12, List.append_nil, List.getElem?_cons_zero, List.getElem?_cons_succ, List.set_cons_zero, List.set_cons_succ, not_false_eq_true, not_true_eq_false, false_implies, true_implies, forall_const, Classical.not_not, rc0_at, rcI_at, sOK0, sOK1, sOK2, sOK3, sOK4, true_and, and_true, kil, Option.toList_some, Option.toList_none, List.nil_append, List.cons_append, Option.some.injEq, exists_eq_left', Value.int.injEq, Value.ref.injEq, Value.long.injEq]
  exact lo_stepsGone d k hs w ws cnt nt h x cnt 0 0 (by omega)
def cpw (ws ws2 : Nat → wkr) (i : Nat) : Nat → wkr := fun n => if n < i then ws n else ws2 n
theorem lo_copy2 (d k k2 : Nat) (hs hs2 : List Int32) (w w2 : Bool) (ws2 : Nat → wkr) (cnt cnt2 : Nat) (nt nt2 : Int32) (hk : k + 12 ≤ k2 ∨ k2 + 12 ≤ k) : ∀ (j i : Nat) (ws : Nat → wkr) (h : pH), i + j = 4 → Lnd h k hs w ws cnt nt → Lnd h k2 hs2 w2 ws2 cnt2 nt2 → ∃ h', X 8 (d + 2) none h' 29 [some (.ref k), some (.ref k2), some (.int (nI i))] [] h ∧ Lnd h' k hs w (cpw ws ws2 i) cnt nt ∧ Sm k (k + 12) h h' := by
  intro j
  induction j with
  | zero =>
    intro i ws h hi x y
    have : i = 4 := by omega
    subst this
    refine ⟨h, ?_, ⟨x.1, x.2.1, x.2.2.1, fun i hi => by simp only [cpw, hi, if_true]; exact x.2.2.2.1 i hi, x.2.2.2.2⟩, Sm.rf⟩
    rw [r8_29]; simp only [r8_0, r8_1, r8_4, r8_5, r8_8, r8_11, r8_12, r8_13, r8_16, r8_19, r8_20, r8_21, r8_24, r8_27, r8_28, r8_30, r8_31, r8_34, r8_35, r8_38, r8_39, r8_40, r8_41, r8_44, r8_45, r8_46, r8_49, r8_52, r8_55, List.length_cons, List.length_nil, Nat.reduceAdd, Nat.reduceLT, if_true, l10, l01, l20, l21, l02, l12, List.append_nil, List.getElem?_cons_zero, List.getElem?_cons_succ, List.set_cons_zero, List.set_cons_succ, not_false_eq_true, not_true_eq_false, false_implies, true_implies, forall_const, Classical.not_not, rc0_at, rcI_at, sOK0, sOK1, sOK2, sOK3, sOK4, true_and, and_true, kil, Option.toList_some, Option.toList_none, List.nil_append, List.cons_append, Option.some.injEq, exists_eq_left', Value.int.injEq, Value.ref.injEq, Value.long.injEq, ge4t]
  | succ j ih =>
    intro i ws h hi x y
    have hi4 : i < 4 := by omega
    have x4 := x.2.2.2.1 i hi4
    have y4 := y.2.2.2.1 i hi4
    have hr : rcV 6 h [Value.ref (k + 4 + 2 * i), Value.ref (k2 + 4 + 2 * i)] = True := rcV_at (fs := _) x4.1
    have m : Sm (k + 4 + 2 * i) (k + 6 + 2 * i) h ((h.set (k + 4 + 2 * i) (wlkC (k + 4 + 2 * i) (ws2 i))).set (k + 4 + 2 * i + 1) (.inl (ws2 i).2.2.2.2.2)) := (Sm.set (by omega) (by omega)).tr (Sm.set (by omega) (by omega))
    have x' := x.setW hi4 m (q := ws2 i) ⟨by rw [List.getElem?_set_ne (by omega)]; exact get_set x4.1, get_set (by rw [List.getElem?_set_ne (by omega)]; exact x4.2.1), y4.2.2⟩
    obtain ⟨h', r1, r2, r3⟩ := ih (i + 1) _ _ (by omega) x' (y.fr m (by omega))
    refine ⟨h', ?_, ?_, (m.mono (by omega) (by omega)).tr r3⟩
    · rw [r8_29]; simp only [r8_0, r8_1, r8_4, r8_5, r8_8, r8_11, r8_12, r8_13, r8_16, r8_19, r8_20, r8_21, r8_24, r8_27, r8_28, r8_30, r8_31, r8_34, r8_35, r8_38, r8_39, r8_40, r8_41, r8_44, r8_45, r8_46, r8_49, r8_52, r8_55, List.length_cons, List.length_nil, Nat.reduceAdd, Nat.reduceLT, if_true, l10, l01, l20, l21, l02, l12, List.append_nil, List.getElem?_cons_zero, List.getElem?_cons_succ, List.set_cons_zero, List.set_cons_succ, not_false_eq_true, not_true_eq_false, false_implies, true_implies, forall_const, Classical.not_not, rc0_at, rcI_at, sOK0, sOK1, sOK2, sOK3, sOK4, true_and, and_true, kil, Option.toList_some, Option.toList_none, List.nil_append, List.cons_append, Option.some.injEq, exists_eq_left', Value.int.injEq, Value.ref.injEq, Value.long.injEq, ge4f hi4, gf_at x.1, gf_at y.1, x.ald hi4, y.ald hi4, hr]
      refine ⟨_, _, c_copy6 (d + 1) x4 y4 (by omega), ?_⟩
      simp only [r8_0, r8_1, r8_4, r8_5, r8_8, r8_11, r8_12, r8_13, r8_16, r8_19, r8_20, r8_21, r8_24, r8_27, r8_28, r8_30, r8_31, r8_34, r8_35, r8_38, r8_39, r8_40, r8_41, r8_44, r8_45, r8_46, r8_49, r8_52, r8_55, List.length_cons, List.length_nil, Nat.reduceAdd, Nat.reduceLT, if_true, l10, l01, l20, l21, l02, l12, List.append_nil, List.getElem?_cons_zero, List.getElem?_cons_succ, List.set_cons_zero, List.set_cons_succ, not_false_eq_true, not_true_eq_false, false_implies, true_implies, forall_const, Classical.not_not, rc0_at, rcI_at, sOK0, sOK1, sOK2, sOK3, sOK4, true_and, and_true, kil, Option.toList_some, Option.toList_none, List.nil_append, List.cons_append, Option.some.injEq, exists_eq_left', Value.int.injEq, Value.ref.injEq, Value.long.injEq, nI_1]
      exact r1
    · have e : cpw (upw ws i (ws2 i)) ws2 (i + 1) = cpw ws ws2 i := by
        funext n
        unfold cpw upw
        by_cases e1 : n < i
        · rw [if_pos (by omega), if_neg (by omega), if_pos e1]
        · by_cases e2 : n = i
          · subst e2; rw [if_pos (by omega), if_pos rfl, if_neg e1]
          · rw [if_neg (by omega), if_neg e1]
      rw [e] at r2
      exact r2
theorem c_copy2 (d : Nat) {h : pH} {k k2 : Nat} {hs hs2 : List Int32} {w w2 : Bool} {ws ws2 : Nat → wkr} {cnt cnt2 : Nat} {nt nt2 : Int32} (x : Lnd h k hs w ws cnt nt) (y : Lnd h k2 hs2 w2 ws2 cnt2 nt2) (hk : k + 12 ≤ k2 ∨ k2 + 12 ≤ k) : ∃ h', Cl (d + 3) 8 [.ref k, .ref k2] h none h' ∧ Lnd h' k hs2 w2 ws2 cnt2 nt2 ∧ Sm k (k + 12) h h' := by
  have m1 : Sm (k + 1) (k + 3) h (sndH h (k + 1) hs2 w2) := sndH_sm h (k + 1) hs2 w2
  have x1 := x.setS m1 (sndH_snd x.2.1 y.2.1.2.2)
  have y1 := y.fr m1 (by omega)
  have m2 : Sm k (k + 1) (sndH h (k + 1) hs2 w2) ((sndH h (k + 1) hs2 w2).set k (lndC k cnt2 nt2)) := Sm.set (by omega) (by omega)
  have x2 := x1.setC cnt2 nt2 y.2.2.2.2
  have y2 := y1.fr m2 (by omega)
  obtain ⟨h', r1, r2, r3⟩ := lo_copy2 d k k2 hs2 hs2 w2 w2 ws2 cnt2 cnt2 nt2 nt2 hk 4 0 ws _ rfl x2 y2
  refine ⟨h', ?_, ?_, ((m1.mono (by omega) (by omega)).tr (m2.mono (by omega) (by omega))).tr r3⟩
  · refine Cl_o 3 rfl [some (.ref k), some (.ref k2), none] rfl rfl ?_
    simp only [r8_0, r8_1, r8_4, r8_5, r8_8, r8_11, r8_12, r8_13, r8_16, r8_19, r8_20, r8_21, r8_24, r8_27, r8_28, r8_30, r8_31, r8_34, r8_35, r8_38, r8_39, r8_40, r8_41, r8_44, r8_45, r8_46, r8_49, r8_52, r8_55, List.length_cons, List.length_nil, Nat.reduceAdd, Nat.reduceLT, if_true, l10, l01, l20, l21, l02, l12, List.append_nil, List.getElem?_cons_zero, List.getElem?_cons_succ, List.set_cons_zero, List.set_cons_succ, not_false_eq_true, not_true_eq_false, false_implies, true_implies, forall_const, Classical.not_not, rc0_at, rcI_at, sOK0, sOK1, sOK2, sOK3, sOK4, true_and, and_true, kil, Option.toList_some, Option.toList_none, List.nil_append, List.cons_append, Option.some.injEq, exists_eq_left', Value.int.injEq, Value.ref.injEq, Value.long.injEq, gf_at x.1, gf_at y.1, rcV_at x.2.1.1]
    refine ⟨_, _, c_copyFrom d x.2.1 y.2.1 (by omega), ?_⟩
    have hn : k ≠ k2 := by omega
    simp only [r8_0, r8_1, r8_4, r8_5, r8_8, r8_11, r8_12, r8_13, r8_16, r8_19, r8_20, r8_21, r8_24, r8_27, r8_28, r8_30, r8_31, r8_34, r8_35, r8_38, r8_39, r8_40, r8_41, r8_44, r8_45, r8_46, r8_49, r8_52, r8_55, List.length_cons, List.length_nil, Nat.reduceAdd, Nat.reduceLT, if_true, l10, l01, l20, l21, l02, l12, List.append_nil, List.getElem?_cons_zero, List.getElem?_cons_succ, List.set_cons_zero, List.set_cons_succ, not_false_eq_true, not_true_eq_false, false_implies, true_implies, forall_const, Classical.not_not, rc0_at, rcI_at, sOK0, sOK1, sOK2, sOK3, sOK4, true_and, and_true, kil, Option.toList_some, Option.toList_none, List.nil_append, List.cons_append, Option.some.injEq, exists_eq_left', Value.int.injEq, Value.ref.injEq, Value.long.injEq, gf_at y1.1, pf_at x1.1 (show 2 < 4 by decide), gf_ne hn, pf_set x1.1]
    exact r1
  · have e : cpw ws ws2 0 = ws2 := by funext n; simp [cpw]
    rw [e] at r2
    exact r2
