theorem whoF_gen (w : Bool) (bef now : List Int32) : ∀ (l : List Nat) (k f : Int32), (∀ c ∈ l, c < 640) → whoF w bef now l (k, f) = (k + (whoF w bef now l (0, -1)).1, if f = -1 then (whoF w bef now l (0, -1)).2 else f)
  | [], k, f, _ => by
    by_cases e : f = -1 <;> simp [whoF, e]
  | c :: l, k, f, h => by
    have hc : c < 640 := h c List.mem_cons_self
    have n1 : ¬ nI c = -1 := fun z => absurd (z ▸ nI_pos' (show c < 2 ^ 31 by omega) : (0 : Int32) ≤ -1) (by decide)
    have hl : ∀ c ∈ l, c < 640 := fun c hc => h c (List.mem_cons_of_mem _ hc)
    show whoF w bef now l (wup c (isW w bef now c) (k, f)) = (k + (whoF w bef now l (wup c (isW w bef now c) (0, -1))).1, if f = -1 then (whoF w bef now l (wup c (isW w bef now c) (0, -1))).2 else f)
    unfold wup
    cases isW w bef now c with
    | false => exact whoF_gen w bef now l k f hl
    | true =>
      simp only [if_true]
      rw [whoF_gen w bef now l (k + 1) _ hl, whoF_gen w bef now l (0 + 1) _ hl]
      by_cases e : f = -1
      · simp only [e, if_true, n1, if_false]
        rw [Int32.add_assoc, Int32.zero_add]
      · simp only [e, if_false, n1]
        rw [Int32.add_assoc, Int32.zero_add]
theorem whoF_cons (w : Bool) (bef now : List Int32) (c : Nat) (l : List Nat) (h : ∀ c ∈ l, c < 640) (hc : c < 640) : whoF w bef now (c :: l) (0, -1) = if isW w bef now c then ((whoF w bef now l (0, -1)).1 + 1, nI c) else whoF w bef now l (0, -1) := by
  have n1 : ¬ nI c = -1 := fun z => absurd (z ▸ nI_pos' (show c < 2 ^ 31 by omega) : (0 : Int32) ≤ -1) (by decide)
  show whoF w bef now l (wup c (isW w bef now c) (0, -1)) = _
  unfold wup
  cases isW w bef now c with
  | false => rfl
  | true =>
    simp only [if_true]
    rw [whoF_gen w bef now l (0 + 1) _ h, if_neg n1, Int32.zero_add, Int32.add_comm]
theorem dv16 {c : Nat} (h : c < 640) : nI c / 16 = nI (c / 16) := pk_div (d := 16) (by omega) (by decide) (by decide)
theorem dv8 {c : Nat} (h : c < 640) : nI c / 8 = nI (c / 8) := pk_div (d := 8) (by omega) (by decide) (by decide)
theorem dv128 {c : Nat} (h : c < 640) : nI c / 128 = nI (c / 128) := pk_div (d := 128) (by omega) (by decide) (by decide)
theorem rm8 {c : Nat} (h : c < 640) : nI c - nI (c / 8) * 8 = nI (c % 8) := by
  have := pk_rem (a := c) (d := 8) (by omega) (by decide) (by decide)
  rw [pk_div (d := 8) (by omega) (by decide) (by decide)] at this
  exact this
theorem rm16 {c : Nat} (h : c < 640) : nI (c / 16) - nI (c / 16) / 8 * 8 = nI (c / 16 % 8) := pk_rem (a := c / 16) (d := 8) (by omega) (by decide) (by decide)
theorem rm2 {c : Nat} (h : c < 640) : nI (c / 8) - nI (c / 8) / 2 * 2 = nI (c / 8 % 2) := pk_rem (a := c / 8) (d := 2) (by omega) (by decide) (by decide)
theorem nz16 : ¬ (16 : Int32) = 0 := by decide
theorem nz128 : ¬ (128 : Int32) = 0 := by decide
section M59
variable {h : pH} {n : Nat} {hd w : Bool} {nt : Int32} {tr : Nat} {hb : Bool} {cnt : Nat} {wm sn kd : Int32} {kw : Bool} {kn : Int32} {kc : Nat} {hh : Int64} {cs hs bf rs ms th wh od bo khs krs kms : List Int32}
theorem lo_isAsNow (d : Nat) (a : Mh h (mcs (mO n hd w nt tr hb cnt wm sn kd kw kn kc hh) cs hs bf rs ms th wh od bo khs krs kms)) (l3 : hs.length = 8) (t1 : th.length = 8) : ∀ (j i : Nat) (b : Bool), i + j = 8 → X 131 d (some (.int (b2i (b && decide (th.drop i = hs.drop i))))) h 4 [some (.ref 66), some (.int (b2i b)), some (.int (nI i))] [] h := by
  have g0 := a.g0
  dsimp only [mO] at g0
  intro j
  induction j with
  | zero =>
    intro i b hi
    have : i = 8 := by omega
    subst this
    rw [List.drop_of_length_le (by omega), List.drop_of_length_le (by omega)]
    rw [r131_4]; simp only [r131_0, r131_1, r131_2, r131_3, r131_5, r131_7, r131_10, r131_11, r131_14, r131_15, r131_18, r131_19, r131_20, r131_21, r131_24, r131_25, r131_26, r131_29, r131_30, r131_33, r131_34, r131_35, r131_38, r131_41, r131_42, List.length_cons, List.length_nil, Nat.reduceAdd, Nat.reduceLT, if_true, l10, l01, l20, l21, l02, l12, List.append_nil, List.getElem?_cons_zero, List.getElem?_cons_succ, List.set_cons_zero, List.set_cons_succ, not_false_eq_true, not_true_eq_false, false_implies, true_implies, forall_const, Classical.not_not, rc0_at, rcI_at, sOK0, sOK1, sOK2, sOK3, sOK4, true_and, and_true, kil, Option.toList_some, Option.toList_none, List.nil_append, List.cons_append, Option.some.injEq, exists_eq_left', Value.int.injEq, Value.ref.injEq, Value.long.injEq, ge8t, b2i_01, decide_true, Bool.and_true]
  | succ j ih =>
    intro i b hi
    have hi8 : i < 8 := by omega
    rw [drop_cons (hs := th) (by omega), drop_cons (hs := hs) (by omega)]
    have ih2 := ih (i + 1) (b && decide (hx th i = hx hs i)) (by omega)
    rw [Bool.and_assoc] at ih2
    have e : decide (hx th i :: th.drop (i + 1) = hx hs i :: hs.drop (i + 1)) = (decide (hx th i = hx hs i) && decide (th.drop (i + 1) = hs.drop (i + 1))) := by
      simp [List.cons.injEq]
    rw [e]
    cases b with
    | false =>
      rw [r131_4]; simp only [r131_0, r131_1, r131_2, r131_3, r131_5, r131_7, r131_10, r131_11, r131_14, r131_15, r131_18, r131_19, r131_20, r131_21, r131_24, r131_25, r131_26, r131_29, r131_30, r131_33, r131_34, r131_35, r131_38, r131_41, r131_42, List.length_cons, List.length_nil, Nat.reduceAdd, Nat.reduceLT, if_true, l10, l01, l20, l21, l02, l12, List.append_nil, List.getElem?_cons_zero, List.getElem?_cons_succ, List.set_cons_zero, List.set_cons_succ, not_false_eq_true, not_true_eq_false, false_implies, true_implies, forall_const, Classical.not_not, rc0_at, rcI_at, sOK0, sOK1, sOK2, sOK3, sOK4, true_and, and_true, kil, Option.toList_some, Option.toList_none, List.nil_append, List.cons_append, Option.some.injEq, exists_eq_left', Value.int.injEq, Value.ref.injEq, Value.long.injEq, ge8f hi8, b2i_0, nI_1]
      exact ih2
    | true =>
      by_cases q : hx th i = hx hs i
      · rw [r131_4]; simp only [r131_0, r131_1, r131_2, r131_3, r131_5, r131_7, r131_10, r131_11, r131_14, r131_15, r131_18, r131_19, r131_20, r131_21, r131_24, r131_25, r131_26, r131_29, r131_30, r131_33, r131_34, r131_35, r131_38, r131_41, r131_42, List.length_cons, List.length_nil, Nat.reduceAdd, Nat.reduceLT, if_true, l10, l01, l20, l21, l02, l12, List.append_nil, List.getElem?_cons_zero, List.getElem?_cons_succ, List.set_cons_zero, List.set_cons_succ, not_false_eq_true, not_true_eq_false, false_implies, true_implies, forall_const, Classical.not_not, rc0_at, rcI_at, sOK0, sOK1, sOK2, sOK3, sOK4, true_and, and_true, kil, Option.toList_some, Option.toList_none, List.nil_append, List.cons_append, Option.some.injEq, exists_eq_left', Value.int.injEq, Value.ref.injEq, Value.long.injEq, ge8f hi8, b2i_0, Bool.true_eq_false, gf_at g0, ild8 a.g6 t1 hi8, ild8 a.g2 l3 hi8, q, nI_1]
        rw [decide_eq_true q] at ih2
        rw [decide_true]
        exact ih2
      · rw [r131_4]; simp only [r131_0, r131_1, r131_2, r131_3, r131_5, r131_7, r131_10, r131_11, r131_14, r131_15, r131_18, r131_19, r131_20, r131_21, r131_24, r131_25, r131_26, r131_29, r131_30, r131_33, r131_34, r131_35, r131_38, r131_41, r131_42, List.length_cons, List.length_nil, Nat.reduceAdd, Nat.reduceLT, if_true, l10, l01, l20, l21, l02, l12, List.append_nil, List.getElem?_cons_zero, List.getElem?_cons_succ, List.set_cons_zero, List.set_cons_succ, not_false_eq_true, not_true_eq_false, false_implies, true_implies, forall_const, Classical.not_not, rc0_at, rcI_at, sOK0, sOK1, sOK2, sOK3, sOK4, true_and, and_true, kil, Option.toList_some, Option.toList_none, List.nil_append, List.cons_append, Option.some.injEq, exists_eq_left', Value.int.injEq, Value.ref.injEq, Value.long.injEq, ge8f hi8, b2i_0, Bool.true_eq_false, gf_at g0, ild8 a.g6 t1 hi8, ild8 a.g2 l3 hi8, q, nI_1]
        rw [decide_eq_false q] at ih2
        rw [decide_false]
        exact ih2
theorem c_isAsNow (d : Nat) (a : Mh h (mcs (mO n hd w nt tr hb cnt wm sn kd kw kn kc hh) cs hs bf rs ms th wh od bo khs krs kms)) (l3 : hs.length = 8) (t1 : th.length = 8) : Cl (d + 1) 131 [.ref 66] h (some (.int (b2i (decide (th = hs))))) h := by
  refine Cl_o 3 rfl [some (.ref 66), none, none] rfl rfl ?_
  simp only [r131_0, r131_1, r131_2, r131_3, r131_5, r131_7, r131_10, r131_11, r131_14, r131_15, r131_18, r131_19, r131_20, r131_21, r131_24, r131_25, r131_26, r131_29, r131_30, r131_33, r131_34, r131_35, r131_38, r131_41, r131_42, List.length_cons, List.length_nil, Nat.reduceAdd, Nat.reduceLT, if_true, l10, l01, l20, l21, l02, l12, List.append_nil, List.getElem?_cons_zero, List.getElem?_cons_succ, List.set_cons_zero, List.set_cons_succ, not_false_eq_true, not_true_eq_false, false_implies, true_implies, forall_const, Classical.not_not, rc0_at, rcI_at, sOK0, sOK1, sOK2, sOK3, sOK4, true_and, and_true, kil, Option.toList_some, Option.toList_none, List.nil_append, List.cons_append, Option.some.injEq, exists_eq_left', Value.int.injEq, Value.ref.injEq, Value.long.injEq]
  have := lo_isAsNow d a l3 t1 8 0 true rfl
  rw [List.drop_zero, List.drop_zero, Bool.true_and] at this
  exact this
theorem lo_whoGo (d code : Nat) (hc : code < 640) (v1 v2 v3 : Option Value) (r : Option Value) (h' : pH) : ∀ (j t c : Nat) (th : List Int32) (h : pH) (v7 : Option Value), t + j = code % 8 + 1 → c < 8 → th.length = 8 → Mh h (mcs (mO n hd w nt tr hb cnt wm sn kd kw kn kc hh) cs hs bf rs ms th wh od bo khs krs kms) → (∀ v7, X 132 (d + 2) r h' 86 [some (.ref 66), v1, v2, v3, some (.int (nI code)), some (.int (nI (gos w (nI (code / 8 % 2)) (code / 128) j c th).1)), some (.int (nI (code % 8 + 1))), v7] [] (h.set 72 (.inl (gos w (nI (code / 8 % 2)) (code / 128) j c th).2))) → X 132 (d + 2) r h' 38 [some (.ref 66), v1, v2, v3, some (.int (nI code)), some (.int (nI c)), some (.int (nI t)), v7] [] h := by
  intro j
  induction j with
  | zero =>
    intro t c th h v7 ht hc8 t1 a hk
    have : t = code % 8 + 1 := by omega
    subst this
    have hk2 := hk v7
    unfold gos at hk2
    rw [set_same a.g6] at hk2
    have e : nI (code % 8) < nI (code % 8 + 1) := nI_lt (by omega) (by omega)
    rw [r132_38]
    simp only [r132_40, r132_42, r132_44, r132_45, List.length_cons, List.length_nil, Nat.reduceAdd, Nat.reduceLT, if_true, l10, l01, l20, l21, l02, l12, List.append_nil, List.getElem?_cons_zero, List.getElem?_cons_succ, List.set_cons_zero, List.set_cons_succ, not_false_eq_true, not_true_eq_false, false_implies, true_implies, forall_const, Classical.not_not, rc0_at, rcI_at, sOK0, sOK1, sOK2, sOK3, sOK4, true_and, and_true, kil, Option.toList_some, Option.toList_none, List.nil_append, List.cons_append, Option.some.injEq, exists_eq_left', Value.int.injEq, Value.ref.injEq, Value.long.injEq, dv8 hc, rm8 hc, e, n80]
    exact hk2
  | succ j ih =>
    intro t c th h v7 ht hc8 t1 a hk
    have g0 := a.g0
    dsimp only [mO] at g0
    have e : ¬ nI (code % 8) < nI t := nI_nlt (by omega) (by omega)
    have hb := bes_lt c (nI (code / 8 % 2))
    have a1 := a.s6 (trd th w (bes c (nI (code / 8 % 2))) (code / 128)).2
    have hn : code / 128 < 5 := by omega
    have ih2 := ih (t + 1) (bes c (nI (code / 8 % 2))) (trd th w (bes c (nI (code / 8 % 2))) (code / 128)).2 _ (some (.int (trd th w (bes c (nI (code / 8 % 2))) (code / 128)).1)) (by omega) hb (by rw [trd_len]; exact t1) a1 (fun v7 => by
      rw [List.set_set]
      exact hk v7)
    rw [r132_38]
    simp only [r132_40, r132_42, r132_44, r132_45, r132_48, r132_50, r132_52, r132_54, r132_55, r132_56, r132_57, List.length_cons, List.length_nil, Nat.reduceAdd, Nat.reduceLT, if_true, l10, l01, l20, l21, l02, l12, List.append_nil, List.getElem?_cons_zero, List.getElem?_cons_succ, List.set_cons_zero, List.set_cons_succ, not_false_eq_true, not_true_eq_false, false_implies, true_implies, forall_const, Classical.not_not, rc0_at, rcI_at, sOK0, sOK1, sOK2, sOK3, sOK4, true_and, and_true, kil, Option.toList_some, Option.toList_none, List.nil_append, List.cons_append, Option.some.injEq, exists_eq_left', Value.int.injEq, Value.ref.injEq, Value.long.injEq, dv8 hc, rm8 hc, rm2 hc, e, n80]
    refine ⟨_, _, c_stepTo (d + 1) h hc8 _, ?_⟩
    simp only [r132_60, r132_62, r132_63, r132_64, r132_67, r132_69, r132_71, r132_74, r132_75, List.length_cons, List.length_nil, Nat.reduceAdd, Nat.reduceLT, if_true, l10, l01, l20, l21, l02, l12, List.append_nil, List.getElem?_cons_zero, List.getElem?_cons_succ, List.set_cons_zero, List.set_cons_succ, not_false_eq_true, not_true_eq_false, false_implies, true_implies, forall_const, Classical.not_not, rc0_at, rcI_at, sOK0, sOK1, sOK2, sOK3, sOK4, true_and, and_true, kil, Option.toList_some, Option.toList_none, List.nil_append, List.cons_append, Option.some.injEq, exists_eq_left', Value.int.injEq, Value.ref.injEq, Value.long.injEq, dv128 hc, nz128, gf_at g0, rcV_at g0]
    refine ⟨_, _, c_treads d (show (72 : Nat) ≠ 66 by decide) a.g0 (w := w) rfl t1 a.g6 hb hn, ?_⟩
    simp only [r132_78, r132_80, r132_83, List.length_cons, List.length_nil, Nat.reduceAdd, Nat.reduceLT, if_true, l10, l01, l20, l21, l02, l12, List.append_nil, List.getElem?_cons_zero, List.getElem?_cons_succ, List.set_cons_zero, List.set_cons_succ, not_false_eq_true, not_true_eq_false, false_implies, true_implies, forall_const, Classical.not_not, rc0_at, rcI_at, sOK0, sOK1, sOK2, sOK3, sOK4, true_and, and_true, kil, Option.toList_some, Option.toList_none, List.nil_append, List.cons_append, Option.some.injEq, exists_eq_left', Value.int.injEq, Value.ref.injEq, Value.long.injEq, nI_1]
    exact ih2
theorem lo_whoM (d : Nat) (what : Int32) (l3 : hs.length = 8) (l9 : bf.length = 8) : ∀ (j : Nat) (th : List Int32) (h : pH), j ≤ 640 → th.length = 8 → Mh h (mcs (mO n hd w nt tr hb cnt wm sn kd kw kn kc hh) cs hs bf rs ms th wh od bo khs krs kms) → ∃ th', th'.length = 8 ∧ ∀ v5 v6 v7, X 132 (d + 2) (some (.int (if what = 0 then (whoS w bf hs).1 else (whoS w bf hs).2))) (h.set 72 (.inl th')) 9 [some (.ref 66), some (.int what), some (.int (whoF w bf hs (List.range' j (640 - j)) (0, -1)).1), some (.int (whoF w bf hs (List.range' j (640 - j)) (0, -1)).2), some (.int (nI j - 1)), v5, v6, v7] [] h := by
  intro j
  induction j with
  | zero =>
    intro th h hj t1 a
    refine ⟨th, t1, fun v5 v6 v7 => ?_⟩
    rw [set_same a.g6]
    have e : nI 0 - 1 < 0 := by decide
    unfold whoS
    by_cases q : what = 0
    · rw [r132_9]; simp only [r132_0, r132_1, r132_2, r132_3, r132_4, r132_7, r132_11, r132_14, r132_15, r132_18, r132_19, r132_22, r132_25, r132_27, r132_29, r132_30, r132_32, r132_33, r132_35, r132_36, r132_40, r132_42, r132_44, r132_45, r132_48, r132_50, r132_52, r132_54, r132_55, r132_56, r132_57, r132_60, r132_62, r132_63, r132_64, r132_67, r132_69, r132_71, r132_74, r132_75, r132_78, r132_80, r132_83, r132_86, r132_87, r132_90, r132_92, r132_93, r132_95, r132_98, r132_99, r132_102, r132_103, r132_104, r132_105, r132_107, r132_110, r132_112, r132_115, r132_116, r132_117, r132_120, r132_123, r132_124, r132_127, r132_128, r132_131, r132_132, List.length_cons, List.length_nil, Nat.reduceAdd, Nat.reduceLT, if_true, l10, l01, l20, l21, l02, l12, List.append_nil, List.getElem?_cons_zero, List.getElem?_cons_succ, List.set_cons_zero, List.set_cons_succ, not_false_eq_true, not_true_eq_false, false_implies, true_implies, forall_const, Classical.not_not, rc0_at, rcI_at, sOK0, sOK1, sOK2, sOK3, sOK4, true_and, and_true, kil, Option.toList_some, Option.toList_none, List.nil_append, List.cons_append, Option.some.injEq, exists_eq_left', Value.int.injEq, Value.ref.injEq, Value.long.injEq, e, q]
    · rw [r132_9]; simp only [r132_0, r132_1, r132_2, r132_3, r132_4, r132_7, r132_11, r132_14, r132_15, r132_18, r132_19, r132_22, r132_25, r132_27, r132_29, r132_30, r132_32, r132_33, r132_35, r132_36, r132_40, r132_42, r132_44, r132_45, r132_48, r132_50, r132_52, r132_54, r132_55, r132_56, r132_57, r132_60, r132_62, r132_63, r132_64, r132_67, r132_69, r132_71, r132_74, r132_75, r132_78, r132_80, r132_83, r132_86, r132_87, r132_90, r132_92, r132_93, r132_95, r132_98, r132_99, r132_102, r132_103, r132_104, r132_105, r132_107, r132_110, r132_112, r132_115, r132_116, r132_117, r132_120, r132_123, r132_124, r132_127, r132_128, r132_131, r132_132, List.length_cons, List.length_nil, Nat.reduceAdd, Nat.reduceLT, if_true, l10, l01, l20, l21, l02, l12, List.append_nil, List.getElem?_cons_zero, List.getElem?_cons_succ, List.set_cons_zero, List.set_cons_succ, not_false_eq_true, not_true_eq_false, false_implies, true_implies, forall_const, Classical.not_not, rc0_at, rcI_at, sOK0, sOK1, sOK2, sOK3, sOK4, true_and, and_true, kil, Option.toList_some, Option.toList_none, List.nil_append, List.cons_append, Option.some.injEq, exists_eq_left', Value.int.injEq, Value.ref.injEq, Value.long.injEq, e, q, if_false]
  | succ j ih =>
    intro th h hj t1 a
    have g0 := a.g0
    dsimp only [mO] at g0
    have hc : j < 640 := by omega
    have e1 : nI (j + 1) - 1 = nI j := nI_pred j
    have e2 : nI j + -1 = nI j - 1 := by rw [Int32.sub_eq_add_neg]
    have e3 : ¬ nI j < 0 := nI_pos (by omega)
    have a1 := a.s6 bf
    have k1 := a1.g0
    dsimp only [mO] at k1
    have hl : ∀ c ∈ List.range' (j + 1) (640 - (j + 1)), c < 640 := fun c hc => by
      have := (List.mem_range'_1.mp hc).2
      omega
    have hw : List.range' j (640 - j) = j :: List.range' (j + 1) (640 - (j + 1)) := by
      rw [show 640 - j = (640 - (j + 1)) + 1 by omega, List.range'_succ]
    have a2 := a1.s6 (gos w (nI (j / 8 % 2)) (j / 128) (j % 8 + 1) (j / 16 % 8) bf).2
    rw [List.set_set] at a2
    have k2 := a2.g0
    dsimp only [mO] at k2
    have t2 : (gos w (nI (j / 8 % 2)) (j / 128) (j % 8 + 1) (j / 16 % 8) bf).2.length = 8 := by rw [gos_len]; exact l9
    obtain ⟨th', x2, x1⟩ := ih _ _ (by omega) t2 a2
    rw [List.set_set] at x1
    refine ⟨th', x2, fun v5 v6 v7 => ?_⟩
    rw [e1, r132_9]
    simp only [r132_11, r132_14, r132_15, r132_18, r132_19, r132_22, List.length_cons, List.length_nil, Nat.reduceAdd, Nat.reduceLT, if_true, l10, l01, l20, l21, l02, l12, List.append_nil, List.getElem?_cons_zero, List.getElem?_cons_succ, List.set_cons_zero, List.set_cons_succ, not_false_eq_true, not_true_eq_false, false_implies, true_implies, forall_const, Classical.not_not, rc0_at, rcI_at, sOK0, sOK1, sOK2, sOK3, sOK4, true_and, and_true, kil, Option.toList_some, Option.toList_none, List.nil_append, List.cons_append, Option.some.injEq, exists_eq_left', Value.int.injEq, Value.ref.injEq, Value.long.injEq, e3, gf_at g0]
    refine ⟨_, _, c_copy8 (d + 1) (show (69 : Nat) ≠ 72 by decide) (show bf.length < 2 ^ 31 by omega) (show th.length = bf.length by omega) a.g3 a.g6, ?_⟩
    simp only [r132_25, r132_27, r132_29, r132_30, r132_32, r132_33, r132_35, r132_36, List.length_cons, List.length_nil, Nat.reduceAdd, Nat.reduceLT, if_true, l10, l01, l20, l21, l02, l12, List.append_nil, List.getElem?_cons_zero, List.getElem?_cons_succ, List.set_cons_zero, List.set_cons_succ, not_false_eq_true, not_true_eq_false, false_implies, true_implies, forall_const, Classical.not_not, rc0_at, rcI_at, sOK0, sOK1, sOK2, sOK3, sOK4, true_and, and_true, kil, Option.toList_some, Option.toList_none, List.nil_append, List.cons_append, Option.some.injEq, exists_eq_left', Value.int.injEq, Value.ref.injEq, Value.long.injEq, dv16 hc, rm16 hc, nz16, n80]
    refine lo_whoGo d j hc _ _ _ _ _ (j % 8 + 1) 0 (j / 16 % 8) bf _ _ (Nat.zero_add _) (Nat.mod_lt _ (by decide)) l9 a1 (fun v7 => ?_)
    rw [List.set_set]
    simp only [r132_86, r132_87, List.length_cons, List.length_nil, Nat.reduceAdd, Nat.reduceLT, if_true, l10, l01, l20, l21, l02, l12, List.append_nil, List.getElem?_cons_zero, List.getElem?_cons_succ, List.set_cons_zero, List.set_cons_succ, not_false_eq_true, not_true_eq_false, false_implies, true_implies, forall_const, Classical.not_not, rc0_at, rcI_at, sOK0, sOK1, sOK2, sOK3, sOK4, true_and, and_true, kil, Option.toList_some, Option.toList_none, List.nil_append, List.cons_append, Option.some.injEq, exists_eq_left', Value.int.injEq, Value.ref.injEq, Value.long.injEq, rcV_at k2]
    refine ⟨_, _, c_isAsNow (d + 1) a2 l3 t2, ?_⟩
    have y1 := x1 (some (.int (nI (gos w (nI (j / 8 % 2)) (j / 128) (j % 8 + 1) (j / 16 % 8) bf).1))) (some (.int (b2i (isW w bf hs j)))) v7
    rw [hw, whoF_cons w bf hs j _ hl hc] at y1
    have z0 : ∀ y : Int32, y + 0 = y := fun y => by simp
    by_cases q : (gos w (nI (j / 8 % 2)) (j / 128) (j % 8 + 1) (j / 16 % 8) bf).2 = hs
    · have q2 : isW w bf hs j = true := decide_eq_true q
      rw [q2] at y1
      simp only [q, r132_0, r132_1, r132_2, r132_3, r132_4, r132_7, r132_11, r132_14, r132_15, r132_18, r132_19, r132_22, r132_25, r132_27, r132_29, r132_30, r132_32, r132_33, r132_35, r132_36, r132_40, r132_42, r132_44, r132_45, r132_48, r132_50, r132_52, r132_54, r132_55, r132_56, r132_57, r132_60, r132_62, r132_63, r132_64, r132_67, r132_69, r132_71, r132_74, r132_75, r132_78, r132_80, r132_83, r132_86, r132_87, r132_90, r132_92, r132_93, r132_95, r132_98, r132_99, r132_102, r132_103, r132_104, r132_105, r132_107, r132_110, r132_112, r132_115, r132_116, r132_117, r132_120, r132_123, r132_124, r132_127, r132_128, r132_131, r132_132, List.length_cons, List.length_nil, Nat.reduceAdd, Nat.reduceLT, if_true, l10, l01, l20, l21, l02, l12, List.append_nil, List.getElem?_cons_zero, List.getElem?_cons_succ, List.set_cons_zero, List.set_cons_succ, not_false_eq_true, not_true_eq_false, false_implies, true_implies, forall_const, Classical.not_not, rc0_at, rcI_at, sOK0, sOK1, sOK2, sOK3, sOK4, true_and, and_true, kil, Option.toList_some, Option.toList_none, List.nil_append, List.cons_append, Option.some.injEq, exists_eq_left', Value.int.injEq, Value.ref.injEq, Value.long.injEq, decide_true, b2i_0, Bool.true_eq_false, e2]
      rw [q] at y1
      exact y1
    · have q2 : isW w bf hs j = false := decide_eq_false q
      rw [q2] at y1
      simp only [q, r132_0, r132_1, r132_2, r132_3, r132_4, r132_7, r132_11, r132_14, r132_15, r132_18, r132_19, r132_22, r132_25, r132_27, r132_29, r132_30, r132_32, r132_33, r132_35, r132_36, r132_40, r132_42, r132_44, r132_45, r132_48, r132_50, r132_52, r132_54, r132_55, r132_56, r132_57, r132_60, r132_62, r132_63, r132_64, r132_67, r132_69, r132_71, r132_74, r132_75, r132_78, r132_80, r132_83, r132_86, r132_87, r132_90, r132_92, r132_93, r132_95, r132_98, r132_99, r132_102, r132_103, r132_104, r132_105, r132_107, r132_110, r132_112, r132_115, r132_116, r132_117, r132_120, r132_123, r132_124, r132_127, r132_128, r132_131, r132_132, List.length_cons, List.length_nil, Nat.reduceAdd, Nat.reduceLT, if_true, l10, l01, l20, l21, l02, l12, List.append_nil, List.getElem?_cons_zero, List.getElem?_cons_succ, List.set_cons_zero, List.set_cons_succ, not_false_eq_true, not_true_eq_false, false_implies, true_implies, forall_const, Classical.not_not, rc0_at, rcI_at, sOK0, sOK1, sOK2, sOK3, sOK4, true_and, and_true, kil, Option.toList_some, Option.toList_none, List.nil_append, List.cons_append, Option.some.injEq, exists_eq_left', Value.int.injEq, Value.ref.injEq, Value.long.injEq, decide_false, b2i_0, z0, e2]
      exact y1
theorem c_whoOf (d : Nat) (what : Int32) (a : Mh h (mcs (mO n hd w nt tr hb cnt wm sn kd kw kn kc hh) cs hs bf rs ms th wh od bo khs krs kms)) (l3 : hs.length = 8) (l9 : bf.length = 8) (t1 : th.length = 8) : ∃ th', th'.length = 8 ∧ Cl (d + 3) 132 [.ref 66, .int what] h (some (.int (if what = 0 then (whoS w bf hs).1 else (whoS w bf hs).2))) (h.set 72 (.inl th')) := by
  obtain ⟨th', x1, x2⟩ := lo_whoM d what l3 l9 640 th h (Nat.le_refl _) t1 a
  refine ⟨th', x1, Cl_o 8 rfl [some (.ref 66), some (.int what), none, none, none, none, none, none] rfl rfl ?_⟩
  simp only [r132_0, r132_1, r132_2, r132_3, r132_4, r132_7, r132_11, r132_14, r132_15, r132_18, r132_19, r132_22, r132_25, r132_27, r132_29, r132_30, r132_32, r132_33, r132_35, r132_36, r132_40, r132_42, r132_44, r132_45, r132_48, r132_50, r132_52, r132_54, r132_55, r132_56, r132_57, r132_60, r132_62, r132_63, r132_64, r132_67, r132_69, r132_71, r132_74, r132_75, r132_78, r132_80, r132_83, r132_86, r132_87, r132_90, r132_92, r132_93, r132_95, r132_98, r132_99, r132_102, r132_103, r132_104, r132_105, r132_107, r132_110, r132_112, r132_115, r132_116, r132_117, r132_120, r132_123, r132_124, r132_127, r132_128, r132_131, r132_132, List.length_cons, List.length_nil, Nat.reduceAdd, Nat.reduceLT, if_true, l10, l01, l20, l21, l02, l12, List.append_nil, List.getElem?_cons_zero, List.getElem?_cons_succ, List.set_cons_zero, List.set_cons_succ, not_false_eq_true, not_true_eq_false, false_implies, true_implies, forall_const, Classical.not_not, rc0_at, rcI_at, sOK0, sOK1, sOK2, sOK3, sOK4, true_and, and_true, kil, Option.toList_some, Option.toList_none, List.nil_append, List.cons_append, Option.some.injEq, exists_eq_left', Value.int.injEq, Value.ref.injEq, Value.long.injEq]
  exact x2 none none none
end M59
theorem m_who (d : Nat) {h : pH} {s : stT} (x : MS h s) (st : St s) (what : Int32) : ∃ h', Cl (d + 4) 133 [.ref 66, .int what] h (some (.int (q_who s what).2)) h' ∧ MS h' (q_who s what).1 ∧ Dn h h' := by
  obtain ⟨cs, n, ⟨hs, w, ws, cnt, nt⟩, ⟨khs, kw, kws, kc, kn⟩, bf, hd, hm, hb, tr⟩ := s
  have x' := x
  obtain ⟨wm, sn, kd, hh, rs, ms, th, wh, od, bo, krs, kms, a, ⟨b1, b2⟩, ⟨b3, b4⟩, ⟨t1, t2, t3, t4⟩, b5⟩ := x
  dsimp only at a b1 b2 b3 b4 b5
  obtain ⟨l1, l2, ⟨l3, l4, l5⟩, ⟨l6, l7, l8⟩, l9⟩ := st
  dsimp only at l1 l2 l3 l4 l5 l6 l7 l8 l9
  have g0 := a.g0
  dsimp only [mO] at g0
  have e0 : entL 2 [Value.ref 66, .int what] = [some (.ref 66), some (.int what)] := rfl
  have cw := c_inI (d + 2) h what 0 1 rfl rfl
  rw [in1] at cw
  unfold q_who
  dsimp only
  cases e : ixv what 2
  · rw [e] at cw
    refine ⟨h, Cl_o 2 rfl _ e0 rfl ?_, x', Dn.rf⟩
    simp only [r133_0, r133_1, r133_2, r133_3, r133_4, r133_7, r133_10, r133_12, r133_13, r133_14, r133_17, r133_20, r133_21, r133_22, r133_25, r133_28, r133_30, List.length_cons, List.length_nil, Nat.reduceAdd, Nat.reduceLT, if_true, l10, l01, l20, l21, l02, l12, List.append_nil, List.getElem?_cons_zero, List.getElem?_cons_succ, List.set_cons_zero, List.set_cons_succ, not_false_eq_true, not_true_eq_false, false_implies, true_implies, forall_const, Classical.not_not, rc0_at, rcI_at, sOK0, sOK1, sOK2, sOK3, sOK4, true_and, and_true, kil, Option.toList_some, Option.toList_none, List.nil_append, List.cons_append, Option.some.injEq, exists_eq_left', Value.int.injEq, Value.ref.injEq, Value.long.injEq]
    refine ⟨_, _, cw, ?_⟩
    simp only [r133_0, r133_1, r133_2, r133_3, r133_4, r133_7, r133_10, r133_12, r133_13, r133_14, r133_17, r133_20, r133_21, r133_22, r133_25, r133_28, r133_30, List.length_cons, List.length_nil, Nat.reduceAdd, Nat.reduceLT, if_true, l10, l01, l20, l21, l02, l12, List.append_nil, List.getElem?_cons_zero, List.getElem?_cons_succ, List.set_cons_zero, List.set_cons_succ, not_false_eq_true, not_true_eq_false, false_implies, true_implies, forall_const, Classical.not_not, rc0_at, rcI_at, sOK0, sOK1, sOK2, sOK3, sOK4, true_and, and_true, kil, Option.toList_some, Option.toList_none, List.nil_append, List.cons_append, Option.some.injEq, exists_eq_left', Value.int.injEq, Value.ref.injEq, Value.long.injEq, b2i, Bool.false_eq_true, if_false]
  · rw [e] at cw
    cases hb with
    | false =>
      refine ⟨h, Cl_o 2 rfl _ e0 rfl ?_, x', Dn.rf⟩
      simp only [r133_0, r133_1, r133_2, r133_3, r133_4, r133_7, r133_10, r133_12, r133_13, r133_14, r133_17, r133_20, r133_21, r133_22, r133_25, r133_28, r133_30, List.length_cons, List.length_nil, Nat.reduceAdd, Nat.reduceLT, if_true, l10, l01, l20, l21, l02, l12, List.append_nil, List.getElem?_cons_zero, List.getElem?_cons_succ, List.set_cons_zero, List.set_cons_succ, not_false_eq_true, not_true_eq_false, false_implies, true_implies, forall_const, Classical.not_not, rc0_at, rcI_at, sOK0, sOK1, sOK2, sOK3, sOK4, true_and, and_true, kil, Option.toList_some, Option.toList_none, List.nil_append, List.cons_append, Option.some.injEq, exists_eq_left', Value.int.injEq, Value.ref.injEq, Value.long.injEq]
      refine ⟨_, _, cw, ?_⟩
      simp only [r133_0, r133_1, r133_2, r133_3, r133_4, r133_7, r133_10, r133_12, r133_13, r133_14, r133_17, r133_20, r133_21, r133_22, r133_25, r133_28, r133_30, List.length_cons, List.length_nil, Nat.reduceAdd, Nat.reduceLT, if_true, l10, l01, l20, l21, l02, l12, List.append_nil, List.getElem?_cons_zero, List.getElem?_cons_succ, List.set_cons_zero, List.set_cons_succ, not_false_eq_true, not_true_eq_false, false_implies, true_implies, forall_const, Classical.not_not, rc0_at, rcI_at, sOK0, sOK1, sOK2, sOK3, sOK4, true_and, and_true, kil, Option.toList_some, Option.toList_none, List.nil_append, List.cons_append, Option.some.injEq, exists_eq_left', Value.int.injEq, Value.ref.injEq, Value.long.injEq, b2i, gf_at g0, Bool.false_eq_true, if_false]
    | true =>
      obtain ⟨th', x1, x2⟩ := c_whoOf d what a l3 l9 t1
      refine ⟨_, Cl_o 2 rfl _ e0 rfl ?_, ⟨wm, sn, kd, hh, rs, ms, th', wh, od, bo, krs, kms, a.s6 _, ⟨b1, b2⟩, ⟨b3, b4⟩, ⟨x1, t2, t3, t4⟩, b5⟩, Dn.rf.st (by decide)⟩
      simp only [r133_0, r133_1, r133_2, r133_3, r133_4, r133_7, r133_10, r133_12, r133_13, r133_14, r133_17, r133_20, r133_21, r133_22, r133_25, r133_28, r133_30, List.length_cons, List.length_nil, Nat.reduceAdd, Nat.reduceLT, if_true, l10, l01, l20, l21, l02, l12, List.append_nil, List.getElem?_cons_zero, List.getElem?_cons_succ, List.set_cons_zero, List.set_cons_succ, not_false_eq_true, not_true_eq_false, false_implies, true_implies, forall_const, Classical.not_not, rc0_at, rcI_at, sOK0, sOK1, sOK2, sOK3, sOK4, true_and, and_true, kil, Option.toList_some, Option.toList_none, List.nil_append, List.cons_append, Option.some.injEq, exists_eq_left', Value.int.injEq, Value.ref.injEq, Value.long.injEq]
      refine ⟨_, _, cw, ?_⟩
      simp only [r133_0, r133_1, r133_2, r133_3, r133_4, r133_7, r133_10, r133_12, r133_13, r133_14, r133_17, r133_20, r133_21, r133_22, r133_25, r133_28, r133_30, List.length_cons, List.length_nil, Nat.reduceAdd, Nat.reduceLT, if_true, l10, l01, l20, l21, l02, l12, List.append_nil, List.getElem?_cons_zero, List.getElem?_cons_succ, List.set_cons_zero, List.set_cons_succ, not_false_eq_true, not_true_eq_false, false_implies, true_implies, forall_const, Classical.not_not, rc0_at, rcI_at, sOK0, sOK1, sOK2, sOK3, sOK4, true_and, and_true, kil, Option.toList_some, Option.toList_none, List.nil_append, List.cons_append, Option.some.injEq, exists_eq_left', Value.int.injEq, Value.ref.injEq, Value.long.injEq, b2i, gf_at g0, rcV_at g0]
      refine ⟨_, _, x2, ?_⟩
      simp only [r133_0, r133_1, r133_2, r133_3, r133_4, r133_7, r133_10, r133_12, r133_13, r133_14, r133_17, r133_20, r133_21, r133_22, r133_25, r133_28, r133_30, List.length_cons, List.length_nil, Nat.reduceAdd, Nat.reduceLT, if_true, l10, l01, l20, l21, l02, l12, List.append_nil, List.getElem?_cons_zero, List.getElem?_cons_succ, List.set_cons_zero, List.set_cons_succ, not_false_eq_true, not_true_eq_false, false_implies, true_implies, forall_const, Classical.not_not, rc0_at, rcI_at, sOK0, sOK1, sOK2, sOK3, sOK4, true_and, and_true, kil, Option.toList_some, Option.toList_none, List.nil_append, List.cons_append, Option.some.injEq, exists_eq_left', Value.int.injEq, Value.ref.injEq, Value.long.injEq]
