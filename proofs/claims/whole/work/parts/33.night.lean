def ush (x n : Int32) : Int32 := (x.toUInt32 >>> (n.toUInt32 &&& Int32.toUInt32 31)).toInt32
def bc1 (x : Int32) : Int32 := x - (ush x 1 &&& 1431655765)
def bc2 (x : Int32) : Int32 := (x &&& 858993459) + (ush x 2 &&& 858993459)
def bc3 (x : Int32) : Int32 := (x + ush x 4) &&& 252645135
def bc4 (x : Int32) : Int32 := x + ush x 8
def bc5 (x : Int32) : Int32 := x + ush x 16
def bcn (x : Int32) : Int32 := bc5 (bc4 (bc3 (bc2 (bc1 x)))) &&& 63
theorem c_bitCount (d : Nat) (h : pH) (x : Int32) : Cl (d + 1) 144 [.int x] h (some (.int (bcn x))) h := by
  refine Cl_o 1 rfl [some (.int x)] rfl rfl ?_
  simp only [r144_0, r144_1, r144_2, r144_3, r144_4, r144_7, r144_8, r144_9, r144_10, r144_11, r144_14, r144_15, r144_16, r144_17, r144_18, r144_21, r144_22, r144_23, r144_24, r144_25, r144_26, r144_27, r144_28, r144_29, r144_32, r144_33, r144_34, r144_35, r144_36, r144_38, r144_39, r144_40, r144_41, r144_42, r144_43, r144_45, r144_46, r144_47, r144_48, r144_49, r144_51, r144_52, List.length_cons, List.length_nil, Nat.reduceAdd, Nat.reduceLT, if_true, l10, l01, l20, l21, l02, l12, List.append_nil, List.getElem?_cons_zero, List.getElem?_cons_succ, List.set_cons_zero, List.set_cons_succ, not_false_eq_true, not_true_eq_false, false_implies, true_implies, forall_const, Classical.not_not, rc0_at, rcI_at, sOK0, sOK1, sOK2, sOK3, sOK4, true_and, and_true, kil, Option.toList_some, Option.toList_none, List.nil_append, List.cons_append, Option.some.injEq, exists_eq_left', Value.int.injEq, Value.ref.injEq, Value.long.injEq]
  rfl
def cb8 (b0 b1 b2 b3 b4 b5 b6 b7 : Bool) : Int32 := cbs (fun i => ([b0, b1, b2, b3, b4, b5, b6, b7] : List Bool).getD i false) 8 0 0
theorem cb8_eq (b : Nat → Bool) : cbs b 8 0 0 = cb8 (b 0) (b 1) (b 2) (b 3) (b 4) (b 5) (b 6) (b 7) := rfl
theorem cb8_bit : ∀ b0 b1 b2 b3 b4 b5 b6 b7 : Bool, ∀ i, i < 8 → decide ((cb8 b0 b1 b2 b3 b4 b5 b6 b7 >>> (nI i &&& 31)) &&& 1 = 1) = ([b0, b1, b2, b3, b4, b5, b6, b7] : List Bool).getD i false := by decide +kernel
theorem cbs_bit (b : Nat → Bool) (i : Nat) (hi : i < 8) : ((cbs b 8 0 0 >>> (nI i &&& 31)) &&& 1 = 1) = (b i = true) := by
  rw [cb8_eq]
  have h1 := cb8_bit (b 0) (b 1) (b 2) (b 3) (b 4) (b 5) (b 6) (b 7) i hi
  have h2 : ([b 0, b 1, b 2, b 3, b 4, b 5, b 6, b 7] : List Bool).getD i false = b i := by
    match i, hi with
    | 0, _ => rfl
    | 1, _ => rfl
    | 2, _ => rfl
    | 3, _ => rfl
    | 4, _ => rfl
    | 5, _ => rfl
    | 6, _ => rfl
    | 7, _ => rfl
  rw [h2] at h1
  rw [← h1]
  simp
def cn8 (b : Nat → Bool) : Int32 := nI ((b 0).toNat + (b 1).toNat + (b 2).toNat + (b 3).toNat + (b 4).toNat + (b 5).toNat + (b 6).toNat + (b 7).toNat)
theorem cb8_cnt : ∀ b0 b1 b2 b3 b4 b5 b6 b7 : Bool, bcn (cb8 b0 b1 b2 b3 b4 b5 b6 b7) = nI (b0.toNat + b1.toNat + b2.toNat + b3.toNat + b4.toNat + b5.toNat + b6.toNat + b7.toNat) := by decide +kernel
theorem bcn_cnt (b : Nat → Bool) : bcn (cbs b 8 0 0) = cn8 b := by rw [cb8_eq]; exact cb8_cnt _ _ _ _ _ _ _ _
/-- a night as the class does it: from the crests at its beginning, cell by cell -/
def ngC (w : Bool) (b : Nat → Bool) : Nat → Nat → List Int32 → List Int32
  | 0, _, hs => hs
  | j + 1, i, hs => ngC w b j (i + 1) (if b i then mvs hs i (lee w i) (mnw 1 (hx hs i)) else hs)
theorem ngC_len (w : Bool) (b : Nat → Bool) : ∀ (j i : Nat) (hs : List Int32), (ngC w b j i hs).length = hs.length
  | 0, _, _ => rfl
  | j + 1, i, hs => by
    unfold ngC
    rw [ngC_len w b j (i + 1)]
    split
    · exact mvs_len _ _ _ _
    · rfl
theorem lo_night (d k : Nat) (w : Bool) (b : Nat → Bool) : ∀ (j i : Nat) (hs : List Int32) (h : pH), i + j = 8 → Snd h k hs w → X 38 (d + 2) (some (.int (cn8 b))) (h.set (k + 1) (.inl (ngC w b j i hs))) 7 [some (.ref k), some (.int (cbs b 8 0 0)), some (.int (nI i))] [] h := by
  intro j
  induction j with
  | zero =>
    intro i hs h hi a
    have : i = 8 := by omega
    subst this
    rw [r38_7]; simp only [r38_0, r38_1, r38_4, r38_5, r38_6, r38_8, r38_10, r38_13, r38_14, r38_15, r38_16, r38_17, r38_18, r38_19, r38_22, r38_23, r38_24, r38_25, r38_26, r38_29, r38_30, r38_33, r38_34, r38_37, r38_40, r38_41, r38_44, List.length_cons, List.length_nil, Nat.reduceAdd, Nat.reduceLT, if_true, l10, l01, l20, l21, l02, l12, List.append_nil, List.getElem?_cons_zero, List.getElem?_cons_succ, List.set_cons_zero, List.set_cons_succ, not_false_eq_true, not_true_eq_false, false_implies, true_implies, forall_const, Classical.not_not, rc0_at, rcI_at, sOK0, sOK1, sOK2, sOK3, sOK4, true_and, and_true, kil, Option.toList_some, Option.toList_none, List.nil_append, List.cons_append, Option.some.injEq, exists_eq_left', Value.int.injEq, Value.ref.injEq, Value.long.injEq, ge8t, ngC]
    refine ⟨_, _, c_bitCount (d + 1) h _, ?_⟩
    simp only [r38_0, r38_1, r38_4, r38_5, r38_6, r38_8, r38_10, r38_13, r38_14, r38_15, r38_16, r38_17, r38_18, r38_19, r38_22, r38_23, r38_24, r38_25, r38_26, r38_29, r38_30, r38_33, r38_34, r38_37, r38_40, r38_41, r38_44, List.length_cons, List.length_nil, Nat.reduceAdd, Nat.reduceLT, if_true, l10, l01, l20, l21, l02, l12, List.append_nil, List.getElem?_cons_zero, List.getElem?_cons_succ, List.set_cons_zero, List.set_cons_succ, not_false_eq_true, not_true_eq_false, false_implies, true_implies, forall_const, Classical.not_not, rc0_at, rcI_at, sOK0, sOK1, sOK2, sOK3, sOK4, true_and, and_true, kil, Option.toList_some, Option.toList_none, List.nil_append, List.cons_append, Option.some.injEq, exists_eq_left', Value.int.injEq, Value.ref.injEq, Value.long.injEq, bcn_cnt, set_same a.2.1]
  | succ j ih =>
    intro i hs h hi a
    have hi8 : i < 8 := by omega
    rw [r38_7]; simp only [r38_0, r38_1, r38_4, r38_5, r38_6, r38_8, r38_10, r38_13, r38_14, r38_15, r38_16, r38_17, r38_18, r38_19, r38_22, r38_23, r38_24, r38_25, r38_26, r38_29, r38_30, r38_33, r38_34, r38_37, r38_40, r38_41, r38_44, List.length_cons, List.length_nil, Nat.reduceAdd, Nat.reduceLT, if_true, l10, l01, l20, l21, l02, l12, List.append_nil, List.getElem?_cons_zero, List.getElem?_cons_succ, List.set_cons_zero, List.set_cons_succ, not_false_eq_true, not_true_eq_false, false_implies, true_implies, forall_const, Classical.not_not, rc0_at, rcI_at, sOK0, sOK1, sOK2, sOK3, sOK4, true_and, and_true, kil, Option.toList_some, Option.toList_none, List.nil_append, List.cons_append, Option.some.injEq, exists_eq_left', Value.int.injEq, Value.ref.injEq, Value.long.injEq, ge8f hi8, cbs_bit b i hi8, rcV_at a.1]
    cases e : b i with
    | false =>
      have := ih (i + 1) hs h (by omega) a
      simp only [ngC, e, Bool.false_eq_true, if_false, not_false_eq_true, true_implies, false_implies, not_true_eq_false, and_true, true_and, nI_1]
      exact this
    | true =>
      simp only [ngC, e, if_true, not_false_eq_true, true_implies, false_implies, not_true_eq_false, and_true, true_and, nI_1]
      refine ⟨_, _, c_leeOf (d + 1) a hi8, ?_⟩
      simp only [r38_0, r38_1, r38_4, r38_5, r38_6, r38_8, r38_10, r38_13, r38_14, r38_15, r38_16, r38_17, r38_18, r38_19, r38_22, r38_23, r38_24, r38_25, r38_26, r38_29, r38_30, r38_33, r38_34, r38_37, r38_40, r38_41, r38_44, List.length_cons, List.length_nil, Nat.reduceAdd, Nat.reduceLT, if_true, l10, l01, l20, l21, l02, l12, List.append_nil, List.getElem?_cons_zero, List.getElem?_cons_succ, List.set_cons_zero, List.set_cons_succ, not_false_eq_true, not_true_eq_false, false_implies, true_implies, forall_const, Classical.not_not, rc0_at, rcI_at, sOK0, sOK1, sOK2, sOK3, sOK4, true_and, and_true, kil, Option.toList_some, Option.toList_none, List.nil_append, List.cons_append, Option.some.injEq, exists_eq_left', Value.int.injEq, Value.ref.injEq, Value.long.injEq, rcV_at a.1]
      refine ⟨_, _, c_moveSand (d + 1) a hi8 (lee_lt w i), ?_⟩
      simp only [r38_0, r38_1, r38_4, r38_5, r38_6, r38_8, r38_10, r38_13, r38_14, r38_15, r38_16, r38_17, r38_18, r38_19, r38_22, r38_23, r38_24, r38_25, r38_26, r38_29, r38_30, r38_33, r38_34, r38_37, r38_40, r38_41, r38_44, List.length_cons, List.length_nil, Nat.reduceAdd, Nat.reduceLT, if_true, l10, l01, l20, l21, l02, l12, List.append_nil, List.getElem?_cons_zero, List.getElem?_cons_succ, List.set_cons_zero, List.set_cons_succ, not_false_eq_true, not_true_eq_false, false_implies, true_implies, forall_const, Classical.not_not, rc0_at, rcI_at, sOK0, sOK1, sOK2, sOK3, sOK4, true_and, and_true, kil, Option.toList_some, Option.toList_none, List.nil_append, List.cons_append, Option.some.injEq, exists_eq_left', Value.int.injEq, Value.ref.injEq, Value.long.injEq, nI_1]
      have := ih (i + 1) _ _ (by omega) (a.set (hs' := mvs hs i (lee w i) (mnw 1 (hx hs i))) (by rw [mvs_len]; exact a.2.2))
      rw [List.set_set] at this
      exact this
/-- how many crests there were, and the heights then -/
def ngt (w : Bool) (hs : List Int32) : List Int32 := ngC w (isC hs) 8 0 hs
theorem ngt_len (w : Bool) (hs : List Int32) : (ngt w hs).length = hs.length := ngC_len _ _ _ _ _
theorem c_passNight (d : Nat) {h : pH} {k : Nat} {hs : List Int32} {w : Bool} (a : Snd h k hs w) : Cl (d + 3) 38 [.ref k] h (some (.int (cn8 (isC hs)))) (h.set (k + 1) (.inl (ngt w hs))) := by
  refine Cl_o 3 rfl [some (.ref k), none, none] rfl rfl ?_
  simp only [r38_0, r38_1, r38_4, r38_5, r38_6, r38_8, r38_10, r38_13, r38_14, r38_15, r38_16, r38_17, r38_18, r38_19, r38_22, r38_23, r38_24, r38_25, r38_26, r38_29, r38_30, r38_33, r38_34, r38_37, r38_40, r38_41, r38_44, List.length_cons, List.length_nil, Nat.reduceAdd, Nat.reduceLT, if_true, l10, l01, l20, l21, l02, l12, List.append_nil, List.getElem?_cons_zero, List.getElem?_cons_succ, List.set_cons_zero, List.set_cons_succ, not_false_eq_true, not_true_eq_false, false_implies, true_implies, forall_const, Classical.not_not, rc0_at, rcI_at, sOK0, sOK1, sOK2, sOK3, sOK4, true_and, and_true, kil, Option.toList_some, Option.toList_none, List.nil_append, List.cons_append, Option.some.injEq, exists_eq_left', Value.int.injEq, Value.ref.injEq, Value.long.injEq, rcV_at a.1]
  refine ⟨_, _, c_crests d a, ?_⟩
  simp only [r38_0, r38_1, r38_4, r38_5, r38_6, r38_8, r38_10, r38_13, r38_14, r38_15, r38_16, r38_17, r38_18, r38_19, r38_22, r38_23, r38_24, r38_25, r38_26, r38_29, r38_30, r38_33, r38_34, r38_37, r38_40, r38_41, r38_44, List.length_cons, List.length_nil, Nat.reduceAdd, Nat.reduceLT, if_true, l10, l01, l20, l21, l02, l12, List.append_nil, List.getElem?_cons_zero, List.getElem?_cons_succ, List.set_cons_zero, List.set_cons_succ, not_false_eq_true, not_true_eq_false, false_implies, true_implies, forall_const, Classical.not_not, rc0_at, rcI_at, sOK0, sOK1, sOK2, sOK3, sOK4, true_and, and_true, kil, Option.toList_some, Option.toList_none, List.nil_append, List.cons_append, Option.some.injEq, exists_eq_left', Value.int.injEq, Value.ref.injEq, Value.long.injEq]
  exact lo_night d k w (isC hs) 8 0 hs h rfl a
