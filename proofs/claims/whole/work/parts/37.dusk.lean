theorem Snd.fp {k : Nat} {h h1 : pH} {hs : List Int32} {w : Bool} (x : Snd h k hs w) (m : ∀ j, k ≤ j → j < k + 2 → h1[j]? = h[j]?) : Snd h1 k hs w := ⟨by rw [m k (by omega) (by omega)]; exact x.1, by rw [m (k + 1) (by omega) (by omega)]; exact x.2.1, x.2.2⟩
theorem Wlk.fp {k : Nat} {h h1 : pH} {q : wkr} (x : Wlk h k q) (m : ∀ j, k ≤ j → j < k + 2 → h1[j]? = h[j]?) : Wlk h1 k q := ⟨by rw [m k (by omega) (by omega)]; exact x.1, by rw [m (k + 1) (by omega) (by omega)]; exact x.2.1, x.2.2⟩
theorem Pg.fp {k : Nat} {h h1 : pH} {cs : List Int32} {n : Nat} (x : Pg h k cs n) (m : ∀ j, k ≤ j → j < k + 2 → h1[j]? = h[j]?) : Pg h1 k cs n := ⟨by rw [m k (by omega) (by omega)]; exact x.1, by rw [m (k + 1) (by omega) (by omega)]; exact x.2.1, x.2.2⟩
theorem Lnd.fp {k : Nat} {h h1 : pH} {hs : List Int32} {w : Bool} {ws : Nat → wkr} {cnt : Nat} {nt : Int32} (x : Lnd h k hs w ws cnt nt) (m : ∀ j, k ≤ j → j < k + 12 → h1[j]? = h[j]?) : Lnd h1 k hs w ws cnt nt := ⟨by rw [m k (by omega) (by omega)]; exact x.1, x.2.1.fp (fun j a b => m j (by omega) (by omega)), by rw [m (k + 3) (by omega) (by omega)]; exact x.2.2.1, fun i hi => (x.2.2.2.1 i hi).fp (fun j a b => m j (by omega) (by omega)), x.2.2.2.2⟩
def dkC (f l : Int32) : pC := .inr (.inr (0, [.int f, .int l]))
def dk1 (v s : Nat) (fl : Int32 × Int32) : Int32 × Int32 := (fl.1 + 1, if fl.2 = -1 then nI (v * 8 + s) else fl.2)
def tws (w : Bool) (now : List Int32) (v : Nat) : Nat → Nat → Nat → List Int32 → Int32 × Int32 → List Int32 × (Int32 × Int32)
  | 0, _, _, hs, fl => (hs, fl)
  | j + 1, s, c, hs, fl => tws w now v j (s + 1) (bes c (nI (v % 2))) (trd hs w (bes c (nI (v % 2))) (v / 16)).2 (if (trd hs w (bes c (nI (v % 2))) (v / 16)).2 = now then dk1 v s fl else fl)
theorem tws_len (w : Bool) (now : List Int32) (v : Nat) : ∀ (j s c : Nat) (hs : List Int32) (fl : Int32 × Int32), (tws w now v j s c hs fl).1.length = hs.length
  | 0, _, _, _, _ => rfl
  | j + 1, s, c, hs, fl => by unfold tws; rw [tws_len, trd_len]
theorem lo_tryWalk (d k kn kt v : Nat) (now : List Int32) (w wn : Bool) (hv : v < 80) (n1 : kn + 2 ≤ kt ∨ kt + 2 ≤ kn) (n2 : k < kn ∨ kn + 2 ≤ k) (n3 : k < kt ∨ kt + 2 ≤ k) : ∀ (j s c : Nat) (hs : List Int32) (fl : Int32 × Int32) (h : pH), s + j = 8 → c < 8 → h[k]? = some (dkC fl.1 fl.2) → Snd h kn now wn → Snd h kt hs w → ∃ h', X 2 (d + 2) none h' 21 [some (.ref k), some (.int (nI v)), some (.ref kn), some (.ref kt), some (.int (nI (v % 2))), some (.int (nI c)), some (.int (nI (v / 16))), some (.int (nI s))] [] h ∧ h'[k]? = some (dkC (tws w now v j s c hs fl).2.1 (tws w now v j s c hs fl).2.2) ∧ Snd h' kt (tws w now v j s c hs fl).1 w ∧ ∀ i, i ≠ k → (i < kt ∨ kt + 2 ≤ i) → h'[i]? = h[i]? := by
  intro j
  induction j with
  | zero =>
    intro s c hs fl h hs8 hc x a b
    have : s = 8 := by omega
    subst this
    refine ⟨h, ?_, x, b, fun _ _ _ => rfl⟩
    rw [r2_21]; simp only [r2_0, r2_1, r2_2, r2_3, r2_5, r2_6, r2_7, r2_8, r2_10, r2_11, r2_13, r2_14, r2_15, r2_16, r2_18, r2_19, r2_23, r2_25, r2_28, r2_30, r2_32, r2_35, r2_37, r2_38, r2_40, r2_42, r2_45, r2_46, r2_47, r2_48, r2_51, r2_54, r2_55, r2_56, r2_59, r2_60, r2_61, r2_64, r2_65, r2_66, r2_69, r2_70, r2_73, r2_74, r2_76, r2_77, r2_79, r2_80, r2_83, r2_84, r2_87, r2_90, r2_93, r2_96, List.length_cons, List.length_nil, Nat.reduceAdd, Nat.reduceLT, if_true, l10, l01, l20, l21, l02, l12, List.append_nil, List.getElem?_cons_zero, List.getElem?_cons_succ, List.set_cons_zero, List.set_cons_succ, not_false_eq_true, not_true_eq_false, false_implies, true_implies, forall_const, Classical.not_not, rc0_at, rcI_at, sOK0, sOK1, sOK2, sOK3, sOK4, true_and, and_true, kil, Option.toList_some, Option.toList_none, List.nil_append, List.cons_append, Option.some.injEq, exists_eq_left', Value.int.injEq, Value.ref.injEq, Value.long.injEq, ge8t]
  | succ j ih =>
    intro s c hs fl h hs8 hc x a b
    have hi8 : s < 8 := by omega
    have a1 : Snd (h.set (kt + 1) (.inl (trd hs w (bes c (nI (v % 2))) (v / 16)).2)) kn now wn := a.fr (Sm.set (a := kt) (b := kt + 2) (by omega) (by omega)) (by omega)
    have b1 : Snd (h.set (kt + 1) (.inl (trd hs w (bes c (nI (v % 2))) (v / 16)).2)) kt (trd hs w (bes c (nI (v % 2))) (v / 16)).2 w := b.set (by rw [trd_len]; exact b.2.2)
    have x1 : (h.set (kt + 1) (.inl (trd hs w (bes c (nI (v % 2))) (v / 16)).2))[k]? = some (dkC fl.1 fl.2) := by rw [List.getElem?_set_ne (by omega)]; exact x
    by_cases e : (trd hs w (bes c (nI (v % 2))) (v / 16)).2 = now
    · have m2 : Sm k (k + 1) (h.set (kt + 1) (.inl (trd hs w (bes c (nI (v % 2))) (v / 16)).2)) ((h.set (kt + 1) (.inl (trd hs w (bes c (nI (v % 2))) (v / 16)).2)).set k (dkC (dk1 v s fl).1 (dk1 v s fl).2)) := Sm.set (by omega) (by omega)
      obtain ⟨h', r1, r2, r3, r4⟩ := ih (s + 1) (bes c (nI (v % 2))) _ (dk1 v s fl) _ (by omega) (bes_lt _ _) (get_set x1) (a1.fr m2 (by omega)) (b1.fr m2 (by omega))
      refine ⟨h', ?_, ?_, ?_, fun i hi1 hi2 => (r4 i hi1 hi2).trans ((m2 i (by omega)).trans (List.getElem?_set_ne (by omega)))⟩
      · rw [r2_21]; simp only [r2_0, r2_1, r2_2, r2_3, r2_5, r2_6, r2_7, r2_8, r2_10, r2_11, r2_13, r2_14, r2_15, r2_16, r2_18, r2_19, r2_23, r2_25, r2_28, r2_30, r2_32, r2_35, r2_37, r2_38, r2_40, r2_42, r2_45, r2_46, r2_47, r2_48, r2_51, r2_54, r2_55, r2_56, r2_59, r2_60, r2_61, r2_64, r2_65, r2_66, r2_69, r2_70, r2_73, r2_74, r2_76, r2_77, r2_79, r2_80, r2_83, r2_84, r2_87, r2_90, r2_93, r2_96, List.length_cons, List.length_nil, Nat.reduceAdd, Nat.reduceLT, if_true, l10, l01, l20, l21, l02, l12, List.append_nil, List.getElem?_cons_zero, List.getElem?_cons_succ, List.set_cons_zero, List.set_cons_succ, not_false_eq_true, not_true_eq_false, false_implies, true_implies, forall_const, Classical.not_not, rc0_at, rcI_at, sOK0, sOK1, sOK2, sOK3, sOK4, true_and, and_true, kil, Option.toList_some, Option.toList_none, List.nil_append, List.cons_append, Option.some.injEq, exists_eq_left', Value.int.injEq, Value.ref.injEq, Value.long.injEq, ge8f hi8]
        refine ⟨_, _, c_beside (d + 1) h hc _, ?_⟩
        simp only [r2_0, r2_1, r2_2, r2_3, r2_5, r2_6, r2_7, r2_8, r2_10, r2_11, r2_13, r2_14, r2_15, r2_16, r2_18, r2_19, r2_23, r2_25, r2_28, r2_30, r2_32, r2_35, r2_37, r2_38, r2_40, r2_42, r2_45, r2_46, r2_47, r2_48, r2_51, r2_54, r2_55, r2_56, r2_59, r2_60, r2_61, r2_64, r2_65, r2_66, r2_69, r2_70, r2_73, r2_74, r2_76, r2_77, r2_79, r2_80, r2_83, r2_84, r2_87, r2_90, r2_93, r2_96, List.length_cons, List.length_nil, Nat.reduceAdd, Nat.reduceLT, if_true, l10, l01, l20, l21, l02, l12, List.append_nil, List.getElem?_cons_zero, List.getElem?_cons_succ, List.set_cons_zero, List.set_cons_succ, not_false_eq_true, not_true_eq_false, false_implies, true_implies, forall_const, Classical.not_not, rc0_at, rcI_at, sOK0, sOK1, sOK2, sOK3, sOK4, true_and, and_true, kil, Option.toList_some, Option.toList_none, List.nil_append, List.cons_append, Option.some.injEq, exists_eq_left', Value.int.injEq, Value.ref.injEq, Value.long.injEq, rcV_at b.1]
        refine ⟨_, _, c_tread d b (bes_lt _ _) (by omega), ?_⟩
        simp only [r2_0, r2_1, r2_2, r2_3, r2_5, r2_6, r2_7, r2_8, r2_10, r2_11, r2_13, r2_14, r2_15, r2_16, r2_18, r2_19, r2_23, r2_25, r2_28, r2_30, r2_32, r2_35, r2_37, r2_38, r2_40, r2_42, r2_45, r2_46, r2_47, r2_48, r2_51, r2_54, r2_55, r2_56, r2_59, r2_60, r2_61, r2_64, r2_65, r2_66, r2_69, r2_70, r2_73, r2_74, r2_76, r2_77, r2_79, r2_80, r2_83, r2_84, r2_87, r2_90, r2_93, r2_96, List.length_cons, List.length_nil, Nat.reduceAdd, Nat.reduceLT, if_true, l10, l01, l20, l21, l02, l12, List.append_nil, List.getElem?_cons_zero, List.getElem?_cons_succ, List.set_cons_zero, List.set_cons_succ, not_false_eq_true, not_true_eq_false, false_implies, true_implies, forall_const, Classical.not_not, rc0_at, rcI_at, sOK0, sOK1, sOK2, sOK3, sOK4, true_and, and_true, kil, Option.toList_some, Option.toList_none, List.nil_append, List.cons_append, Option.some.injEq, exists_eq_left', Value.int.injEq, Value.ref.injEq, Value.long.injEq, rcV_at b1.1]
        refine ⟨_, _, c_isAs (d + 1) b1 a1, ?_⟩
        have x2 := x1
        unfold dkC at x2
        have e8 : nI v * 8 + nI s = nI (v * 8 + s) := by rw [show (8 : Int32) = nI 8 from rfl, pk_mul, nI_add]
        have ed : decide ((trd hs w (bes c (nI (v % 2))) (v / 16)).2 = now) = true := decide_eq_true e
        simp only [r2_0, r2_1, r2_2, r2_3, r2_5, r2_6, r2_7, r2_8, r2_10, r2_11, r2_13, r2_14, r2_15, r2_16, r2_18, r2_19, r2_23, r2_25, r2_28, r2_30, r2_32, r2_35, r2_37, r2_38, r2_40, r2_42, r2_45, r2_46, r2_47, r2_48, r2_51, r2_54, r2_55, r2_56, r2_59, r2_60, r2_61, r2_64, r2_65, r2_66, r2_69, r2_70, r2_73, r2_74, r2_76, r2_77, r2_79, r2_80, r2_83, r2_84, r2_87, r2_90, r2_93, r2_96, List.length_cons, List.length_nil, Nat.reduceAdd, Nat.reduceLT, if_true, l10, l01, l20, l21, l02, l12, List.append_nil, List.getElem?_cons_zero, List.getElem?_cons_succ, List.set_cons_zero, List.set_cons_succ, not_false_eq_true, not_true_eq_false, false_implies, true_implies, forall_const, Classical.not_not, rc0_at, rcI_at, sOK0, sOK1, sOK2, sOK3, sOK4, true_and, and_true, kil, Option.toList_some, Option.toList_none, List.nil_append, List.cons_append, Option.some.injEq, exists_eq_left', Value.int.injEq, Value.ref.injEq, Value.long.injEq, ed, b2i, gf_at x2, pf_at x2 (show 0 < 2 by decide), gf_set x2, pf_set x2, nI_1, e8]
        by_cases q : fl.2 = -1
        · simp only [q, not_true_eq_false, false_implies, true_implies, true_and, and_true]
          simp only [dk1, q, if_true, dkC] at r1
          exact r1
        · simp only [q, not_false_eq_true, false_implies, true_implies, true_and, and_true]
          simp only [dk1, q, if_false, dkC] at r1
          exact r1
      · unfold tws
        rw [if_pos e]
        exact r2
      · unfold tws
        rw [if_pos e]
        exact r3
    · obtain ⟨h', r1, r2, r3, r4⟩ := ih (s + 1) (bes c (nI (v % 2))) _ fl _ (by omega) (bes_lt _ _) x1 a1 b1
      refine ⟨h', ?_, ?_, ?_, fun i hi1 hi2 => (r4 i hi1 hi2).trans (List.getElem?_set_ne (by omega))⟩
      · rw [r2_21]; simp only [r2_0, r2_1, r2_2, r2_3, r2_5, r2_6, r2_7, r2_8, r2_10, r2_11, r2_13, r2_14, r2_15, r2_16, r2_18, r2_19, r2_23, r2_25, r2_28, r2_30, r2_32, r2_35, r2_37, r2_38, r2_40, r2_42, r2_45, r2_46, r2_47, r2_48, r2_51, r2_54, r2_55, r2_56, r2_59, r2_60, r2_61, r2_64, r2_65, r2_66, r2_69, r2_70, r2_73, r2_74, r2_76, r2_77, r2_79, r2_80, r2_83, r2_84, r2_87, r2_90, r2_93, r2_96, List.length_cons, List.length_nil, Nat.reduceAdd, Nat.reduceLT, if_true, l10, l01, l20, l21, l02, l12, List.append_nil, List.getElem?_cons_zero, List.getElem?_cons_succ, List.set_cons_zero, List.set_cons_succ, not_false_eq_true, not_true_eq_false, false_implies, true_implies, forall_const, Classical.not_not, rc0_at, rcI_at, sOK0, sOK1, sOK2, sOK3, sOK4, true_and, and_true, kil, Option.toList_some, Option.toList_none, List.nil_append, List.cons_append, Option.some.injEq, exists_eq_left', Value.int.injEq, Value.ref.injEq, Value.long.injEq, ge8f hi8]
        refine ⟨_, _, c_beside (d + 1) h hc _, ?_⟩
        simp only [r2_0, r2_1, r2_2, r2_3, r2_5, r2_6, r2_7, r2_8, r2_10, r2_11, r2_13, r2_14, r2_15, r2_16, r2_18, r2_19, r2_23, r2_25, r2_28, r2_30, r2_32, r2_35, r2_37, r2_38, r2_40, r2_42, r2_45, r2_46, r2_47, r2_48, r2_51, r2_54, r2_55, r2_56, r2_59, r2_60, r2_61, r2_64, r2_65, r2_66, r2_69, r2_70, r2_73, r2_74, r2_76, r2_77, r2_79, r2_80, r2_83, r2_84, r2_87, r2_90, r2_93, r2_96, List.length_cons, List.length_nil, Nat.reduceAdd, Nat.reduceLT, if_true, l10, l01, l20, l21, l02, l12, List.append_nil, List.getElem?_cons_zero, List.getElem?_cons_succ, List.set_cons_zero, List.set_cons_succ, not_false_eq_true, not_true_eq_false, false_implies, true_implies, forall_const, Classical.not_not, rc0_at, rcI_at, sOK0, sOK1, sOK2, sOK3, sOK4, true_and, and_true, kil, Option.toList_some, Option.toList_none, List.nil_append, List.cons_append, Option.some.injEq, exists_eq_left', Value.int.injEq, Value.ref.injEq, Value.long.injEq, rcV_at b.1]
        refine ⟨_, _, c_tread d b (bes_lt _ _) (by omega), ?_⟩
        simp only [r2_0, r2_1, r2_2, r2_3, r2_5, r2_6, r2_7, r2_8, r2_10, r2_11, r2_13, r2_14, r2_15, r2_16, r2_18, r2_19, r2_23, r2_25, r2_28, r2_30, r2_32, r2_35, r2_37, r2_38, r2_40, r2_42, r2_45, r2_46, r2_47, r2_48, r2_51, r2_54, r2_55, r2_56, r2_59, r2_60, r2_61, r2_64, r2_65, r2_66, r2_69, r2_70, r2_73, r2_74, r2_76, r2_77, r2_79, r2_80, r2_83, r2_84, r2_87, r2_90, r2_93, r2_96, List.length_cons, List.length_nil, Nat.reduceAdd, Nat.reduceLT, if_true, l10, l01, l20, l21, l02, l12, List.append_nil, List.getElem?_cons_zero, List.getElem?_cons_succ, List.set_cons_zero, List.set_cons_succ, not_false_eq_true, not_true_eq_false, false_implies, true_implies, forall_const, Classical.not_not, rc0_at, rcI_at, sOK0, sOK1, sOK2, sOK3, sOK4, true_and, and_true, kil, Option.toList_some, Option.toList_none, List.nil_append, List.cons_append, Option.some.injEq, exists_eq_left', Value.int.injEq, Value.ref.injEq, Value.long.injEq, rcV_at b1.1]
        refine ⟨_, _, c_isAs (d + 1) b1 a1, ?_⟩
        have ed : decide ((trd hs w (bes c (nI (v % 2))) (v / 16)).2 = now) = false := decide_eq_false e
        simp only [r2_0, r2_1, r2_2, r2_3, r2_5, r2_6, r2_7, r2_8, r2_10, r2_11, r2_13, r2_14, r2_15, r2_16, r2_18, r2_19, r2_23, r2_25, r2_28, r2_30, r2_32, r2_35, r2_37, r2_38, r2_40, r2_42, r2_45, r2_46, r2_47, r2_48, r2_51, r2_54, r2_55, r2_56, r2_59, r2_60, r2_61, r2_64, r2_65, r2_66, r2_69, r2_70, r2_73, r2_74, r2_76, r2_77, r2_79, r2_80, r2_83, r2_84, r2_87, r2_90, r2_93, r2_96, List.length_cons, List.length_nil, Nat.reduceAdd, Nat.reduceLT, if_true, l10, l01, l20, l21, l02, l12, List.append_nil, List.getElem?_cons_zero, List.getElem?_cons_succ, List.set_cons_zero, List.set_cons_succ, not_false_eq_true, not_true_eq_false, false_implies, true_implies, forall_const, Classical.not_not, rc0_at, rcI_at, sOK0, sOK1, sOK2, sOK3, sOK4, true_and, and_true, kil, Option.toList_some, Option.toList_none, List.nil_append, List.cons_append, Option.some.injEq, exists_eq_left', Value.int.injEq, Value.ref.injEq, Value.long.injEq, ed, b2i, Bool.false_eq_true, if_false, nI_1]
        exact r1
      · unfold tws
        rw [if_neg e]
        exact r2
      · unfold tws
        rw [if_neg e]
        exact r3
theorem wk_way : ∀ v, v < 80 → nI v &&& 1 = nI (v % 2) := by decide
theorem wk_cell : ∀ v, v < 80 → (nI v >>> ((1 : Int32) &&& 31)) &&& 7 = nI (v / 2 % 8) := by decide
theorem wk_kind : ∀ v, v < 80 → nI v >>> ((4 : Int32) &&& 31) = nI (v / 16) := by decide
def twk (w : Bool) (bef now : List Int32) (v : Nat) (fl : Int32 × Int32) : List Int32 × (Int32 × Int32) := tws w now v 8 0 (v / 2 % 8) bef fl
theorem c_tryWalk (d : Nat) {h : pH} {k kn kt v : Nat} {now hs : List Int32} {w wn : Bool} {fl : Int32 × Int32} (hv : v < 80) (n1 : kn + 2 ≤ kt ∨ kt + 2 ≤ kn) (n2 : k < kn ∨ kn + 2 ≤ k) (n3 : k < kt ∨ kt + 2 ≤ k) (x : h[k]? = some (dkC fl.1 fl.2)) (a : Snd h kn now wn) (b : Snd h kt hs w) : ∃ h', Cl (d + 3) 2 [.ref k, .int (nI v), .ref kn, .ref kt] h none h' ∧ h'[k]? = some (dkC (twk w hs now v fl).2.1 (twk w hs now v fl).2.2) ∧ Snd h' kt (twk w hs now v fl).1 w ∧ ∀ i, i ≠ k → (i < kt ∨ kt + 2 ≤ i) → h'[i]? = h[i]? := by
  obtain ⟨h', r1, r2⟩ := lo_tryWalk d k kn kt v now w wn hv n1 n2 n3 8 0 (v / 2 % 8) hs fl h rfl (by omega) x a b
  refine ⟨h', ?_, r2⟩
  refine Cl_o 8 rfl [some (.ref k), some (.int (nI v)), some (.ref kn), some (.ref kt), none, none, none, none] rfl rfl ?_
  simp only [r2_0, r2_1, r2_2, r2_3, r2_5, r2_6, r2_7, r2_8, r2_10, r2_11, r2_13, r2_14, r2_15, r2_16, r2_18, r2_19, r2_23, r2_25, r2_28, r2_30, r2_32, r2_35, r2_37, r2_38, r2_40, r2_42, r2_45, r2_46, r2_47, r2_48, r2_51, r2_54, r2_55, r2_56, r2_59, r2_60, r2_61, r2_64, r2_65, r2_66, r2_69, r2_70, r2_73, r2_74, r2_76, r2_77, r2_79, r2_80, r2_83, r2_84, r2_87, r2_90, r2_93, r2_96, List.length_cons, List.length_nil, Nat.reduceAdd, Nat.reduceLT, if_true, l10, l01, l20, l21, l02, l12, List.append_nil, List.getElem?_cons_zero, List.getElem?_cons_succ, List.set_cons_zero, List.set_cons_succ, not_false_eq_true, not_true_eq_false, false_implies, true_implies, forall_const, Classical.not_not, rc0_at, rcI_at, sOK0, sOK1, sOK2, sOK3, sOK4, true_and, and_true, kil, Option.toList_some, Option.toList_none, List.nil_append, List.cons_append, Option.some.injEq, exists_eq_left', Value.int.injEq, Value.ref.injEq, Value.long.injEq, wk_way v hv, wk_cell v hv, wk_kind v hv]
  exact r1
def tss (w : Bool) (bef now : List Int32) : Nat → Nat → Int32 × Int32 → Int32 × Int32
  | 0, _, fl => fl
  | j + 1, v, fl => tss w bef now j (v + 1) (twk w bef now v fl).2
theorem lo_dusk (d k kb kn kt : Nat) (bef now : List Int32) (w wb : Bool) (n0 : kb + 2 ≤ kt ∨ kt + 2 ≤ kb) (n1 : kn + 2 ≤ kt ∨ kt + 2 ≤ kn) (n2 : k < kn ∨ kn + 2 ≤ k) (n3 : k < kt ∨ kt + 2 ≤ k) (n4 : k < kb ∨ kb + 2 ≤ k) : ∀ (j v : Nat) (fl : Int32 × Int32) (ts : List Int32) (wt : Bool) (h : pH), v + j = 80 → h[k]? = some (dkC fl.1 fl.2) → Snd h kb bef wb → Snd h kn now w → Snd h kt ts wt → ∃ h', X 1 (d + 3) none h' 13 [some (.ref k), some (.ref kb), some (.ref kn), some (.ref kt), some (.int (nI v))] [] h ∧ h'[k]? = some (dkC (tss w bef now j v fl).1 (tss w bef now j v fl).2) ∧ (∃ ts' wt', Snd h' kt ts' wt') ∧ ∀ i, i ≠ k → (i < kt ∨ kt + 2 ≤ i) → h'[i]? = h[i]? := by
  intro j
  induction j with
  | zero =>
    intro v fl ts wt h hv x a b c
    have : v = 80 := by omega
    subst this
    refine ⟨h, ?_, x, ⟨ts, wt, c⟩, fun _ _ _ => rfl⟩
    have e80 : ((80 : Int32) ≤ nI 80) = True := eq_true (by decide)
    rw [r1_13]; simp only [r1_0, r1_1, r1_2, r1_5, r1_6, r1_7, r1_10, r1_11, r1_15, r1_17, r1_20, r1_21, r1_22, r1_25, r1_26, r1_27, r1_30, r1_33, r1_34, r1_36, r1_37, r1_38, r1_41, r1_44, r1_47, List.length_cons, List.length_nil, Nat.reduceAdd, Nat.reduceLT, if_true, l10, l01, l20, l21, l02, l12, List.append_nil, List.getElem?_cons_zero, List.getElem?_cons_succ, List.set_cons_zero, List.set_cons_succ, not_false_eq_true, not_true_eq_false, false_implies, true_implies, forall_const, Classical.not_not, rc0_at, rcI_at, sOK0, sOK1, sOK2, sOK3, sOK4, true_and, and_true, kil, Option.toList_some, Option.toList_none, List.nil_append, List.cons_append, Option.some.injEq, exists_eq_left', Value.int.injEq, Value.ref.injEq, Value.long.injEq, e80]
  | succ j ih =>
    intro v fl ts wt h hv x a b c
    have e80 : ((80 : Int32) ≤ nI v) = False := eq_false (nI_ge (a := v) (b := 80) (by omega) (by decide))
    have m1 : Sm kt (kt + 2) h (sndH h kt bef w) := sndH_sm h kt bef w
    have c1 := sndH_snd (w' := w) c a.2.2
    have b1 := b.fr m1 (by omega)
    have a1 := a.fr m1 (by omega)
    have x1 : (sndH h kt bef w)[k]? = some (dkC fl.1 fl.2) := by rw [m1 k (by omega)]; exact x
    obtain ⟨h2, r1, r2, r3, r4⟩ := c_tryWalk d (v := v) (by omega) n1 n2 n3 x1 b1 c1
    obtain ⟨h3, s1, s2, s3, s4⟩ := ih (v + 1) (twk w bef now v fl).2 _ w h2 (by omega) r2 (a1.fp (fun i hi1 hi2 => r4 i (by omega) (by omega))) (b1.fp (fun i hi1 hi2 => r4 i (by omega) (by omega))) r3
    refine ⟨h3, ?_, s2, s3, fun i hi1 hi2 => (s4 i hi1 hi2).trans ((r4 i hi1 hi2).trans (m1 i hi2))⟩
    rw [r1_13]; simp only [r1_0, r1_1, r1_2, r1_5, r1_6, r1_7, r1_10, r1_11, r1_15, r1_17, r1_20, r1_21, r1_22, r1_25, r1_26, r1_27, r1_30, r1_33, r1_34, r1_36, r1_37, r1_38, r1_41, r1_44, r1_47, List.length_cons, List.length_nil, Nat.reduceAdd, Nat.reduceLT, if_true, l10, l01, l20, l21, l02, l12, List.append_nil, List.getElem?_cons_zero, List.getElem?_cons_succ, List.set_cons_zero, List.set_cons_succ, not_false_eq_true, not_true_eq_false, false_implies, true_implies, forall_const, Classical.not_not, rc0_at, rcI_at, sOK0, sOK1, sOK2, sOK3, sOK4, true_and, and_true, kil, Option.toList_some, Option.toList_none, List.nil_append, List.cons_append, Option.some.injEq, exists_eq_left', Value.int.injEq, Value.ref.injEq, Value.long.injEq, e80, rcV_at c.1]
    refine ⟨_, _, c_copyHeights (d + 2) c a (by omega), ?_⟩
    have b0 := b.fr (Sm.set (h := h) (i := kt + 1) (c := .inl bef) (a := kt) (b := kt + 2) (by omega) (by omega)) (by omega)
    have hr : rcV 0 (sndH h kt bef w) [Value.ref k, .int (nI v), .ref kn, .ref kt] = True := rcV_at (fs := _) x1
    simp only [r1_0, r1_1, r1_2, r1_5, r1_6, r1_7, r1_10, r1_11, r1_15, r1_17, r1_20, r1_21, r1_22, r1_25, r1_26, r1_27, r1_30, r1_33, r1_34, r1_36, r1_37, r1_38, r1_41, r1_44, r1_47, List.length_cons, List.length_nil, Nat.reduceAdd, Nat.reduceLT, if_true, l10, l01, l20, l21, l02, l12, List.append_nil, List.getElem?_cons_zero, List.getElem?_cons_succ, List.set_cons_zero, List.set_cons_succ, not_false_eq_true, not_true_eq_false, false_implies, true_implies, forall_const, Classical.not_not, rc0_at, rcI_at, sOK0, sOK1, sOK2, sOK3, sOK4, true_and, and_true, kil, Option.toList_some, Option.toList_none, List.nil_append, List.cons_append, Option.some.injEq, exists_eq_left', Value.int.injEq, Value.ref.injEq, Value.long.injEq, gf_at b0.1, b2i_01, pf_at c.set1 (show 1 < 2 by decide)]
    refine ⟨of_eq_true hr, _, _, r1, ?_⟩
    simp only [r1_0, r1_1, r1_2, r1_5, r1_6, r1_7, r1_10, r1_11, r1_15, r1_17, r1_20, r1_21, r1_22, r1_25, r1_26, r1_27, r1_30, r1_33, r1_34, r1_36, r1_37, r1_38, r1_41, r1_44, r1_47, List.length_cons, List.length_nil, Nat.reduceAdd, Nat.reduceLT, if_true, l10, l01, l20, l21, l02, l12, List.append_nil, List.getElem?_cons_zero, List.getElem?_cons_succ, List.set_cons_zero, List.set_cons_succ, not_false_eq_true, not_true_eq_false, false_implies, true_implies, forall_const, Classical.not_not, rc0_at, rcI_at, sOK0, sOK1, sOK2, sOK3, sOK4, true_and, and_true, kil, Option.toList_some, Option.toList_none, List.nil_append, List.cons_append, Option.some.injEq, exists_eq_left', Value.int.injEq, Value.ref.injEq, Value.long.injEq, nI_1]
    exact s1
theorem c_dusk (d : Nat) {h : pH} {k kb kn kt : Nat} {bef now ts : List Int32} {w wb wt : Bool} {f l : Int32} (n0 : kb + 2 ≤ kt ∨ kt + 2 ≤ kb) (n1 : kn + 2 ≤ kt ∨ kt + 2 ≤ kn) (n2 : k < kn ∨ kn + 2 ≤ k) (n3 : k < kt ∨ kt + 2 ≤ k) (n4 : k < kb ∨ kb + 2 ≤ k) (x : h[k]? = some (dkC f l)) (a : Snd h kb bef wb) (b : Snd h kn now w) (c : Snd h kt ts wt) : ∃ h', Cl (d + 4) 1 [.ref k, .ref kb, .ref kn, .ref kt] h none h' ∧ h'[k]? = some (dkC (tss w bef now 80 0 (0, -1)).1 (tss w bef now 80 0 (0, -1)).2) ∧ (∃ ts' wt', Snd h' kt ts' wt') ∧ ∀ i, i ≠ k → (i < kt ∨ kt + 2 ≤ i) → h'[i]? = h[i]? := by
  have m : Sm k (k + 1) h (h.set k (dkC 0 (-1))) := Sm.set (by omega) (by omega)
  obtain ⟨h', r1, r2, r3, r4⟩ := lo_dusk d k kb kn kt bef now w wb n0 n1 n2 n3 n4 80 0 (0, -1) ts wt (h.set k (dkC 0 (-1))) rfl (get_set x) (a.fr m (by omega)) (b.fr m (by omega)) (c.fr m (by omega))
  refine ⟨h', ?_, r2, r3, fun i hi1 hi2 => (r4 i hi1 hi2).trans (m i (by omega))⟩
  refine Cl_o 5 rfl [some (.ref k), some (.ref kb), some (.ref kn), some (.ref kt), none] rfl rfl ?_
  have x2 := x
  unfold dkC at x2
  simp only [r1_0, r1_1, r1_2, r1_5, r1_6, r1_7, r1_10, r1_11, r1_15, r1_17, r1_20, r1_21, r1_22, r1_25, r1_26, r1_27, r1_30, r1_33, r1_34, r1_36, r1_37, r1_38, r1_41, r1_44, r1_47, List.length_cons, List.length_nil, Nat.reduceAdd, Nat.reduceLT, if_true, l10, l01, l20, l21, l02, l12, List.append_nil, List.getElem?_cons_zero, List.getElem?_cons_succ, List.set_cons_zero, List.set_cons_succ, not_false_eq_true, not_true_eq_false, false_implies, true_implies, forall_const, Classical.not_not, rc0_at, rcI_at, sOK0, sOK1, sOK2, sOK3, sOK4, true_and, and_true, kil, Option.toList_some, Option.toList_none, List.nil_append, List.cons_append, Option.some.injEq, exists_eq_left', Value.int.injEq, Value.ref.injEq, Value.long.injEq, pf_at x2 (show 0 < 2 by decide), pf_set x2]
  exact r1
