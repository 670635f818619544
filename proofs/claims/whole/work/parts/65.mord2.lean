theorem dropN {l : List Nat} {t : Nat} (h : t < l.length) : l.drop t = l.getD t 0 :: l.drop (t + 1) := by
  rw [List.drop_eq_getElem_cons h]
  congr 1
  simp [List.getD, h]
theorem evO_le (w : Bool) (ws : Nat → wkr) : ∀ (l : List Nat) (gd : Nat) (hs : List Int32), evO w ws l gd hs ≤ gd + l.length
  | [], gd, hs => Nat.le_refl _
  | m :: t, gd, hs => by
    have h1 := evO_le w ws t (gd + b2n (good hs (ws m))) (gob w (ws m) hs)
    have h2 := b2n_le (good hs (ws m))
    show evO w ws t (gd + b2n (good hs (ws m))) (gob w (ws m) hs) ≤ gd + (t.length + 1)
    omega
theorem whoL_lt (ws : Nat → wkr) (k : Nat) : ∀ x ∈ whoL ws k, x < k := fun x hx => List.mem_range.mp (List.mem_filter.mp hx).1
theorem whW_mem {l : List Nat} {i : Nat} (h : i < l.length) : whW l i ∈ l := by
  unfold whW
  rw [List.getD_eq_getElem?_getD, List.getElem?_eq_getElem h]
  exact List.getElem_mem h
def okB (g : Nat) (st : List Nat × Int) (mo : Int32) (bo : List Int32) : Prop := bo.length = 4 ∧ (mo.toInt = st.2 ∧ -1 ≤ st.2 ∧ st.2 ≤ 4) ∧ (0 ≤ st.2 → ∀ t, t < g → hx bo t = nI (st.1.getD t 0))
section M65
variable {h : pH} {n : Nat} {hd w : Bool} {nt : Int32} {tr : Nat} {hb : Bool} {cnt : Nat} {wm sn kd : Int32} {kw : Bool} {kn : Int32} {kc : Nat} {hh : Int64} {cs hs bf rs ms th wh od bo khs krs kms : List Int32}
theorem lo_evO (d g : Nat) (v1 v2 : Option Value) (v3' : Int32) {ws : Nat → wkr} (L : List Nat) (b1 : Rw rs ws) (b2 : Mp ms ws) (hp : ∀ i, i < 4 → wok (ws i)) (hL : L.length = g) (hg : g ≤ 4) (hl4 : ∀ x ∈ L, x < 4) (t3 : od.length = 4) (ho : ∀ t, t < g → hx od t = nI (L.getD t 0)) (hw : wm = nI g) : ∀ (j t gd : Nat) (th : List Int32) (h : pH), t + j = g → th.length = 8 → Mh h (mcs (mO n hd w nt tr hb cnt wm sn kd kw kn kc hh) cs hs bf rs ms th wh od bo khs krs kms) → ∃ th', th'.length = 8 ∧ ∀ r h', X 124 (d + 3) r h' 117 [some (.ref 66), v1, v2, some (.int v3'), some (.int (nI (evO w ws (L.drop t) gd th))), some (.int (nI g))] [] (h.set 72 (.inl th')) → X 124 (d + 3) r h' 63 [some (.ref 66), v1, v2, some (.int v3'), some (.int (nI gd)), some (.int (nI t))] [] h := by
  intro j
  induction j with
  | zero =>
    intro t gd th h ht t1 a
    have g0 := a.g0
    dsimp only [mO] at g0
    rw [hw] at g0
    have : t = g := by omega
    subst this
    refine ⟨th, t1, fun r h' hk => ?_⟩
    rw [List.drop_of_length_le (by omega), set_same a.g6] at hk
    rw [r124_63]
    simp only [r124_65, r124_66, r124_69, List.length_cons, List.length_nil, Nat.reduceAdd, Nat.reduceLT, if_true, l10, l01, l20, l21, l02, l12, List.append_nil, List.getElem?_cons_zero, List.getElem?_cons_succ, List.set_cons_zero, List.set_cons_succ, not_false_eq_true, not_true_eq_false, false_implies, true_implies, forall_const, Classical.not_not, rc0_at, rcI_at, sOK0, sOK1, sOK2, sOK3, sOK4, true_and, and_true, kil, Option.toList_some, Option.toList_none, List.nil_append, List.cons_append, Option.some.injEq, exists_eq_left', Value.int.injEq, Value.ref.injEq, Value.long.injEq, gf_at g0, Int32.le_refl]
    exact hk
  | succ j ih =>
    intro t gd th h ht t1 a
    have g0 := a.g0
    dsimp only [mO] at g0
    rw [hw] at g0
    have e : (nI g ≤ nI t) = False := eq_false (nI_ge (by omega) (by omega))
    have hm : L.getD t 0 < 4 := by
      rw [List.getD_eq_getElem?_getD, List.getElem?_eq_getElem (by omega)]
      exact hl4 _ (List.getElem_mem _)
    have it : ild h 74 (nI t) = some (nI (L.getD t 0)) := by
      rw [ild_at a.g8 (by omega) (by omega), ho t (by omega)]
    have cg := c_isGood (d + 1) (L.getD t 0) 72 a b1 b2 a.g6 t1 hm (hp _ hm)
    have co := c_goes d (L.getD t 0) a b1 b2 t1 hm (hp _ hm)
    have t1' : (gob w (ws (L.getD t 0)) th).length = 8 := by rw [gob_len]; exact t1
    obtain ⟨th', x1, x2⟩ := ih (t + 1) (gd + b2n (good th (ws (L.getD t 0)))) _ _ (by omega) t1' (a.s6 _)
    refine ⟨th', x1, fun r h' hk => ?_⟩
    rw [dropN (by omega)] at hk
    have x3 := x2 r h' (by rw [List.set_set]; exact hk)
    rw [r124_63]
    simp only [r124_65, r124_66, r124_69, r124_72, r124_74, r124_75, r124_76, r124_79, r124_80, r124_83, r124_85, r124_86, List.length_cons, List.length_nil, Nat.reduceAdd, Nat.reduceLT, if_true, l10, l01, l20, l21, l02, l12, List.append_nil, List.getElem?_cons_zero, List.getElem?_cons_succ, List.set_cons_zero, List.set_cons_succ, not_false_eq_true, not_true_eq_false, false_implies, true_implies, forall_const, Classical.not_not, rc0_at, rcI_at, sOK0, sOK1, sOK2, sOK3, sOK4, true_and, and_true, kil, Option.toList_some, Option.toList_none, List.nil_append, List.cons_append, Option.some.injEq, exists_eq_left', Value.int.injEq, Value.ref.injEq, Value.long.injEq, gf_at g0, e, it, rcV_at g0]
    refine ⟨_, _, cg, ?_⟩
    cases eg : good th (ws (L.getD t 0)) with
    | true =>
      rw [eg] at x3
      have e1 : nI gd + 1 = nI (gd + b2n true) := nI_1 gd
      simp only [r124_89, r124_92, r124_93, r124_97, r124_98, r124_100, r124_101, r124_102, r124_105, r124_107, r124_108, List.length_cons, List.length_nil, Nat.reduceAdd, Nat.reduceLT, if_true, l10, l01, l20, l21, l02, l12, List.append_nil, List.getElem?_cons_zero, List.getElem?_cons_succ, List.set_cons_zero, List.set_cons_succ, not_false_eq_true, not_true_eq_false, false_implies, true_implies, forall_const, Classical.not_not, rc0_at, rcI_at, sOK0, sOK1, sOK2, sOK3, sOK4, true_and, and_true, kil, Option.toList_some, Option.toList_none, List.nil_append, List.cons_append, Option.some.injEq, exists_eq_left', Value.int.injEq, Value.ref.injEq, Value.long.injEq, b2i, gf_at g0, it, rcV_at g0, e1]
      refine ⟨_, _, co, ?_⟩
      simp only [r124_111, r124_114, List.length_cons, List.length_nil, Nat.reduceAdd, Nat.reduceLT, if_true, l10, l01, l20, l21, l02, l12, List.append_nil, List.getElem?_cons_zero, List.getElem?_cons_succ, List.set_cons_zero, List.set_cons_succ, not_false_eq_true, not_true_eq_false, false_implies, true_implies, forall_const, Classical.not_not, rc0_at, rcI_at, sOK0, sOK1, sOK2, sOK3, sOK4, true_and, and_true, kil, Option.toList_some, Option.toList_none, List.nil_append, List.cons_append, Option.some.injEq, exists_eq_left', Value.int.injEq, Value.ref.injEq, Value.long.injEq, nI_1]
      exact x3
    | false =>
      rw [eg] at x3
      have e1 : nI gd + 0 = nI (gd + b2n false) := by rw [show b2n false = 0 from rfl, Nat.add_zero]; simp
      simp only [r124_89, r124_96, r124_97, r124_98, r124_100, r124_101, r124_102, r124_105, r124_107, r124_108, List.length_cons, List.length_nil, Nat.reduceAdd, Nat.reduceLT, if_true, l10, l01, l20, l21, l02, l12, List.append_nil, List.getElem?_cons_zero, List.getElem?_cons_succ, List.set_cons_zero, List.set_cons_succ, not_false_eq_true, not_true_eq_false, false_implies, true_implies, forall_const, Classical.not_not, rc0_at, rcI_at, sOK0, sOK1, sOK2, sOK3, sOK4, true_and, and_true, kil, Option.toList_some, Option.toList_none, List.nil_append, List.cons_append, Option.some.injEq, exists_eq_left', Value.int.injEq, Value.ref.injEq, Value.long.injEq, b2i, Bool.false_eq_true, if_false, gf_at g0, it, rcV_at g0, e1]
      refine ⟨_, _, co, ?_⟩
      simp only [r124_111, r124_114, List.length_cons, List.length_nil, Nat.reduceAdd, Nat.reduceLT, if_true, l10, l01, l20, l21, l02, l12, List.append_nil, List.getElem?_cons_zero, List.getElem?_cons_succ, List.set_cons_zero, List.set_cons_succ, not_false_eq_true, not_true_eq_false, false_implies, true_implies, forall_const, Classical.not_not, rc0_at, rcI_at, sOK0, sOK1, sOK2, sOK3, sOK4, true_and, and_true, kil, Option.toList_some, Option.toList_none, List.nil_append, List.cons_append, Option.some.injEq, exists_eq_left', Value.int.injEq, Value.ref.injEq, Value.long.injEq, nI_1]
      exact x3
end M65
