/-- steps left, fewest, bits -/
abbrev ft3 : Type := Int32 × Int32 × Int32
def ftC (k n g : Nat) (gh : Int32) (st : ft3) : pC := .inr (.inr (1, [.ref (k + 1), .int (nI n), .int (nI g), .int gh, .int st.1, .int st.2.1, .int st.2.2]))
def Ft (h : pH) (k n g : Nat) (gh : Int32) (st : ft3) : Prop := h[k]? = some (ftC k n g gh st) ∧ h[k + 1]? = some (.inr (.inl (0, [some (k + 2), some (k + 4), some (k + 6), some (k + 8), some (k + 10), some (k + 12), some (k + 14), some (k + 16), some (k + 18)]))) ∧ ∀ i, i < 9 → ∃ hs w, Snd h (k + 2 + 2 * i) hs w
theorem Ft.ald {h : pH} {k n g i : Nat} {gh : Int32} {st : ft3} (x : Ft h k n g gh st) (hi : i < 9) : ald h (k + 1) (nI i) = some (.ref (k + 2 + 2 * i)) := by
  refine ald_at x.2.1 (by decide) (by omega) ?_
  match i, hi with
  | 0, _ => rfl
  | 1, _ => rfl
  | 2, _ => rfl
  | 3, _ => rfl
  | 4, _ => rfl
  | 5, _ => rfl
  | 6, _ => rfl
  | 7, _ => rfl
  | 8, _ => rfl
theorem Ft.setC {h : pH} {k n g : Nat} {gh : Int32} {st : ft3} (x : Ft h k n g gh st) (n' g' : Nat) (gh' : Int32) (st' : ft3) : Ft (h.set k (ftC k n' g' gh' st')) k n' g' gh' st' := ⟨get_set x.1, by rw [List.getElem?_set_ne (by omega)]; exact x.2.1, fun i hi => by
  obtain ⟨hs, w, s⟩ := x.2.2 i hi
  exact ⟨hs, w, s.fr (Sm.set (a := k) (b := k + 1) (by omega) (by omega)) (by omega)⟩⟩
theorem Ft.setS {h h1 : pH} {k n g i : Nat} {gh : Int32} {st : ft3} {hs : List Int32} {w : Bool} (x : Ft h k n g gh st) (m : Sm (k + 2 + 2 * i) (k + 4 + 2 * i) h h1) (s : Snd h1 (k + 2 + 2 * i) hs w) : Ft h1 k n g gh st := ⟨by rw [m k (by omega)]; exact x.1, by rw [m (k + 1) (by omega)]; exact x.2.1, fun j hj => by
  by_cases e : j = i
  · subst e; exact ⟨hs, w, s⟩
  · obtain ⟨hs2, w2, s2⟩ := x.2.2 j hj
    exact ⟨hs2, w2, s2.fr m (by omega)⟩⟩
theorem Ft.fp {h h1 : pH} {k n g : Nat} {gh : Int32} {st : ft3} (x : Ft h k n g gh st) (m : ∀ j, k ≤ j → j < k + 20 → h1[j]? = h[j]?) : Ft h1 k n g gh st := ⟨by rw [m k (by omega) (by omega)]; exact x.1, by rw [m (k + 1) (by omega) (by omega)]; exact x.2.1, fun i hi => by
  obtain ⟨hs, w, s⟩ := x.2.2 i hi
  exact ⟨hs, w, s.fp (fun j a b => m j (by omega) (by omega))⟩⟩
def ftw (rc : Nat → ft3 → ft3) (s : Nat) : Nat → Nat → ft3 → ft3
  | 0, _, st => st
  | j + 1, wy, st => ftw rc s j (wy + 1) (if nI s < st.1 ∧ s < 8 then rc wy st else st)
/-- the search for FEET as the class does it -/
def ftr (w : Bool) (n g : Nat) (gh : Int32) : Nat → Nat → Nat → Int32 → List Int32 → ft3 → ft3
  | 0, _, _, _, _, st => st
  | f + 1, pl, s, pa, hs, st => if st.1 < nI s then st else if hx hs g ≤ gh then (nI s - 1, nI s, pa) else ftw (fun wy st => ftr w n g gh f (bes pl (nI wy)) (s + 1) (pa ||| (nI wy <<< (nI s &&& 31))) (trd hs w (bes pl (nI wy)) n).2 st) s 2 0 st
theorem lo_tryFrom (d k n g f : Nat) (gh : Int32) (hn : n < 5) (hg : g < 8)
    (IH : ∀ (pl s : Nat) (pa : Int32) (hs : List Int32) (w : Bool) (st : ft3) (h : pH), s + f = 9 → pl < 8 → Ft h k n g gh st → Snd h (k + 2 + 2 * s) hs w → ∃ h', Cl (d + f + 2) 5 [.ref k, .int (nI pl), .int (nI s), .int pa] h none h' ∧ Ft h' k n g gh (ftr w n g gh f pl s pa hs st) ∧ ∀ i, i ≠ k → (i < k + 4 + 2 * s ∨ k + 20 ≤ i) → h'[i]? = h[i]?)
    (pl s : Nat) (pa : Int32) (hs : List Int32) (w : Bool) (hs9 : s + (f + 1) = 9) (hpl : pl < 8) : ∀ (j wy : Nat) (v5 : Option Value) (st : ft3) (h : pH), wy + j = 2 → Ft h k n g gh st → Snd h (k + 2 + 2 * s) hs w → ∃ h', X 5 (d + f + 2) none h' 60 [some (.ref k), some (.int (nI pl)), some (.int (nI s)), some (.int pa), some (.int (nI wy)), v5] [] h ∧ Ft h' k n g gh (ftw (fun wy st => ftr w n g gh f (bes pl (nI wy)) (s + 1) (pa ||| (nI wy <<< (nI s &&& 31))) (trd hs w (bes pl (nI wy)) n).2 st) s j wy st) ∧ ∀ i, i ≠ k → (i < k + 4 + 2 * s ∨ k + 20 ≤ i) → h'[i]? = h[i]? := by
  intro j
  induction j with
  | zero =>
    intro wy v5 st h hw x a
    have : wy = 2 := by omega
    subst this
    refine ⟨h, ?_, x, fun _ _ _ => rfl⟩
    have e2 : ((1 : Int32) < nI 2) = True := eq_true (by decide)
    rw [r5_60]; simp only [r5_0, r5_1, r5_4, r5_5, r5_6, r5_9, r5_12, r5_13, r5_15, r5_18, r5_19, r5_20, r5_23, r5_24, r5_25, r5_26, r5_29, r5_32, r5_33, r5_36, r5_39, r5_40, r5_41, r5_44, r5_45, r5_46, r5_49, r5_50, r5_51, r5_52, r5_53, r5_56, r5_57, r5_58, r5_62, r5_63, r5_66, r5_67, r5_68, r5_71, r5_74, r5_75, r5_77, r5_80, r5_81, r5_83, r5_86, r5_88, r5_89, r5_92, r5_93, r5_94, r5_95, r5_96, r5_97, r5_100, r5_101, r5_102, r5_105, r5_106, r5_109, r5_110, r5_111, r5_112, r5_113, r5_115, r5_116, r5_119, r5_122, r5_123, r5_124, r5_126, r5_127, r5_128, r5_129, r5_130, r5_132, r5_133, r5_134, r5_135, r5_138, r5_141, r5_144, List.length_cons, List.length_nil, Nat.reduceAdd, Nat.reduceLT, if_true, l10, l01, l20, l21, l02, l12, List.append_nil, List.getElem?_cons_zero, List.getElem?_cons_succ, List.set_cons_zero, List.set_cons_succ, not_false_eq_true, not_true_eq_false, false_implies, true_implies, forall_const, Classical.not_not, rc0_at, rcI_at, sOK0, sOK1, sOK2, sOK3, sOK4, true_and, and_true, kil, Option.toList_some, Option.toList_none, List.nil_append, List.cons_append, Option.some.injEq, exists_eq_left', Value.int.injEq, Value.ref.injEq, Value.long.injEq, e2]
  | succ j ih =>
    intro wy v5 st h hw x a
    have e2 : ((1 : Int32) < nI wy) = False := by
      rcases (show wy = 0 ∨ wy = 1 by omega) with rfl | rfl <;> exact eq_false (by decide)
    have x1 := x.1
    unfold ftC at x1
    by_cases e : nI s < st.1 ∧ s < 8
    · obtain ⟨e1, e8⟩ := e
      have e1' : ¬ st.1 ≤ nI s := Int32.not_le.mpr e1
      obtain ⟨hsn, wn, sn⟩ := x.2.2 (s + 1) (by omega)
      have hk1 : k + 2 + 2 * (s + 1) ≠ k + 2 + 2 * s := by omega
      have m1 : Sm (k + 2 + 2 * (s + 1)) (k + 2 + 2 * (s + 1) + 2) h (sndH h (k + 2 + 2 * (s + 1)) hs w) := sndH_sm _ _ _ _
      have s1 := sndH_snd (w' := w) sn a.2.2
      have x2 : Ft (sndH h (k + 2 + 2 * (s + 1)) hs w) k n g gh st := x.setS (i := s + 1) (m1.mono (by omega) (by omega)) s1
      have m2 : Sm (k + 2 + 2 * (s + 1)) (k + 2 + 2 * (s + 1) + 2) (sndH h (k + 2 + 2 * (s + 1)) hs w) ((sndH h (k + 2 + 2 * (s + 1)) hs w).set (k + 2 + 2 * (s + 1) + 1) (.inl (trd hs w (bes pl (nI wy)) n).2)) := Sm.set (by omega) (by omega)
      have s2 : Snd _ _ (trd hs w (bes pl (nI wy)) n).2 w := s1.set (hs' := (trd hs w (bes pl (nI wy)) n).2) (by rw [trd_len]; exact a.2.2)
      have x3 := x2.setS (i := s + 1) (m2.mono (by omega) (by omega)) s2
      obtain ⟨h3, r1, r2, r3⟩ := IH (bes pl (nI wy)) (s + 1) (pa ||| (nI wy <<< (nI s &&& 31))) _ w st _ (by omega) (bes_lt _ _) x3 s2
      have a3 : Snd h3 (k + 2 + 2 * s) hs w := a.fp (fun i hi1 hi2 => by rw [r3 i (by omega) (by omega), m2 i (by omega), m1 i (by omega)])
      obtain ⟨h4, t1, t2, t3⟩ := ih (wy + 1) (some (.int (nI (bes pl (nI wy))))) _ h3 (by omega) r2 a3
      refine ⟨h4, ?_, ?_, fun i hi1 hi2 => by rw [t3 i hi1 hi2, r3 i hi1 (by omega), m2 i (by omega), m1 i (by omega)]⟩
      · have e8' : ((8 : Int32) ≤ nI s) = False := ge8f e8
        rw [r5_60]; simp only [r5_0, r5_1, r5_4, r5_5, r5_6, r5_9, r5_12, r5_13, r5_15, r5_18, r5_19, r5_20, r5_23, r5_24, r5_25, r5_26, r5_29, r5_32, r5_33, r5_36, r5_39, r5_40, r5_41, r5_44, r5_45, r5_46, r5_49, r5_50, r5_51, r5_52, r5_53, r5_56, r5_57, r5_58, r5_62, r5_63, r5_66, r5_67, r5_68, r5_71, r5_74, r5_75, r5_77, r5_80, r5_81, r5_83, r5_86, r5_88, r5_89, r5_92, r5_93, r5_94, r5_95, r5_96, r5_97, r5_100, r5_101, r5_102, r5_105, r5_106, r5_109, r5_110, r5_111, r5_112, r5_113, r5_115, r5_116, r5_119, r5_122, r5_123, r5_124, r5_126, r5_127, r5_128, r5_129, r5_130, r5_132, r5_133, r5_134, r5_135, r5_138, r5_141, r5_144, List.length_cons, List.length_nil, Nat.reduceAdd, Nat.reduceLT, if_true, l10, l01, l20, l21, l02, l12, List.append_nil, List.getElem?_cons_zero, List.getElem?_cons_succ, List.set_cons_zero, List.set_cons_succ, not_false_eq_true, not_true_eq_false, false_implies, true_implies, forall_const, Classical.not_not, rc0_at, rcI_at, sOK0, sOK1, sOK2, sOK3, sOK4, true_and, and_true, kil, Option.toList_some, Option.toList_none, List.nil_append, List.cons_append, Option.some.injEq, exists_eq_left', Value.int.injEq, Value.ref.injEq, Value.long.injEq, e2, gf_at x1, e1', e8']
        refine ⟨_, _, c_beside (d + f + 1) h hpl _, ?_⟩
        simp only [r5_0, r5_1, r5_4, r5_5, r5_6, r5_9, r5_12, r5_13, r5_15, r5_18, r5_19, r5_20, r5_23, r5_24, r5_25, r5_26, r5_29, r5_32, r5_33, r5_36, r5_39, r5_40, r5_41, r5_44, r5_45, r5_46, r5_49, r5_50, r5_51, r5_52, r5_53, r5_56, r5_57, r5_58, r5_62, r5_63, r5_66, r5_67, r5_68, r5_71, r5_74, r5_75, r5_77, r5_80, r5_81, r5_83, r5_86, r5_88, r5_89, r5_92, r5_93, r5_94, r5_95, r5_96, r5_97, r5_100, r5_101, r5_102, r5_105, r5_106, r5_109, r5_110, r5_111, r5_112, r5_113, r5_115, r5_116, r5_119, r5_122, r5_123, r5_124, r5_126, r5_127, r5_128, r5_129, r5_130, r5_132, r5_133, r5_134, r5_135, r5_138, r5_141, r5_144, List.length_cons, List.length_nil, Nat.reduceAdd, Nat.reduceLT, if_true, l10, l01, l20, l21, l02, l12, List.append_nil, List.getElem?_cons_zero, List.getElem?_cons_succ, List.set_cons_zero, List.set_cons_succ, not_false_eq_true, not_true_eq_false, false_implies, true_implies, forall_const, Classical.not_not, rc0_at, rcI_at, sOK0, sOK1, sOK2, sOK3, sOK4, true_and, and_true, kil, Option.toList_some, Option.toList_none, List.nil_append, List.cons_append, Option.some.injEq, exists_eq_left', Value.int.injEq, Value.ref.injEq, Value.long.injEq, gf_at x1, nI_1, x.ald (show s + 1 < 9 by omega), x.ald (show s < 9 by omega), rcV_at sn.1]
        refine ⟨_, _, c_copyFrom (d + f) sn a hk1, ?_⟩
        have x21 := x2.1
        unfold ftC at x21
        simp only [r5_0, r5_1, r5_4, r5_5, r5_6, r5_9, r5_12, r5_13, r5_15, r5_18, r5_19, r5_20, r5_23, r5_24, r5_25, r5_26, r5_29, r5_32, r5_33, r5_36, r5_39, r5_40, r5_41, r5_44, r5_45, r5_46, r5_49, r5_50, r5_51, r5_52, r5_53, r5_56, r5_57, r5_58, r5_62, r5_63, r5_66, r5_67, r5_68, r5_71, r5_74, r5_75, r5_77, r5_80, r5_81, r5_83, r5_86, r5_88, r5_89, r5_92, r5_93, r5_94, r5_95, r5_96, r5_97, r5_100, r5_101, r5_102, r5_105, r5_106, r5_109, r5_110, r5_111, r5_112, r5_113, r5_115, r5_116, r5_119, r5_122, r5_123, r5_124, r5_126, r5_127, r5_128, r5_129, r5_130, r5_132, r5_133, r5_134, r5_135, r5_138, r5_141, r5_144, List.length_cons, List.length_nil, Nat.reduceAdd, Nat.reduceLT, if_true, l10, l01, l20, l21, l02, l12, List.append_nil, List.getElem?_cons_zero, List.getElem?_cons_succ, List.set_cons_zero, List.set_cons_succ, not_false_eq_true, not_true_eq_false, false_implies, true_implies, forall_const, Classical.not_not, rc0_at, rcI_at, sOK0, sOK1, sOK2, sOK3, sOK4, true_and, and_true, kil, Option.toList_some, Option.toList_none, List.nil_append, List.cons_append, Option.some.injEq, exists_eq_left', Value.int.injEq, Value.ref.injEq, Value.long.injEq, gf_at x21, nI_1, x2.ald (show s + 1 < 9 by omega), rcV_at s1.1]
        refine ⟨_, _, c_tread (d + f) s1 (bes_lt _ _) hn, ?_⟩
        have x31 := x3.1
        unfold ftC at x31
        simp only [r5_0, r5_1, r5_4, r5_5, r5_6, r5_9, r5_12, r5_13, r5_15, r5_18, r5_19, r5_20, r5_23, r5_24, r5_25, r5_26, r5_29, r5_32, r5_33, r5_36, r5_39, r5_40, r5_41, r5_44, r5_45, r5_46, r5_49, r5_50, r5_51, r5_52, r5_53, r5_56, r5_57, r5_58, r5_62, r5_63, r5_66, r5_67, r5_68, r5_71, r5_74, r5_75, r5_77, r5_80, r5_81, r5_83, r5_86, r5_88, r5_89, r5_92, r5_93, r5_94, r5_95, r5_96, r5_97, r5_100, r5_101, r5_102, r5_105, r5_106, r5_109, r5_110, r5_111, r5_112, r5_113, r5_115, r5_116, r5_119, r5_122, r5_123, r5_124, r5_126, r5_127, r5_128, r5_129, r5_130, r5_132, r5_133, r5_134, r5_135, r5_138, r5_141, r5_144, List.length_cons, List.length_nil, Nat.reduceAdd, Nat.reduceLT, if_true, l10, l01, l20, l21, l02, l12, List.append_nil, List.getElem?_cons_zero, List.getElem?_cons_succ, List.set_cons_zero, List.set_cons_succ, not_false_eq_true, not_true_eq_false, false_implies, true_implies, forall_const, Classical.not_not, rc0_at, rcI_at, sOK0, sOK1, sOK2, sOK3, sOK4, true_and, and_true, kil, Option.toList_some, Option.toList_none, List.nil_append, List.cons_append, Option.some.injEq, exists_eq_left', Value.int.injEq, Value.ref.injEq, Value.long.injEq, nI_1, rcV_at x31]
        refine ⟨_, _, r1, ?_⟩
        simp only [r5_0, r5_1, r5_4, r5_5, r5_6, r5_9, r5_12, r5_13, r5_15, r5_18, r5_19, r5_20, r5_23, r5_24, r5_25, r5_26, r5_29, r5_32, r5_33, r5_36, r5_39, r5_40, r5_41, r5_44, r5_45, r5_46, r5_49, r5_50, r5_51, r5_52, r5_53, r5_56, r5_57, r5_58, r5_62, r5_63, r5_66, r5_67, r5_68, r5_71, r5_74, r5_75, r5_77, r5_80, r5_81, r5_83, r5_86, r5_88, r5_89, r5_92, r5_93, r5_94, r5_95, r5_96, r5_97, r5_100, r5_101, r5_102, r5_105, r5_106, r5_109, r5_110, r5_111, r5_112, r5_113, r5_115, r5_116, r5_119, r5_122, r5_123, r5_124, r5_126, r5_127, r5_128, r5_129, r5_130, r5_132, r5_133, r5_134, r5_135, r5_138, r5_141, r5_144, List.length_cons, List.length_nil, Nat.reduceAdd, Nat.reduceLT, if_true, l10, l01, l20, l21, l02, l12, List.append_nil, List.getElem?_cons_zero, List.getElem?_cons_succ, List.set_cons_zero, List.set_cons_succ, not_false_eq_true, not_true_eq_false, false_implies, true_implies, forall_const, Classical.not_not, rc0_at, rcI_at, sOK0, sOK1, sOK2, sOK3, sOK4, true_and, and_true, kil, Option.toList_some, Option.toList_none, List.nil_append, List.cons_append, Option.some.injEq, exists_eq_left', Value.int.injEq, Value.ref.injEq, Value.long.injEq, nI_1]
        exact t1
      · unfold ftw
        rw [if_pos ⟨e1, e8⟩]
        exact t2
    · obtain ⟨h4, t1, t2, t3⟩ := ih (wy + 1) v5 st h (by omega) x a
      refine ⟨h4, ?_, ?_, t3⟩
      · rw [r5_60]; simp only [r5_0, r5_1, r5_4, r5_5, r5_6, r5_9, r5_12, r5_13, r5_15, r5_18, r5_19, r5_20, r5_23, r5_24, r5_25, r5_26, r5_29, r5_32, r5_33, r5_36, r5_39, r5_40, r5_41, r5_44, r5_45, r5_46, r5_49, r5_50, r5_51, r5_52, r5_53, r5_56, r5_57, r5_58, r5_62, r5_63, r5_66, r5_67, r5_68, r5_71, r5_74, r5_75, r5_77, r5_80, r5_81, r5_83, r5_86, r5_88, r5_89, r5_92, r5_93, r5_94, r5_95, r5_96, r5_97, r5_100, r5_101, r5_102, r5_105, r5_106, r5_109, r5_110, r5_111, r5_112, r5_113, r5_115, r5_116, r5_119, r5_122, r5_123, r5_124, r5_126, r5_127, r5_128, r5_129, r5_130, r5_132, r5_133, r5_134, r5_135, r5_138, r5_141, r5_144, List.length_cons, List.length_nil, Nat.reduceAdd, Nat.reduceLT, if_true, l10, l01, l20, l21, l02, l12, List.append_nil, List.getElem?_cons_zero, List.getElem?_cons_succ, List.set_cons_zero, List.set_cons_succ, not_false_eq_true, not_true_eq_false, false_implies, true_implies, forall_const, Classical.not_not, rc0_at, rcI_at, sOK0, sOK1, sOK2, sOK3, sOK4, true_and, and_true, kil, Option.toList_some, Option.toList_none, List.nil_append, List.cons_append, Option.some.injEq, exists_eq_left', Value.int.injEq, Value.ref.injEq, Value.long.injEq, e2, gf_at x1]
        by_cases e1 : st.1 ≤ nI s
        · simp only [e1, nI_1, true_implies, not_true_eq_false, false_implies, and_true]
          exact t1
        · have e8 : (8 : Int32) ≤ nI s := by
            have : s = 8 := by
              have hh : ¬ s < 8 := fun z => e ⟨Int32.not_le.mp e1, z⟩
              omega
            rw [this]; decide
          simp only [e1, e8, nI_1, true_implies, not_true_eq_false, false_implies, and_true, true_and, not_false_eq_true]
          exact t1
      · unfold ftw
        rw [if_neg e]
        exact t2
theorem c_tryFrom (d k n g : Nat) (gh : Int32) (hn : n < 5) (hg : g < 8) : ∀ (f pl s : Nat) (pa : Int32) (hs : List Int32) (w : Bool) (st : ft3) (h : pH), s + f = 9 → pl < 8 → Ft h k n g gh st → Snd h (k + 2 + 2 * s) hs w → ∃ h', Cl (d + f + 2) 5 [.ref k, .int (nI pl), .int (nI s), .int pa] h none h' ∧ Ft h' k n g gh (ftr w n g gh f pl s pa hs st) ∧ ∀ i, i ≠ k → (i < k + 4 + 2 * s ∨ k + 20 ≤ i) → h'[i]? = h[i]? := by
  intro f
  induction f with
  | zero =>
    intro pl s pa hs w st h hs9 hpl x a
    have : s = 9 := by omega
    subst this
    refine ⟨h, ?_, x, fun _ _ _ => rfl⟩
    refine Cl_o 6 rfl [some (.ref k), some (.int (nI pl)), some (.int (nI 9)), some (.int pa), none, none] rfl rfl ?_
    have x1 := x.1
    unfold ftC at x1
    have e9 : (nI 9 ≤ 8) = False := eq_false (by decide)
    simp only [r5_0, r5_1, r5_4, r5_5, r5_6, r5_9, r5_12, r5_13, r5_15, r5_18, r5_19, r5_20, r5_23, r5_24, r5_25, r5_26, r5_29, r5_32, r5_33, r5_36, r5_39, r5_40, r5_41, r5_44, r5_45, r5_46, r5_49, r5_50, r5_51, r5_52, r5_53, r5_56, r5_57, r5_58, r5_62, r5_63, r5_66, r5_67, r5_68, r5_71, r5_74, r5_75, r5_77, r5_80, r5_81, r5_83, r5_86, r5_88, r5_89, r5_92, r5_93, r5_94, r5_95, r5_96, r5_97, r5_100, r5_101, r5_102, r5_105, r5_106, r5_109, r5_110, r5_111, r5_112, r5_113, r5_115, r5_116, r5_119, r5_122, r5_123, r5_124, r5_126, r5_127, r5_128, r5_129, r5_130, r5_132, r5_133, r5_134, r5_135, r5_138, r5_141, r5_144, List.length_cons, List.length_nil, Nat.reduceAdd, Nat.reduceLT, if_true, l10, l01, l20, l21, l02, l12, List.append_nil, List.getElem?_cons_zero, List.getElem?_cons_succ, List.set_cons_zero, List.set_cons_succ, not_false_eq_true, not_true_eq_false, false_implies, true_implies, forall_const, Classical.not_not, rc0_at, rcI_at, sOK0, sOK1, sOK2, sOK3, sOK4, true_and, and_true, kil, Option.toList_some, Option.toList_none, List.nil_append, List.cons_append, Option.some.injEq, exists_eq_left', Value.int.injEq, Value.ref.injEq, Value.long.injEq, nIneg (show 9 < 2 ^ 31 by decide), gf_at x1, e9, implies_true, and_self]
  | succ f IH =>
    intro pl s pa hs w st h hs9 hpl x a
    have x1 := x.1
    unfold ftC at x1
    have e8 : (nI s ≤ 8) = True := eq_true (nI_le (a := s) (b := 8) (by omega) (by decide))
    by_cases q1 : st.1 < nI s
    · refine ⟨h, ?_, by unfold ftr; rw [if_pos q1]; exact x, fun _ _ _ => rfl⟩
      refine Cl_o 6 rfl [some (.ref k), some (.int (nI pl)), some (.int (nI s)), some (.int pa), none, none] rfl rfl ?_
      simp only [r5_0, r5_1, r5_4, r5_5, r5_6, r5_9, r5_12, r5_13, r5_15, r5_18, r5_19, r5_20, r5_23, r5_24, r5_25, r5_26, r5_29, r5_32, r5_33, r5_36, r5_39, r5_40, r5_41, r5_44, r5_45, r5_46, r5_49, r5_50, r5_51, r5_52, r5_53, r5_56, r5_57, r5_58, r5_62, r5_63, r5_66, r5_67, r5_68, r5_71, r5_74, r5_75, r5_77, r5_80, r5_81, r5_83, r5_86, r5_88, r5_89, r5_92, r5_93, r5_94, r5_95, r5_96, r5_97, r5_100, r5_101, r5_102, r5_105, r5_106, r5_109, r5_110, r5_111, r5_112, r5_113, r5_115, r5_116, r5_119, r5_122, r5_123, r5_124, r5_126, r5_127, r5_128, r5_129, r5_130, r5_132, r5_133, r5_134, r5_135, r5_138, r5_141, r5_144, List.length_cons, List.length_nil, Nat.reduceAdd, Nat.reduceLT, if_true, l10, l01, l20, l21, l02, l12, List.append_nil, List.getElem?_cons_zero, List.getElem?_cons_succ, List.set_cons_zero, List.set_cons_succ, not_false_eq_true, not_true_eq_false, false_implies, true_implies, forall_const, Classical.not_not, rc0_at, rcI_at, sOK0, sOK1, sOK2, sOK3, sOK4, true_and, and_true, kil, Option.toList_some, Option.toList_none, List.nil_append, List.cons_append, Option.some.injEq, exists_eq_left', Value.int.injEq, Value.ref.injEq, Value.long.injEq, nIneg (show s < 2 ^ 31 by omega), gf_at x1, q1]
    · by_cases q2 : hx hs g ≤ gh
      · refine ⟨_, ?_, by unfold ftr; rw [if_neg q1, if_pos q2]; exact x.setC n g gh (nI s - 1, nI s, pa), fun i h1 h2 => List.getElem?_set_ne (by omega)⟩
        refine Cl_o 6 rfl [some (.ref k), some (.int (nI pl)), some (.int (nI s)), some (.int pa), none, none] rfl rfl ?_
        simp only [r5_0, r5_1, r5_4, r5_5, r5_6, r5_9, r5_12, r5_13, r5_15, r5_18, r5_19, r5_20, r5_23, r5_24, r5_25, r5_26, r5_29, r5_32, r5_33, r5_36, r5_39, r5_40, r5_41, r5_44, r5_45, r5_46, r5_49, r5_50, r5_51, r5_52, r5_53, r5_56, r5_57, r5_58, r5_62, r5_63, r5_66, r5_67, r5_68, r5_71, r5_74, r5_75, r5_77, r5_80, r5_81, r5_83, r5_86, r5_88, r5_89, r5_92, r5_93, r5_94, r5_95, r5_96, r5_97, r5_100, r5_101, r5_102, r5_105, r5_106, r5_109, r5_110, r5_111, r5_112, r5_113, r5_115, r5_116, r5_119, r5_122, r5_123, r5_124, r5_126, r5_127, r5_128, r5_129, r5_130, r5_132, r5_133, r5_134, r5_135, r5_138, r5_141, r5_144, List.length_cons, List.length_nil, Nat.reduceAdd, Nat.reduceLT, if_true, l10, l01, l20, l21, l02, l12, List.append_nil, List.getElem?_cons_zero, List.getElem?_cons_succ, List.set_cons_zero, List.set_cons_succ, not_false_eq_true, not_true_eq_false, false_implies, true_implies, forall_const, Classical.not_not, rc0_at, rcI_at, sOK0, sOK1, sOK2, sOK3, sOK4, true_and, and_true, kil, Option.toList_some, Option.toList_none, List.nil_append, List.cons_append, Option.some.injEq, exists_eq_left', Value.int.injEq, Value.ref.injEq, Value.long.injEq, nIneg (show s < 2 ^ 31 by omega), gf_at x1, q1, e8, x.ald (show s < 9 by omega), rcV_at a.1]
        refine ⟨_, _, c_heightAt (d + f + 1) a hg, ?_⟩
        have q2' : ¬ gh < hx hs g := Int32.not_lt.mpr q2
        simp only [r5_0, r5_1, r5_4, r5_5, r5_6, r5_9, r5_12, r5_13, r5_15, r5_18, r5_19, r5_20, r5_23, r5_24, r5_25, r5_26, r5_29, r5_32, r5_33, r5_36, r5_39, r5_40, r5_41, r5_44, r5_45, r5_46, r5_49, r5_50, r5_51, r5_52, r5_53, r5_56, r5_57, r5_58, r5_62, r5_63, r5_66, r5_67, r5_68, r5_71, r5_74, r5_75, r5_77, r5_80, r5_81, r5_83, r5_86, r5_88, r5_89, r5_92, r5_93, r5_94, r5_95, r5_96, r5_97, r5_100, r5_101, r5_102, r5_105, r5_106, r5_109, r5_110, r5_111, r5_112, r5_113, r5_115, r5_116, r5_119, r5_122, r5_123, r5_124, r5_126, r5_127, r5_128, r5_129, r5_130, r5_132, r5_133, r5_134, r5_135, r5_138, r5_141, r5_144, List.length_cons, List.length_nil, Nat.reduceAdd, Nat.reduceLT, if_true, l10, l01, l20, l21, l02, l12, List.append_nil, List.getElem?_cons_zero, List.getElem?_cons_succ, List.set_cons_zero, List.set_cons_succ, not_false_eq_true, not_true_eq_false, false_implies, true_implies, forall_const, Classical.not_not, rc0_at, rcI_at, sOK0, sOK1, sOK2, sOK3, sOK4, true_and, and_true, kil, Option.toList_some, Option.toList_none, List.nil_append, List.cons_append, Option.some.injEq, exists_eq_left', Value.int.injEq, Value.ref.injEq, Value.long.injEq, gf_at x1, q2', pf_at x1 (show 5 < 7 by decide), pf_set x1]
        rfl
      · obtain ⟨h', r1, r2, r3⟩ := lo_tryFrom d k n g f gh hn hg IH pl s pa hs w hs9 hpl 2 0 none st h rfl x a
        refine ⟨h', ?_, by unfold ftr; rw [if_neg q1, if_neg q2]; exact r2, r3⟩
        refine Cl_o 6 rfl [some (.ref k), some (.int (nI pl)), some (.int (nI s)), some (.int pa), none, none] rfl rfl ?_
        simp only [r5_0, r5_1, r5_4, r5_5, r5_6, r5_9, r5_12, r5_13, r5_15, r5_18, r5_19, r5_20, r5_23, r5_24, r5_25, r5_26, r5_29, r5_32, r5_33, r5_36, r5_39, r5_40, r5_41, r5_44, r5_45, r5_46, r5_49, r5_50, r5_51, r5_52, r5_53, r5_56, r5_57, r5_58, r5_62, r5_63, r5_66, r5_67, r5_68, r5_71, r5_74, r5_75, r5_77, r5_80, r5_81, r5_83, r5_86, r5_88, r5_89, r5_92, r5_93, r5_94, r5_95, r5_96, r5_97, r5_100, r5_101, r5_102, r5_105, r5_106, r5_109, r5_110, r5_111, r5_112, r5_113, r5_115, r5_116, r5_119, r5_122, r5_123, r5_124, r5_126, r5_127, r5_128, r5_129, r5_130, r5_132, r5_133, r5_134, r5_135, r5_138, r5_141, r5_144, List.length_cons, List.length_nil, Nat.reduceAdd, Nat.reduceLT, if_true, l10, l01, l20, l21, l02, l12, List.append_nil, List.getElem?_cons_zero, List.getElem?_cons_succ, List.set_cons_zero, List.set_cons_succ, not_false_eq_true, not_true_eq_false, false_implies, true_implies, forall_const, Classical.not_not, rc0_at, rcI_at, sOK0, sOK1, sOK2, sOK3, sOK4, true_and, and_true, kil, Option.toList_some, Option.toList_none, List.nil_append, List.cons_append, Option.some.injEq, exists_eq_left', Value.int.injEq, Value.ref.injEq, Value.long.injEq, nIneg (show s < 2 ^ 31 by omega), gf_at x1, q1, e8, x.ald (show s < 9 by omega), rcV_at a.1]
        refine ⟨_, _, c_heightAt (d + f + 1) a hg, ?_⟩
        have q2' : gh < hx hs g := Int32.not_le.mp q2
        simp only [r5_0, r5_1, r5_4, r5_5, r5_6, r5_9, r5_12, r5_13, r5_15, r5_18, r5_19, r5_20, r5_23, r5_24, r5_25, r5_26, r5_29, r5_32, r5_33, r5_36, r5_39, r5_40, r5_41, r5_44, r5_45, r5_46, r5_49, r5_50, r5_51, r5_52, r5_53, r5_56, r5_57, r5_58, r5_62, r5_63, r5_66, r5_67, r5_68, r5_71, r5_74, r5_75, r5_77, r5_80, r5_81, r5_83, r5_86, r5_88, r5_89, r5_92, r5_93, r5_94, r5_95, r5_96, r5_97, r5_100, r5_101, r5_102, r5_105, r5_106, r5_109, r5_110, r5_111, r5_112, r5_113, r5_115, r5_116, r5_119, r5_122, r5_123, r5_124, r5_126, r5_127, r5_128, r5_129, r5_130, r5_132, r5_133, r5_134, r5_135, r5_138, r5_141, r5_144, List.length_cons, List.length_nil, Nat.reduceAdd, Nat.reduceLT, if_true, l10, l01, l20, l21, l02, l12, List.append_nil, List.getElem?_cons_zero, List.getElem?_cons_succ, List.set_cons_zero, List.set_cons_succ, not_false_eq_true, not_true_eq_false, false_implies, true_implies, forall_const, Classical.not_not, rc0_at, rcI_at, sOK0, sOK1, sOK2, sOK3, sOK4, true_and, and_true, kil, Option.toList_some, Option.toList_none, List.nil_append, List.cons_append, Option.some.injEq, exists_eq_left', Value.int.injEq, Value.ref.injEq, Value.long.injEq, gf_at x1, q2']
        exact r1
/-- FEET as the class finds them: fewest and bits -/
def ftS (w : Bool) (n g : Nat) (gh : Int32) (pl : Nat) (hs : List Int32) : ft3 := ftr w n g gh 9 pl 0 0 hs (8, -1, -1)
theorem c_footing (d : Nat) {h : pH} {k ks kw g n0 g0 : Nat} {gh gh0 : Int32} {st0 : ft3} {hs : List Int32} {w : Bool} {q : wkr} (x : Ft h k n0 g0 gh0 st0) (a : Snd h ks hs w) (b : Wlk h kw q) (hg : g < 8) (n1 : ks + 2 ≤ k ∨ k + 20 ≤ ks) (n2 : kw + 2 ≤ k ∨ k + 20 ≤ kw) : ∃ h', Cl (d + 12) 4 [.ref k, .ref ks, .ref kw, .int (nI g), .int gh] h none h' ∧ Ft h' k q.1 g gh (ftS w q.1 g gh q.2.1 hs) ∧ Sm k (k + 20) h h' := by
  have x1 := x.1
  unfold ftC at x1
  have b1 := b.1
  unfold wlkC at b1
  have m0 : Sm k (k + 1) h (h.set k (ftC k q.1 g gh (8, -1, -1))) := Sm.set (by omega) (by omega)
  have x2 := x.setC q.1 g gh (8, -1, -1)
  obtain ⟨hs0, w0, s0⟩ := x2.2.2 0 (by decide)
  have a2 := a.fr m0 (by omega)
  have b2 := b.fr m0 (by omega)
  have m1 : Sm (k + 2) (k + 4) _ (sndH (h.set k (ftC k q.1 g gh (8, -1, -1))) (k + 2) hs w) := sndH_sm _ _ _ _
  have s1 := sndH_snd (w' := w) s0 a.2.2
  have x3 := x2.setS (i := 0) m1 s1
  have b3 := b2.fr m1 (by omega)
  obtain ⟨h', r1, r2, r3⟩ := c_tryFrom d k q.1 g gh b.2.2.1 hg 9 q.2.1 0 0 hs w (8, -1, -1) _ rfl b.2.2.2.1 x3 s1
  refine ⟨h', ?_, r2, fun i hi => by rw [r3 i (by omega) (by omega), m1 i (by omega), m0 i (by omega)]⟩
  refine Cl_o 5 rfl [some (.ref k), some (.ref ks), some (.ref kw), some (.int (nI g)), some (.int gh)] rfl rfl ?_
  have hn : k ≠ kw := by omega
  have x21 := x2.1
  unfold ftC at x21
  simp only [r4_0, r4_1, r4_2, r4_5, r4_8, r4_9, r4_10, r4_13, r4_14, r4_16, r4_19, r4_20, r4_22, r4_25, r4_26, r4_27, r4_30, r4_31, r4_32, r4_35, r4_36, r4_39, r4_40, r4_41, r4_42, r4_45, r4_46, r4_47, r4_50, r4_51, r4_52, r4_55, List.length_cons, List.length_nil, Nat.reduceAdd, Nat.reduceLT, if_true, l10, l01, l20, l21, l02, l12, List.append_nil, List.getElem?_cons_zero, List.getElem?_cons_succ, List.set_cons_zero, List.set_cons_succ, not_false_eq_true, not_true_eq_false, false_implies, true_implies, forall_const, Classical.not_not, rc0_at, rcI_at, sOK0, sOK1, sOK2, sOK3, sOK4, true_and, and_true, kil, Option.toList_some, Option.toList_none, List.nil_append, List.cons_append, Option.some.injEq, exists_eq_left', Value.int.injEq, Value.ref.injEq, Value.long.injEq, gf_at b1, pf_at x1 (show 1 < 7 by decide), pf_set x1, gf_set x1]
  have hald := x2.ald (i := 0) (by decide)
  unfold ftC at hald
  rw [nI_0] at hald
  refine ⟨_, hald, ?_⟩
  have hr : rcV 5 (h.set k (ftC k q.1 g gh (8, -1, -1))) [Value.ref (k + 2 + 2 * 0), .ref ks] = True := rcV_at (fs := _) s0.1
  refine ⟨of_eq_true hr, none, sndH (h.set k (ftC k q.1 g gh (8, -1, -1))) (k + 2) hs w, c_copyFrom (d + 9) s0 a2 (by omega), ?_⟩
  have b31 := b3.1
  unfold wlkC at b31
  simp only [r4_0, r4_1, r4_2, r4_5, r4_8, r4_9, r4_10, r4_13, r4_14, r4_16, r4_19, r4_20, r4_22, r4_25, r4_26, r4_27, r4_30, r4_31, r4_32, r4_35, r4_36, r4_39, r4_40, r4_41, r4_42, r4_45, r4_46, r4_47, r4_50, r4_51, r4_52, r4_55, List.length_cons, List.length_nil, Nat.reduceAdd, Nat.reduceLT, if_true, l10, l01, l20, l21, l02, l12, List.append_nil, List.getElem?_cons_zero, List.getElem?_cons_succ, List.set_cons_zero, List.set_cons_succ, not_false_eq_true, not_true_eq_false, false_implies, true_implies, forall_const, Classical.not_not, rc0_at, rcI_at, sOK0, sOK1, sOK2, sOK3, sOK4, true_and, and_true, kil, Option.toList_some, Option.toList_none, List.nil_append, List.cons_append, Option.some.injEq, exists_eq_left', Value.int.injEq, Value.ref.injEq, Value.long.injEq, gf_at b31]
  have hr2 : rcV 1 (sndH (h.set k (ftC k q.1 g gh (8, -1, -1))) (k + 2) hs w) [Value.ref k, .int (nI q.2.1), .int 0, .int 0] = True := rcV_at (fs := _) x3.1
  refine ⟨of_eq_true hr2, _, _, r1, ?_⟩
  simp only [r4_0, r4_1, r4_2, r4_5, r4_8, r4_9, r4_10, r4_13, r4_14, r4_16, r4_19, r4_20, r4_22, r4_25, r4_26, r4_27, r4_30, r4_31, r4_32, r4_35, r4_36, r4_39, r4_40, r4_41, r4_42, r4_45, r4_46, r4_47, r4_50, r4_51, r4_52, r4_55, List.length_cons, List.length_nil, Nat.reduceAdd, Nat.reduceLT, if_true, l10, l01, l20, l21, l02, l12, List.append_nil, List.getElem?_cons_zero, List.getElem?_cons_succ, List.set_cons_zero, List.set_cons_succ, not_false_eq_true, not_true_eq_false, false_implies, true_implies, forall_const, Classical.not_not, rc0_at, rcI_at, sOK0, sOK1, sOK2, sOK3, sOK4, true_and, and_true, kil, Option.toList_some, Option.toList_none, List.nil_append, List.cons_append, Option.some.injEq, exists_eq_left', Value.int.injEq, Value.ref.injEq, Value.long.injEq]
