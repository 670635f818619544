/-- the two heaps are alike but for the places from a to b -/
def Sm (a b : Nat) (h h' : pH) : Prop := ∀ j, (j < a ∨ b ≤ j) → h'[j]? = h[j]?
theorem Sm.rf {a b : Nat} {h : pH} : Sm a b h h := fun _ _ => rfl
theorem Sm.tr {a b : Nat} {h h1 h2 : pH} (x : Sm a b h h1) (y : Sm a b h1 h2) : Sm a b h h2 := fun j hj => (y j hj).trans (x j hj)
theorem Sm.mono {a b c e : Nat} {h h1 : pH} (x : Sm a b h h1) (h1' : c ≤ a) (h2' : b ≤ e) : Sm c e h h1 := fun j hj => x j (by omega)
theorem Sm.set {a b i : Nat} {h : pH} {c : pC} (h1 : a ≤ i) (h2 : i < b) : Sm a b h (h.set i c) := fun j hj => List.getElem?_set_ne (by omega)
theorem Sm.set' {a b i : Nat} {h h1 : pH} {c : pC} (x : Sm a b h h1) (h1' : a ≤ i) (h2' : i < b) : Sm a b h (h1.set i c) := x.tr (Sm.set h1' h2')
theorem Snd.fr {a b k : Nat} {h h1 : pH} {hs : List Int32} {w : Bool} (x : Snd h k hs w) (m : Sm a b h h1) (hk : k + 2 ≤ a ∨ b ≤ k) : Snd h1 k hs w := ⟨by rw [m k (by omega)]; exact x.1, by rw [m (k + 1) (by omega)]; exact x.2.1, x.2.2⟩
theorem sndH_sm (h : pH) (k : Nat) (hs : List Int32) (w : Bool) : Sm k (k + 2) h (sndH h k hs w) := (Sm.set (by omega) (by omega)).tr (Sm.set (by omega) (by omega))
theorem sndH_snd {h : pH} {k : Nat} {hs hs' : List Int32} {w w' : Bool} (x : Snd h k hs w) (hl : hs'.length = 8) : Snd (sndH h k hs' w') k hs' w' := (x.set hl).wind w'
theorem get_set {h : pH} {k : Nat} {c c' : pC} (hk : h[k]? = some c) : (h.set k c')[k]? = some c' := List.getElem?_set_self (List.getElem?_eq_some_iff.mp hk).1
/-! THE PAGE -/
def Pg (h : pH) (k : Nat) (cs : List Int32) (n : Nat) : Prop := h[k]? = some (.inr (.inr (4, [.ref (k + 1), .int (nI n)]))) ∧ h[k + 1]? = some (.inl cs) ∧ cs.length = 12 ∧ n ≤ 12
theorem Pg.fr {a b k : Nat} {h h1 : pH} {cs : List Int32} {n : Nat} (x : Pg h k cs n) (m : Sm a b h h1) (hk : k + 2 ≤ a ∨ b ≤ k) : Pg h1 k cs n := ⟨by rw [m k (by omega)]; exact x.1, by rw [m (k + 1) (by omega)]; exact x.2.1, x.2.2⟩
theorem ge12f {i : Nat} (h : i < 12) : ((12 : Int32) ≤ nI i) = False := eq_false (nI_ge (a := i) (b := 12) h (by decide))
theorem lt12 {i : Nat} (h : i ≤ 12) : (nI i < 12) = (i < 12) := propext (nI_ltI (a := i) (b := 12) (by omega) (by decide))
theorem alen_at {h : pH} {a : Nat} {xs : List Int32} (ha : h[a]? = some (.inl xs)) : alen h a = some xs.length := by unfold alen; rw [ha]
theorem nIneg {n : Nat} (h : n < 2 ^ 31) : (nI n < 0) = False := eq_false (nI_pos h)
theorem c_append (d : Nat) {h : pH} {k n : Nat} {cs : List Int32} (x : Pg h k cs n) (code : Int32) : ∃ h', Cl (d + 1) 21 [.ref k, .int code] h (some (.int (if n < 12 then 1 else 0))) h' ∧ Pg h' k (if n < 12 then cs.set n code else cs) (if n < 12 then n + 1 else n) ∧ Sm k (k + 2) h h' := by
  obtain ⟨h1, h2, hl, hn⟩ := x
  by_cases e : n < 12
  · refine ⟨(h.set (k + 1) (.inl (cs.set n code))).set k (.inr (.inr (4, [.ref (k + 1), .int (nI (n + 1))]))), ?_, ?_, (Sm.set (by omega) (by omega)).tr (Sm.set (by omega) (by omega))⟩
    · refine Cl_o 2 rfl [some (.ref k), some (.int code)] rfl rfl ?_
      have h3 : (h.set (k + 1) (.inl (cs.set n code)))[k]? = some (.inr (.inr (4, [.ref (k + 1), .int (nI n)]))) := by rw [List.getElem?_set_ne (by omega)]; exact h1
      have e12 : Int32.ofNat 12 = 12 := rfl
      simp only [r21_0, r21_1, r21_4, r21_7, r21_8, r21_11, r21_12, r21_15, r21_16, r21_19, r21_20, r21_21, r21_22, r21_25, r21_26, r21_29, r21_30, r21_31, r21_32, r21_33, r21_36, r21_37, r21_38, r21_41, r21_42, List.length_cons, List.length_nil, Nat.reduceAdd, Nat.reduceLT, if_true, l10, l01, l20, l21, l02, l12, List.append_nil, List.getElem?_cons_zero, List.getElem?_cons_succ, List.set_cons_zero, List.set_cons_succ, not_false_eq_true, not_true_eq_false, false_implies, true_implies, forall_const, Classical.not_not, rc0_at, rcI_at, sOK0, sOK1, sOK2, sOK3, sOK4, true_and, and_true, kil, Option.toList_some, Option.toList_none, List.nil_append, List.cons_append, Option.some.injEq, exists_eq_left', Value.int.injEq, Value.ref.injEq, Value.long.injEq, gf_at h1, gf_at h3, nIneg (show n < 2 ^ 31 by omega), alen_at h2, hl, e12, lt12 (show n ≤ 12 by omega), ist_at h2 (show n < cs.length by omega) (show n < 2 ^ 31 by omega), pf_at h3 (show 1 < 2 by decide), nI_1, e, if_true, or_true]
    · simp only [e, if_true]
      exact ⟨by rw [get_set (c := .inr (.inr (4, [.ref (k + 1), .int (nI n)]))) (by rw [List.getElem?_set_ne (by omega)]; exact h1)], by rw [List.getElem?_set_ne (by omega), get_set h2], by simp [hl], by omega⟩
  · have e2 : n = 12 := by omega
    subst e2
    refine ⟨h, ?_, by simp only [e, if_false]; exact ⟨h1, h2, hl, hn⟩, Sm.rf⟩
    refine Cl_o 2 rfl [some (.ref k), some (.int code)] rfl rfl ?_
    have e12 : Int32.ofNat 12 = 12 := rfl
    have e13 : ((12 : Int32) ≤ nI 12) = True := eq_true (by decide)
    simp only [r21_0, r21_1, r21_4, r21_7, r21_8, r21_11, r21_12, r21_15, r21_16, r21_19, r21_20, r21_21, r21_22, r21_25, r21_26, r21_29, r21_30, r21_31, r21_32, r21_33, r21_36, r21_37, r21_38, r21_41, r21_42, List.length_cons, List.length_nil, Nat.reduceAdd, Nat.reduceLT, if_true, l10, l01, l20, l21, l02, l12, List.append_nil, List.getElem?_cons_zero, List.getElem?_cons_succ, List.set_cons_zero, List.set_cons_succ, not_false_eq_true, not_true_eq_false, false_implies, true_implies, forall_const, Classical.not_not, rc0_at, rcI_at, sOK0, sOK1, sOK2, sOK3, sOK4, true_and, and_true, kil, Option.toList_some, Option.toList_none, List.nil_append, List.cons_append, Option.some.injEq, exists_eq_left', Value.int.injEq, Value.ref.injEq, Value.long.injEq, gf_at h1, nIneg (show 12 < 2 ^ 31 by decide), alen_at h2, hl, e12, lt12 (show 12 ≤ 12 by omega), e, if_false, true_or, Nat.lt_irrefl]
theorem c_codeAt (d : Nat) {h : pH} {k n p : Nat} {cs : List Int32} (x : Pg h k cs n) (hp : p < 12) : Cl (d + 1) 22 [.ref k, .int (nI p)] h (some (.int (hx cs p))) h := by
  obtain ⟨h1, h2, hl, hn⟩ := x
  refine Cl_o 2 rfl [some (.ref k), some (.int (nI p))] rfl rfl ?_
  have e12 : Int32.ofNat 12 = 12 := rfl
  simp only [r22_0, r22_1, r22_4, r22_5, r22_6, r22_9, r22_10, r22_13, r22_14, r22_17, r22_18, r22_21, r22_22, r22_23, List.length_cons, List.length_nil, Nat.reduceAdd, Nat.reduceLT, if_true, l10, l01, l20, l21, l02, l12, List.append_nil, List.getElem?_cons_zero, List.getElem?_cons_succ, List.set_cons_zero, List.set_cons_succ, not_false_eq_true, not_true_eq_false, false_implies, true_implies, forall_const, Classical.not_not, rc0_at, rcI_at, sOK0, sOK1, sOK2, sOK3, sOK4, true_and, and_true, kil, Option.toList_some, Option.toList_none, List.nil_append, List.cons_append, Option.some.injEq, exists_eq_left', Value.int.injEq, Value.ref.injEq, Value.long.injEq, gf_at h1, nIneg (show p < 2 ^ 31 by omega), alen_at h2, hl, e12, lt12 (show p ≤ 12 by omega), hp, ild_at h2 (show p < cs.length by omega) (show p < 2 ^ 31 by omega)]
/-- may this letter stand at this place of a text of that sort? -/
def fit (code : Int32) (p : Nat) (sort : Int32) : Bool := if p < 8 then decide (48 ≤ code ∧ code ≤ 57) else decide (p = 8 ∧ sort = 0 ∧ (code = 62 ∨ code = 60))
theorem c_fits (d : Nat) (h : pH) (code : Int32) {p : Nat} (hp : p < 12) (sort : Int32) : Cl (d + 1) 27 [.int code, .int (nI p), .int sort] h (some (.int (b2i (fit code p sort)))) h := by
  refine Cl_o 3 rfl [some (.int code), some (.int (nI p)), some (.int sort)] rfl rfl ?_
  simp only [r27_0, r27_1, r27_3, r27_6, r27_7, r27_9, r27_12, r27_13, r27_15, r27_18, r27_19, r27_22, r27_23, r27_24, r27_25, r27_27, r27_30, r27_31, r27_34, r27_35, r27_37, r27_40, r27_41, r27_43, r27_46, r27_47, r27_50, r27_51, List.length_cons, List.length_nil, Nat.reduceAdd, Nat.reduceLT, if_true, l10, l01, l20, l21, l02, l12, List.append_nil, List.getElem?_cons_zero, List.getElem?_cons_succ, List.set_cons_zero, List.set_cons_succ, not_false_eq_true, not_true_eq_false, false_implies, true_implies, forall_const, Classical.not_not, rc0_at, rcI_at, sOK0, sOK1, sOK2, sOK3, sOK4, true_and, and_true, kil, Option.toList_some, Option.toList_none, List.nil_append, List.cons_append, Option.some.injEq, exists_eq_left', Value.int.injEq, Value.ref.injEq, Value.long.injEq]
  have e8 : ((8 : Int32) ≤ nI p) = (8 ≤ p) := propext (nI_leI (a := 8) (b := p) (by decide) (by omega))
  have e9 : (nI p = 8) = (p = 8) := propext (nI_eq (a := p) (b := 8) (by omega) (by decide))
  have e10 : ∀ a b : Int32, a < b ↔ ¬ b ≤ a := fun a b => Int32.not_le.symm
  simp only [e8, e9, e10, Classical.not_not]
  unfold fit
  by_cases q8 : p < 8
  · have q8' : ¬ 8 ≤ p := by omega
    by_cases q1 : 48 ≤ code <;> by_cases q2 : code ≤ 57 <;> simp [q8, q8', q1, q2, b2i]
  · have q8' : 8 ≤ p := by omega
    by_cases q1 : p = 8 <;> by_cases q2 : sort = 0 <;> by_cases q3 : code = 62 <;> by_cases q4 : code = 60 <;> simp [q8, q8', q1, q2, q3, q4, b2i]
def ffa (cs : List Int32) (sort : Int32) : Nat → Nat → Nat
  | 0, p => p
  | j + 1, p => if fit (hx cs p) p sort then ffa cs sort j (p + 1) else p
def flt (cs : List Int32) (n : Nat) (sort : Int32) : Nat := ffa cs sort n 0
theorem ffa_le (cs : List Int32) (sort : Int32) : ∀ j p, ffa cs sort j p ≤ p + j
  | 0, p => Nat.le_refl _
  | j + 1, p => by
    unfold ffa
    split
    · have := ffa_le cs sort j (p + 1); omega
    · omega
theorem lo_firstFault (d k n : Nat) (cs : List Int32) (sort : Int32) (h : pH) (x : Pg h k cs n) : ∀ (j p : Nat), p + j = n → X 23 (d + 1) (some (.int (nI (ffa cs sort j p)))) h 2 [some (.ref k), some (.int sort), some (.int (nI p))] [] h := by
  intro j
  have hn := x.2.2.2
  induction j with
  | zero =>
    intro p hp
    have : p = n := by omega
    subst this
    rw [r23_2]; simp only [r23_0, r23_1, r23_3, r23_4, r23_7, r23_10, r23_11, r23_12, r23_15, r23_16, r23_17, r23_20, r23_23, r23_24, r23_25, r23_28, r23_31, r23_32, r23_35, List.length_cons, List.length_nil, Nat.reduceAdd, Nat.reduceLT, if_true, l10, l01, l20, l21, l02, l12, List.append_nil, List.getElem?_cons_zero, List.getElem?_cons_succ, List.set_cons_zero, List.set_cons_succ, not_false_eq_true, not_true_eq_false, false_implies, true_implies, forall_const, Classical.not_not, rc0_at, rcI_at, sOK0, sOK1, sOK2, sOK3, sOK4, true_and, and_true, kil, Option.toList_some, Option.toList_none, List.nil_append, List.cons_append, Option.some.injEq, exists_eq_left', Value.int.injEq, Value.ref.injEq, Value.long.injEq, gf_at x.1, Int32.le_refl, ffa]
  | succ j ih =>
    intro p hp
    have e : (nI n ≤ nI p) = False := eq_false (nI_ge (by omega) (by omega))
    rw [r23_2]; simp only [r23_0, r23_1, r23_3, r23_4, r23_7, r23_10, r23_11, r23_12, r23_15, r23_16, r23_17, r23_20, r23_23, r23_24, r23_25, r23_28, r23_31, r23_32, r23_35, List.length_cons, List.length_nil, Nat.reduceAdd, Nat.reduceLT, if_true, l10, l01, l20, l21, l02, l12, List.append_nil, List.getElem?_cons_zero, List.getElem?_cons_succ, List.set_cons_zero, List.set_cons_succ, not_false_eq_true, not_true_eq_false, false_implies, true_implies, forall_const, Classical.not_not, rc0_at, rcI_at, sOK0, sOK1, sOK2, sOK3, sOK4, true_and, and_true, kil, Option.toList_some, Option.toList_none, List.nil_append, List.cons_append, Option.some.injEq, exists_eq_left', Value.int.injEq, Value.ref.injEq, Value.long.injEq, gf_at x.1, e, rcV_at x.1]
    refine ⟨_, _, c_codeAt d x (p := p) (by omega), ?_⟩
    simp only [r23_0, r23_1, r23_3, r23_4, r23_7, r23_10, r23_11, r23_12, r23_15, r23_16, r23_17, r23_20, r23_23, r23_24, r23_25, r23_28, r23_31, r23_32, r23_35, List.length_cons, List.length_nil, Nat.reduceAdd, Nat.reduceLT, if_true, l10, l01, l20, l21, l02, l12, List.append_nil, List.getElem?_cons_zero, List.getElem?_cons_succ, List.set_cons_zero, List.set_cons_succ, not_false_eq_true, not_true_eq_false, false_implies, true_implies, forall_const, Classical.not_not, rc0_at, rcI_at, sOK0, sOK1, sOK2, sOK3, sOK4, true_and, and_true, kil, Option.toList_some, Option.toList_none, List.nil_append, List.cons_append, Option.some.injEq, exists_eq_left', Value.int.injEq, Value.ref.injEq, Value.long.injEq]
    refine ⟨_, _, c_fits d h (hx cs p) (by omega) sort, ?_⟩
    cases q : fit (hx cs p) p sort with
    | true =>
      simp only [r23_0, r23_1, r23_3, r23_4, r23_7, r23_10, r23_11, r23_12, r23_15, r23_16, r23_17, r23_20, r23_23, r23_24, r23_25, r23_28, r23_31, r23_32, r23_35, List.length_cons, List.length_nil, Nat.reduceAdd, Nat.reduceLT, if_true, l10, l01, l20, l21, l02, l12, List.append_nil, List.getElem?_cons_zero, List.getElem?_cons_succ, List.set_cons_zero, List.set_cons_succ, not_false_eq_true, not_true_eq_false, false_implies, true_implies, forall_const, Classical.not_not, rc0_at, rcI_at, sOK0, sOK1, sOK2, sOK3, sOK4, true_and, and_true, kil, Option.toList_some, Option.toList_none, List.nil_append, List.cons_append, Option.some.injEq, exists_eq_left', Value.int.injEq, Value.ref.injEq, Value.long.injEq, b2i, if_true, nI_1, ffa, q]
      exact ih (p + 1) (by omega)
    | false => simp only [r23_0, r23_1, r23_3, r23_4, r23_7, r23_10, r23_11, r23_12, r23_15, r23_16, r23_17, r23_20, r23_23, r23_24, r23_25, r23_28, r23_31, r23_32, r23_35, List.length_cons, List.length_nil, Nat.reduceAdd, Nat.reduceLT, if_true, l10, l01, l20, l21, l02, l12, List.append_nil, List.getElem?_cons_zero, List.getElem?_cons_succ, List.set_cons_zero, List.set_cons_succ, not_false_eq_true, not_true_eq_false, false_implies, true_implies, forall_const, Classical.not_not, rc0_at, rcI_at, sOK0, sOK1, sOK2, sOK3, sOK4, true_and, and_true, kil, Option.toList_some, Option.toList_none, List.nil_append, List.cons_append, Option.some.injEq, exists_eq_left', Value.int.injEq, Value.ref.injEq, Value.long.injEq, b2i, if_false, ffa, q, Bool.false_eq_true]
theorem c_firstFault (d : Nat) {h : pH} {k n : Nat} {cs : List Int32} (x : Pg h k cs n) (sort : Int32) : Cl (d + 2) 23 [.ref k, .int sort] h (some (.int (nI (flt cs n sort)))) h := by
  refine Cl_o 3 rfl [some (.ref k), some (.int sort), none] rfl rfl ?_
  simp only [r23_0, r23_1, r23_3, r23_4, r23_7, r23_10, r23_11, r23_12, r23_15, r23_16, r23_17, r23_20, r23_23, r23_24, r23_25, r23_28, r23_31, r23_32, r23_35, List.length_cons, List.length_nil, Nat.reduceAdd, Nat.reduceLT, if_true, l10, l01, l20, l21, l02, l12, List.append_nil, List.getElem?_cons_zero, List.getElem?_cons_succ, List.set_cons_zero, List.set_cons_succ, not_false_eq_true, not_true_eq_false, false_implies, true_implies, forall_const, Classical.not_not, rc0_at, rcI_at, sOK0, sOK1, sOK2, sOK3, sOK4, true_and, and_true, kil, Option.toList_some, Option.toList_none, List.nil_append, List.cons_append, Option.some.injEq, exists_eq_left', Value.int.injEq, Value.ref.injEq, Value.long.injEq]
  exact lo_firstFault d k n cs sort h x n 0 (by omega)
def whl (cs : List Int32) (n : Nat) (sort : Int32) : Bool := decide (n = (if sort = 0 then 9 else 8) ∧ flt cs n sort = (if sort = 0 then 9 else 8))
theorem c_isWhole (d : Nat) {h : pH} {k n : Nat} {cs : List Int32} (x : Pg h k cs n) (sort : Int32) : Cl (d + 3) 24 [.ref k, .int sort] h (some (.int (b2i (whl cs n sort)))) h := by
  refine Cl_o 3 rfl [some (.ref k), some (.int sort), none] rfl rfl ?_
  have hn := x.2.2.2
  have hf := ffa_le cs sort n 0
  have e9 : ∀ m : Nat, m ≤ 12 → (nI m = 9) = (m = 9) := fun m hm => propext (nI_eq (a := m) (b := 9) (by omega) (by decide))
  have e8 : ∀ m : Nat, m ≤ 12 → (nI m = 8) = (m = 8) := fun m hm => propext (nI_eq (a := m) (b := 8) (by omega) (by decide))
  by_cases q : sort = 0
  · simp only [r24_0, r24_1, r24_4, r24_6, r24_9, r24_11, r24_12, r24_13, r24_16, r24_17, r24_20, r24_21, r24_22, r24_25, r24_26, r24_29, r24_30, r24_33, r24_34, List.length_cons, List.length_nil, Nat.reduceAdd, Nat.reduceLT, if_true, l10, l01, l20, l21, l02, l12, List.append_nil, List.getElem?_cons_zero, List.getElem?_cons_succ, List.set_cons_zero, List.set_cons_succ, not_false_eq_true, not_true_eq_false, false_implies, true_implies, forall_const, Classical.not_not, rc0_at, rcI_at, sOK0, sOK1, sOK2, sOK3, sOK4, true_and, and_true, kil, Option.toList_some, Option.toList_none, List.nil_append, List.cons_append, Option.some.injEq, exists_eq_left', Value.int.injEq, Value.ref.injEq, Value.long.injEq, q, gf_at x.1, rcV_at x.1, e9 n hn]
    by_cases q1 : n = 9
    · simp only [q1, not_true_eq_false, false_implies, true_implies, true_and, not_false_eq_true]
      rw [q1] at x
      refine ⟨_, _, c_firstFault d x 0, ?_⟩
      have hf' : flt cs 9 0 ≤ 12 := by have := ffa_le cs 0 9 0; unfold flt; omega
      simp only [r24_0, r24_1, r24_4, r24_6, r24_9, r24_11, r24_12, r24_13, r24_16, r24_17, r24_20, r24_21, r24_22, r24_25, r24_26, r24_29, r24_30, r24_33, r24_34, List.length_cons, List.length_nil, Nat.reduceAdd, Nat.reduceLT, if_true, l10, l01, l20, l21, l02, l12, List.append_nil, List.getElem?_cons_zero, List.getElem?_cons_succ, List.set_cons_zero, List.set_cons_succ, not_false_eq_true, not_true_eq_false, false_implies, true_implies, forall_const, Classical.not_not, rc0_at, rcI_at, sOK0, sOK1, sOK2, sOK3, sOK4, true_and, and_true, kil, Option.toList_some, Option.toList_none, List.nil_append, List.cons_append, Option.some.injEq, exists_eq_left', Value.int.injEq, Value.ref.injEq, Value.long.injEq, e9 _ hf']
      by_cases q2 : flt cs 9 0 = 9 <;> simp [q2, whl, b2i]
    · simp [q1, whl, b2i]
  · simp only [r24_0, r24_1, r24_4, r24_6, r24_9, r24_11, r24_12, r24_13, r24_16, r24_17, r24_20, r24_21, r24_22, r24_25, r24_26, r24_29, r24_30, r24_33, r24_34, List.length_cons, List.length_nil, Nat.reduceAdd, Nat.reduceLT, if_true, l10, l01, l20, l21, l02, l12, List.append_nil, List.getElem?_cons_zero, List.getElem?_cons_succ, List.set_cons_zero, List.set_cons_succ, not_false_eq_true, not_true_eq_false, false_implies, true_implies, forall_const, Classical.not_not, rc0_at, rcI_at, sOK0, sOK1, sOK2, sOK3, sOK4, true_and, and_true, kil, Option.toList_some, Option.toList_none, List.nil_append, List.cons_append, Option.some.injEq, exists_eq_left', Value.int.injEq, Value.ref.injEq, Value.long.injEq, q, gf_at x.1, rcV_at x.1, e8 n hn]
    by_cases q1 : n = 8
    · simp only [q1, not_true_eq_false, false_implies, true_implies, true_and, not_false_eq_true]
      rw [q1] at x
      refine ⟨_, _, c_firstFault d x sort, ?_⟩
      have hf' : flt cs 8 sort ≤ 12 := by have := ffa_le cs sort 8 0; unfold flt; omega
      simp only [r24_0, r24_1, r24_4, r24_6, r24_9, r24_11, r24_12, r24_13, r24_16, r24_17, r24_20, r24_21, r24_22, r24_25, r24_26, r24_29, r24_30, r24_33, r24_34, List.length_cons, List.length_nil, Nat.reduceAdd, Nat.reduceLT, if_true, l10, l01, l20, l21, l02, l12, List.append_nil, List.getElem?_cons_zero, List.getElem?_cons_succ, List.set_cons_zero, List.set_cons_succ, not_false_eq_true, not_true_eq_false, false_implies, true_implies, forall_const, Classical.not_not, rc0_at, rcI_at, sOK0, sOK1, sOK2, sOK3, sOK4, true_and, and_true, kil, Option.toList_some, Option.toList_none, List.nil_append, List.cons_append, Option.some.injEq, exists_eq_left', Value.int.injEq, Value.ref.injEq, Value.long.injEq, e8 _ hf']
      by_cases q2 : flt cs 8 sort = 8 <;> simp [q, q2, whl, b2i]
    · simp [q, q1, whl, b2i]
theorem c_setHeight (d : Nat) {h : pH} {k c : Nat} {hs : List Int32} {w : Bool} (x : Snd h k hs w) (hc : c < 8) (v : Int32) : Cl (d + 1) 30 [.ref k, .int (nI c), .int v] h none (h.set (k + 1) (.inl (hs.set c v))) := by
  refine Cl_o 3 rfl [some (.ref k), some (.int (nI c)), some (.int v)] rfl rfl ?_
  simp only [r30_0, r30_1, r30_4, r30_5, r30_7, r30_8, r30_9, r30_10, List.length_cons, List.length_nil, Nat.reduceAdd, Nat.reduceLT, if_true, l10, l01, l20, l21, l02, l12, List.append_nil, List.getElem?_cons_zero, List.getElem?_cons_succ, List.set_cons_zero, List.set_cons_succ, not_false_eq_true, not_true_eq_false, false_implies, true_implies, forall_const, Classical.not_not, rc0_at, rcI_at, sOK0, sOK1, sOK2, sOK3, sOK4, true_and, and_true, kil, Option.toList_some, Option.toList_none, List.nil_append, List.cons_append, Option.some.injEq, exists_eq_left', Value.int.injEq, Value.ref.injEq, Value.long.injEq, gf_at x.1, c_and c hc, ist8 x.2.1 x.2.2 hc]
def rdh (cs : List Int32) : List Int32 := (List.range 8).map (fun i => hx cs i - 48)
theorem rdh_len (cs : List Int32) : (rdh cs).length = 8 := by simp [rdh]
theorem rdh_hx (cs : List Int32) (i : Nat) (hi : i < 8) : hx (rdh cs) i = hx cs i - 48 := by simp [rdh, hx, hi]
theorem lo_readHeights (d k n k2 : Nat) (cs : List Int32) (w : Bool) (hk : k + 2 ≤ k2 ∨ k2 + 2 ≤ k) : ∀ (j i : Nat) (hs : List Int32) (h : pH), i + j = 8 → Pg h k cs n → Snd h k2 hs w → X 25 (d + 1) none (h.set (k2 + 1) (.inl (hs.take i ++ (rdh cs).drop i))) 2 [some (.ref k), some (.ref k2), some (.int (nI i))] [] h := by
  intro j
  induction j with
  | zero =>
    intro i hs h hi x a
    have : i = 8 := by omega
    subst this
    rw [r25_2]; simp only [r25_0, r25_1, r25_3, r25_5, r25_8, r25_9, r25_10, r25_11, r25_12, r25_15, r25_17, r25_18, r25_21, r25_24, r25_27, List.length_cons, List.length_nil, Nat.reduceAdd, Nat.reduceLT, if_true, l10, l01, l20, l21, l02, l12, List.append_nil, List.getElem?_cons_zero, List.getElem?_cons_succ, List.set_cons_zero, List.set_cons_succ, not_false_eq_true, not_true_eq_false, false_implies, true_implies, forall_const, Classical.not_not, rc0_at, rcI_at, sOK0, sOK1, sOK2, sOK3, sOK4, true_and, and_true, kil, Option.toList_some, Option.toList_none, List.nil_append, List.cons_append, Option.some.injEq, exists_eq_left', Value.int.injEq, Value.ref.injEq, Value.long.injEq, ge8t]
    rw [List.take_of_length_le (by rw [a.2.2]; exact Nat.le_refl _), List.drop_of_length_le (by rw [rdh_len]; exact Nat.le_refl _), List.append_nil]
    exact (set_same a.2.1).symm
  | succ j ih =>
    intro i hs h hi x a
    have hi8 : i < 8 := by omega
    rw [r25_2]; simp only [r25_0, r25_1, r25_3, r25_5, r25_8, r25_9, r25_10, r25_11, r25_12, r25_15, r25_17, r25_18, r25_21, r25_24, r25_27, List.length_cons, List.length_nil, Nat.reduceAdd, Nat.reduceLT, if_true, l10, l01, l20, l21, l02, l12, List.append_nil, List.getElem?_cons_zero, List.getElem?_cons_succ, List.set_cons_zero, List.set_cons_succ, not_false_eq_true, not_true_eq_false, false_implies, true_implies, forall_const, Classical.not_not, rc0_at, rcI_at, sOK0, sOK1, sOK2, sOK3, sOK4, true_and, and_true, kil, Option.toList_some, Option.toList_none, List.nil_append, List.cons_append, Option.some.injEq, exists_eq_left', Value.int.injEq, Value.ref.injEq, Value.long.injEq, ge8f hi8, rcV_at x.1]
    refine ⟨_, _, c_codeAt d x (p := i) (by omega), ?_⟩
    simp only [r25_0, r25_1, r25_3, r25_5, r25_8, r25_9, r25_10, r25_11, r25_12, r25_15, r25_17, r25_18, r25_21, r25_24, r25_27, List.length_cons, List.length_nil, Nat.reduceAdd, Nat.reduceLT, if_true, l10, l01, l20, l21, l02, l12, List.append_nil, List.getElem?_cons_zero, List.getElem?_cons_succ, List.set_cons_zero, List.set_cons_succ, not_false_eq_true, not_true_eq_false, false_implies, true_implies, forall_const, Classical.not_not, rc0_at, rcI_at, sOK0, sOK1, sOK2, sOK3, sOK4, true_and, and_true, kil, Option.toList_some, Option.toList_none, List.nil_append, List.cons_append, Option.some.injEq, exists_eq_left', Value.int.injEq, Value.ref.injEq, Value.long.injEq, rcV_at a.1]
    refine ⟨_, _, c_setHeight d a hi8 _, ?_⟩
    simp only [r25_0, r25_1, r25_3, r25_5, r25_8, r25_9, r25_10, r25_11, r25_12, r25_15, r25_17, r25_18, r25_21, r25_24, r25_27, List.length_cons, List.length_nil, Nat.reduceAdd, Nat.reduceLT, if_true, l10, l01, l20, l21, l02, l12, List.append_nil, List.getElem?_cons_zero, List.getElem?_cons_succ, List.set_cons_zero, List.set_cons_succ, not_false_eq_true, not_true_eq_false, false_implies, true_implies, forall_const, Classical.not_not, rc0_at, rcI_at, sOK0, sOK1, sOK2, sOK3, sOK4, true_and, and_true, kil, Option.toList_some, Option.toList_none, List.nil_append, List.cons_append, Option.some.injEq, exists_eq_left', Value.int.injEq, Value.ref.injEq, Value.long.injEq, nI_1]
    have := ih (i + 1) (hs.set i (hx (rdh cs) i)) (h.set (k2 + 1) (.inl (hs.set i (hx (rdh cs) i)))) (by omega) (x.fr (Sm.set (a := k2) (b := k2 + 2) (by omega) (by omega)) hk) (a.set (by simp [a.2.2]))
    rw [List.set_set, take_set hs (rdh cs) i (by rw [a.2.2]; exact hi8) (by rw [rdh_len]; exact hi8), rdh_hx cs i hi8] at this
    exact this
theorem c_readHeights (d : Nat) {h : pH} {k n k2 : Nat} {cs hs : List Int32} {w : Bool} (x : Pg h k cs n) (a : Snd h k2 hs w) (hk : k + 2 ≤ k2 ∨ k2 + 2 ≤ k) : Cl (d + 2) 25 [.ref k, .ref k2] h none (h.set (k2 + 1) (.inl (rdh cs))) := by
  refine Cl_o 3 rfl [some (.ref k), some (.ref k2), none] rfl rfl ?_
  simp only [r25_0, r25_1, r25_3, r25_5, r25_8, r25_9, r25_10, r25_11, r25_12, r25_15, r25_17, r25_18, r25_21, r25_24, r25_27, List.length_cons, List.length_nil, Nat.reduceAdd, Nat.reduceLT, if_true, l10, l01, l20, l21, l02, l12, List.append_nil, List.getElem?_cons_zero, List.getElem?_cons_succ, List.set_cons_zero, List.set_cons_succ, not_false_eq_true, not_true_eq_false, false_implies, true_implies, forall_const, Classical.not_not, rc0_at, rcI_at, sOK0, sOK1, sOK2, sOK3, sOK4, true_and, and_true, kil, Option.toList_some, Option.toList_none, List.nil_append, List.cons_append, Option.some.injEq, exists_eq_left', Value.int.injEq, Value.ref.injEq, Value.long.injEq]
  exact lo_readHeights d k n k2 cs w hk 8 0 hs h rfl x a
theorem c_tellsWindOn (d : Nat) {h : pH} {k n : Nat} {cs : List Int32} (x : Pg h k cs n) : Cl (d + 2) 26 [.ref k] h (some (.int (b2i (decide (hx cs 8 = 62))))) h := by
  refine Cl_o 1 rfl [some (.ref k)] rfl rfl ?_
  simp only [r26_0, r26_1, r26_3, r26_6, r26_8, r26_11, r26_12, r26_15, r26_16, List.length_cons, List.length_nil, Nat.reduceAdd, Nat.reduceLT, if_true, l10, l01, l20, l21, l02, l12, List.append_nil, List.getElem?_cons_zero, List.getElem?_cons_succ, List.set_cons_zero, List.set_cons_succ, not_false_eq_true, not_true_eq_false, false_implies, true_implies, forall_const, Classical.not_not, rc0_at, rcI_at, sOK0, sOK1, sOK2, sOK3, sOK4, true_and, and_true, kil, Option.toList_some, Option.toList_none, List.nil_append, List.cons_append, Option.some.injEq, exists_eq_left', Value.int.injEq, Value.ref.injEq, Value.long.injEq, rcV_at x.1]
  refine ⟨_, _, c_codeAt d x (p := 8) (by decide), ?_⟩
  simp only [r26_0, r26_1, r26_3, r26_6, r26_8, r26_11, r26_12, r26_15, r26_16, List.length_cons, List.length_nil, Nat.reduceAdd, Nat.reduceLT, if_true, l10, l01, l20, l21, l02, l12, List.append_nil, List.getElem?_cons_zero, List.getElem?_cons_succ, List.set_cons_zero, List.set_cons_succ, not_false_eq_true, not_true_eq_false, false_implies, true_implies, forall_const, Classical.not_not, rc0_at, rcI_at, sOK0, sOK1, sOK2, sOK3, sOK4, true_and, and_true, kil, Option.toList_some, Option.toList_none, List.nil_append, List.cons_append, Option.some.injEq, exists_eq_left', Value.int.injEq, Value.ref.injEq, Value.long.injEq]
  by_cases q : hx cs 8 = 62 <;> simp [q, b2i]
