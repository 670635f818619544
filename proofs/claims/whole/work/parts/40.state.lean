/-! the state of the whole: heights, wind, walkers, how many, nights -/
abbrev landT : Type := List Int32 × Bool × (Nat → wkr) × Nat × Int32
/-- page, its letters, land, image, heights that were, dunes?, image?, heights that were?, how often read -/
abbrev stT : Type := List Int32 × Nat × landT × landT × List Int32 × Bool × Bool × Bool × Nat
def LndT (h : pH) (k : Nat) (A : landT) : Prop := Lnd h k A.1 A.2.1 A.2.2.1 A.2.2.2.1 A.2.2.2.2
def Scr (h : pH) : Prop := (∃ ts tw, Snd h 29 ts tw) ∧ (∃ go st, Od h 31 go st) ∧ (∃ n g gh st, Ft h 45 n g gh st) ∧ (∃ f l, h[65]? = some (dkC f l))
def obC (hd hi hb : Bool) (tr : Nat) : pC := .inr (.inr (7, [.ref 1, .ref 3, .ref 15, .ref 27, .ref 29, .ref 31, .ref 45, .ref 65, .int (b2i hd), .int (b2i hi), .int (b2i hb), .int (nI tr)]))
def XS (h : pH) (s : stT) : Prop := h[0]? = some (obC s.2.2.2.2.2.1 s.2.2.2.2.2.2.1 s.2.2.2.2.2.2.2.1 s.2.2.2.2.2.2.2.2) ∧ Pg h 1 s.1 s.2.1 ∧ LndT h 3 s.2.2.1 ∧ LndT h 15 s.2.2.2.1 ∧ (∃ bw, Snd h 27 s.2.2.2.2.1 bw) ∧ Scr h
theorem Scr.fp {h h1 : pH} (x : Scr h) (m : ∀ j, 29 ≤ j → j < 66 → h1[j]? = h[j]?) : Scr h1 := by
  obtain ⟨⟨ts, tw, a⟩, ⟨go, st, b⟩, ⟨n, g, gh, st', c⟩, f, l, e⟩ := x
  exact ⟨⟨ts, tw, a.fp (fun j h1 h2 => m j (by omega) (by omega))⟩, ⟨go, st, b.fp (fun j h1 h2 => m j (by omega) (by omega))⟩, ⟨n, g, gh, st', c.fp (fun j h1 h2 => m j (by omega) (by omega))⟩, f, l, by rw [m 65 (by omega) (by omega)]; exact e⟩
/-- what lies above the class's own places stays -/
def Up (h h1 : pH) : Prop := ∀ j, 66 ≤ j → h1[j]? = h[j]?
theorem Up.rf {h : pH} : Up h h := fun _ _ => rfl
theorem Up.tr {h h1 h2 : pH} (a : Up h h1) (b : Up h1 h2) : Up h h2 := fun j hj => (b j hj).trans (a j hj)
theorem Up.sm {a b : Nat} {h h1 : pH} (m : Sm a b h h1) (hb : b ≤ 66) : Up h h1 := fun j hj => m j (by omega)
section XSP
variable {h h1 : pH} {cs : List Int32} {n : Nat} {A B : landT} {bf : List Int32} {hd hi hb : Bool} {tr : Nat}
theorem XS.ob {hd' hi' hb' : Bool} {tr' : Nat} (x : XS h (cs, n, A, B, bf, hd, hi, hb, tr)) : XS (h.set 0 (obC hd' hi' hb' tr')) (cs, n, A, B, bf, hd', hi', hb', tr') := by
  have m : Sm 0 1 h (h.set 0 (obC hd' hi' hb' tr')) := Sm.set (by omega) (by omega)
  obtain ⟨bw, e⟩ := x.2.2.2.2.1
  exact ⟨get_set x.1, x.2.1.fr m (by omega), Lnd.fr x.2.2.1 m (by omega), Lnd.fr x.2.2.2.1 m (by omega), ⟨bw, e.fr m (by omega)⟩, x.2.2.2.2.2.fp (fun j a b => m j (by omega))⟩
theorem XS.pg {cs' : List Int32} {n' : Nat} (x : XS h (cs, n, A, B, bf, hd, hi, hb, tr)) (m : Sm 1 3 h h1) (p : Pg h1 1 cs' n') : XS h1 (cs', n', A, B, bf, hd, hi, hb, tr) := by
  obtain ⟨bw, e⟩ := x.2.2.2.2.1
  exact ⟨by rw [m 0 (by omega)]; exact x.1, p, Lnd.fr x.2.2.1 m (by omega), Lnd.fr x.2.2.2.1 m (by omega), ⟨bw, e.fr m (by omega)⟩, x.2.2.2.2.2.fp (fun j a b => m j (by omega))⟩
theorem XS.ld {A' : landT} (x : XS h (cs, n, A, B, bf, hd, hi, hb, tr)) (m : Sm 3 15 h h1) (p : LndT h1 3 A') : XS h1 (cs, n, A', B, bf, hd, hi, hb, tr) := by
  obtain ⟨bw, e⟩ := x.2.2.2.2.1
  exact ⟨by rw [m 0 (by omega)]; exact x.1, x.2.1.fr m (by omega), p, Lnd.fr x.2.2.2.1 m (by omega), ⟨bw, e.fr m (by omega)⟩, x.2.2.2.2.2.fp (fun j a b => m j (by omega))⟩
theorem XS.kp {B' : landT} (x : XS h (cs, n, A, B, bf, hd, hi, hb, tr)) (m : Sm 15 27 h h1) (p : LndT h1 15 B') : XS h1 (cs, n, A, B', bf, hd, hi, hb, tr) := by
  obtain ⟨bw, e⟩ := x.2.2.2.2.1
  exact ⟨by rw [m 0 (by omega)]; exact x.1, x.2.1.fr m (by omega), Lnd.fr x.2.2.1 m (by omega), p, ⟨bw, e.fr m (by omega)⟩, x.2.2.2.2.2.fp (fun j a b => m j (by omega))⟩
theorem XS.bef {bf' : List Int32} {bw' : Bool} (x : XS h (cs, n, A, B, bf, hd, hi, hb, tr)) (m : Sm 27 29 h h1) (p : Snd h1 27 bf' bw') : XS h1 (cs, n, A, B, bf', hd, hi, hb, tr) := by
  exact ⟨by rw [m 0 (by omega)]; exact x.1, x.2.1.fr m (by omega), Lnd.fr x.2.2.1 m (by omega), Lnd.fr x.2.2.2.1 m (by omega), ⟨bw', p⟩, x.2.2.2.2.2.fp (fun j a b => m j (by omega))⟩
theorem XS.sc (x : XS h (cs, n, A, B, bf, hd, hi, hb, tr)) (m : Sm 29 66 h h1) (p : Scr h1) : XS h1 (cs, n, A, B, bf, hd, hi, hb, tr) := by
  obtain ⟨bw, e⟩ := x.2.2.2.2.1
  exact ⟨by rw [m 0 (by omega)]; exact x.1, x.2.1.fr m (by omega), Lnd.fr x.2.2.1 m (by omega), Lnd.fr x.2.2.2.1 m (by omega), ⟨bw, e.fr m (by omega)⟩, p⟩
theorem Scr.tri {ts : List Int32} {tw : Bool} (x : Scr h) (m : Sm 29 31 h h1) (p : Snd h1 29 ts tw) : Scr h1 := by
  obtain ⟨_, ⟨go, st, b⟩, ⟨n, g, gh, st', c⟩, f, l, e⟩ := x
  exact ⟨⟨ts, tw, p⟩, ⟨go, st, b.fp (fun j h1 h2 => m j (by omega))⟩, ⟨n, g, gh, st', c.fp (fun j h1 h2 => m j (by omega))⟩, f, l, by rw [m 65 (by omega)]; exact e⟩
theorem Scr.od {go : Int32} {st : od3} (x : Scr h) (m : Sm 31 45 h h1) (p : Od h1 31 go st) : Scr h1 := by
  obtain ⟨⟨ts, tw, a⟩, _, ⟨n, g, gh, st', c⟩, f, l, e⟩ := x
  exact ⟨⟨ts, tw, a.fr m (by omega)⟩, ⟨go, st, p⟩, ⟨n, g, gh, st', c.fp (fun j h1 h2 => m j (by omega))⟩, f, l, by rw [m 65 (by omega)]; exact e⟩
theorem Scr.ft {n g : Nat} {gh : Int32} {st : ft3} (x : Scr h) (m : Sm 45 65 h h1) (p : Ft h1 45 n g gh st) : Scr h1 := by
  obtain ⟨⟨ts, tw, a⟩, ⟨go, st', b⟩, _, f, l, e⟩ := x
  exact ⟨⟨ts, tw, a.fr m (by omega)⟩, ⟨go, st', b.fp (fun j h1 h2 => m j (by omega))⟩, ⟨n, g, gh, st, p⟩, f, l, by rw [m 65 (by omega)]; exact e⟩
end XSP
def ixv (x : Int32) (m : Nat) : Bool := decide (0 ≤ x ∧ x < nI m)
theorem ixT {i m : Nat} (h : i < m) (hm : m < 2 ^ 31) : ixv (nI i) m = true := decide_eq_true ⟨nI_pos' (by omega), nI_lt h hm⟩
theorem ixF {x : Int32} {m : Nat} (h : x < 0 ∨ nI m ≤ x) : ixv x m = false := decide_eq_false (fun ⟨a, b⟩ => by
  rcases h with h | h
  · exact Int32.not_le.mpr h a
  · exact Int32.not_lt.mpr h b)
theorem ix_or (x : Int32) (m : Nat) (hm : m < 2 ^ 31) : (∃ i, i < m ∧ x = nI i) ∨ (x < 0 ∨ nI m ≤ x) := by
  rcases pk_ix x hm with h | h | ⟨j, h1, h2⟩
  · exact Or.inr (Or.inl h)
  · exact Or.inr (Or.inr h)
  · exact Or.inl ⟨j, h1, h2⟩
/-! what each call does -/
def q_letter (s : stT) (c : Int32) : stT × Int32 := if c < 1 ∨ 126 < c then (s, -102) else if s.2.1 < 12 then ((s.1.set s.2.1 c, s.2.1 + 1, s.2.2), nI (s.2.1 + 1)) else (s, -104)
theorem x_letter (d : Nat) {h : pH} {s : stT} (x : XS h s) (c : Int32) : ∃ h', Cl (d + 2) 53 [.ref 0, .int c] h (some (.int (q_letter s c).2)) h' ∧ XS h' (q_letter s c).1 ∧ Up h h' := by
  obtain ⟨cs, n, A, B, bf, hd, hi, hb, tr⟩ := s
  have x0 := x.1
  dsimp only [obC] at x0
  by_cases e : c < 1 ∨ 126 < c
  · have hq : q_letter (cs, n, A, B, bf, hd, hi, hb, tr) c = ((cs, n, A, B, bf, hd, hi, hb, tr), -102) := by unfold q_letter; rw [if_pos e]
    rw [hq]
    refine ⟨h, ?_, x, Up.rf⟩
    refine Cl_o 2 rfl [some (.ref 0), some (.int c)] rfl rfl ?_
    simp only [r53_0, r53_1, r53_2, r53_5, r53_6, r53_8, r53_11, r53_13, r53_14, r53_15, r53_18, r53_19, r53_22, r53_25, r53_26, r53_29, r53_32, r53_35, r53_37, List.length_cons, List.length_nil, Nat.reduceAdd, Nat.reduceLT, if_true, l10, l01, l20, l21, l02, l12, List.append_nil, List.getElem?_cons_zero, List.getElem?_cons_succ, List.set_cons_zero, List.set_cons_succ, not_false_eq_true, not_true_eq_false, false_implies, true_implies, forall_const, Classical.not_not, rc0_at, rcI_at, sOK0, sOK1, sOK2, sOK3, sOK4, true_and, and_true, kil, Option.toList_some, Option.toList_none, List.nil_append, List.cons_append, Option.some.injEq, exists_eq_left', Value.int.injEq, Value.ref.injEq, Value.long.injEq]
    simp only [← Int32.not_lt]
    by_cases e1 : c < 1
    · simp [e1]
    · have e2 : 126 < c := e.resolve_left e1
      simp [e1, e2]
  · have e1 : ¬ c < 1 := fun z => e (Or.inl z)
    have e2 : c ≤ 126 := Int32.not_lt.mp (fun z => e (Or.inr z))
    have hr : rcV 4 h [Value.ref 1, .int c] = True := rcV_at (fs := _) x.2.1.1
    obtain ⟨h', r1, r2, r3⟩ := c_append d x.2.1 c
    dsimp only at r1 r2
    have x0' : h'[0]? = some (.inr (.inr (7, [.ref 1, .ref 3, .ref 15, .ref 27, .ref 29, .ref 31, .ref 45, .ref 65, .int (b2i hd), .int (b2i hi), .int (b2i hb), .int (nI tr)]))) := by rw [r3 0 (by omega)]; exact x0
    by_cases q : n < 12
    · have hq : q_letter (cs, n, A, B, bf, hd, hi, hb, tr) c = ((cs.set n c, n + 1, A, B, bf, hd, hi, hb, tr), nI (n + 1)) := by unfold q_letter; rw [if_neg e, if_pos q]
      rw [hq]
      simp only [q, if_true] at r1 r2
      refine ⟨h', ?_, x.pg r3 r2, Up.sm r3 (by omega)⟩
      refine Cl_o 2 rfl [some (.ref 0), some (.int c)] rfl rfl ?_
      simp only [r53_0, r53_1, r53_2, r53_5, r53_6, r53_8, r53_11, r53_13, r53_14, r53_15, r53_18, r53_19, r53_22, r53_25, r53_26, r53_29, r53_32, r53_35, r53_37, List.length_cons, List.length_nil, Nat.reduceAdd, Nat.reduceLT, if_true, l10, l01, l20, l21, l02, l12, List.append_nil, List.getElem?_cons_zero, List.getElem?_cons_succ, List.set_cons_zero, List.set_cons_succ, not_false_eq_true, not_true_eq_false, false_implies, true_implies, forall_const, Classical.not_not, rc0_at, rcI_at, sOK0, sOK1, sOK2, sOK3, sOK4, true_and, and_true, kil, Option.toList_some, Option.toList_none, List.nil_append, List.cons_append, Option.some.injEq, exists_eq_left', Value.int.injEq, Value.ref.injEq, Value.long.injEq, e1, e2, gf_at x0, hr]
      refine ⟨_, _, r1, ?_⟩
      simp only [r53_0, r53_1, r53_2, r53_5, r53_6, r53_8, r53_11, r53_13, r53_14, r53_15, r53_18, r53_19, r53_22, r53_25, r53_26, r53_29, r53_32, r53_35, r53_37, List.length_cons, List.length_nil, Nat.reduceAdd, Nat.reduceLT, if_true, l10, l01, l20, l21, l02, l12, List.append_nil, List.getElem?_cons_zero, List.getElem?_cons_succ, List.set_cons_zero, List.set_cons_succ, not_false_eq_true, not_true_eq_false, false_implies, true_implies, forall_const, Classical.not_not, rc0_at, rcI_at, sOK0, sOK1, sOK2, sOK3, sOK4, true_and, and_true, kil, Option.toList_some, Option.toList_none, List.nil_append, List.cons_append, Option.some.injEq, exists_eq_left', Value.int.injEq, Value.ref.injEq, Value.long.injEq, gf_at x0', gf_at r2.1]
    · have hq : q_letter (cs, n, A, B, bf, hd, hi, hb, tr) c = ((cs, n, A, B, bf, hd, hi, hb, tr), -104) := by unfold q_letter; rw [if_neg e, if_neg q]
      rw [hq]
      simp only [q, if_false] at r1 r2
      refine ⟨h', ?_, x.pg r3 r2, Up.sm r3 (by omega)⟩
      refine Cl_o 2 rfl [some (.ref 0), some (.int c)] rfl rfl ?_
      simp only [r53_0, r53_1, r53_2, r53_5, r53_6, r53_8, r53_11, r53_13, r53_14, r53_15, r53_18, r53_19, r53_22, r53_25, r53_26, r53_29, r53_32, r53_35, r53_37, List.length_cons, List.length_nil, Nat.reduceAdd, Nat.reduceLT, if_true, l10, l01, l20, l21, l02, l12, List.append_nil, List.getElem?_cons_zero, List.getElem?_cons_succ, List.set_cons_zero, List.set_cons_succ, not_false_eq_true, not_true_eq_false, false_implies, true_implies, forall_const, Classical.not_not, rc0_at, rcI_at, sOK0, sOK1, sOK2, sOK3, sOK4, true_and, and_true, kil, Option.toList_some, Option.toList_none, List.nil_append, List.cons_append, Option.some.injEq, exists_eq_left', Value.int.injEq, Value.ref.injEq, Value.long.injEq, e1, e2, gf_at x0, hr]
      refine ⟨_, _, r1, ?_⟩
      simp only [r53_0, r53_1, r53_2, r53_5, r53_6, r53_8, r53_11, r53_13, r53_14, r53_15, r53_18, r53_19, r53_22, r53_25, r53_26, r53_29, r53_32, r53_35, r53_37, List.length_cons, List.length_nil, Nat.reduceAdd, Nat.reduceLT, if_true, l10, l01, l20, l21, l02, l12, List.append_nil, List.getElem?_cons_zero, List.getElem?_cons_succ, List.set_cons_zero, List.set_cons_succ, not_false_eq_true, not_true_eq_false, false_implies, true_implies, forall_const, Classical.not_not, rc0_at, rcI_at, sOK0, sOK1, sOK2, sOK3, sOK4, true_and, and_true, kil, Option.toList_some, Option.toList_none, List.nil_append, List.cons_append, Option.some.injEq, exists_eq_left', Value.int.injEq, Value.ref.injEq, Value.long.injEq]
def q_blank (s : stT) : stT × Int32 := ((s.1, 0, s.2.2), nI s.2.1)
theorem x_blank (d : Nat) {h : pH} {s : stT} (x : XS h s) : ∃ h', Cl (d + 1) 54 [.ref 0] h (some (.int (q_blank s).2)) h' ∧ XS h' (q_blank s).1 ∧ Up h h' := by
  obtain ⟨cs, n, A, B, bf, hd, hi, hb, tr⟩ := s
  have x0 := x.1
  dsimp only [obC] at x0
  have x1 := x.2.1.1
  dsimp only at x1
  have m : Sm 1 3 h (h.set 1 (.inr (.inr (4, [.ref (1 + 1), .int (nI 0)])))) := Sm.set (by omega) (by omega)
  refine ⟨_, ?_, x.pg m ⟨get_set x.2.1.1, by rw [List.getElem?_set_ne (by omega)]; exact x.2.1.2.1, x.2.1.2.2.1, by omega⟩, Up.sm m (by omega)⟩
  refine Cl_o 2 rfl [some (.ref 0), none] rfl rfl ?_
  simp only [r54_0, r54_1, r54_4, r54_7, r54_8, r54_9, r54_12, r54_13, r54_16, r54_17, List.length_cons, List.length_nil, Nat.reduceAdd, Nat.reduceLT, if_true, l10, l01, l20, l21, l02, l12, List.append_nil, List.getElem?_cons_zero, List.getElem?_cons_succ, List.set_cons_zero, List.set_cons_succ, not_false_eq_true, not_true_eq_false, false_implies, true_implies, forall_const, Classical.not_not, rc0_at, rcI_at, sOK0, sOK1, sOK2, sOK3, sOK4, true_and, and_true, kil, Option.toList_some, Option.toList_none, List.nil_append, List.cons_append, Option.some.injEq, exists_eq_left', Value.int.injEq, Value.ref.injEq, Value.long.injEq, gf_at x0, gf_at x1, pf_at x1 (show 1 < 2 by decide), q_blank, nI_0]
def q_fault (s : stT) (c : Int32) : stT × Int32 := if ixv c 2 then (s, nI (flt s.1 s.2.1 c)) else (s, -102)
theorem x_fault (d : Nat) {h : pH} {s : stT} (x : XS h s) (c : Int32) : ∃ h', Cl (d + 3) 55 [.ref 0, .int c] h (some (.int (q_fault s c).2)) h' ∧ XS h' (q_fault s c).1 ∧ Up h h' := by
  obtain ⟨cs, n, A, B, bf, hd, hm, hb, tr⟩ := s
  have x0 := x.1
  dsimp only [obC] at x0
  have hr : rcV 4 h [Value.ref 1, .int c] = True := rcV_at (fs := _) x.2.1.1
  rcases ix_or c 2 (by decide) with ⟨i, hi, rfl⟩ | hc
  · have hq : q_fault (cs, n, A, B, bf, hd, hm, hb, tr) (nI i) = ((cs, n, A, B, bf, hd, hm, hb, tr), nI (flt cs n (nI i))) := by unfold q_fault; rw [ixT hi (by decide)]; rfl
    rw [hq]
    refine ⟨h, ?_, x, Up.rf⟩
    refine Cl_o 2 rfl [some (.ref 0), some (.int (nI i))] rfl rfl ?_
    rcases (show i = 0 ∨ i = 1 by omega) with rfl | rfl
    · rw [nI_0] at hr ⊢
      simp only [r55_0, r55_1, r55_4, r55_5, r55_6, r55_9, r55_11, r55_12, r55_13, r55_16, r55_17, r55_20, List.length_cons, List.length_nil, Nat.reduceAdd, Nat.reduceLT, if_true, l10, l01, l20, l21, l02, l12, List.append_nil, List.getElem?_cons_zero, List.getElem?_cons_succ, List.set_cons_zero, List.set_cons_succ, not_false_eq_true, not_true_eq_false, false_implies, true_implies, forall_const, Classical.not_not, rc0_at, rcI_at, sOK0, sOK1, sOK2, sOK3, sOK4, true_and, and_true, kil, Option.toList_some, Option.toList_none, List.nil_append, List.cons_append, Option.some.injEq, exists_eq_left', Value.int.injEq, Value.ref.injEq, Value.long.injEq, gf_at x0, hr]
      refine ⟨_, _, c_firstFault d x.2.1 0, ?_⟩
      simp only [r55_0, r55_1, r55_4, r55_5, r55_6, r55_9, r55_11, r55_12, r55_13, r55_16, r55_17, r55_20, List.length_cons, List.length_nil, Nat.reduceAdd, Nat.reduceLT, if_true, l10, l01, l20, l21, l02, l12, List.append_nil, List.getElem?_cons_zero, List.getElem?_cons_succ, List.set_cons_zero, List.set_cons_succ, not_false_eq_true, not_true_eq_false, false_implies, true_implies, forall_const, Classical.not_not, rc0_at, rcI_at, sOK0, sOK1, sOK2, sOK3, sOK4, true_and, and_true, kil, Option.toList_some, Option.toList_none, List.nil_append, List.cons_append, Option.some.injEq, exists_eq_left', Value.int.injEq, Value.ref.injEq, Value.long.injEq]
    · rw [show nI 1 = 1 from rfl] at hr ⊢
      simp only [r55_0, r55_1, r55_4, r55_5, r55_6, r55_9, r55_11, r55_12, r55_13, r55_16, r55_17, r55_20, List.length_cons, List.length_nil, Nat.reduceAdd, Nat.reduceLT, if_true, l10, l01, l20, l21, l02, l12, List.append_nil, List.getElem?_cons_zero, List.getElem?_cons_succ, List.set_cons_zero, List.set_cons_succ, not_false_eq_true, not_true_eq_false, false_implies, true_implies, forall_const, Classical.not_not, rc0_at, rcI_at, sOK0, sOK1, sOK2, sOK3, sOK4, true_and, and_true, kil, Option.toList_some, Option.toList_none, List.nil_append, List.cons_append, Option.some.injEq, exists_eq_left', Value.int.injEq, Value.ref.injEq, Value.long.injEq, gf_at x0, hr]
      refine ⟨_, _, c_firstFault d x.2.1 1, ?_⟩
      simp only [r55_0, r55_1, r55_4, r55_5, r55_6, r55_9, r55_11, r55_12, r55_13, r55_16, r55_17, r55_20, List.length_cons, List.length_nil, Nat.reduceAdd, Nat.reduceLT, if_true, l10, l01, l20, l21, l02, l12, List.append_nil, List.getElem?_cons_zero, List.getElem?_cons_succ, List.set_cons_zero, List.set_cons_succ, not_false_eq_true, not_true_eq_false, false_implies, true_implies, forall_const, Classical.not_not, rc0_at, rcI_at, sOK0, sOK1, sOK2, sOK3, sOK4, true_and, and_true, kil, Option.toList_some, Option.toList_none, List.nil_append, List.cons_append, Option.some.injEq, exists_eq_left', Value.int.injEq, Value.ref.injEq, Value.long.injEq]
  · have hq : q_fault (cs, n, A, B, bf, hd, hm, hb, tr) c = ((cs, n, A, B, bf, hd, hm, hb, tr), -102) := by unfold q_fault; rw [ixF hc]; rfl
    rw [hq]
    refine ⟨h, ?_, x, Up.rf⟩
    refine Cl_o 2 rfl [some (.ref 0), some (.int c)] rfl rfl ?_
    have n0 : ¬ c = 0 := by rintro rfl; rcases hc with z | z <;> revert z <;> decide
    have n1 : ¬ c = 1 := by rintro rfl; rcases hc with z | z <;> revert z <;> decide
    simp only [r55_0, r55_1, r55_4, r55_5, r55_6, r55_9, r55_11, r55_12, r55_13, r55_16, r55_17, r55_20, List.length_cons, List.length_nil, Nat.reduceAdd, Nat.reduceLT, if_true, l10, l01, l20, l21, l02, l12, List.append_nil, List.getElem?_cons_zero, List.getElem?_cons_succ, List.set_cons_zero, List.set_cons_succ, not_false_eq_true, not_true_eq_false, false_implies, true_implies, forall_const, Classical.not_not, rc0_at, rcI_at, sOK0, sOK1, sOK2, sOK3, sOK4, true_and, and_true, kil, Option.toList_some, Option.toList_none, List.nil_append, List.cons_append, Option.some.injEq, exists_eq_left', Value.int.injEq, Value.ref.injEq, Value.long.injEq, n0, n1]
def q_dunes (s : stT) : stT × Int32 := if whl s.1 s.2.1 0 then ((s.1, 0, (rdh s.1, decide (hx s.1 8 = 62), s.2.2.1.2.2.1, 0, 0), s.2.2.2.1, s.2.2.2.2.1, true, false, false, s.2.2.2.2.2.2.2.2 + 1), suml (rdh s.1)) else (s, -103)
theorem x_dunes (d : Nat) {h : pH} {s : stT} (x : XS h s) : ∃ h', Cl (d + 4) 56 [.ref 0] h (some (.int (q_dunes s).2)) h' ∧ XS h' (q_dunes s).1 ∧ Up h h' := by
  obtain ⟨cs, n, A, B, bf, hd, hi, hb, tr⟩ := s
  obtain ⟨hs, w, ws, cnt, nt⟩ := A
  have x0 := x.1
  dsimp only [obC] at x0
  have hr : ∀ as, rcV 4 h (Value.ref 1 :: as) = True := fun as => rcV_at (fs := _) x.2.1.1
  cases e : whl cs n 0 with
  | false =>
    have hq : q_dunes (cs, n, (hs, w, ws, cnt, nt), B, bf, hd, hi, hb, tr) = ((cs, n, (hs, w, ws, cnt, nt), B, bf, hd, hi, hb, tr), -103) := by unfold q_dunes; rw [e]; rfl
    rw [hq]
    refine ⟨h, ?_, x, Up.rf⟩
    refine Cl_o 1 rfl [some (.ref 0)] rfl rfl ?_
    simp only [r56_0, r56_1, r56_4, r56_5, r56_8, r56_11, r56_13, r56_14, r56_15, r56_18, r56_21, r56_22, r56_25, r56_26, r56_29, r56_32, r56_35, r56_36, r56_39, r56_42, r56_43, r56_46, r56_49, r56_52, r56_53, r56_56, r56_57, r56_60, r56_61, r56_62, r56_65, r56_66, r56_67, r56_70, r56_71, r56_72, r56_75, r56_76, r56_77, r56_80, r56_81, r56_82, r56_85, r56_86, r56_89, r56_92, r56_95, List.length_cons, List.length_nil, Nat.reduceAdd, Nat.reduceLT, if_true, l10, l01, l20, l21, l02, l12, List.append_nil, List.getElem?_cons_zero, List.getElem?_cons_succ, List.set_cons_zero, List.set_cons_succ, not_false_eq_true, not_true_eq_false, false_implies, true_implies, forall_const, Classical.not_not, rc0_at, rcI_at, sOK0, sOK1, sOK2, sOK3, sOK4, true_and, and_true, kil, Option.toList_some, Option.toList_none, List.nil_append, List.cons_append, Option.some.injEq, exists_eq_left', Value.int.injEq, Value.ref.injEq, Value.long.injEq, gf_at x0, hr]
    have := c_isWhole d x.2.1 0
    dsimp only at this
    rw [e] at this
    refine ⟨_, _, this, ?_⟩
    simp only [r56_0, r56_1, r56_4, r56_5, r56_8, r56_11, r56_13, r56_14, r56_15, r56_18, r56_21, r56_22, r56_25, r56_26, r56_29, r56_32, r56_35, r56_36, r56_39, r56_42, r56_43, r56_46, r56_49, r56_52, r56_53, r56_56, r56_57, r56_60, r56_61, r56_62, r56_65, r56_66, r56_67, r56_70, r56_71, r56_72, r56_75, r56_76, r56_77, r56_80, r56_81, r56_82, r56_85, r56_86, r56_89, r56_92, r56_95, List.length_cons, List.length_nil, Nat.reduceAdd, Nat.reduceLT, if_true, l10, l01, l20, l21, l02, l12, List.append_nil, List.getElem?_cons_zero, List.getElem?_cons_succ, List.set_cons_zero, List.set_cons_succ, not_false_eq_true, not_true_eq_false, false_implies, true_implies, forall_const, Classical.not_not, rc0_at, rcI_at, sOK0, sOK1, sOK2, sOK3, sOK4, true_and, and_true, kil, Option.toList_some, Option.toList_none, List.nil_append, List.cons_append, Option.some.injEq, exists_eq_left', Value.int.injEq, Value.ref.injEq, Value.long.injEq, b2i, Bool.false_eq_true, if_false]
  | true =>
    have hq : q_dunes (cs, n, (hs, w, ws, cnt, nt), B, bf, hd, hi, hb, tr) = ((cs, 0, (rdh cs, decide (hx cs 8 = 62), ws, 0, 0), B, bf, true, false, false, tr + 1), suml (rdh cs)) := by unfold q_dunes; rw [e]; rfl
    rw [hq]
    have w0 := c_isWhole (d := d) x.2.1 0
    dsimp only at w0
    rw [e] at w0
    -- land.empty
    have m1 : Sm 3 15 h (h.set 3 (lndC 3 0 0)) := Sm.set (by omega) (by omega)
    have y1 : XS (h.set 3 (lndC 3 0 0)) (cs, n, (hs, w, ws, 0, 0), B, bf, hd, hi, hb, tr) := x.ld m1 (Lnd.setC x.2.2.1 0 0 (by omega))
    -- readHeights
    have m2 : Sm 3 15 (h.set 3 (lndC 3 0 0)) ((h.set 3 (lndC 3 0 0)).set 5 (.inl (rdh cs))) := Sm.set (by omega) (by omega)
    have y2 : XS ((h.set 3 (lndC 3 0 0)).set 5 (.inl (rdh cs))) (cs, n, (rdh cs, w, ws, 0, 0), B, bf, hd, hi, hb, tr) := y1.ld m2 (Lnd.setS (h1 := (h.set 3 (lndC 3 0 0)).set 5 (.inl (rdh cs))) y1.2.2.1 (Sm.set (by omega) (by omega)) (Snd.set y1.2.2.1.2.1 (rdh_len cs)))
    generalize hh1 : h.set 3 (lndC 3 0 0) = h1 at m1 y1 m2 y2
    generalize hh2 : h1.set 5 (.inl (rdh cs)) = h2 at m2 y2
    -- wind
    have s2 := y2.2.2.1.2.1
    dsimp only at s2
    have y3 : XS (h2.set 4 (.inr (.inr (5, [.ref (4 + 1), .int (b2i (decide (hx cs 8 = 62)))])))) (cs, n, (rdh cs, decide (hx cs 8 = 62), ws, 0, 0), B, bf, hd, hi, hb, tr) := y2.ld (Sm.set (by omega) (by omega)) (Lnd.setS y2.2.2.1 (Sm.set (by omega) (by omega)) (s2.wind _))
    generalize hh3 : h2.set 4 (.inr (.inr (5, [.ref (4 + 1), .int (b2i (decide (hx cs 8 = 62)))]))) = h3 at y3
    have y31 := y3.2.1.1
    dsimp only at y31
    have y4 : XS (h3.set 1 (.inr (.inr (4, [.ref (1 + 1), .int (nI 0)])))) (cs, 0, (rdh cs, decide (hx cs 8 = 62), ws, 0, 0), B, bf, hd, hi, hb, tr) := y3.pg (Sm.set (by omega) (by omega)) ⟨get_set y3.2.1.1, by rw [List.getElem?_set_ne (by omega)]; exact y3.2.1.2.1, y3.2.1.2.2.1, by omega⟩
    generalize hh4 : h3.set 1 (.inr (.inr (4, [.ref (1 + 1), .int (nI 0)]))) = h4 at y4
    have y5 := y4.ob (hd' := true) (hi' := false) (hb' := false) (tr' := tr + 1)
    refine ⟨_, ?_, y5, ?_⟩
    · refine Cl_o 1 rfl [some (.ref 0)] rfl rfl ?_
      simp only [r56_0, r56_1, r56_4, r56_5, r56_8, r56_11, r56_13, r56_14, r56_15, r56_18, r56_21, r56_22, r56_25, r56_26, r56_29, r56_32, r56_35, r56_36, r56_39, r56_42, r56_43, r56_46, r56_49, r56_52, r56_53, r56_56, r56_57, r56_60, r56_61, r56_62, r56_65, r56_66, r56_67, r56_70, r56_71, r56_72, r56_75, r56_76, r56_77, r56_80, r56_81, r56_82, r56_85, r56_86, r56_89, r56_92, r56_95, List.length_cons, List.length_nil, Nat.reduceAdd, Nat.reduceLT, if_true, l10, l01, l20, l21, l02, l12, List.append_nil, List.getElem?_cons_zero, List.getElem?_cons_succ, List.set_cons_zero, List.set_cons_succ, not_false_eq_true, not_true_eq_false, false_implies, true_implies, forall_const, Classical.not_not, rc0_at, rcI_at, sOK0, sOK1, sOK2, sOK3, sOK4, true_and, and_true, kil, Option.toList_some, Option.toList_none, List.nil_append, List.cons_append, Option.some.injEq, exists_eq_left', Value.int.injEq, Value.ref.injEq, Value.long.injEq, gf_at x0, hr]
      refine ⟨_, _, w0, ?_⟩
      simp only [r56_0, r56_1, r56_4, r56_5, r56_8, r56_11, r56_13, r56_14, r56_15, r56_18, r56_21, r56_22, r56_25, r56_26, r56_29, r56_32, r56_35, r56_36, r56_39, r56_42, r56_43, r56_46, r56_49, r56_52, r56_53, r56_56, r56_57, r56_60, r56_61, r56_62, r56_65, r56_66, r56_67, r56_70, r56_71, r56_72, r56_75, r56_76, r56_77, r56_80, r56_81, r56_82, r56_85, r56_86, r56_89, r56_92, r56_95, List.length_cons, List.length_nil, Nat.reduceAdd, Nat.reduceLT, if_true, l10, l01, l20, l21, l02, l12, List.append_nil, List.getElem?_cons_zero, List.getElem?_cons_succ, List.set_cons_zero, List.set_cons_succ, not_false_eq_true, not_true_eq_false, false_implies, true_implies, forall_const, Classical.not_not, rc0_at, rcI_at, sOK0, sOK1, sOK2, sOK3, sOK4, true_and, and_true, kil, Option.toList_some, Option.toList_none, List.nil_append, List.cons_append, Option.some.injEq, exists_eq_left', Value.int.injEq, Value.ref.injEq, Value.long.injEq, b2i, gf_at x0, rcV_at x.2.2.1.1]
      refine ⟨none, h1, by rw [← hh1]; exact c_empty (d + 2) x.2.2.1, ?_⟩
      have z0 := y1.1
      dsimp only [obC] at z0
      have z3 := y1.2.2.1.1
      dsimp only at z3
      have hr1 : ∀ as, rcV 4 h1 (Value.ref 1 :: as) = True := fun as => rcV_at (fs := _) y1.2.1.1
      simp only [r56_0, r56_1, r56_4, r56_5, r56_8, r56_11, r56_13, r56_14, r56_15, r56_18, r56_21, r56_22, r56_25, r56_26, r56_29, r56_32, r56_35, r56_36, r56_39, r56_42, r56_43, r56_46, r56_49, r56_52, r56_53, r56_56, r56_57, r56_60, r56_61, r56_62, r56_65, r56_66, r56_67, r56_70, r56_71, r56_72, r56_75, r56_76, r56_77, r56_80, r56_81, r56_82, r56_85, r56_86, r56_89, r56_92, r56_95, List.length_cons, List.length_nil, Nat.reduceAdd, Nat.reduceLT, if_true, l10, l01, l20, l21, l02, l12, List.append_nil, List.getElem?_cons_zero, List.getElem?_cons_succ, List.set_cons_zero, List.set_cons_succ, not_false_eq_true, not_true_eq_false, false_implies, true_implies, forall_const, Classical.not_not, rc0_at, rcI_at, sOK0, sOK1, sOK2, sOK3, sOK4, true_and, and_true, kil, Option.toList_some, Option.toList_none, List.nil_append, List.cons_append, Option.some.injEq, exists_eq_left', Value.int.injEq, Value.ref.injEq, Value.long.injEq, gf_at z0, gf_at z3, hr1]
      refine ⟨none, h2, by rw [← hh2]; exact c_readHeights (d + 1) y1.2.1 y1.2.2.1.2.1 (by omega), ?_⟩
      have v0 := y2.1
      dsimp only [obC] at v0
      have v3 := y2.2.2.1.1
      dsimp only at v3
      have hr2 : ∀ as, rcV 4 h2 (Value.ref 1 :: as) = True := fun as => rcV_at (fs := _) y2.2.1.1
      simp only [r56_0, r56_1, r56_4, r56_5, r56_8, r56_11, r56_13, r56_14, r56_15, r56_18, r56_21, r56_22, r56_25, r56_26, r56_29, r56_32, r56_35, r56_36, r56_39, r56_42, r56_43, r56_46, r56_49, r56_52, r56_53, r56_56, r56_57, r56_60, r56_61, r56_62, r56_65, r56_66, r56_67, r56_70, r56_71, r56_72, r56_75, r56_76, r56_77, r56_80, r56_81, r56_82, r56_85, r56_86, r56_89, r56_92, r56_95, List.length_cons, List.length_nil, Nat.reduceAdd, Nat.reduceLT, if_true, l10, l01, l20, l21, l02, l12, List.append_nil, List.getElem?_cons_zero, List.getElem?_cons_succ, List.set_cons_zero, List.set_cons_succ, not_false_eq_true, not_true_eq_false, false_implies, true_implies, forall_const, Classical.not_not, rc0_at, rcI_at, sOK0, sOK1, sOK2, sOK3, sOK4, true_and, and_true, kil, Option.toList_some, Option.toList_none, List.nil_append, List.cons_append, Option.some.injEq, exists_eq_left', Value.int.injEq, Value.ref.injEq, Value.long.injEq, gf_at v0, gf_at v3, hr2]
      refine ⟨_, _, c_tellsWindOn (d + 1) y2.2.1, ?_⟩
      have u0 := y3.1
      dsimp only [obC] at u0
      have hpf := pf_at (j := 1) (v := .int (b2i (decide (hx cs 8 = 62)))) s2.1 (show 1 < 2 by decide)
      simp only [List.set_cons_zero, List.set_cons_succ] at hpf
      have e31 : (3 : Nat) + 1 = 4 := rfl
      simp only [e31, Nat.reduceAdd] at hpf hh3 v3
      rw [hh3] at hpf
      have t0 := y4.1
      dsimp only [obC] at t0
      have hpf4 := pf_at (j := 1) (v := .int 0) y31 (show 1 < 2 by decide)
      simp only [List.set_cons_zero, List.set_cons_succ] at hpf4
      rw [nI_0] at hh4
      rw [hh4] at hpf4
      simp only [r56_0, r56_1, r56_4, r56_5, r56_8, r56_11, r56_13, r56_14, r56_15, r56_18, r56_21, r56_22, r56_25, r56_26, r56_29, r56_32, r56_35, r56_36, r56_39, r56_42, r56_43, r56_46, r56_49, r56_52, r56_53, r56_56, r56_57, r56_60, r56_61, r56_62, r56_65, r56_66, r56_67, r56_70, r56_71, r56_72, r56_75, r56_76, r56_77, r56_80, r56_81, r56_82, r56_85, r56_86, r56_89, r56_92, r56_95, List.length_cons, List.length_nil, Nat.reduceAdd, Nat.reduceLT, if_true, l10, l01, l20, l21, l02, l12, List.append_nil, List.getElem?_cons_zero, List.getElem?_cons_succ, List.set_cons_zero, List.set_cons_succ, not_false_eq_true, not_true_eq_false, false_implies, true_implies, forall_const, Classical.not_not, rc0_at, rcI_at, sOK0, sOK1, sOK2, sOK3, sOK4, true_and, and_true, kil, Option.toList_some, Option.toList_none, List.nil_append, List.cons_append, Option.some.injEq, exists_eq_left', Value.int.injEq, Value.ref.injEq, Value.long.injEq, b2i_01, hpf, gf_at u0, hpf4, pf_at t0 (show 8 < 12 by decide), pf_set t0, gf_set t0, l10, l01, or_true, true_or, nI_1]
      refine ⟨.ref 4, gf_at y5.2.2.1.1, of_eq_true (rcV_at y5.2.2.1.2.1.1), _, _, c_sum (d + 2) y5.2.2.1.2.1, ?_⟩
      simp only [r56_0, r56_1, r56_4, r56_5, r56_8, r56_11, r56_13, r56_14, r56_15, r56_18, r56_21, r56_22, r56_25, r56_26, r56_29, r56_32, r56_35, r56_36, r56_39, r56_42, r56_43, r56_46, r56_49, r56_52, r56_53, r56_56, r56_57, r56_60, r56_61, r56_62, r56_65, r56_66, r56_67, r56_70, r56_71, r56_72, r56_75, r56_76, r56_77, r56_80, r56_81, r56_82, r56_85, r56_86, r56_89, r56_92, r56_95, List.length_cons, List.length_nil, Nat.reduceAdd, Nat.reduceLT, if_true, l10, l01, l20, l21, l02, l12, List.append_nil, List.getElem?_cons_zero, List.getElem?_cons_succ, List.set_cons_zero, List.set_cons_succ, not_false_eq_true, not_true_eq_false, false_implies, true_implies, forall_const, Classical.not_not, rc0_at, rcI_at, sOK0, sOK1, sOK2, sOK3, sOK4, true_and, and_true, kil, Option.toList_some, Option.toList_none, List.nil_append, List.cons_append, Option.some.injEq, exists_eq_left', Value.int.injEq, Value.ref.injEq, Value.long.injEq]
      rfl
    · intro j hj
      rw [List.getElem?_set_ne (by omega), ← hh4, List.getElem?_set_ne (by omega), ← hh3, List.getElem?_set_ne (by omega), ← hh2, List.getElem?_set_ne (by omega), ← hh1, List.getElem?_set_ne (by omega)]
