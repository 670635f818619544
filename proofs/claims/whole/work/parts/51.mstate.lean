/-! THE REFERENCE: its state -/
def Mh (h : pH) (l : List pC) : Prop := ∀ j, j < l.length → h[66 + j]? = l[j]?
theorem Mh.set {h : pH} {l : List pC} (x : Mh h l) {i : Nat} (hi : i < l.length) (c : pC) : Mh (h.set (66 + i) c) (l.set i c) := by
  intro j hj
  rw [List.length_set] at hj
  by_cases e : i = j
  · subst e
    have := x i hj
    rw [List.getElem?_set_self hi, List.getElem?_set_self]
    rw [List.getElem?_eq_getElem hj] at this
    exact (List.getElem?_eq_some_iff.mp this).1
  · rw [List.getElem?_set_ne (by omega), List.getElem?_set_ne e]
    exact x j hj
def mO (n : Nat) (hd w : Bool) (nt : Int32) (tr : Nat) (hb : Bool) (cnt : Nat) (wm sn kd : Int32) (kw : Bool) (kn : Int32) (kc : Nat) (hh : Int64) : List Value := [.ref 67, .int (nI n), .int (b2i hd), .int (b2i w), .int nt, .int (nI tr), .ref 68, .int (b2i hb), .ref 69, .int (nI cnt), .ref 70, .ref 71, .ref 72, .ref 73, .int wm, .ref 74, .ref 75, .int sn, .int kd, .int (b2i kw), .int kn, .int (nI kc), .ref 76, .ref 77, .ref 78, .long hh]
def mcs (fs : List Value) (cs hs bf rs ms th wh od bo khs krs kms : List Int32) : List pC := [.inr (.inr (8, fs)), .inl cs, .inl hs, .inl bf, .inl rs, .inl ms, .inl th, .inl wh, .inl od, .inl bo, .inl khs, .inl krs, .inl kms]
section MHH
variable {h : pH} {fs : List Value} {cs hs bf rs ms th wh od bo khs krs kms : List Int32}
theorem Mh.g0 (x : Mh h (mcs fs cs hs bf rs ms th wh od bo khs krs kms)) : h[66]? = some (.inr (.inr (8, fs))) := x 0 (by show 0 < 13; decide)
theorem Mh.g1 (x : Mh h (mcs fs cs hs bf rs ms th wh od bo khs krs kms)) : h[67]? = some (.inl cs) := x 1 (by show 1 < 13; decide)
theorem Mh.g2 (x : Mh h (mcs fs cs hs bf rs ms th wh od bo khs krs kms)) : h[68]? = some (.inl hs) := x 2 (by show 2 < 13; decide)
theorem Mh.g3 (x : Mh h (mcs fs cs hs bf rs ms th wh od bo khs krs kms)) : h[69]? = some (.inl bf) := x 3 (by show 3 < 13; decide)
theorem Mh.g4 (x : Mh h (mcs fs cs hs bf rs ms th wh od bo khs krs kms)) : h[70]? = some (.inl rs) := x 4 (by show 4 < 13; decide)
theorem Mh.g5 (x : Mh h (mcs fs cs hs bf rs ms th wh od bo khs krs kms)) : h[71]? = some (.inl ms) := x 5 (by show 5 < 13; decide)
theorem Mh.g6 (x : Mh h (mcs fs cs hs bf rs ms th wh od bo khs krs kms)) : h[72]? = some (.inl th) := x 6 (by show 6 < 13; decide)
theorem Mh.g7 (x : Mh h (mcs fs cs hs bf rs ms th wh od bo khs krs kms)) : h[73]? = some (.inl wh) := x 7 (by show 7 < 13; decide)
theorem Mh.g8 (x : Mh h (mcs fs cs hs bf rs ms th wh od bo khs krs kms)) : h[74]? = some (.inl od) := x 8 (by show 8 < 13; decide)
theorem Mh.g9 (x : Mh h (mcs fs cs hs bf rs ms th wh od bo khs krs kms)) : h[75]? = some (.inl bo) := x 9 (by show 9 < 13; decide)
theorem Mh.g10 (x : Mh h (mcs fs cs hs bf rs ms th wh od bo khs krs kms)) : h[76]? = some (.inl khs) := x 10 (by show 10 < 13; decide)
theorem Mh.g11 (x : Mh h (mcs fs cs hs bf rs ms th wh od bo khs krs kms)) : h[77]? = some (.inl krs) := x 11 (by show 11 < 13; decide)
theorem Mh.g12 (x : Mh h (mcs fs cs hs bf rs ms th wh od bo khs krs kms)) : h[78]? = some (.inl kms) := x 12 (by show 12 < 13; decide)
theorem Mh.s0 (x : Mh h (mcs fs cs hs bf rs ms th wh od bo khs krs kms)) (fs' : List Value) : Mh (h.set 66 (.inr (.inr (8, fs')))) (mcs fs' cs hs bf rs ms th wh od bo khs krs kms) := x.set (i := 0) (by show 0 < 13; decide) _
theorem Mh.s1 (x : Mh h (mcs fs cs hs bf rs ms th wh od bo khs krs kms)) (v : List Int32) : Mh (h.set 67 (.inl v)) (mcs fs v hs bf rs ms th wh od bo khs krs kms) := x.set (i := 1) (by show 1 < 13; decide) _
theorem Mh.s2 (x : Mh h (mcs fs cs hs bf rs ms th wh od bo khs krs kms)) (v : List Int32) : Mh (h.set 68 (.inl v)) (mcs fs cs v bf rs ms th wh od bo khs krs kms) := x.set (i := 2) (by show 2 < 13; decide) _
theorem Mh.s3 (x : Mh h (mcs fs cs hs bf rs ms th wh od bo khs krs kms)) (v : List Int32) : Mh (h.set 69 (.inl v)) (mcs fs cs hs v rs ms th wh od bo khs krs kms) := x.set (i := 3) (by show 3 < 13; decide) _
theorem Mh.s4 (x : Mh h (mcs fs cs hs bf rs ms th wh od bo khs krs kms)) (v : List Int32) : Mh (h.set 70 (.inl v)) (mcs fs cs hs bf v ms th wh od bo khs krs kms) := x.set (i := 4) (by show 4 < 13; decide) _
theorem Mh.s5 (x : Mh h (mcs fs cs hs bf rs ms th wh od bo khs krs kms)) (v : List Int32) : Mh (h.set 71 (.inl v)) (mcs fs cs hs bf rs v th wh od bo khs krs kms) := x.set (i := 5) (by show 5 < 13; decide) _
theorem Mh.s6 (x : Mh h (mcs fs cs hs bf rs ms th wh od bo khs krs kms)) (v : List Int32) : Mh (h.set 72 (.inl v)) (mcs fs cs hs bf rs ms v wh od bo khs krs kms) := x.set (i := 6) (by show 6 < 13; decide) _
theorem Mh.s7 (x : Mh h (mcs fs cs hs bf rs ms th wh od bo khs krs kms)) (v : List Int32) : Mh (h.set 73 (.inl v)) (mcs fs cs hs bf rs ms th v od bo khs krs kms) := x.set (i := 7) (by show 7 < 13; decide) _
theorem Mh.s8 (x : Mh h (mcs fs cs hs bf rs ms th wh od bo khs krs kms)) (v : List Int32) : Mh (h.set 74 (.inl v)) (mcs fs cs hs bf rs ms th wh v bo khs krs kms) := x.set (i := 8) (by show 8 < 13; decide) _
theorem Mh.s9 (x : Mh h (mcs fs cs hs bf rs ms th wh od bo khs krs kms)) (v : List Int32) : Mh (h.set 75 (.inl v)) (mcs fs cs hs bf rs ms th wh od v khs krs kms) := x.set (i := 9) (by show 9 < 13; decide) _
theorem Mh.s10 (x : Mh h (mcs fs cs hs bf rs ms th wh od bo khs krs kms)) (v : List Int32) : Mh (h.set 76 (.inl v)) (mcs fs cs hs bf rs ms th wh od bo v krs kms) := x.set (i := 10) (by show 10 < 13; decide) _
theorem Mh.s11 (x : Mh h (mcs fs cs hs bf rs ms th wh od bo khs krs kms)) (v : List Int32) : Mh (h.set 77 (.inl v)) (mcs fs cs hs bf rs ms th wh od bo khs v kms) := x.set (i := 11) (by show 11 < 13; decide) _
theorem Mh.s12 (x : Mh h (mcs fs cs hs bf rs ms th wh od bo khs krs kms)) (v : List Int32) : Mh (h.set 78 (.inl v)) (mcs fs cs hs bf rs ms th wh od bo khs krs v) := x.set (i := 12) (by show 12 < 13; decide) _
end MHH
/-- what lies below the reference's own places stays -/
def Dn (h h1 : pH) : Prop := ∀ j, j < 66 ∨ 79 ≤ j → h1[j]? = h[j]?
theorem Dn.rf {h : pH} : Dn h h := fun _ _ => rfl
theorem Dn.tr {h h1 h2 : pH} (a : Dn h h1) (b : Dn h1 h2) : Dn h h2 := fun j hj => (b j hj).trans (a j hj)
theorem Dn.st {h h1 : pH} {i : Nat} {c : pC} (a : Dn h h1) (hi : 66 ≤ i ∧ i < 79) : Dn h (h1.set i c) := fun j hj => (List.getElem?_set_ne (by omega)).trans (a j hj)
def Rw (rs : List Int32) (ws : Nat → wkr) : Prop := rs.length = 12 ∧ ∀ i, i < 4 → hx rs (3 * i) = nI (ws i).1 ∧ hx rs (3 * i + 1) = nI (ws i).2.1 ∧ hx rs (3 * i + 2) = (ws i).2.2.1
def Mp (ms : List Int32) (ws : Nat → wkr) : Prop := ms.length = 40 ∧ ∀ i, i < 4 → hx ms (10 * i + 1) = nI (ws i).2.2.2.2.1 ∧ (0 < (ws i).2.2.2.2.1 → hx ms (10 * i) = (ws i).2.2.2.1) ∧ ∀ t, t < 8 → hx ms (10 * i + 2 + t) = hx (ws i).2.2.2.2.2 t
def kdO (kd : Int32) (tr : Nat) (hi : Bool) : Prop := if hi = true then kd = nI tr else kd.toInt < tr
/-- pieces of the reference's own: how many, seed, hash, scratch rows -/
def MS (h : pH) (s : stT) : Prop := ∃ (wm sn kd : Int32) (hh : Int64) (rs ms th wh od bo krs kms : List Int32), Mh h (mcs (mO s.2.1 s.2.2.2.2.2.1 s.2.2.1.2.1 s.2.2.1.2.2.2.2 s.2.2.2.2.2.2.2.2 s.2.2.2.2.2.2.2.1 s.2.2.1.2.2.2.1 wm sn kd s.2.2.2.1.2.1 s.2.2.2.1.2.2.2.2 s.2.2.2.1.2.2.2.1 hh) s.1 s.2.2.1.1 s.2.2.2.2.1 rs ms th wh od bo s.2.2.2.1.1 krs kms) ∧ (Rw rs s.2.2.1.2.2.1 ∧ Mp ms s.2.2.1.2.2.1) ∧ (Rw krs s.2.2.2.1.2.2.1 ∧ Mp kms s.2.2.2.1.2.2.1) ∧ (th.length = 8 ∧ wh.length = 4 ∧ od.length = 4 ∧ bo.length = 4) ∧ kdO kd s.2.2.2.2.2.2.2.2 s.2.2.2.2.2.2.1
/-- the state is well formed -/
def LdS (A : landT) : Prop := A.1.length = 8 ∧ (∀ i, i < 4 → wok (A.2.2.1 i)) ∧ A.2.2.2.1 ≤ 4
def St (s : stT) : Prop := s.1.length = 12 ∧ s.2.1 ≤ 12 ∧ LdS s.2.2.1 ∧ LdS s.2.2.2.1 ∧ s.2.2.2.2.1.length = 8
theorem XS.st {h : pH} {s : stT} (x : XS h s) : St s := by
  obtain ⟨-, p, a, b, ⟨bw, c⟩, -⟩ := x
  exact ⟨p.2.2.1, p.2.2.2, ⟨a.2.1.2.2, fun i hi => (a.2.2.2.1 i hi).2.2, a.2.2.2.2⟩, ⟨b.2.1.2.2, fun i hi => (b.2.2.2.1 i hi).2.2, b.2.2.2.2⟩, c.2.2⟩
theorem XS.dn {h h1 : pH} {s : stT} (x : XS h s) (m : Dn h h1) : XS h1 s := by
  have m' : Sm 66 (66 + h.length + h1.length) h h1 := fun j hj => by
    rcases hj with hj | hj
    · exact m j (Or.inl hj)
    · rw [List.getElem?_eq_none (by omega), List.getElem?_eq_none (by omega)]
  obtain ⟨o, p, a, b, ⟨bw, c⟩, e⟩ := x
  exact ⟨by rw [m 0 (by omega)]; exact o, p.fr m' (by omega), Lnd.fr a m' (by omega), Lnd.fr b m' (by omega), ⟨bw, c.fr m' (by omega)⟩, e.fp (fun j _ hj => m j (Or.inl hj))⟩
theorem MS.up {h h1 : pH} {s : stT} (x : MS h s) (m : Up h h1) : MS h1 s := by
  obtain ⟨wm, sn, kd, hh, rs, ms, th, wh, od, bo, krs, kms, a, b⟩ := x
  exact ⟨wm, sn, kd, hh, rs, ms, th, wh, od, bo, krs, kms, fun j hj => by rw [m _ (by omega)]; exact a j hj, b⟩
theorem in_ix (c : Int32) (m : Nat) (hm : m + 1 < 2 ^ 31) : decide ((0 : Int32) ≤ c ∧ c ≤ nI m) = ixv c (m + 1) := by
  unfold ixv
  rcases ix_or c (m + 1) hm with ⟨i, hi, rfl⟩ | hc
  · rw [decide_eq_true ⟨nI_pos' (by omega), nI_le (by omega) (by omega)⟩, decide_eq_true ⟨nI_pos' (by omega), nI_lt hi hm⟩]
  · rw [decide_eq_false, decide_eq_false]
    · rintro ⟨a, b⟩
      rcases hc with hc | hc
      · exact absurd a (Int32.not_le.mpr hc)
      · exact absurd b (Int32.not_lt.mpr hc)
    · rintro ⟨a, b⟩
      rcases hc with hc | hc
      · exact absurd a (Int32.not_le.mpr hc)
      · have : nI m < nI (m + 1) := nI_lt (by omega) hm
        exact absurd (Int32.lt_of_le_of_lt b this) (Int32.not_lt.mpr hc)
theorem m_letter (d : Nat) {h : pH} {s : stT} (x : MS h s) (st : St s) (c : Int32) : ∃ h', Cl (d + 2) 89 [.ref 66, .int c] h (some (.int (q_letter s c).2)) h' ∧ MS h' (q_letter s c).1 ∧ Dn h h' := by
  obtain ⟨cs, n, ⟨hs, w, ws, cnt, nt⟩, ⟨khs, kw, kws, kc, kn⟩, bf, hd, hm, hb, tr⟩ := s
  have x' := x
  obtain ⟨wm, sn, kd, hh, rs, ms, th, wh, od, bo, krs, kms, a, b⟩ := x
  dsimp only [mO] at a
  obtain ⟨l1, l2, -⟩ := st
  dsimp only at l1 l2
  have g0 := a.g0
  have e0 : entL 2 [Value.ref 66, .int c] = [some (.ref 66), some (.int c)] := rfl
  unfold q_letter
  dsimp only
  by_cases q : c < 1 ∨ 126 < c
  · have e : decide ((1 : Int32) ≤ c ∧ c ≤ 126) = false := decide_eq_false (fun ⟨z1, z2⟩ => by
      rcases q with q | q
      · exact absurd z1 (Int32.not_le.mpr q)
      · exact absurd z2 (Int32.not_le.mpr q))
    simp only [q, if_true]
    refine ⟨h, Cl_o 2 rfl _ e0 rfl ?_, x', Dn.rf⟩
    simp only [r89_0, r89_1, r89_2, r89_3, r89_6, r89_9, r89_12, r89_14, r89_15, r89_16, r89_19, r89_21, r89_24, r89_26, r89_27, r89_28, r89_31, r89_32, r89_35, r89_36, r89_37, r89_38, r89_39, r89_42, r89_43, r89_44, r89_47, r89_48, r89_51, List.length_cons, List.length_nil, Nat.reduceAdd, Nat.reduceLT, if_true, l10, l01, l20, l21, l02, l12, List.append_nil, List.getElem?_cons_zero, List.getElem?_cons_succ, List.set_cons_zero, List.set_cons_succ, not_false_eq_true, not_true_eq_false, false_implies, true_implies, forall_const, Classical.not_not, rc0_at, rcI_at, sOK0, sOK1, sOK2, sOK3, sOK4, true_and, and_true, kil, Option.toList_some, Option.toList_none, List.nil_append, List.cons_append, Option.some.injEq, exists_eq_left', Value.int.injEq, Value.ref.injEq, Value.long.injEq]
    refine ⟨_, _, c_inI d h c 1 126 rfl rfl, ?_⟩
    simp only [r89_0, r89_1, r89_2, r89_3, r89_6, r89_9, r89_12, r89_14, r89_15, r89_16, r89_19, r89_21, r89_24, r89_26, r89_27, r89_28, r89_31, r89_32, r89_35, r89_36, r89_37, r89_38, r89_39, r89_42, r89_43, r89_44, r89_47, r89_48, r89_51, List.length_cons, List.length_nil, Nat.reduceAdd, Nat.reduceLT, if_true, l10, l01, l20, l21, l02, l12, List.append_nil, List.getElem?_cons_zero, List.getElem?_cons_succ, List.set_cons_zero, List.set_cons_succ, not_false_eq_true, not_true_eq_false, false_implies, true_implies, forall_const, Classical.not_not, rc0_at, rcI_at, sOK0, sOK1, sOK2, sOK3, sOK4, true_and, and_true, kil, Option.toList_some, Option.toList_none, List.nil_append, List.cons_append, Option.some.injEq, exists_eq_left', Value.int.injEq, Value.ref.injEq, Value.long.injEq, e, b2i, Bool.false_eq_true, if_false]
  · have e : decide ((1 : Int32) ≤ c ∧ c ≤ 126) = true := decide_eq_true ⟨Int32.not_lt.mp (fun z => q (Or.inl z)), Int32.not_lt.mp (fun z => q (Or.inr z))⟩
    simp only [q, if_false]
    by_cases q2 : n < 12
    · have n12 : ¬ nI n = 12 := fun z => by
        have := (nI_eq (a := n) (b := 12) (by omega) (by decide)).mp z
        omega
      simp only [q2, if_true]
      refine ⟨(h.set 67 (.inl (cs.set n c))).set 66 (.inr (.inr (8, mO (n + 1) hd w nt tr hb cnt wm sn kd kw kn kc hh))), Cl_o 2 rfl _ e0 rfl ?_, ⟨wm, sn, kd, hh, rs, ms, th, wh, od, bo, krs, kms, (a.s1 _).s0 _, b⟩, (Dn.rf.st (by decide)).st (by decide)⟩
      simp only [r89_0, r89_1, r89_2, r89_3, r89_6, r89_9, r89_12, r89_14, r89_15, r89_16, r89_19, r89_21, r89_24, r89_26, r89_27, r89_28, r89_31, r89_32, r89_35, r89_36, r89_37, r89_38, r89_39, r89_42, r89_43, r89_44, r89_47, r89_48, r89_51, List.length_cons, List.length_nil, Nat.reduceAdd, Nat.reduceLT, if_true, l10, l01, l20, l21, l02, l12, List.append_nil, List.getElem?_cons_zero, List.getElem?_cons_succ, List.set_cons_zero, List.set_cons_succ, not_false_eq_true, not_true_eq_false, false_implies, true_implies, forall_const, Classical.not_not, rc0_at, rcI_at, sOK0, sOK1, sOK2, sOK3, sOK4, true_and, and_true, kil, Option.toList_some, Option.toList_none, List.nil_append, List.cons_append, Option.some.injEq, exists_eq_left', Value.int.injEq, Value.ref.injEq, Value.long.injEq]
      refine ⟨_, _, c_inI d h c 1 126 rfl rfl, ?_⟩
      simp only [r89_0, r89_1, r89_2, r89_3, r89_6, r89_9, r89_12, r89_14, r89_15, r89_16, r89_19, r89_21, r89_24, r89_26, r89_27, r89_28, r89_31, r89_32, r89_35, r89_36, r89_37, r89_38, r89_39, r89_42, r89_43, r89_44, r89_47, r89_48, r89_51, List.length_cons, List.length_nil, Nat.reduceAdd, Nat.reduceLT, if_true, l10, l01, l20, l21, l02, l12, List.append_nil, List.getElem?_cons_zero, List.getElem?_cons_succ, List.set_cons_zero, List.set_cons_succ, not_false_eq_true, not_true_eq_false, false_implies, true_implies, forall_const, Classical.not_not, rc0_at, rcI_at, sOK0, sOK1, sOK2, sOK3, sOK4, true_and, and_true, kil, Option.toList_some, Option.toList_none, List.nil_append, List.cons_append, Option.some.injEq, exists_eq_left', Value.int.injEq, Value.ref.injEq, Value.long.injEq, e, b2i, gf_at g0, n12, ist_at a.g1 (show n < cs.length by omega) (show n < 2 ^ 31 by omega), gf_at (a.s1 _).g0, pf_at (a.s1 _).g0 (show 1 < 26 by decide), nI_1, gf_set (a.s1 _).g0, mO]
    · have n12 : n = 12 := by omega
      subst n12
      refine ⟨h, Cl_o 2 rfl _ e0 rfl ?_, by simpa using x', Dn.rf⟩
      simp only [r89_0, r89_1, r89_2, r89_3, r89_6, r89_9, r89_12, r89_14, r89_15, r89_16, r89_19, r89_21, r89_24, r89_26, r89_27, r89_28, r89_31, r89_32, r89_35, r89_36, r89_37, r89_38, r89_39, r89_42, r89_43, r89_44, r89_47, r89_48, r89_51, List.length_cons, List.length_nil, Nat.reduceAdd, Nat.reduceLT, if_true, l10, l01, l20, l21, l02, l12, List.append_nil, List.getElem?_cons_zero, List.getElem?_cons_succ, List.set_cons_zero, List.set_cons_succ, not_false_eq_true, not_true_eq_false, false_implies, true_implies, forall_const, Classical.not_not, rc0_at, rcI_at, sOK0, sOK1, sOK2, sOK3, sOK4, true_and, and_true, kil, Option.toList_some, Option.toList_none, List.nil_append, List.cons_append, Option.some.injEq, exists_eq_left', Value.int.injEq, Value.ref.injEq, Value.long.injEq]
      refine ⟨_, _, c_inI d h c 1 126 rfl rfl, ?_⟩
      simp only [r89_0, r89_1, r89_2, r89_3, r89_6, r89_9, r89_12, r89_14, r89_15, r89_16, r89_19, r89_21, r89_24, r89_26, r89_27, r89_28, r89_31, r89_32, r89_35, r89_36, r89_37, r89_38, r89_39, r89_42, r89_43, r89_44, r89_47, r89_48, r89_51, List.length_cons, List.length_nil, Nat.reduceAdd, Nat.reduceLT, if_true, l10, l01, l20, l21, l02, l12, List.append_nil, List.getElem?_cons_zero, List.getElem?_cons_succ, List.set_cons_zero, List.set_cons_succ, not_false_eq_true, not_true_eq_false, false_implies, true_implies, forall_const, Classical.not_not, rc0_at, rcI_at, sOK0, sOK1, sOK2, sOK3, sOK4, true_and, and_true, kil, Option.toList_some, Option.toList_none, List.nil_append, List.cons_append, Option.some.injEq, exists_eq_left', Value.int.injEq, Value.ref.injEq, Value.long.injEq, e, b2i, gf_at g0]
      simp [nI]
