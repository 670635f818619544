/-! the start, both sides -/
def w00 : Nat → wkr := fun _ => (0, 0, 0, 0, 0, List.replicate 8 0)
def a00 : landT := (List.replicate 8 0, false, w00, 0, 0)
def s00 : stT := (List.replicate 12 0, 0, a00, a00, List.replicate 8 0, false, false, false, 0)
def h00 : pH := (iO_8 :: iT_8) ++ mdL
theorem h00_len : h00.length = 79 := rfl
theorem wok00 : wok (0, 0, 0, 0, 0, List.replicate 8 0) := ⟨by decide, by decide, by decide, rfl⟩
theorem ld00a : LndT h00 3 a00 := ⟨rfl, ⟨rfl, rfl, rfl⟩, rfl, fun i hi => match i, hi with
  | 0, _ => ⟨rfl, rfl, wok00⟩
  | 1, _ => ⟨rfl, rfl, wok00⟩
  | 2, _ => ⟨rfl, rfl, wok00⟩
  | 3, _ => ⟨rfl, rfl, wok00⟩, by decide⟩
theorem ld00b : LndT h00 15 a00 := ⟨rfl, ⟨rfl, rfl, rfl⟩, rfl, fun i hi => match i, hi with
  | 0, _ => ⟨rfl, rfl, wok00⟩
  | 1, _ => ⟨rfl, rfl, wok00⟩
  | 2, _ => ⟨rfl, rfl, wok00⟩
  | 3, _ => ⟨rfl, rfl, wok00⟩, by decide⟩
theorem od00 : Od h00 31 0 (List.replicate 4 0, List.replicate 4 0, 0) := ⟨rfl, rfl, ⟨rfl, rfl⟩, ⟨rfl, rfl⟩, fun i hi => match i, hi with
  | 0, _ => ⟨List.replicate 8 0, false, rfl, rfl, rfl⟩
  | 1, _ => ⟨List.replicate 8 0, false, rfl, rfl, rfl⟩
  | 2, _ => ⟨List.replicate 8 0, false, rfl, rfl, rfl⟩
  | 3, _ => ⟨List.replicate 8 0, false, rfl, rfl, rfl⟩
  | 4, _ => ⟨List.replicate 8 0, false, rfl, rfl, rfl⟩⟩
theorem ft00 : Ft h00 45 0 0 0 (0, 0, 0) := ⟨rfl, rfl, fun i hi => match i, hi with
  | 0, _ => ⟨List.replicate 8 0, false, rfl, rfl, rfl⟩
  | 1, _ => ⟨List.replicate 8 0, false, rfl, rfl, rfl⟩
  | 2, _ => ⟨List.replicate 8 0, false, rfl, rfl, rfl⟩
  | 3, _ => ⟨List.replicate 8 0, false, rfl, rfl, rfl⟩
  | 4, _ => ⟨List.replicate 8 0, false, rfl, rfl, rfl⟩
  | 5, _ => ⟨List.replicate 8 0, false, rfl, rfl, rfl⟩
  | 6, _ => ⟨List.replicate 8 0, false, rfl, rfl, rfl⟩
  | 7, _ => ⟨List.replicate 8 0, false, rfl, rfl, rfl⟩
  | 8, _ => ⟨List.replicate 8 0, false, rfl, rfl, rfl⟩⟩
theorem xs00 : XS h00 s00 := ⟨rfl, ⟨rfl, rfl, rfl, by decide⟩, ld00a, ld00b, ⟨false, rfl, rfl, rfl⟩, ⟨List.replicate 8 0, false, rfl, rfl, rfl⟩, ⟨0, _, od00⟩, ⟨0, 0, 0, _, ft00⟩, 0, 0, rfl⟩
theorem rw00 : Rw (List.replicate 12 0) w00 := ⟨rfl, fun i hi => match i, hi with
  | 0, _ => ⟨rfl, rfl, rfl⟩
  | 1, _ => ⟨rfl, rfl, rfl⟩
  | 2, _ => ⟨rfl, rfl, rfl⟩
  | 3, _ => ⟨rfl, rfl, rfl⟩⟩
theorem hx00 (n k : Nat) : hx (List.replicate n 0) k = 0 := by
  unfold hx
  rw [List.getD_eq_getElem?_getD, List.getElem?_replicate]
  split <;> rfl
theorem mp00 : Mp (List.replicate 40 0) w00 := ⟨rfl, fun i _ => ⟨hx00 _ _, fun z => absurd z (by show ¬ 0 < 0; decide), fun t _ => (hx00 _ _).trans (hx00 _ _).symm⟩⟩
theorem kd00 : kdO (-1) 0 false := by
  unfold kdO
  rw [if_neg (by decide)]
  decide
theorem ms00 : MS h00 s00 := ⟨0, 0, -1, 0, List.replicate 12 0, List.replicate 40 0, List.replicate 8 0, List.replicate 4 0, List.replicate 4 0, List.replicate 4 0, List.replicate 12 0, List.replicate 40 0, fun j hj => match j, hj with
  | 0, _ => rfl
  | 1, _ => rfl
  | 2, _ => rfl
  | 3, _ => rfl
  | 4, _ => rfl
  | 5, _ => rfl
  | 6, _ => rfl
  | 7, _ => rfl
  | 8, _ => rfl
  | 9, _ => rfl
  | 10, _ => rfl
  | 11, _ => rfl
  | 12, _ => rfl, ⟨rw00, mp00⟩, ⟨rw00, mp00⟩, ⟨rfl, rfl, rfl, rfl⟩, kd00⟩
theorem ok00 : okH (List.replicate 8 0) := ⟨List.replicate 8 0, rfl, rfl, by decide⟩
theorem iv00 : ivT s00 0 := ⟨⟨ok00, ok00⟩, Nat.le_refl _⟩
/-! how large the heap is -/
def Szs (h : pH) (a b : Nat) : Prop := ∀ j, a ≤ j → j < b → ∃ c, h[j]? = some c ∧ csz c ≤ 40
theorem Szs.app {h : pH} {a b c : Nat} (x : Szs h a b) (y : Szs h b c) : Szs h a c := fun j h1 h2 => (Nat.lt_or_ge j b).elim (fun z => x j h1 z) (fun z => y j z h2)
theorem Szs.one {h : pH} {k : Nat} {c : pC} (x : h[k]? = some c) (hc : csz c ≤ 40) : Szs h k (k + 1) := fun j h1 h2 => by
  have : j = k := by omega
  subst this
  exact ⟨c, x, hc⟩
theorem Szs.two {h : pH} {k : Nat} {c e : pC} (x : h[k]? = some c) (hc : csz c ≤ 40) (y : h[k + 1]? = some e) (he : csz e ≤ 40) : Szs h k (k + 2) := (Szs.one x hc).app (Szs.one y he)
theorem Snd.szs {h : pH} {k : Nat} {hs : List Int32} {w : Bool} (x : Snd h k hs w) : Szs h k (k + 2) := Szs.two x.1 (by show 2 ≤ 40; decide) x.2.1 (by show hs.length ≤ 40; have := x.2.2; omega)
theorem Wlk.szs {h : pH} {k : Nat} {q : wkr} (x : Wlk h k q) : Szs h k (k + 2) := Szs.two x.1 (by show 6 ≤ 40; decide) x.2.1 (by show q.2.2.2.2.2.length ≤ 40; have := x.2.2.2.2.2; omega)
theorem Szs.many {h : pH} {k : Nat} : ∀ (n : Nat), (∀ i, i < n → Szs h (k + 2 * i) (k + 2 * i + 2)) → Szs h k (k + 2 * n)
  | 0, _ => fun j h1 h2 => by omega
  | n + 1, x => (Szs.many n (fun i hi => x i (by omega))).app (x n (by omega))
theorem LndT.szs {h : pH} {k : Nat} {A : landT} (x : LndT h k A) : Szs h k (k + 12) :=
  (((Szs.one x.1 (by show 4 ≤ 40; decide)).app x.2.1.szs).app (Szs.one x.2.2.1 (by show 4 ≤ 40; decide))).app (Szs.many (k := k + 4) 4 (fun i hi => (x.2.2.2.1 i hi).szs))
theorem Od.szs {h : pH} {k : Nat} {go : Int32} {st : od3} (x : Od h k go st) : Szs h k (k + 14) :=
  (((Szs.two x.1 (by show 5 ≤ 40; decide) x.2.1 (by show 5 ≤ 40; decide)).app (Szs.one x.2.2.1.1 (by show st.1.length ≤ 40; have := x.2.2.1.2; omega))).app (Szs.one x.2.2.2.1.1 (by show st.2.1.length ≤ 40; have := x.2.2.2.1.2; omega))).app (Szs.many (k := k + 4) 5 (fun i hi => by
    obtain ⟨hs, w, z⟩ := x.2.2.2.2 i hi
    exact z.szs))
theorem Ft.szs {h : pH} {k n g : Nat} {gh : Int32} {st : ft3} (x : Ft h k n g gh st) : Szs h k (k + 20) :=
  (Szs.two x.1 (by show 7 ≤ 40; decide) x.2.1 (by show 9 ≤ 40; decide)).app (Szs.many (k := k + 2) 9 (fun i hi => by
    obtain ⟨hs, w, z⟩ := x.2.2 i hi
    exact z.szs))
theorem XS.szs {h : pH} {s : stT} (x : XS h s) : Szs h 0 66 := by
  obtain ⟨o, p, a, b, ⟨bw, c⟩, ⟨ts, tw, e⟩, ⟨go, st, f⟩, ⟨n, g, gh, st', i⟩, f1, l1, j⟩ := x
  exact (Szs.one o (by show 12 ≤ 40; decide)).app <| (Szs.two p.1 (by show 2 ≤ 40; decide) p.2.1 (by show s.1.length ≤ 40; have := p.2.2.1; omega)).app <| a.szs.app <| b.szs.app <| c.szs.app <| e.szs.app <| f.szs.app <| i.szs.app <| Szs.one j (by show 2 ≤ 40; decide)
theorem MS.szs {h : pH} {s : stT} (m : MS h s) (st : St s) : Szs h 66 79 := by
  obtain ⟨wm, sn, kd, hh, rs, ms, th, wh, od, bo, krs, kms, a, ⟨b1, b2⟩, ⟨b3, b4⟩, ⟨t1, t2, t3, t4⟩, b5⟩ := m
  obtain ⟨l1, l2, ⟨l3, l4, l5⟩, ⟨l6, l7, l8⟩, l9⟩ := st
  have c1 := b1.1
  have c2 := b2.1
  have c3 := b3.1
  have c4 := b4.1
  exact (Szs.one a.g0 (by show 26 ≤ 40; decide)).app <| (Szs.one a.g1 (by show s.1.length ≤ 40; omega)).app <| (Szs.one a.g2 (by show s.2.2.1.1.length ≤ 40; omega)).app <| (Szs.one a.g3 (by show s.2.2.2.2.1.length ≤ 40; omega)).app <| (Szs.one a.g4 (by show rs.length ≤ 40; omega)).app <| (Szs.one a.g5 (by show ms.length ≤ 40; omega)).app <| (Szs.one a.g6 (by show th.length ≤ 40; omega)).app <| (Szs.one a.g7 (by show wh.length ≤ 40; omega)).app <| (Szs.one a.g8 (by show od.length ≤ 40; omega)).app <| (Szs.one a.g9 (by show bo.length ≤ 40; omega)).app <| (Szs.one a.g10 (by show s.2.2.2.1.1.length ≤ 40; omega)).app <| (Szs.one a.g11 (by show krs.length ≤ 40; omega)).app <| Szs.one a.g12 (by show kms.length ≤ 40; omega)
theorem sz_le : ∀ (h : pH), Szs h 0 h.length → sz h ≤ 40 * h.length
  | [], _ => Nat.le_refl _
  | c :: t, x => by
    obtain ⟨c', e, q⟩ := x 0 (Nat.le_refl _) (Nat.succ_pos _)
    cases e
    have := sz_le t (fun j _ h2 => x (j + 1) (Nat.zero_le _) (by simpa using h2))
    have e2 : sz (c :: t) = csz c + sz t := by simp [sz]
    rw [e2, List.length_cons]
    omega
theorem sz_xm {h : pH} {s : stT} (x : XS h s) (m : MS h s) (e : h.length = 79) : sz h ≤ 3160 := by
  have := sz_le h (by rw [e]; exact x.szs.app (m.szs x.st))
  omega
