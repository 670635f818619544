/-! the heights stay small: no sand comes or goes -/
def okH (hs : List Int32) : Prop := ∃ ns : List Nat, hs = ns.map nI ∧ ns.length = 8 ∧ ns.sum ≤ 72
def gN (ns : List Nat) (i : Nat) : Nat := ns.getD i 0
theorem gN_le : ∀ (ns : List Nat) (i : Nat), gN ns i ≤ ns.sum
  | [], i => by simp [gN]
  | x :: t, 0 => by simp [gN]
  | x :: t, i + 1 => by
    have := gN_le t i
    simp [gN] at this ⊢
    omega
theorem sum_setN : ∀ (ns : List Nat) (i v : Nat), i < ns.length → (ns.set i v).sum + gN ns i = ns.sum + v
  | [], i, v, h => absurd h (Nat.not_lt_zero _)
  | x :: t, 0, v, _ => by simp [gN]; omega
  | x :: t, i + 1, v, h => by
    have := sum_setN t i v (Nat.lt_of_succ_lt_succ h)
    simp [gN] at this ⊢
    omega
theorem hx_map (ns : List Nat) (i : Nat) : hx (ns.map nI) i = nI (gN ns i) := by
  unfold hx gN
  rw [List.getD_eq_getElem?_getD, List.getD_eq_getElem?_getD, List.getElem?_map]
  cases ns[i]? with
  | none => rfl
  | some x => rfl
def mvN (ns : List Nat) (a b q : Nat) : List Nat := (ns.set a (gN ns a - q)).set b (gN (ns.set a (gN ns a - q)) b + q)
theorem mvs_map (ns : List Nat) (a b q : Nat) (hq : q ≤ gN ns a) : mvs (ns.map nI) a b (nI q) = (mvN ns a b q).map nI := by
  unfold mvs mvN
  rw [hx_map, pk_sub hq, ← List.map_set, hx_map, nI_add, ← List.map_set]
theorem mvN_sum (ns : List Nat) (a b q : Nat) (ha : a < ns.length) (hb : b < ns.length) (hq : q ≤ gN ns a) : (mvN ns a b q).sum = ns.sum := by
  unfold mvN
  have h1 := sum_setN ns a (gN ns a - q) ha
  have h2 := sum_setN (ns.set a (gN ns a - q)) b (gN (ns.set a (gN ns a - q)) b + q) (by rw [List.length_set]; exact hb)
  omega
theorem mvN_len (ns : List Nat) (a b q : Nat) : (mvN ns a b q).length = ns.length := by simp [mvN]
theorem mnw_nI {a b : Nat} (ha : a < 2 ^ 31) (hb : b < 2 ^ 31) : mnw (nI a) (nI b) = nI (min a b) := by
  unfold mnw
  by_cases q : b < a
  · rw [if_pos (nI_lt q ha), Nat.min_eq_right (by omega)]
  · rw [if_neg (nI_nlt (by omega) hb), Nat.min_eq_left (by omega)]
theorem wts_nI : ∀ n, n < 5 → ∃ k, k ≤ 4 ∧ wts n = nI k := by
  intro n hn
  match n, hn with
  | 0, _ => exact ⟨1, by decide, by decide⟩
  | 1, _ => exact ⟨2, by decide, by decide⟩
  | 2, _ => exact ⟨0, by decide, by decide⟩
  | 3, _ => exact ⟨1, by decide, by decide⟩
  | 4, _ => exact ⟨4, by decide, by decide⟩
theorem okH.mv1 {hs : List Int32} (o : okH hs) {a b n : Nat} (ha : a < 8) (hb : b < 8) (hn : n < 5) : okH (mvs hs a b (mnw (wts n) (hx hs a))) := by
  obtain ⟨ns, rfl, l, s⟩ := o
  obtain ⟨k, hk, e⟩ := wts_nI n hn
  have g := gN_le ns a
  rw [hx_map, e, mnw_nI (by omega) (by omega), mvs_map ns a b _ (Nat.min_le_right _ _)]
  exact ⟨_, rfl, by rw [mvN_len]; exact l, by rw [mvN_sum ns a b _ (by omega) (by omega) (Nat.min_le_right _ _)]; exact s⟩
theorem okH.tr1 {hs : List Int32} (o : okH hs) (w : Bool) {c n : Nat} (hc : c < 8) (hn : n < 5) : okH (trd hs w c n).2 := by
  unfold trd
  split
  · exact o
  · split
    · exact o.mv1 hc (trO_lt _ _ _ _) hn
    · exact o.mv1 (trO_lt _ _ _ _) hc hn
theorem okH.go1 {w : Bool} {way : Int32} {n : Nat} (hn : n < 5) : ∀ (j c : Nat) (hs : List Int32), okH hs → okH (gos w way n j c hs).2
  | 0, _, _, o => o
  | j + 1, c, hs, o => by
    unfold gos
    exact okH.go1 hn j _ _ (o.tr1 w (bes_lt _ _) hn)
/-- a night: the class takes at most what there is, the reference always one: that is the same -/
theorem ng_same (w : Bool) (b : Nat → Bool) : ∀ (j i : Nat) (hs : List Int32), i + j ≤ 8 → okH hs → (∀ k, i ≤ k → k < 8 → b k = true → (1 : Int32) ≤ hx hs k) → ngM w b j i hs = ngC w b j i hs ∧ okH (ngC w b j i hs) := by
  intro j
  induction j with
  | zero => intro i hs _ o _; exact ⟨rfl, o⟩
  | succ j ih =>
    intro i hs hi o hb
    unfold ngM ngC
    cases e : b i with
    | false => exact ih (i + 1) hs (by omega) o (fun k h1 h2 h3 => hb k (by omega) h2 h3)
    | true =>
      simp only [if_true]
      have h1 := hb i (Nat.le_refl _) (by omega) e
      have e1 : mnw 1 (hx hs i) = 1 := if_neg (Int32.not_lt.mpr h1)
      rw [e1]
      have o2 := o.mv1 (a := i) (b := lee w i) (n := 0) (by omega) (lee_lt w i) (by decide)
      have w0 : wts 0 = 1 := by decide
      rw [w0, e1] at o2
      refine ih (i + 1) _ (by omega) o2 (fun k h2 h3 h4 => ?_)
      have h5 := hb k (by omega) h3 h4
      obtain ⟨ns, rfl, l, s⟩ := o
      rw [hx_map] at h5 h1
      have p1 : 1 ≤ gN ns k := (nI_leI (a := 1) (by decide) (by have := gN_le ns k; omega)).mp h5
      have p2 : 1 ≤ gN ns i := (nI_leI (a := 1) (by decide) (by have := gN_le ns i; omega)).mp h1
      have : mvs (ns.map nI) i (lee w i) 1 = (mvN ns i (lee w i) 1).map nI := mvs_map ns i (lee w i) 1 p2
      rw [this, hx_map]
      have g := gN_le (mvN ns i (lee w i) 1) k
      rw [mvN_sum ns i (lee w i) 1 (by omega) (by have := lee_lt w i; omega) p2] at g
      refine nI_le (a := 1) ?_ (by omega)
      have hk : gN (ns.set i (gN ns i - 1)) k = gN ns k := by
        unfold gN
        rw [List.getD_eq_getElem?_getD, List.getElem?_set_ne (by omega), ← List.getD_eq_getElem?_getD]
      unfold mvN
      by_cases q : lee w i = k
      · rw [q]
        have : gN (List.set (ns.set i (gN ns i - 1)) k (gN (ns.set i (gN ns i - 1)) k + 1)) k = gN (ns.set i (gN ns i - 1)) k + 1 := by
          generalize gN (ns.set i (gN ns i - 1)) k + 1 = v
          unfold gN
          rw [List.getD_eq_getElem?_getD, List.getElem?_set_self (by simp [l]; exact h3)]
          rfl
        omega
      · have : ∀ v, gN (List.set (ns.set i (gN ns i - 1)) (lee w i) v) k = gN (ns.set i (gN ns i - 1)) k := fun v => by
          unfold gN
          rw [List.getD_eq_getElem?_getD, List.getElem?_set_ne q, ← List.getD_eq_getElem?_getD]
        rw [this]
        omega
theorem okH.ng1 {hs : List Int32} (o : okH hs) (w : Bool) : ngM w (isC hs) 8 0 hs = ngt w hs ∧ okH (ngt w hs) := by
  refine ng_same w (isC hs) 8 0 hs (Nat.le_refl _) o (fun k _ hk h => ?_)
  have h1 : shp hs k = 1 := of_decide_eq_true h
  have h2 : hx hs (dn k) < hx hs k := by
    unfold shp at h1
    split at h1
    · rename_i q; exact q.1
    · split at h1
      · exact absurd h1 (by decide)
      · exact absurd h1 (by decide)
  obtain ⟨ns, rfl, l, s⟩ := o
  rw [hx_map, hx_map] at h2
  rw [hx_map]
  have g1 := gN_le ns k
  have g2 := gN_le ns (dn k)
  have := (nI_ltI (by omega) (by omega)).mp h2
  exact nI_le (a := 1) (by omega) (by omega)
theorem fdg_all (cs : List Int32) : ∀ (j p : Nat), fdg cs j p = p + j → ∀ i, p ≤ i → i < p + j → 48 ≤ hx cs i ∧ hx cs i ≤ 57
  | 0, p, _, i, h1, h2 => absurd h2 (by omega)
  | j + 1, p, h, i, h1, h2 => by
    unfold fdg at h
    by_cases q : 48 ≤ hx cs p ∧ hx cs p ≤ 57
    · rw [if_pos q] at h
      by_cases e : i = p
      · subst e; exact q
      · exact fdg_all cs j (p + 1) (by omega) i (by omega) (by omega)
    · rw [if_neg q] at h
      omega
theorem dig_nI {x : Int32} (h1 : 48 ≤ x) (h2 : x ≤ 57) : ∃ k, k ≤ 9 ∧ x - 48 = nI k := by
  have h0 : ¬ x < 0 := fun z => absurd (Int32.lt_of_le_of_lt h1 z) (by decide)
  obtain ⟨j, hj, rfl⟩ := nI_of h0
  have p1 : 48 ≤ j := (nI_leI (a := 48) (by decide) hj).mp h1
  have p2 : j ≤ 57 := (nI_leI (b := 57) hj (by decide)).mp h2
  exact ⟨j - 48, by omega, pk_sub (b := 48) p1⟩
theorem okH_rdh {cs : List Int32} (h : fdg cs 8 0 = 8) : okH (rdh cs) := by
  have ha := fdg_all cs 8 0 (by omega)
  have hd : ∀ i, ∃ k, k ≤ 9 ∧ (i < 8 → hx cs i - 48 = nI k) := fun i => by
    by_cases q : i < 8
    · obtain ⟨k, h1, h2⟩ := dig_nI (ha i (Nat.zero_le _) (by omega)).1 (ha i (Nat.zero_le _) (by omega)).2
      exact ⟨k, h1, fun _ => h2⟩
    · exact ⟨0, by decide, fun z => absurd z q⟩
  refine ⟨(List.range 8).map (fun i => Classical.choose (hd i)), ?_, by simp, ?_⟩
  · rw [List.map_map]
    refine List.map_congr_left (fun i hi => ?_)
    exact (Classical.choose_spec (hd i)).2 (List.mem_range.mp hi)
  · have h0 := fun i => (Classical.choose_spec (hd i)).1
    have e : List.range 8 = [0, 1, 2, 3, 4, 5, 6, 7] := by decide
    rw [e]
    simp only [List.map_cons, List.map_nil, List.sum_cons, List.sum_nil]
    have := h0 0; have := h0 1; have := h0 2; have := h0 3; have := h0 4; have := h0 5; have := h0 6; have := h0 7
    omega
theorem okH_0 : okH [0, 0, 0, 0, 0, 0, 0, 0] := ⟨[0, 0, 0, 0, 0, 0, 0, 0], rfl, rfl, by decide⟩
/-- what stays so as long as the law goes on -/
def iv (s : stT) : Prop := okH s.2.2.1.1 ∧ okH s.2.2.2.1.1
