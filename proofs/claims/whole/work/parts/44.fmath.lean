/-! FEET: what is to be found, and that the class finds it -/
/-- the first way of just n steps (back is 0, on 1) after which the goal is no higher -/
def fpt (w : Bool) (n g : Nat) (gh : Int32) : Nat → Nat → List Int32 → Option (List Nat)
  | 0, _, hs => if hx hs g ≤ gh then some [] else none
  | m + 1, pl, hs => match fpt w n g gh m (bes pl 0) (trd hs w (bes pl 0) n).2 with
    | some p => some (0 :: p)
    | none => match fpt w n g gh m (bes pl 1) (trd hs w (bes pl 1) n).2 with
      | some p => some (1 :: p)
      | none => none
/-- by the fewest steps, from i on, j of them tried -/
def fmn (w : Bool) (n g : Nat) (gh : Int32) (pl : Nat) (hs : List Int32) : Nat → Nat → Option (Nat × List Nat)
  | 0, _ => none
  | j + 1, i => match fpt w n g gh i pl hs with
    | some p => some (i, p)
    | none => fmn w n g gh pl hs j (i + 1)
def bitsI (pa : Int32) (s : Nat) : List Nat → Int32
  | [] => pa
  | b :: t => bitsI (pa ||| (nI b <<< (nI s &&& 31))) (s + 1) t
theorem fmn_some {w : Bool} {n g : Nat} {gh : Int32} {pl : Nat} {hs : List Int32} : ∀ {j i : Nat} {r : Nat × List Nat}, fmn w n g gh pl hs j i = some r → i ≤ r.1 ∧ r.1 < i + j ∧ fpt w n g gh r.1 pl hs = some r.2 ∧ ∀ k, i ≤ k → k < r.1 → fpt w n g gh k pl hs = none := by
  intro j
  induction j with
  | zero => intro i r h; cases h
  | succ j ih =>
    intro i r h
    unfold fmn at h
    split at h
    · next p hp =>
      cases h
      exact ⟨Nat.le_refl _, by omega, hp, fun k h1 h2 => absurd h2 (by omega)⟩
    · next hp =>
      obtain ⟨a, b, c, e⟩ := ih h
      refine ⟨by omega, by omega, c, fun k h1 h2 => ?_⟩
      by_cases q : k = i
      · subst q; exact hp
      · exact e k (by omega) h2
theorem fmn_none {w : Bool} {n g : Nat} {gh : Int32} {pl : Nat} {hs : List Int32} : ∀ {j i : Nat}, fmn w n g gh pl hs j i = none ↔ ∀ k, i ≤ k → k < i + j → fpt w n g gh k pl hs = none := by
  intro j
  induction j with
  | zero => intro i; exact ⟨fun _ k h1 h2 => absurd h2 (by omega), fun _ => rfl⟩
  | succ j ih =>
    intro i
    unfold fmn
    split
    · next p hp => exact ⟨fun h => (by cases h), fun h => (by rw [h i (Nat.le_refl _) (by omega)] at hp; cases hp)⟩
    · next hp =>
      rw [ih]
      refine ⟨fun h k h1 h2 => ?_, fun h k h1 h2 => h k (by omega) (by omega)⟩
      by_cases q : k = i
      · subst q; exact hp
      · exact h k (by omega) (by omega)
theorem fmn_of {w : Bool} {n g : Nat} {gh : Int32} {pl : Nat} {hs : List Int32} {j m : Nat} {p : List Nat} (hm : m < j) (h1 : fpt w n g gh m pl hs = some p) (h2 : ∀ k, k < m → fpt w n g gh k pl hs = none) : fmn w n g gh pl hs j 0 = some (m, p) := by
  cases h : fmn w n g gh pl hs j 0 with
  | none =>
    have := fmn_none.mp h m (Nat.zero_le _) (by omega)
    rw [this] at h1; cases h1
  | some r =>
    obtain ⟨a, b, c, e⟩ := fmn_some h
    have e1 : r.1 = m := by
      rcases Nat.lt_trichotomy r.1 m with q | q | q
      · rw [h2 _ q] at c; cases c
      · exact q
      · rw [e m (Nat.zero_le _) q] at h1; cases h1
    obtain ⟨r1, r2⟩ := r
    dsimp only at e1 c
    subst e1
    rw [c] at h1
    rw [Option.some.inj h1]
/-- the class's search from a place: with as many steps as are left it finds just that -/
def ftx (s : Nat) (pa : Int32) (st : ft3) : Option (Nat × List Nat) → ft3
  | none => st
  | some r => (nI (s + r.1) - 1, nI (s + r.1), bitsI pa s r.2)
theorem nI_m1 (a : Nat) (ha : a ≤ 20) : (nI a - 1).toInt = (a : Int) - 1 := by
  have : (1 : Int32) = nI 1 := rfl
  rw [this]
  exact pk_sub_toInt (by omega) (by omega)
theorem ftr_ok (w : Bool) (n g : Nat) (gh : Int32) : ∀ (f pl s : Nat) (pa : Int32) (hs : List Int32) (st : ft3) (N : Nat), s + f = 9 → st.1.toInt + 1 = (s : Int) + N → N ≤ f → ftr w n g gh f pl s pa hs st = ftx s pa st (fmn w n g gh pl hs N 0) := by
  intro f
  induction f with
  | zero =>
    intro pl s pa hs st N h1 h2 h3
    have : N = 0 := by omega
    subst this
    rfl
  | succ f ih =>
    intro pl s pa hs st N h1 h2 h3
    unfold ftr
    have hs20 : s ≤ 9 := by omega
    have hlt : st.1 < nI s ↔ N = 0 := by
      rw [Int32.lt_iff_toInt_lt, nI_toInt (by omega)]; omega
    by_cases q0 : N = 0
    · subst q0
      rw [if_pos (hlt.mpr rfl)]
      rfl
    · rw [if_neg (fun z => q0 (hlt.mp z))]
      by_cases q1 : hx hs g ≤ gh
      · rw [if_pos q1]
        have : fmn w n g gh pl hs N 0 = some (0, []) := fmn_of (by omega) (by unfold fpt; rw [if_pos q1]) (fun k hk => absurd hk (by omega))
        rw [this]
        rfl
      · rw [if_neg q1]
        have hp0 : fpt w n g gh 0 pl hs = none := by unfold fpt; rw [if_neg q1]
        -- both ways, one behind the other
        have hstep : ∀ (wy : Nat) (st : ft3) (M : Nat), wy < 2 → st.1.toInt + 1 = (s : Int) + 1 + M → M ≤ f → (if nI s < st.1 ∧ s < 8 then ftr w n g gh f (bes pl (nI wy)) (s + 1) (pa ||| (nI wy <<< (nI s &&& 31))) (trd hs w (bes pl (nI wy)) n).2 st else st) = ftx (s + 1) (pa ||| (nI wy <<< (nI s &&& 31))) st (fmn w n g gh (bes pl (nI wy)) (trd hs w (bes pl (nI wy)) n).2 M 0) := by
          intro wy st M hw hM hMf
          by_cases c : nI s < st.1 ∧ s < 8
          · rw [if_pos c]
            exact ih _ _ _ _ st M (by omega) (by push_cast; omega) hMf
          · rw [if_neg c]
            have : M = 0 := by
              apply Classical.byContradiction
              intro hM0
              apply c
              rw [Int32.lt_iff_toInt_lt, nI_toInt (by omega)]
              omega
            subst this
            rfl
        obtain ⟨M, rfl⟩ : ∃ M, N = M + 1 := ⟨N - 1, by omega⟩
        simp only [ftw]
        rw [hstep 0 st M (by decide) (by push_cast at h2; omega) (by omega)]
        have e0 : nI 0 = 0 := rfl
        have e1 : nI 1 = 1 := rfl
        cases r0 : fmn w n g gh (bes pl (nI 0)) (trd hs w (bes pl (nI 0)) n).2 M 0 with
        | none =>
          simp only [ftx, Nat.zero_add]
          rw [hstep 1 st M (by decide) (by push_cast at h2; omega) (by omega)]
          have n0 := fmn_none.mp r0
          cases r1 : fmn w n g gh (bes pl (nI 1)) (trd hs w (bes pl (nI 1)) n).2 M 0 with
          | none =>
            have n1 := fmn_none.mp r1
            have : fmn w n g gh pl hs (M + 1) 0 = none := fmn_none.mpr (fun k h1 h2 => by
              cases k with
              | zero => exact hp0
              | succ k =>
                have a0 := n0 k (by omega) (by omega)
                have a1 := n1 k (by omega) (by omega)
                unfold fpt
                rw [e0] at a0; rw [e1] at a1
                rw [a0, a1])
            rw [this]
            rfl
          | some r =>
            obtain ⟨b1, b2, b3, b4⟩ := fmn_some r1
            have : fmn w n g gh pl hs (M + 1) 0 = some (r.1 + 1, 1 :: r.2) := fmn_of (by omega) (by
              have a0 := n0 r.1 (by omega) (by omega)
              unfold fpt
              rw [e0] at a0; rw [e1] at b3
              rw [a0, b3]) (fun k hk => by
              cases k with
              | zero => exact hp0
              | succ k =>
                have a0 := n0 k (by omega) (by omega)
                have a1 := b4 k (by omega) (by omega)
                unfold fpt
                rw [e0] at a0; rw [e1] at a1
                rw [a0, a1])
            rw [this]
            simp only [ftx, bitsI]
            rw [show s + (r.1 + 1) = s + 1 + r.1 by omega]
        | some r =>
          obtain ⟨c1, c2, c3, c4⟩ := fmn_some r0
          simp only [ftx, Nat.zero_add]
          have hz := nI_m1 (s + 1 + r.1) (by omega)
          have hh := hstep 1 (nI (s + 1 + r.1) - 1, nI (s + 1 + r.1), bitsI (pa ||| nI 0 <<< (nI s &&& 31)) (s + 1) r.2) r.1 (by decide) (by rw [hz]; push_cast; omega) (by omega)
          dsimp only at hh
          rw [hh]
          cases r1 : fmn w n g gh (bes pl (nI 1)) (trd hs w (bes pl (nI 1)) n).2 r.1 0 with
          | none =>
            have n1 := fmn_none.mp r1
            have : fmn w n g gh pl hs (M + 1) 0 = some (r.1 + 1, 0 :: r.2) := fmn_of (by omega) (by
              unfold fpt
              rw [e0] at c3
              rw [c3]) (fun k hk => by
              cases k with
              | zero => exact hp0
              | succ k =>
                have a0 := c4 k (by omega) (by omega)
                have a1 := n1 k (by omega) (by omega)
                unfold fpt
                rw [e0] at a0; rw [e1] at a1
                rw [a0, a1])
            rw [this]
            simp only [ftx, bitsI]
            rw [show s + (r.1 + 1) = s + 1 + r.1 by omega]
          | some r' =>
            obtain ⟨b1, b2, b3, b4⟩ := fmn_some r1
            have : fmn w n g gh pl hs (M + 1) 0 = some (r'.1 + 1, 1 :: r'.2) := fmn_of (by omega) (by
              have a0 := c4 r'.1 (by omega) (by omega)
              unfold fpt
              rw [e0] at a0; rw [e1] at b3
              rw [a0, b3]) (fun k hk => by
              cases k with
              | zero => exact hp0
              | succ k =>
                have a0 := c4 k (by omega) (by omega)
                have a1 := b4 k (by omega) (by omega)
                unfold fpt
                rw [e0] at a0; rw [e1] at a1
                rw [a0, a1])
            rw [this]
            simp only [ftx, bitsI]
            rw [show s + (r'.1 + 1) = s + 1 + r'.1 by omega]
/-- FEET: fewest and bits -/
def feetS (A : landT) (i g : Nat) (gh what : Int32) : Int32 := match fmn A.2.1 (A.2.2.1 i).1 g gh (A.2.2.1 i).2.1 A.1 9 0 with
  | none => -1
  | some r => if what = 0 then nI r.1 else bitsI 0 0 r.2
theorem ftS_ok (A : landT) (i g : Nat) (gh what : Int32) : feetS A i g gh what = if what = 0 then (ftS A.2.1 (A.2.2.1 i).1 g gh (A.2.2.1 i).2.1 A.1).2.1 else (ftS A.2.1 (A.2.2.1 i).1 g gh (A.2.2.1 i).2.1 A.1).2.2 := by
  unfold feetS ftS
  rw [ftr_ok A.2.1 (A.2.2.1 i).1 g gh 9 (A.2.2.1 i).2.1 0 0 A.1 (8, -1, -1) 9 rfl rfl (Nat.le_refl _)]
  cases fmn A.2.1 (A.2.2.1 i).1 g gh (A.2.2.1 i).2.1 A.1 9 0 with
  | none => simp [ftx]
  | some r => simp [ftx]
/-! WHO: what is to be found, and that the class finds it -/
def isW (w : Bool) (bef now : List Int32) (c : Nat) : Bool := decide ((gos w (nI (c / 8 % 2)) (c / 128) (c % 8 + 1) (c / 16 % 8) bef).2 = now)
def wup (c : Nat) (b : Bool) (fl : Int32 × Int32) : Int32 × Int32 := if b then (fl.1 + 1, if fl.2 = -1 then nI c else fl.2) else fl
def whoF (w : Bool) (bef now : List Int32) (l : List Nat) (fl : Int32 × Int32) : Int32 × Int32 := l.foldl (fun fl c => wup c (isW w bef now c) fl) fl
theorem gos_app (w : Bool) (way : Int32) (n : Nat) : ∀ (a b c : Nat) (hs : List Int32), gos w way n (a + b) c hs = gos w way n b (gos w way n a c hs).1 (gos w way n a c hs).2
  | 0, b, c, hs => by simp [gos]
  | a + 1, b, c, hs => by
    rw [show a + 1 + b = (a + b) + 1 by omega]
    exact gos_app w way n a b (bes c way) (trd hs w (bes c way) n).2
theorem gos_snoc (w : Bool) (way : Int32) (n a c : Nat) (hs : List Int32) : gos w way n (a + 1) c hs = (bes (gos w way n a c hs).1 way, (trd (gos w way n a c hs).2 w (bes (gos w way n a c hs).1 way) n).2) := by
  rw [gos_app w way n a 1]
  rfl
theorem tws_ok (w : Bool) (bef now : List Int32) (v : Nat) : ∀ (j s : Nat) (fl : Int32 × Int32), s + j = 8 → (tws w now v j s (gos w (nI (v % 2)) (v / 16) s (v / 2 % 8) bef).1 (gos w (nI (v % 2)) (v / 16) s (v / 2 % 8) bef).2 fl).2 = whoF w bef now (List.range' (v * 8 + s) j) fl := by
  intro j
  induction j with
  | zero => intro s fl _; rfl
  | succ j ih =>
    intro s fl hs
    have e := ih (s + 1) (if (trd (gos w (nI (v % 2)) (v / 16) s (v / 2 % 8) bef).2 w (bes (gos w (nI (v % 2)) (v / 16) s (v / 2 % 8) bef).1 (nI (v % 2))) (v / 16)).2 = now then dk1 v s fl else fl) (by omega)
    rw [gos_snoc] at e
    unfold tws
    dsimp only at e ⊢
    rw [e, List.range'_succ]
    unfold whoF
    rw [List.foldl_cons]
    have h1 : (v * 8 + s) / 8 = v := by omega
    have h2 : (v * 8 + s) % 8 = s := by omega
    have h3 : (v * 8 + s) / 128 = v / 16 := by omega
    have h4 : (v * 8 + s) / 16 % 8 = v / 2 % 8 := by omega
    have hw : wup (v * 8 + s) (isW w bef now (v * 8 + s)) fl = (if (trd (gos w (nI (v % 2)) (v / 16) s (v / 2 % 8) bef).2 w (bes (gos w (nI (v % 2)) (v / 16) s (v / 2 % 8) bef).1 (nI (v % 2))) (v / 16)).2 = now then dk1 v s fl else fl) := by
      unfold wup isW
      rw [h1, h2, h3, h4, gos_snoc]
      by_cases q : (trd (gos w (nI (v % 2)) (v / 16) s (v / 2 % 8) bef).2 w (bes (gos w (nI (v % 2)) (v / 16) s (v / 2 % 8) bef).1 (nI (v % 2))) (v / 16)).2 = now
      · simp [q, dk1]
      · simp [q]
    rw [hw, show v * 8 + s + 1 = v * 8 + (s + 1) by omega]
theorem tss_ok (w : Bool) (bef now : List Int32) : ∀ (j v : Nat) (fl : Int32 × Int32), tss w bef now j v fl = whoF w bef now (List.range' (v * 8) (j * 8)) fl := by
  intro j
  induction j with
  | zero => intro v fl; simp [tss, whoF]
  | succ j ih =>
    intro v fl
    unfold tss
    rw [ih (v + 1)]
    have := tws_ok w bef now v 8 0 fl rfl
    unfold twk
    simp only [gos, Nat.add_zero] at this
    rw [this]
    unfold whoF
    rw [← List.foldl_append, show (j + 1) * 8 = 8 + j * 8 by omega, ← List.range'_append_1, show (v + 1) * 8 = v * 8 + 8 by omega]
def whoS (w : Bool) (bef now : List Int32) : Int32 × Int32 := whoF w bef now (List.range' 0 640) (0, -1)
theorem tss_who (w : Bool) (bef now : List Int32) : tss w bef now 80 0 (0, -1) = whoS w bef now := tss_ok w bef now 80 0 (0, -1)
