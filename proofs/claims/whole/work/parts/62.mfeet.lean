/-! FEET as the reference finds it -/
/-- the last m bits of a code, the highest first -/
def bts : Nat → Nat → List Nat
  | 0, _ => []
  | m + 1, code => code / 2 ^ m % 2 :: bts m code
def wkb (w : Bool) (n : Nat) : List Nat → Nat → List Int32 → Nat × List Int32
  | [], c, hs => (c, hs)
  | b :: t, c, hs => wkb w n t (bes c (nI b)) (trd hs w (bes c (nI b)) n).2
theorem wkb_len (w : Bool) (n : Nat) : ∀ (l : List Nat) (c : Nat) (hs : List Int32), (wkb w n l c hs).2.length = hs.length
  | [], _, _ => rfl
  | b :: t, c, hs => by unfold wkb; rw [wkb_len, trd_len]
def fcd (P : Nat → Bool) : Nat → Nat → Option Nat
  | 0, _ => none
  | j + 1, c => if P c then some c else fcd P j (c + 1)
theorem fcd_app (P : Nat → Bool) : ∀ (a b c : Nat), fcd P (a + b) c = (fcd P a c).or (fcd P b (c + a))
  | 0, b, c => by simp [fcd]
  | a + 1, b, c => by
    rw [show a + 1 + b = (a + b) + 1 by omega]
    show (if P c then some c else fcd P (a + b) (c + 1)) = (if P c then some c else fcd P a (c + 1)).or (fcd P b (c + (a + 1)))
    by_cases q : P c = true
    · simp [q]
    · simp only [q, if_false]
      rw [fcd_app P a b (c + 1), show c + 1 + a = c + (a + 1) by omega]
      rfl
theorem fcd_map (P Q : Nat → Bool) (s : Nat) (f g : Nat → List Nat) : ∀ (j c M : Nat), c + j ≤ M → (∀ x, x < M → P (x + s) = Q x) → (∀ x, x < M → f (x + s) = g x) → (fcd P j (c + s)).map f = (fcd Q j c).map g
  | 0, c, M, _, _, _ => rfl
  | j + 1, c, M, h, h1, h2 => by
    show (if P (c + s) then some (c + s) else fcd P j (c + s + 1)).map f = (if Q c then some c else fcd Q j (c + 1)).map g
    rw [h1 c (by omega)]
    cases Q c with
    | true => simp [h2 c (by omega)]
    | false =>
      have := fcd_map P Q s f g j (c + 1) M (by omega) h1 h2
      rw [show c + 1 + s = c + s + 1 by omega] at this
      exact this
theorem bts_add : ∀ (m k c : Nat), m ≤ k → bts m (c + 2 ^ k) = bts m c
  | 0, _, _, _ => rfl
  | m + 1, k, c, h => by
    unfold bts
    rw [bts_add m k c (by omega)]
    obtain ⟨e, rfl⟩ : ∃ e, k = m + (e + 1) := ⟨k - m - 1, by omega⟩
    have : (c + 2 ^ (m + (e + 1))) / 2 ^ m = c / 2 ^ m + 2 * 2 ^ e := by
      rw [show 2 ^ (m + (e + 1)) = (2 * 2 ^ e) * 2 ^ m by rw [Nat.pow_add, Nat.pow_succ]; rw [Nat.mul_comm (2 ^ m), Nat.mul_comm 2]]
      rw [Nat.add_mul_div_right _ _ (Nat.two_pow_pos m)]
    rw [this]
    have : (c / 2 ^ m + 2 * 2 ^ e) % 2 = c / 2 ^ m % 2 := by omega
    rw [this]
def fP (w : Bool) (n g : Nat) (gh : Int32) (pl : Nat) (hs : List Int32) (m : Nat) (c : Nat) : Bool := decide (hx (wkb w n (bts m c) pl hs).2 g ≤ gh)
theorem fpt_fcd (w : Bool) (n g : Nat) (gh : Int32) : ∀ (m pl : Nat) (hs : List Int32), fpt w n g gh m pl hs = (fcd (fP w n g gh pl hs m) (2 ^ m) 0).map (bts m)
  | 0, pl, hs => by
    show (if hx hs g ≤ gh then some [] else none) = _
    by_cases q : hx hs g ≤ gh <;> simp [fcd, fP, bts, wkb, q]
  | m + 1, pl, hs => by
    unfold fpt
    rw [fpt_fcd w n g gh m (bes pl 0), fpt_fcd w n g gh m (bes pl 1)]
    rw [show 2 ^ (m + 1) = 2 ^ m + 2 ^ m by rw [Nat.pow_succ]; omega, fcd_app]
    have b0 : ∀ x, x < 2 ^ m → bts (m + 1) (x + 0) = 0 :: bts m x := fun x hx => by
      show x / 2 ^ m % 2 :: bts m x = _
      rw [Nat.div_eq_of_lt hx]
    have b1 : ∀ x, x < 2 ^ m → bts (m + 1) (x + 2 ^ m) = 1 :: bts m x := fun x hx => by
      show (x + 2 ^ m) / 2 ^ m % 2 :: bts m (x + 2 ^ m) = _
      rw [bts_add m m x (Nat.le_refl _), Nat.add_div_right _ (Nat.two_pow_pos m), Nat.div_eq_of_lt hx]
    have e0 := fcd_map (fP w n g gh pl hs (m + 1)) (fP w n g gh (bes pl 0) (trd hs w (bes pl 0) n).2 m) 0 (bts (m + 1)) (fun x => 0 :: bts m x) (2 ^ m) 0 (2 ^ m) (by omega) (fun x hx => by
      unfold fP
      rw [b0 x hx]
      rfl) b0
    have e1 := fcd_map (fP w n g gh pl hs (m + 1)) (fP w n g gh (bes pl 1) (trd hs w (bes pl 1) n).2 m) (2 ^ m) (bts (m + 1)) (fun x => 1 :: bts m x) (2 ^ m) 0 (2 ^ m) (by omega) (fun x hx => by
      unfold fP
      rw [b1 x hx]
      rfl) b1
    rw [Nat.add_zero] at e0
    cases f0 : fcd (fP w n g gh (bes pl 0) (trd hs w (bes pl 0) n).2 m) (2 ^ m) 0 with
    | some x =>
      rw [f0] at e0
      cases g0 : fcd (fP w n g gh pl hs (m + 1)) (2 ^ m) 0 with
      | some y =>
        rw [g0] at e0
        simpa using e0.symm
      | none => rw [g0] at e0; cases e0
    | none =>
      rw [f0] at e0
      cases g0 : fcd (fP w n g gh pl hs (m + 1)) (2 ^ m) 0 with
      | some y => rw [g0] at e0; cases e0
      | none =>
        simp only [Option.map_none, Option.or, Option.none_or]
        rw [e1]
        cases fcd (fP w n g gh (bes pl 1) (trd hs w (bes pl 1) n).2 m) (2 ^ m) 0 with
        | some x => rfl
        | none => rfl
theorem shm9 : ∀ j, j < 9 → ((nI j &&& 31).toBitVec.smod 32).toNat = j := by decide
theorem bit_at {code j : Nat} (hc : code < 512) (hj : j < 9) : (nI code >>> (nI j &&& 31)) &&& 1 = nI (code / 2 ^ j % 2) := by
  rw [pk_shrN (by omega) _ j (shm9 j hj), pk_andN (by have : code / 2 ^ j ≤ code := Nat.div_le_self _ _; omega) 1 rfl]
theorem shl9 : ∀ m, m < 9 → (1 : Int32) <<< (nI m &&& 31) = nI (2 ^ m) := by decide
def ftv (what : Int32) : Option (Nat × List Nat) → Int32
  | none => -1
  | some r => if what = 0 then nI r.1 else bitsI 0 0 r.2
section M62
variable {h : pH} {n : Nat} {hd w : Bool} {nt : Int32} {tr : Nat} {hb : Bool} {cnt : Nat} {wm sn kd : Int32} {kw : Bool} {kn : Int32} {kc : Nat} {hh : Int64} {cs hs bf rs ms th wh od bo khs krs kms : List Int32}
theorem lo_highBy (d i g m code : Nat) {ws : Nat → wkr} (b1 : Rw rs ws) (hi : i < 4) (hp : wok (ws i)) (hg : g < 8) (hc : code < 512) : ∀ (j c : Nat) (th : List Int32) (h : pH) (v7 : Option Value), j < 9 → c < 8 → th.length = 8 → Mh h (mcs (mO n hd w nt tr hb cnt wm sn kd kw kn kc hh) cs hs bf rs ms th wh od bo khs krs kms) → X 127 (d + 2) (some (.int (hx (wkb w (ws i).1 (bts j code) c th).2 g))) (h.set 72 (.inl (wkb w (ws i).1 (bts j code) c th).2)) 28 [some (.ref 66), some (.int (nI i)), some (.int (nI g)), some (.int (nI m)), some (.int (nI code)), some (.int (nI c)), some (.int (nI j - 1)), v7] [] h := by
  intro j
  induction j with
  | zero =>
    intro c th h v7 hj hc8 t1 a
    have g0 := a.g0
    dsimp only [mO] at g0
    have e : nI 0 - 1 < 0 := by decide
    unfold bts wkb
    rw [set_same a.g6]
    rw [r127_28]; simp only [r127_0, r127_1, r127_4, r127_5, r127_8, r127_11, r127_12, r127_15, r127_16, r127_17, r127_18, r127_19, r127_20, r127_21, r127_23, r127_24, r127_25, r127_26, r127_30, r127_33, r127_35, r127_37, r127_39, r127_40, r127_41, r127_42, r127_45, r127_47, r127_48, r127_49, r127_52, r127_54, r127_55, r127_58, r127_59, r127_60, r127_61, r127_62, r127_65, r127_67, r127_70, r127_73, r127_74, r127_77, r127_78, r127_79, List.length_cons, List.length_nil, Nat.reduceAdd, Nat.reduceLT, if_true, l10, l01, l20, l21, l02, l12, List.append_nil, List.getElem?_cons_zero, List.getElem?_cons_succ, List.set_cons_zero, List.set_cons_succ, not_false_eq_true, not_true_eq_false, false_implies, true_implies, forall_const, Classical.not_not, rc0_at, rcI_at, sOK0, sOK1, sOK2, sOK3, sOK4, true_and, and_true, kil, Option.toList_some, Option.toList_none, List.nil_append, List.cons_append, Option.some.injEq, exists_eq_left', Value.int.injEq, Value.ref.injEq, Value.long.injEq, e, gf_at g0, ild8 a.g6 t1 hg]
  | succ j ih =>
    intro c th h v7 hj hc8 t1 a
    have g0 := a.g0
    dsimp only [mO] at g0
    have e1 : nI (j + 1) - 1 = nI j := nI_pred j
    have e2 : nI j + -1 = nI j - 1 := by rw [Int32.sub_eq_add_neg]
    have e3 : ¬ nI j < 0 := nI_pos (by omega)
    have hb := bes_lt c (nI (code / 2 ^ j % 2))
    have a1 := a.s6 (trd th w (bes c (nI (code / 2 ^ j % 2))) (ws i).1).2
    have ih2 := ih (bes c (nI (code / 2 ^ j % 2))) (trd th w (bes c (nI (code / 2 ^ j % 2))) (ws i).1).2 _ (some (.int (trd th w (bes c (nI (code / 2 ^ j % 2))) (ws i).1).1)) (by omega) hb (by rw [trd_len]; exact t1) a1
    rw [List.set_set] at ih2
    unfold bts wkb
    rw [e1]
    rw [r127_28]; simp only [r127_0, r127_1, r127_4, r127_5, r127_8, r127_11, r127_12, r127_15, r127_16, r127_17, r127_18, r127_19, r127_20, r127_21, r127_23, r127_24, r127_25, r127_26, r127_30, r127_33, r127_35, r127_37, r127_39, r127_40, r127_41, r127_42, r127_45, r127_47, r127_48, r127_49, r127_52, r127_54, r127_55, r127_58, r127_59, r127_60, r127_61, r127_62, r127_65, r127_67, r127_70, r127_73, r127_74, r127_77, r127_78, r127_79, List.length_cons, List.length_nil, Nat.reduceAdd, Nat.reduceLT, if_true, l10, l01, l20, l21, l02, l12, List.append_nil, List.getElem?_cons_zero, List.getElem?_cons_succ, List.set_cons_zero, List.set_cons_succ, not_false_eq_true, not_true_eq_false, false_implies, true_implies, forall_const, Classical.not_not, rc0_at, rcI_at, sOK0, sOK1, sOK2, sOK3, sOK4, true_and, and_true, kil, Option.toList_some, Option.toList_none, List.nil_append, List.cons_append, Option.some.injEq, exists_eq_left', Value.int.injEq, Value.ref.injEq, Value.long.injEq, e3, bit_at hc (show j < 9 by omega)]
    refine ⟨_, _, c_stepTo (d + 1) h hc8 _, ?_⟩
    simp only [r127_0, r127_1, r127_4, r127_5, r127_8, r127_11, r127_12, r127_15, r127_16, r127_17, r127_18, r127_19, r127_20, r127_21, r127_23, r127_24, r127_25, r127_26, r127_30, r127_33, r127_35, r127_37, r127_39, r127_40, r127_41, r127_42, r127_45, r127_47, r127_48, r127_49, r127_52, r127_54, r127_55, r127_58, r127_59, r127_60, r127_61, r127_62, r127_65, r127_67, r127_70, r127_73, r127_74, r127_77, r127_78, r127_79, List.length_cons, List.length_nil, Nat.reduceAdd, Nat.reduceLT, if_true, l10, l01, l20, l21, l02, l12, List.append_nil, List.getElem?_cons_zero, List.getElem?_cons_succ, List.set_cons_zero, List.set_cons_succ, not_false_eq_true, not_true_eq_false, false_implies, true_implies, forall_const, Classical.not_not, rc0_at, rcI_at, sOK0, sOK1, sOK2, sOK3, sOK4, true_and, and_true, kil, Option.toList_some, Option.toList_none, List.nil_append, List.cons_append, Option.some.injEq, exists_eq_left', Value.int.injEq, Value.ref.injEq, Value.long.injEq, gf_at g0, n3k i hi, ildR0 a b1.1 hi, (b1.2 i hi).1, rcV_at g0]
    refine ⟨_, _, c_treads d (show (72 : Nat) ≠ 66 by decide) a.g0 (w := w) rfl t1 a.g6 hb hp.1, ?_⟩
    simp only [r127_0, r127_1, r127_4, r127_5, r127_8, r127_11, r127_12, r127_15, r127_16, r127_17, r127_18, r127_19, r127_20, r127_21, r127_23, r127_24, r127_25, r127_26, r127_30, r127_33, r127_35, r127_37, r127_39, r127_40, r127_41, r127_42, r127_45, r127_47, r127_48, r127_49, r127_52, r127_54, r127_55, r127_58, r127_59, r127_60, r127_61, r127_62, r127_65, r127_67, r127_70, r127_73, r127_74, r127_77, r127_78, r127_79, List.length_cons, List.length_nil, Nat.reduceAdd, Nat.reduceLT, if_true, l10, l01, l20, l21, l02, l12, List.append_nil, List.getElem?_cons_zero, List.getElem?_cons_succ, List.set_cons_zero, List.set_cons_succ, not_false_eq_true, not_true_eq_false, false_implies, true_implies, forall_const, Classical.not_not, rc0_at, rcI_at, sOK0, sOK1, sOK2, sOK3, sOK4, true_and, and_true, kil, Option.toList_some, Option.toList_none, List.nil_append, List.cons_append, Option.some.injEq, exists_eq_left', Value.int.injEq, Value.ref.injEq, Value.long.injEq, e2]
    exact ih2
theorem c_highBy (d i g m code : Nat) {ws : Nat → wkr} (a : Mh h (mcs (mO n hd w nt tr hb cnt wm sn kd kw kn kc hh) cs hs bf rs ms th wh od bo khs krs kms)) (b1 : Rw rs ws) (l3 : hs.length = 8) (t1 : th.length = 8) (hi : i < 4) (hp : wok (ws i)) (hg : g < 8) (hc : code < 512) (hm : m < 9) : Cl (d + 3) 127 [.ref 66, .int (nI i), .int (nI g), .int (nI m), .int (nI code)] h (some (.int (hx (wkb w (ws i).1 (bts m code) (ws i).2.1 hs).2 g))) (h.set 72 (.inl (wkb w (ws i).1 (bts m code) (ws i).2.1 hs).2)) := by
  have g0 := a.g0
  dsimp only [mO] at g0
  refine Cl_o 8 rfl [some (.ref 66), some (.int (nI i)), some (.int (nI g)), some (.int (nI m)), some (.int (nI code)), none, none, none] rfl rfl ?_
  have a1 := a.s6 hs
  have k1 := a1.g0
  dsimp only [mO] at k1
  simp only [r127_0, r127_1, r127_4, r127_5, r127_8, r127_11, r127_12, r127_15, r127_16, r127_17, r127_18, r127_19, r127_20, r127_21, r127_23, r127_24, r127_25, r127_26, r127_30, r127_33, r127_35, r127_37, r127_39, r127_40, r127_41, r127_42, r127_45, r127_47, r127_48, r127_49, r127_52, r127_54, r127_55, r127_58, r127_59, r127_60, r127_61, r127_62, r127_65, r127_67, r127_70, r127_73, r127_74, r127_77, r127_78, r127_79, List.length_cons, List.length_nil, Nat.reduceAdd, Nat.reduceLT, if_true, l10, l01, l20, l21, l02, l12, List.append_nil, List.getElem?_cons_zero, List.getElem?_cons_succ, List.set_cons_zero, List.set_cons_succ, not_false_eq_true, not_true_eq_false, false_implies, true_implies, forall_const, Classical.not_not, rc0_at, rcI_at, sOK0, sOK1, sOK2, sOK3, sOK4, true_and, and_true, kil, Option.toList_some, Option.toList_none, List.nil_append, List.cons_append, Option.some.injEq, exists_eq_left', Value.int.injEq, Value.ref.injEq, Value.long.injEq, gf_at g0]
  refine ⟨_, _, c_copy8 (d + 1) (show (68 : Nat) ≠ 72 by decide) (show hs.length < 2 ^ 31 by omega) (show th.length = hs.length by omega) a.g2 a.g6, ?_⟩
  simp only [r127_0, r127_1, r127_4, r127_5, r127_8, r127_11, r127_12, r127_15, r127_16, r127_17, r127_18, r127_19, r127_20, r127_21, r127_23, r127_24, r127_25, r127_26, r127_30, r127_33, r127_35, r127_37, r127_39, r127_40, r127_41, r127_42, r127_45, r127_47, r127_48, r127_49, r127_52, r127_54, r127_55, r127_58, r127_59, r127_60, r127_61, r127_62, r127_65, r127_67, r127_70, r127_73, r127_74, r127_77, r127_78, r127_79, List.length_cons, List.length_nil, Nat.reduceAdd, Nat.reduceLT, if_true, l10, l01, l20, l21, l02, l12, List.append_nil, List.getElem?_cons_zero, List.getElem?_cons_succ, List.set_cons_zero, List.set_cons_succ, not_false_eq_true, not_true_eq_false, false_implies, true_implies, forall_const, Classical.not_not, rc0_at, rcI_at, sOK0, sOK1, sOK2, sOK3, sOK4, true_and, and_true, kil, Option.toList_some, Option.toList_none, List.nil_append, List.cons_append, Option.some.injEq, exists_eq_left', Value.int.injEq, Value.ref.injEq, Value.long.injEq, gf_at k1, n3k i hi, nI_1, ildR a1 b1.1 hi (show 1 < 3 by decide), (b1.2 i hi).2.1]
  have := lo_highBy d i g m code b1 hi hp hg hc m (ws i).2.1 hs _ none hm hp.2.1 l3 a1
  rw [List.set_set] at this
  exact this
theorem lo_bits (d m code : Nat) (v1 v2 v3 : Option Value) (what : Int32) (hc : code < 512) (hm : m < 9) (h : pH) : ∀ (j i : Nat) (bits : Int32), i + j = m → X 128 d (some (.int (if what = 0 then nI m else bitsI bits i (bts j code)))) h 42 [some (.ref 66), v1, v2, v3, some (.int what), some (.int (nI m)), some (.int (nI code)), some (.int bits), some (.int (nI i))] [] h := by
  intro j
  induction j with
  | zero =>
    intro i bits hi
    have : i = m := by omega
    subst this
    unfold bts bitsI
    by_cases q : what = 0
    · rw [r128_42]; simp only [r128_0, r128_1, r128_5, r128_7, r128_10, r128_11, r128_15, r128_16, r128_18, r128_19, r128_22, r128_23, r128_24, r128_25, r128_27, r128_29, r128_32, r128_33, r128_36, r128_37, r128_39, r128_40, r128_44, r128_46, r128_49, r128_51, r128_53, r128_55, r128_56, r128_57, r128_59, r128_60, r128_61, r128_62, r128_63, r128_65, r128_66, r128_67, r128_69, r128_72, r128_75, r128_77, r128_80, r128_82, r128_85, r128_87, r128_88, r128_91, r128_94, r128_97, r128_100, r128_101, List.length_cons, List.length_nil, Nat.reduceAdd, Nat.reduceLT, if_true, l10, l01, l20, l21, l02, l12, List.append_nil, List.getElem?_cons_zero, List.getElem?_cons_succ, List.set_cons_zero, List.set_cons_succ, not_false_eq_true, not_true_eq_false, false_implies, true_implies, forall_const, Classical.not_not, rc0_at, rcI_at, sOK0, sOK1, sOK2, sOK3, sOK4, true_and, and_true, kil, Option.toList_some, Option.toList_none, List.nil_append, List.cons_append, Option.some.injEq, exists_eq_left', Value.int.injEq, Value.ref.injEq, Value.long.injEq, Int32.le_refl, q]
    · rw [r128_42]; simp only [r128_0, r128_1, r128_5, r128_7, r128_10, r128_11, r128_15, r128_16, r128_18, r128_19, r128_22, r128_23, r128_24, r128_25, r128_27, r128_29, r128_32, r128_33, r128_36, r128_37, r128_39, r128_40, r128_44, r128_46, r128_49, r128_51, r128_53, r128_55, r128_56, r128_57, r128_59, r128_60, r128_61, r128_62, r128_63, r128_65, r128_66, r128_67, r128_69, r128_72, r128_75, r128_77, r128_80, r128_82, r128_85, r128_87, r128_88, r128_91, r128_94, r128_97, r128_100, r128_101, List.length_cons, List.length_nil, Nat.reduceAdd, Nat.reduceLT, if_true, l10, l01, l20, l21, l02, l12, List.append_nil, List.getElem?_cons_zero, List.getElem?_cons_succ, List.set_cons_zero, List.set_cons_succ, not_false_eq_true, not_true_eq_false, false_implies, true_implies, forall_const, Classical.not_not, rc0_at, rcI_at, sOK0, sOK1, sOK2, sOK3, sOK4, true_and, and_true, kil, Option.toList_some, Option.toList_none, List.nil_append, List.cons_append, Option.some.injEq, exists_eq_left', Value.int.injEq, Value.ref.injEq, Value.long.injEq, Int32.le_refl, q, if_false]
  | succ j ih =>
    intro i bits hi
    have e : (nI m ≤ nI i) = False := eq_false (nI_ge (by omega) (by omega))
    have e1 : nI m - 1 - nI i = nI j := by
      rw [show (1 : Int32) = nI 1 from rfl, pk_sub (by omega), pk_sub (by omega)]
      congr 1
      omega
    have ih2 := ih (i + 1) (bits ||| (nI (code / 2 ^ j % 2) <<< (nI i &&& 31))) (by omega)
    unfold bts bitsI
    rw [r128_42]; simp only [r128_0, r128_1, r128_5, r128_7, r128_10, r128_11, r128_15, r128_16, r128_18, r128_19, r128_22, r128_23, r128_24, r128_25, r128_27, r128_29, r128_32, r128_33, r128_36, r128_37, r128_39, r128_40, r128_44, r128_46, r128_49, r128_51, r128_53, r128_55, r128_56, r128_57, r128_59, r128_60, r128_61, r128_62, r128_63, r128_65, r128_66, r128_67, r128_69, r128_72, r128_75, r128_77, r128_80, r128_82, r128_85, r128_87, r128_88, r128_91, r128_94, r128_97, r128_100, r128_101, List.length_cons, List.length_nil, Nat.reduceAdd, Nat.reduceLT, if_true, l10, l01, l20, l21, l02, l12, List.append_nil, List.getElem?_cons_zero, List.getElem?_cons_succ, List.set_cons_zero, List.set_cons_succ, not_false_eq_true, not_true_eq_false, false_implies, true_implies, forall_const, Classical.not_not, rc0_at, rcI_at, sOK0, sOK1, sOK2, sOK3, sOK4, true_and, and_true, kil, Option.toList_some, Option.toList_none, List.nil_append, List.cons_append, Option.some.injEq, exists_eq_left', Value.int.injEq, Value.ref.injEq, Value.long.injEq, e, e1, bit_at hc (show j < 9 by omega), nI_1]
    exact ih2
theorem lo_feetC (d i g m : Nat) (gh what r0 : Int32) {ws : Nat → wkr} (b1 : Rw rs ws) (l3 : hs.length = 8) (hi : i < 4) (hp : wok (ws i)) (hg : g < 8) (hm : m < 9)
    (K : ∀ (th : List Int32) (h : pH), th.length = 8 → Mh h (mcs (mO n hd w nt tr hb cnt wm sn kd kw kn kc hh) cs hs bf rs ms th wh od bo khs krs kms) → ∃ th', th'.length = 8 ∧ ∀ v6 v7 v8, X 128 (d + 3) (some (.int r0)) (h.set 72 (.inl th')) 94 [some (.ref 66), some (.int (nI i)), some (.int (nI g)), some (.int gh), some (.int what), some (.int (nI m)), v6, v7, v8] [] h) : ∀ (j c : Nat) (th : List Int32) (h : pH), c + j = 2 ^ m → th.length = 8 → Mh h (mcs (mO n hd w nt tr hb cnt wm sn kd kw kn kc hh) cs hs bf rs ms th wh od bo khs krs kms) → ∃ th', th'.length = 8 ∧ ∀ v7 v8, X 128 (d + 3) (some (.int ((fcd (fP w (ws i).1 g gh (ws i).2.1 hs m) j c).elim r0 (fun c => ftv what (some (m, bts m c)))))) (h.set 72 (.inl th')) 13 [some (.ref 66), some (.int (nI i)), some (.int (nI g)), some (.int gh), some (.int what), some (.int (nI m)), some (.int (nI c)), v7, v8] [] h := by
  have h512 : 2 ^ m ≤ 256 := by
    have : 2 ^ m ≤ 2 ^ 8 := Nat.pow_le_pow_right (by decide) (by omega)
    omega
  intro j
  induction j with
  | zero =>
    intro c th h hc t1 a
    have : c = 2 ^ m := by omega
    subst this
    obtain ⟨th', x1, x2⟩ := K th h t1 a
    refine ⟨th', x1, fun v7 v8 => ?_⟩
    rw [r128_13]
    simp only [r128_15, r128_16, r128_18, r128_19, List.length_cons, List.length_nil, Nat.reduceAdd, Nat.reduceLT, if_true, l10, l01, l20, l21, l02, l12, List.append_nil, List.getElem?_cons_zero, List.getElem?_cons_succ, List.set_cons_zero, List.set_cons_succ, not_false_eq_true, not_true_eq_false, false_implies, true_implies, forall_const, Classical.not_not, rc0_at, rcI_at, sOK0, sOK1, sOK2, sOK3, sOK4, true_and, and_true, kil, Option.toList_some, Option.toList_none, List.nil_append, List.cons_append, Option.some.injEq, exists_eq_left', Value.int.injEq, Value.ref.injEq, Value.long.injEq, shl9 m hm, Int32.le_refl, fcd, Option.elim]
    exact x2 _ _ _
  | succ j ih =>
    intro c th h hc t1 a
    have g0 := a.g0
    dsimp only [mO] at g0
    have e : (nI (2 ^ m) ≤ nI c) = False := eq_false (nI_ge (by omega) (by omega))
    have ch := c_highBy d i g m c a b1 l3 t1 hi hp hg (show c < 512 by omega) hm
    have lw : (wkb w (ws i).1 (bts m c) (ws i).2.1 hs).2.length = 8 := by rw [wkb_len]; exact l3
    have a1 := a.s6 (wkb w (ws i).1 (bts m c) (ws i).2.1 hs).2
    unfold fcd
    by_cases q : hx (wkb w (ws i).1 (bts m c) (ws i).2.1 hs).2 g ≤ gh
    · have q1 : fP w (ws i).1 g gh (ws i).2.1 hs m c = true := decide_eq_true q
      have q2 : ¬ gh < hx (wkb w (ws i).1 (bts m c) (ws i).2.1 hs).2 g := Int32.not_lt.mpr q
      rw [q1]
      refine ⟨_, lw, fun v7 v8 => ?_⟩
      rw [r128_13]
      simp only [r128_15, r128_16, r128_18, r128_19, r128_22, r128_23, r128_24, r128_25, r128_27, r128_29, List.length_cons, List.length_nil, Nat.reduceAdd, Nat.reduceLT, if_true, l10, l01, l20, l21, l02, l12, List.append_nil, List.getElem?_cons_zero, List.getElem?_cons_succ, List.set_cons_zero, List.set_cons_succ, not_false_eq_true, not_true_eq_false, false_implies, true_implies, forall_const, Classical.not_not, rc0_at, rcI_at, sOK0, sOK1, sOK2, sOK3, sOK4, true_and, and_true, kil, Option.toList_some, Option.toList_none, List.nil_append, List.cons_append, Option.some.injEq, exists_eq_left', Value.int.injEq, Value.ref.injEq, Value.long.injEq, shl9 m hm, e, Option.elim, rcV_at g0]
      refine ⟨_, _, ch, ?_⟩
      simp only [r128_32, r128_33, r128_36, r128_37, r128_39, r128_40, List.length_cons, List.length_nil, Nat.reduceAdd, Nat.reduceLT, if_true, l10, l01, l20, l21, l02, l12, List.append_nil, List.getElem?_cons_zero, List.getElem?_cons_succ, List.set_cons_zero, List.set_cons_succ, not_false_eq_true, not_true_eq_false, false_implies, true_implies, forall_const, Classical.not_not, rc0_at, rcI_at, sOK0, sOK1, sOK2, sOK3, sOK4, true_and, and_true, kil, Option.toList_some, Option.toList_none, List.nil_append, List.cons_append, Option.some.injEq, exists_eq_left', Value.int.injEq, Value.ref.injEq, Value.long.injEq, q2]
      exact lo_bits (d + 3) m c _ _ _ what (by omega) hm _ m 0 0 (Nat.zero_add _)
    · have q1 : fP w (ws i).1 g gh (ws i).2.1 hs m c = false := decide_eq_false q
      have q2 : gh < hx (wkb w (ws i).1 (bts m c) (ws i).2.1 hs).2 g := Int32.not_le.mp q
      rw [q1]
      obtain ⟨th', x1, x2⟩ := ih (c + 1) _ _ (by omega) lw a1
      rw [List.set_set] at x2
      refine ⟨th', x1, fun v7 v8 => ?_⟩
      rw [r128_13]
      simp only [r128_15, r128_16, r128_18, r128_19, r128_22, r128_23, r128_24, r128_25, r128_27, r128_29, List.length_cons, List.length_nil, Nat.reduceAdd, Nat.reduceLT, if_true, l10, l01, l20, l21, l02, l12, List.append_nil, List.getElem?_cons_zero, List.getElem?_cons_succ, List.set_cons_zero, List.set_cons_succ, not_false_eq_true, not_true_eq_false, false_implies, true_implies, forall_const, Classical.not_not, rc0_at, rcI_at, sOK0, sOK1, sOK2, sOK3, sOK4, true_and, and_true, kil, Option.toList_some, Option.toList_none, List.nil_append, List.cons_append, Option.some.injEq, exists_eq_left', Value.int.injEq, Value.ref.injEq, Value.long.injEq, shl9 m hm, e, rcV_at g0, Bool.false_eq_true, if_false]
      refine ⟨_, _, ch, ?_⟩
      simp only [r128_32, r128_33, r128_88, r128_91, List.length_cons, List.length_nil, Nat.reduceAdd, Nat.reduceLT, if_true, l10, l01, l20, l21, l02, l12, List.append_nil, List.getElem?_cons_zero, List.getElem?_cons_succ, List.set_cons_zero, List.set_cons_succ, not_false_eq_true, not_true_eq_false, false_implies, true_implies, forall_const, Classical.not_not, rc0_at, rcI_at, sOK0, sOK1, sOK2, sOK3, sOK4, true_and, and_true, kil, Option.toList_some, Option.toList_none, List.nil_append, List.cons_append, Option.some.injEq, exists_eq_left', Value.int.injEq, Value.ref.injEq, Value.long.injEq, q2, nI_1]
      exact x2 _ _
theorem fmn_s (w : Bool) (n g : Nat) (gh : Int32) (pl : Nat) (hs : List Int32) (what : Int32) (j m : Nat) : ftv what (fmn w n g gh pl hs (j + 1) m) = (fcd (fP w n g gh pl hs m) (2 ^ m) 0).elim (ftv what (fmn w n g gh pl hs j (m + 1))) (fun c => ftv what (some (m, bts m c))) := by
  show ftv what (match fpt w n g gh m pl hs with
    | some p => some (m, p)
    | none => fmn w n g gh pl hs j (m + 1)) = _
  rw [fpt_fcd]
  cases fcd (fP w n g gh pl hs m) (2 ^ m) 0 with
  | none => rfl
  | some c => rfl
theorem lo_feetM (d i g : Nat) (gh what : Int32) {ws : Nat → wkr} (b1 : Rw rs ws) (l3 : hs.length = 8) (hi : i < 4) (hp : wok (ws i)) (hg : g < 8) : ∀ (j m : Nat) (th : List Int32) (h : pH), m + j = 9 → th.length = 8 → Mh h (mcs (mO n hd w nt tr hb cnt wm sn kd kw kn kc hh) cs hs bf rs ms th wh od bo khs krs kms) → ∃ th', th'.length = 8 ∧ ∀ v6 v7 v8, X 128 (d + 3) (some (.int (ftv what (fmn w (ws i).1 g gh (ws i).2.1 hs j m)))) (h.set 72 (.inl th')) 3 [some (.ref 66), some (.int (nI i)), some (.int (nI g)), some (.int gh), some (.int what), some (.int (nI m)), v6, v7, v8] [] h := by
  intro j
  induction j with
  | zero =>
    intro m th h hm t1 a
    have : m = 9 := by omega
    subst this
    have e : (9 : Int32) ≤ nI 9 := by decide
    refine ⟨th, t1, fun v6 v7 v8 => ?_⟩
    rw [set_same a.g6]
    rw [r128_3]; simp only [r128_0, r128_1, r128_5, r128_7, r128_10, r128_11, r128_15, r128_16, r128_18, r128_19, r128_22, r128_23, r128_24, r128_25, r128_27, r128_29, r128_32, r128_33, r128_36, r128_37, r128_39, r128_40, r128_44, r128_46, r128_49, r128_51, r128_53, r128_55, r128_56, r128_57, r128_59, r128_60, r128_61, r128_62, r128_63, r128_65, r128_66, r128_67, r128_69, r128_72, r128_75, r128_77, r128_80, r128_82, r128_85, r128_87, r128_88, r128_91, r128_94, r128_97, r128_100, r128_101, List.length_cons, List.length_nil, Nat.reduceAdd, Nat.reduceLT, if_true, l10, l01, l20, l21, l02, l12, List.append_nil, List.getElem?_cons_zero, List.getElem?_cons_succ, List.set_cons_zero, List.set_cons_succ, not_false_eq_true, not_true_eq_false, false_implies, true_implies, forall_const, Classical.not_not, rc0_at, rcI_at, sOK0, sOK1, sOK2, sOK3, sOK4, true_and, and_true, kil, Option.toList_some, Option.toList_none, List.nil_append, List.cons_append, Option.some.injEq, exists_eq_left', Value.int.injEq, Value.ref.injEq, Value.long.injEq, e, fmn, ftv]
  | succ j ih =>
    intro m th h hm t1 a
    have e : ((9 : Int32) ≤ nI m) = False := eq_false (nI_ge (a := m) (b := 9) (by omega) (by decide))
    obtain ⟨th', x1, x2⟩ := lo_feetC d i g m gh what (ftv what (fmn w (ws i).1 g gh (ws i).2.1 hs j (m + 1))) b1 l3 hi hp hg (by omega) (fun th h t1 a => by
      obtain ⟨th', y1, y2⟩ := ih (m + 1) th h (by omega) t1 a
      refine ⟨th', y1, fun v6 v7 v8 => ?_⟩
      simp only [r128_0, r128_1, r128_5, r128_7, r128_10, r128_11, r128_15, r128_16, r128_18, r128_19, r128_22, r128_23, r128_24, r128_25, r128_27, r128_29, r128_32, r128_33, r128_36, r128_37, r128_39, r128_40, r128_44, r128_46, r128_49, r128_51, r128_53, r128_55, r128_56, r128_57, r128_59, r128_60, r128_61, r128_62, r128_63, r128_65, r128_66, r128_67, r128_69, r128_72, r128_75, r128_77, r128_80, r128_82, r128_85, r128_87, r128_88, r128_91, r128_94, r128_97, r128_100, r128_101, List.length_cons, List.length_nil, Nat.reduceAdd, Nat.reduceLT, if_true, l10, l01, l20, l21, l02, l12, List.append_nil, List.getElem?_cons_zero, List.getElem?_cons_succ, List.set_cons_zero, List.set_cons_succ, not_false_eq_true, not_true_eq_false, false_implies, true_implies, forall_const, Classical.not_not, rc0_at, rcI_at, sOK0, sOK1, sOK2, sOK3, sOK4, true_and, and_true, kil, Option.toList_some, Option.toList_none, List.nil_append, List.cons_append, Option.some.injEq, exists_eq_left', Value.int.injEq, Value.ref.injEq, Value.long.injEq, nI_1]
      exact y2 _ _ _) (2 ^ m) 0 th h (by omega) t1 a
    refine ⟨th', x1, fun v6 v7 v8 => ?_⟩
    rw [fmn_s]
    rw [r128_3]; simp only [r128_0, r128_1, r128_5, r128_7, r128_10, r128_11, r128_15, r128_16, r128_18, r128_19, r128_22, r128_23, r128_24, r128_25, r128_27, r128_29, r128_32, r128_33, r128_36, r128_37, r128_39, r128_40, r128_44, r128_46, r128_49, r128_51, r128_53, r128_55, r128_56, r128_57, r128_59, r128_60, r128_61, r128_62, r128_63, r128_65, r128_66, r128_67, r128_69, r128_72, r128_75, r128_77, r128_80, r128_82, r128_85, r128_87, r128_88, r128_91, r128_94, r128_97, r128_100, r128_101, List.length_cons, List.length_nil, Nat.reduceAdd, Nat.reduceLT, if_true, l10, l01, l20, l21, l02, l12, List.append_nil, List.getElem?_cons_zero, List.getElem?_cons_succ, List.set_cons_zero, List.set_cons_succ, not_false_eq_true, not_true_eq_false, false_implies, true_implies, forall_const, Classical.not_not, rc0_at, rcI_at, sOK0, sOK1, sOK2, sOK3, sOK4, true_and, and_true, kil, Option.toList_some, Option.toList_none, List.nil_append, List.cons_append, Option.some.injEq, exists_eq_left', Value.int.injEq, Value.ref.injEq, Value.long.injEq, e]
    exact x2 _ _
theorem c_feetOf (d i g : Nat) (gh what : Int32) {ws : Nat → wkr} (a : Mh h (mcs (mO n hd w nt tr hb cnt wm sn kd kw kn kc hh) cs hs bf rs ms th wh od bo khs krs kms)) (b1 : Rw rs ws) (l3 : hs.length = 8) (t1 : th.length = 8) (hi : i < 4) (hp : wok (ws i)) (hg : g < 8) : ∃ th', th'.length = 8 ∧ Cl (d + 4) 128 [.ref 66, .int (nI i), .int (nI g), .int gh, .int what] h (some (.int (feetS (hs, w, ws, cnt, nt) i g gh what))) (h.set 72 (.inl th')) := by
  obtain ⟨th', x1, x2⟩ := lo_feetM d i g gh what b1 l3 hi hp hg 9 0 th h rfl t1 a
  refine ⟨th', x1, Cl_o 9 rfl [some (.ref 66), some (.int (nI i)), some (.int (nI g)), some (.int gh), some (.int what), none, none, none, none] rfl rfl ?_⟩
  simp only [r128_0, r128_1, r128_5, r128_7, r128_10, r128_11, r128_15, r128_16, r128_18, r128_19, r128_22, r128_23, r128_24, r128_25, r128_27, r128_29, r128_32, r128_33, r128_36, r128_37, r128_39, r128_40, r128_44, r128_46, r128_49, r128_51, r128_53, r128_55, r128_56, r128_57, r128_59, r128_60, r128_61, r128_62, r128_63, r128_65, r128_66, r128_67, r128_69, r128_72, r128_75, r128_77, r128_80, r128_82, r128_85, r128_87, r128_88, r128_91, r128_94, r128_97, r128_100, r128_101, List.length_cons, List.length_nil, Nat.reduceAdd, Nat.reduceLT, if_true, l10, l01, l20, l21, l02, l12, List.append_nil, List.getElem?_cons_zero, List.getElem?_cons_succ, List.set_cons_zero, List.set_cons_succ, not_false_eq_true, not_true_eq_false, false_implies, true_implies, forall_const, Classical.not_not, rc0_at, rcI_at, sOK0, sOK1, sOK2, sOK3, sOK4, true_and, and_true, kil, Option.toList_some, Option.toList_none, List.nil_append, List.cons_append, Option.some.injEq, exists_eq_left', Value.int.injEq, Value.ref.injEq, Value.long.injEq]
  have e : feetS (hs, w, ws, cnt, nt) i g gh what = ftv what (fmn w (ws i).1 g gh (ws i).2.1 hs 9 0) := by
    unfold feetS ftv
    rfl
  rw [e]
  exact x2 none none none
end M62
theorem m_feet (d : Nat) {h : pH} {s : stT} (x : MS h s) (st : St s) (k c hgt what : Int32) : ∃ h', Cl (d + 5) 129 [.ref 66, .int k, .int c, .int hgt, .int what] h (some (.int (q_feet s k c hgt what).2)) h' ∧ MS h' (q_feet s k c hgt what).1 ∧ Dn h h' := by
  obtain ⟨cs, n, ⟨hs, w, ws, cnt, nt⟩, ⟨khs, kw, kws, kc, kn⟩, bf, hd, hm, hb, tr⟩ := s
  have x' := x
  obtain ⟨wm, sn, kd, hh, rs, ms, th, wh, od, bo, krs, kms, a, ⟨b1, b2⟩, ⟨b3, b4⟩, ⟨t1, t2, t3, t4⟩, b5⟩ := x
  dsimp only at a b1 b2 b3 b4 b5
  obtain ⟨l1, l2, ⟨l3, l4, l5⟩, ⟨l6, l7, l8⟩, l9⟩ := st
  dsimp only at l1 l2 l3 l4 l5 l6 l7 l8 l9
  have g0 := a.g0
  dsimp only [mO] at g0
  have e0 : entL 5 [Value.ref 66, .int k, .int c, .int hgt, .int what] = [some (.ref 66), some (.int k), some (.int c), some (.int hgt), some (.int what)] := rfl
  have cw := c_isWalker (d + 2) a l5 k
  have cc := c_isCellM (d + 2) a c
  have c1 := c_inI (d + 3) h hgt 0 9 rfl rfl
  have c2 := c_inI (d + 3) h what 0 1 rfl rfl
  rw [in9] at c1
  rw [in1] at c2
  unfold q_feet
  dsimp only
  rcases ix_or k cnt (by omega) with ⟨i, hi, rfl⟩ | hc
  · rw [ixT hi (by omega)] at cw ⊢
    have hi4 : i < 4 := by omega
    rw [nI_clamp (show i < 2 ^ 31 by omega)]
    cases e : (hd && ixv c 8) with
    | false =>
      rw [e] at cc
      refine ⟨h, Cl_o 5 rfl _ e0 rfl ?_, x', Dn.rf⟩
      simp only [r129_0, r129_1, r129_2, r129_5, r129_8, r129_9, r129_10, r129_13, r129_16, r129_18, r129_19, r129_20, r129_21, r129_22, r129_25, r129_28, r129_31, r129_33, r129_34, r129_35, r129_36, r129_39, r129_42, r129_43, r129_44, r129_45, r129_46, r129_48, r129_51, r129_54, r129_56, List.length_cons, List.length_nil, Nat.reduceAdd, Nat.reduceLT, if_true, l10, l01, l20, l21, l02, l12, List.append_nil, List.getElem?_cons_zero, List.getElem?_cons_succ, List.set_cons_zero, List.set_cons_succ, not_false_eq_true, not_true_eq_false, false_implies, true_implies, forall_const, Classical.not_not, rc0_at, rcI_at, sOK0, sOK1, sOK2, sOK3, sOK4, true_and, and_true, kil, Option.toList_some, Option.toList_none, List.nil_append, List.cons_append, Option.some.injEq, exists_eq_left', Value.int.injEq, Value.ref.injEq, Value.long.injEq, rcV_at g0]
      refine ⟨_, _, cw, ?_⟩
      simp only [r129_0, r129_1, r129_2, r129_5, r129_8, r129_9, r129_10, r129_13, r129_16, r129_18, r129_19, r129_20, r129_21, r129_22, r129_25, r129_28, r129_31, r129_33, r129_34, r129_35, r129_36, r129_39, r129_42, r129_43, r129_44, r129_45, r129_46, r129_48, r129_51, r129_54, r129_56, List.length_cons, List.length_nil, Nat.reduceAdd, Nat.reduceLT, if_true, l10, l01, l20, l21, l02, l12, List.append_nil, List.getElem?_cons_zero, List.getElem?_cons_succ, List.set_cons_zero, List.set_cons_succ, not_false_eq_true, not_true_eq_false, false_implies, true_implies, forall_const, Classical.not_not, rc0_at, rcI_at, sOK0, sOK1, sOK2, sOK3, sOK4, true_and, and_true, kil, Option.toList_some, Option.toList_none, List.nil_append, List.cons_append, Option.some.injEq, exists_eq_left', Value.int.injEq, Value.ref.injEq, Value.long.injEq, b2i, rcV_at g0]
      refine ⟨_, _, cc, ?_⟩
      simp only [r129_0, r129_1, r129_2, r129_5, r129_8, r129_9, r129_10, r129_13, r129_16, r129_18, r129_19, r129_20, r129_21, r129_22, r129_25, r129_28, r129_31, r129_33, r129_34, r129_35, r129_36, r129_39, r129_42, r129_43, r129_44, r129_45, r129_46, r129_48, r129_51, r129_54, r129_56, List.length_cons, List.length_nil, Nat.reduceAdd, Nat.reduceLT, if_true, l10, l01, l20, l21, l02, l12, List.append_nil, List.getElem?_cons_zero, List.getElem?_cons_succ, List.set_cons_zero, List.set_cons_succ, not_false_eq_true, not_true_eq_false, false_implies, true_implies, forall_const, Classical.not_not, rc0_at, rcI_at, sOK0, sOK1, sOK2, sOK3, sOK4, true_and, and_true, kil, Option.toList_some, Option.toList_none, List.nil_append, List.cons_append, Option.some.injEq, exists_eq_left', Value.int.injEq, Value.ref.injEq, Value.long.injEq, b2i, Bool.false_eq_true, and_false, if_false]
    | true =>
      rw [e] at cc
      have e2 := (Bool.and_eq_true _ _ ▸ e : hd = true ∧ ixv c 8 = true).2
      rcases ix_or c 8 (by decide) with ⟨g, hg, rfl⟩ | hcc
      · rw [nI_clamp (show g < 2 ^ 31 by omega)]
        cases e3 : ixv hgt 10
        · rw [e3] at c1
          refine ⟨h, Cl_o 5 rfl _ e0 rfl ?_, x', Dn.rf⟩
          simp only [r129_0, r129_1, r129_2, r129_5, r129_8, r129_9, r129_10, r129_13, r129_16, r129_18, r129_19, r129_20, r129_21, r129_22, r129_25, r129_28, r129_31, r129_33, r129_34, r129_35, r129_36, r129_39, r129_42, r129_43, r129_44, r129_45, r129_46, r129_48, r129_51, r129_54, r129_56, List.length_cons, List.length_nil, Nat.reduceAdd, Nat.reduceLT, if_true, l10, l01, l20, l21, l02, l12, List.append_nil, List.getElem?_cons_zero, List.getElem?_cons_succ, List.set_cons_zero, List.set_cons_succ, not_false_eq_true, not_true_eq_false, false_implies, true_implies, forall_const, Classical.not_not, rc0_at, rcI_at, sOK0, sOK1, sOK2, sOK3, sOK4, true_and, and_true, kil, Option.toList_some, Option.toList_none, List.nil_append, List.cons_append, Option.some.injEq, exists_eq_left', Value.int.injEq, Value.ref.injEq, Value.long.injEq, rcV_at g0]
          refine ⟨_, _, cw, ?_⟩
          simp only [r129_0, r129_1, r129_2, r129_5, r129_8, r129_9, r129_10, r129_13, r129_16, r129_18, r129_19, r129_20, r129_21, r129_22, r129_25, r129_28, r129_31, r129_33, r129_34, r129_35, r129_36, r129_39, r129_42, r129_43, r129_44, r129_45, r129_46, r129_48, r129_51, r129_54, r129_56, List.length_cons, List.length_nil, Nat.reduceAdd, Nat.reduceLT, if_true, l10, l01, l20, l21, l02, l12, List.append_nil, List.getElem?_cons_zero, List.getElem?_cons_succ, List.set_cons_zero, List.set_cons_succ, not_false_eq_true, not_true_eq_false, false_implies, true_implies, forall_const, Classical.not_not, rc0_at, rcI_at, sOK0, sOK1, sOK2, sOK3, sOK4, true_and, and_true, kil, Option.toList_some, Option.toList_none, List.nil_append, List.cons_append, Option.some.injEq, exists_eq_left', Value.int.injEq, Value.ref.injEq, Value.long.injEq, b2i, rcV_at g0]
          refine ⟨_, _, cc, ?_⟩
          simp only [r129_0, r129_1, r129_2, r129_5, r129_8, r129_9, r129_10, r129_13, r129_16, r129_18, r129_19, r129_20, r129_21, r129_22, r129_25, r129_28, r129_31, r129_33, r129_34, r129_35, r129_36, r129_39, r129_42, r129_43, r129_44, r129_45, r129_46, r129_48, r129_51, r129_54, r129_56, List.length_cons, List.length_nil, Nat.reduceAdd, Nat.reduceLT, if_true, l10, l01, l20, l21, l02, l12, List.append_nil, List.getElem?_cons_zero, List.getElem?_cons_succ, List.set_cons_zero, List.set_cons_succ, not_false_eq_true, not_true_eq_false, false_implies, true_implies, forall_const, Classical.not_not, rc0_at, rcI_at, sOK0, sOK1, sOK2, sOK3, sOK4, true_and, and_true, kil, Option.toList_some, Option.toList_none, List.nil_append, List.cons_append, Option.some.injEq, exists_eq_left', Value.int.injEq, Value.ref.injEq, Value.long.injEq, b2i]
          refine ⟨_, _, c1, ?_⟩
          simp only [r129_0, r129_1, r129_2, r129_5, r129_8, r129_9, r129_10, r129_13, r129_16, r129_18, r129_19, r129_20, r129_21, r129_22, r129_25, r129_28, r129_31, r129_33, r129_34, r129_35, r129_36, r129_39, r129_42, r129_43, r129_44, r129_45, r129_46, r129_48, r129_51, r129_54, r129_56, List.length_cons, List.length_nil, Nat.reduceAdd, Nat.reduceLT, if_true, l10, l01, l20, l21, l02, l12, List.append_nil, List.getElem?_cons_zero, List.getElem?_cons_succ, List.set_cons_zero, List.set_cons_succ, not_false_eq_true, not_true_eq_false, false_implies, true_implies, forall_const, Classical.not_not, rc0_at, rcI_at, sOK0, sOK1, sOK2, sOK3, sOK4, true_and, and_true, kil, Option.toList_some, Option.toList_none, List.nil_append, List.cons_append, Option.some.injEq, exists_eq_left', Value.int.injEq, Value.ref.injEq, Value.long.injEq, b2i, Bool.false_eq_true, false_and, and_self, if_false]
        · rw [e3] at c1
          cases e4 : ixv what 2
          · rw [e4] at c2
            refine ⟨h, Cl_o 5 rfl _ e0 rfl ?_, x', Dn.rf⟩
            simp only [r129_0, r129_1, r129_2, r129_5, r129_8, r129_9, r129_10, r129_13, r129_16, r129_18, r129_19, r129_20, r129_21, r129_22, r129_25, r129_28, r129_31, r129_33, r129_34, r129_35, r129_36, r129_39, r129_42, r129_43, r129_44, r129_45, r129_46, r129_48, r129_51, r129_54, r129_56, List.length_cons, List.length_nil, Nat.reduceAdd, Nat.reduceLT, if_true, l10, l01, l20, l21, l02, l12, List.append_nil, List.getElem?_cons_zero, List.getElem?_cons_succ, List.set_cons_zero, List.set_cons_succ, not_false_eq_true, not_true_eq_false, false_implies, true_implies, forall_const, Classical.not_not, rc0_at, rcI_at, sOK0, sOK1, sOK2, sOK3, sOK4, true_and, and_true, kil, Option.toList_some, Option.toList_none, List.nil_append, List.cons_append, Option.some.injEq, exists_eq_left', Value.int.injEq, Value.ref.injEq, Value.long.injEq, rcV_at g0]
            refine ⟨_, _, cw, ?_⟩
            simp only [r129_0, r129_1, r129_2, r129_5, r129_8, r129_9, r129_10, r129_13, r129_16, r129_18, r129_19, r129_20, r129_21, r129_22, r129_25, r129_28, r129_31, r129_33, r129_34, r129_35, r129_36, r129_39, r129_42, r129_43, r129_44, r129_45, r129_46, r129_48, r129_51, r129_54, r129_56, List.length_cons, List.length_nil, Nat.reduceAdd, Nat.reduceLT, if_true, l10, l01, l20, l21, l02, l12, List.append_nil, List.getElem?_cons_zero, List.getElem?_cons_succ, List.set_cons_zero, List.set_cons_succ, not_false_eq_true, not_true_eq_false, false_implies, true_implies, forall_const, Classical.not_not, rc0_at, rcI_at, sOK0, sOK1, sOK2, sOK3, sOK4, true_and, and_true, kil, Option.toList_some, Option.toList_none, List.nil_append, List.cons_append, Option.some.injEq, exists_eq_left', Value.int.injEq, Value.ref.injEq, Value.long.injEq, b2i, rcV_at g0]
            refine ⟨_, _, cc, ?_⟩
            simp only [r129_0, r129_1, r129_2, r129_5, r129_8, r129_9, r129_10, r129_13, r129_16, r129_18, r129_19, r129_20, r129_21, r129_22, r129_25, r129_28, r129_31, r129_33, r129_34, r129_35, r129_36, r129_39, r129_42, r129_43, r129_44, r129_45, r129_46, r129_48, r129_51, r129_54, r129_56, List.length_cons, List.length_nil, Nat.reduceAdd, Nat.reduceLT, if_true, l10, l01, l20, l21, l02, l12, List.append_nil, List.getElem?_cons_zero, List.getElem?_cons_succ, List.set_cons_zero, List.set_cons_succ, not_false_eq_true, not_true_eq_false, false_implies, true_implies, forall_const, Classical.not_not, rc0_at, rcI_at, sOK0, sOK1, sOK2, sOK3, sOK4, true_and, and_true, kil, Option.toList_some, Option.toList_none, List.nil_append, List.cons_append, Option.some.injEq, exists_eq_left', Value.int.injEq, Value.ref.injEq, Value.long.injEq, b2i]
            refine ⟨_, _, c1, ?_⟩
            simp only [r129_0, r129_1, r129_2, r129_5, r129_8, r129_9, r129_10, r129_13, r129_16, r129_18, r129_19, r129_20, r129_21, r129_22, r129_25, r129_28, r129_31, r129_33, r129_34, r129_35, r129_36, r129_39, r129_42, r129_43, r129_44, r129_45, r129_46, r129_48, r129_51, r129_54, r129_56, List.length_cons, List.length_nil, Nat.reduceAdd, Nat.reduceLT, if_true, l10, l01, l20, l21, l02, l12, List.append_nil, List.getElem?_cons_zero, List.getElem?_cons_succ, List.set_cons_zero, List.set_cons_succ, not_false_eq_true, not_true_eq_false, false_implies, true_implies, forall_const, Classical.not_not, rc0_at, rcI_at, sOK0, sOK1, sOK2, sOK3, sOK4, true_and, and_true, kil, Option.toList_some, Option.toList_none, List.nil_append, List.cons_append, Option.some.injEq, exists_eq_left', Value.int.injEq, Value.ref.injEq, Value.long.injEq, b2i]
            refine ⟨_, _, c2, ?_⟩
            simp only [r129_0, r129_1, r129_2, r129_5, r129_8, r129_9, r129_10, r129_13, r129_16, r129_18, r129_19, r129_20, r129_21, r129_22, r129_25, r129_28, r129_31, r129_33, r129_34, r129_35, r129_36, r129_39, r129_42, r129_43, r129_44, r129_45, r129_46, r129_48, r129_51, r129_54, r129_56, List.length_cons, List.length_nil, Nat.reduceAdd, Nat.reduceLT, if_true, l10, l01, l20, l21, l02, l12, List.append_nil, List.getElem?_cons_zero, List.getElem?_cons_succ, List.set_cons_zero, List.set_cons_succ, not_false_eq_true, not_true_eq_false, false_implies, true_implies, forall_const, Classical.not_not, rc0_at, rcI_at, sOK0, sOK1, sOK2, sOK3, sOK4, true_and, and_true, kil, Option.toList_some, Option.toList_none, List.nil_append, List.cons_append, Option.some.injEq, exists_eq_left', Value.int.injEq, Value.ref.injEq, Value.long.injEq, b2i, Bool.false_eq_true, and_false, and_self, if_false]
          · rw [e4] at c2
            obtain ⟨th', y1, y2⟩ := c_feetOf d i g hgt what a b1 l3 t1 hi4 (l4 i hi4) hg
            refine ⟨_, Cl_o 5 rfl _ e0 rfl ?_, ⟨wm, sn, kd, hh, rs, ms, th', wh, od, bo, krs, kms, a.s6 _, ⟨b1, b2⟩, ⟨b3, b4⟩, ⟨y1, t2, t3, t4⟩, b5⟩, Dn.rf.st (by decide)⟩
            simp only [r129_0, r129_1, r129_2, r129_5, r129_8, r129_9, r129_10, r129_13, r129_16, r129_18, r129_19, r129_20, r129_21, r129_22, r129_25, r129_28, r129_31, r129_33, r129_34, r129_35, r129_36, r129_39, r129_42, r129_43, r129_44, r129_45, r129_46, r129_48, r129_51, r129_54, r129_56, List.length_cons, List.length_nil, Nat.reduceAdd, Nat.reduceLT, if_true, l10, l01, l20, l21, l02, l12, List.append_nil, List.getElem?_cons_zero, List.getElem?_cons_succ, List.set_cons_zero, List.set_cons_succ, not_false_eq_true, not_true_eq_false, false_implies, true_implies, forall_const, Classical.not_not, rc0_at, rcI_at, sOK0, sOK1, sOK2, sOK3, sOK4, true_and, and_true, kil, Option.toList_some, Option.toList_none, List.nil_append, List.cons_append, Option.some.injEq, exists_eq_left', Value.int.injEq, Value.ref.injEq, Value.long.injEq, rcV_at g0]
            refine ⟨_, _, cw, ?_⟩
            simp only [r129_0, r129_1, r129_2, r129_5, r129_8, r129_9, r129_10, r129_13, r129_16, r129_18, r129_19, r129_20, r129_21, r129_22, r129_25, r129_28, r129_31, r129_33, r129_34, r129_35, r129_36, r129_39, r129_42, r129_43, r129_44, r129_45, r129_46, r129_48, r129_51, r129_54, r129_56, List.length_cons, List.length_nil, Nat.reduceAdd, Nat.reduceLT, if_true, l10, l01, l20, l21, l02, l12, List.append_nil, List.getElem?_cons_zero, List.getElem?_cons_succ, List.set_cons_zero, List.set_cons_succ, not_false_eq_true, not_true_eq_false, false_implies, true_implies, forall_const, Classical.not_not, rc0_at, rcI_at, sOK0, sOK1, sOK2, sOK3, sOK4, true_and, and_true, kil, Option.toList_some, Option.toList_none, List.nil_append, List.cons_append, Option.some.injEq, exists_eq_left', Value.int.injEq, Value.ref.injEq, Value.long.injEq, b2i, rcV_at g0]
            refine ⟨_, _, cc, ?_⟩
            simp only [r129_0, r129_1, r129_2, r129_5, r129_8, r129_9, r129_10, r129_13, r129_16, r129_18, r129_19, r129_20, r129_21, r129_22, r129_25, r129_28, r129_31, r129_33, r129_34, r129_35, r129_36, r129_39, r129_42, r129_43, r129_44, r129_45, r129_46, r129_48, r129_51, r129_54, r129_56, List.length_cons, List.length_nil, Nat.reduceAdd, Nat.reduceLT, if_true, l10, l01, l20, l21, l02, l12, List.append_nil, List.getElem?_cons_zero, List.getElem?_cons_succ, List.set_cons_zero, List.set_cons_succ, not_false_eq_true, not_true_eq_false, false_implies, true_implies, forall_const, Classical.not_not, rc0_at, rcI_at, sOK0, sOK1, sOK2, sOK3, sOK4, true_and, and_true, kil, Option.toList_some, Option.toList_none, List.nil_append, List.cons_append, Option.some.injEq, exists_eq_left', Value.int.injEq, Value.ref.injEq, Value.long.injEq, b2i]
            refine ⟨_, _, c1, ?_⟩
            simp only [r129_0, r129_1, r129_2, r129_5, r129_8, r129_9, r129_10, r129_13, r129_16, r129_18, r129_19, r129_20, r129_21, r129_22, r129_25, r129_28, r129_31, r129_33, r129_34, r129_35, r129_36, r129_39, r129_42, r129_43, r129_44, r129_45, r129_46, r129_48, r129_51, r129_54, r129_56, List.length_cons, List.length_nil, Nat.reduceAdd, Nat.reduceLT, if_true, l10, l01, l20, l21, l02, l12, List.append_nil, List.getElem?_cons_zero, List.getElem?_cons_succ, List.set_cons_zero, List.set_cons_succ, not_false_eq_true, not_true_eq_false, false_implies, true_implies, forall_const, Classical.not_not, rc0_at, rcI_at, sOK0, sOK1, sOK2, sOK3, sOK4, true_and, and_true, kil, Option.toList_some, Option.toList_none, List.nil_append, List.cons_append, Option.some.injEq, exists_eq_left', Value.int.injEq, Value.ref.injEq, Value.long.injEq, b2i]
            refine ⟨_, _, c2, ?_⟩
            simp only [r129_0, r129_1, r129_2, r129_5, r129_8, r129_9, r129_10, r129_13, r129_16, r129_18, r129_19, r129_20, r129_21, r129_22, r129_25, r129_28, r129_31, r129_33, r129_34, r129_35, r129_36, r129_39, r129_42, r129_43, r129_44, r129_45, r129_46, r129_48, r129_51, r129_54, r129_56, List.length_cons, List.length_nil, Nat.reduceAdd, Nat.reduceLT, if_true, l10, l01, l20, l21, l02, l12, List.append_nil, List.getElem?_cons_zero, List.getElem?_cons_succ, List.set_cons_zero, List.set_cons_succ, not_false_eq_true, not_true_eq_false, false_implies, true_implies, forall_const, Classical.not_not, rc0_at, rcI_at, sOK0, sOK1, sOK2, sOK3, sOK4, true_and, and_true, kil, Option.toList_some, Option.toList_none, List.nil_append, List.cons_append, Option.some.injEq, exists_eq_left', Value.int.injEq, Value.ref.injEq, Value.long.injEq, b2i, rcV_at g0]
            refine ⟨_, _, y2, ?_⟩
            simp only [r129_0, r129_1, r129_2, r129_5, r129_8, r129_9, r129_10, r129_13, r129_16, r129_18, r129_19, r129_20, r129_21, r129_22, r129_25, r129_28, r129_31, r129_33, r129_34, r129_35, r129_36, r129_39, r129_42, r129_43, r129_44, r129_45, r129_46, r129_48, r129_51, r129_54, r129_56, List.length_cons, List.length_nil, Nat.reduceAdd, Nat.reduceLT, if_true, l10, l01, l20, l21, l02, l12, List.append_nil, List.getElem?_cons_zero, List.getElem?_cons_succ, List.set_cons_zero, List.set_cons_succ, not_false_eq_true, not_true_eq_false, false_implies, true_implies, forall_const, Classical.not_not, rc0_at, rcI_at, sOK0, sOK1, sOK2, sOK3, sOK4, true_and, and_true, kil, Option.toList_some, Option.toList_none, List.nil_append, List.cons_append, Option.some.injEq, exists_eq_left', Value.int.injEq, Value.ref.injEq, Value.long.injEq, and_self]
      · rw [ixF hcc] at e2
        cases e2
  · rw [ixF hc] at cw ⊢
    refine ⟨h, Cl_o 5 rfl _ e0 rfl ?_, x', Dn.rf⟩
    simp only [r129_0, r129_1, r129_2, r129_5, r129_8, r129_9, r129_10, r129_13, r129_16, r129_18, r129_19, r129_20, r129_21, r129_22, r129_25, r129_28, r129_31, r129_33, r129_34, r129_35, r129_36, r129_39, r129_42, r129_43, r129_44, r129_45, r129_46, r129_48, r129_51, r129_54, r129_56, List.length_cons, List.length_nil, Nat.reduceAdd, Nat.reduceLT, if_true, l10, l01, l20, l21, l02, l12, List.append_nil, List.getElem?_cons_zero, List.getElem?_cons_succ, List.set_cons_zero, List.set_cons_succ, not_false_eq_true, not_true_eq_false, false_implies, true_implies, forall_const, Classical.not_not, rc0_at, rcI_at, sOK0, sOK1, sOK2, sOK3, sOK4, true_and, and_true, kil, Option.toList_some, Option.toList_none, List.nil_append, List.cons_append, Option.some.injEq, exists_eq_left', Value.int.injEq, Value.ref.injEq, Value.long.injEq, rcV_at g0]
    refine ⟨_, _, cw, ?_⟩
    simp only [r129_0, r129_1, r129_2, r129_5, r129_8, r129_9, r129_10, r129_13, r129_16, r129_18, r129_19, r129_20, r129_21, r129_22, r129_25, r129_28, r129_31, r129_33, r129_34, r129_35, r129_36, r129_39, r129_42, r129_43, r129_44, r129_45, r129_46, r129_48, r129_51, r129_54, r129_56, List.length_cons, List.length_nil, Nat.reduceAdd, Nat.reduceLT, if_true, l10, l01, l20, l21, l02, l12, List.append_nil, List.getElem?_cons_zero, List.getElem?_cons_succ, List.set_cons_zero, List.set_cons_succ, not_false_eq_true, not_true_eq_false, false_implies, true_implies, forall_const, Classical.not_not, rc0_at, rcI_at, sOK0, sOK1, sOK2, sOK3, sOK4, true_and, and_true, kil, Option.toList_some, Option.toList_none, List.nil_append, List.cons_append, Option.some.injEq, exists_eq_left', Value.int.injEq, Value.ref.injEq, Value.long.injEq, b2i, Bool.false_eq_true, false_and, if_false]
