theorem l10 : ((1 : Int32) = 0) = False := eq_false (by decide)
theorem l01 : ((0 : Int32) = 1) = False := eq_false (by decide)
theorem l20 : ((2 : Int32) = 0) = False := eq_false (by decide)
theorem l21 : ((2 : Int32) = 1) = False := eq_false (by decide)
theorem l02 : ((0 : Int32) = 2) = False := eq_false (by decide)
theorem l12 : ((1 : Int32) = 2) = False := eq_false (by decide)
theorem Cl_o {d y : Nat} {as : List Value} {h : pH} {r : Option Value} {h' : pH} (n : Nat) (hn : (mM y).2.2.2.1 = n) (L : pL) (hL : entL n as = L) (hl : Nat.ble (ent as).length n = true) (hx : X y d r h' 0 L [] h) : Cl (d + 1) y as h r h' := Cl_of n hn L hL (Nat.le_of_ble_eq_true hl) hx
/-! cells of the ring -/
def up (k : Nat) : Nat := (k + 1) % 8
def dn (k : Nat) : Nat := (k + 7) % 8
theorem up_lt (k : Nat) : up k < 8 := Nat.mod_lt _ (by decide)
theorem dn_lt (k : Nat) : dn k < 8 := Nat.mod_lt _ (by decide)
theorem c_uand : ∀ k, k < 8 → (nI k + 1) &&& 7 = nI (up k) := by decide
theorem c_dand : ∀ k, k < 8 → (nI k - 1) &&& 7 = nI (dn k) := by decide
theorem c_and : ∀ k, k < 8 → nI k &&& 7 = nI k := by decide
theorem c_urem : ∀ k, k < 8 → nI k + 1 - (nI k + 1) / 8 * 8 = nI (up k) := by decide
theorem c_drem : ∀ k, k < 8 → nI k + 7 - (nI k + 7) / 8 * 8 = nI (dn k) := by decide
def hx (hs : List Int32) (k : Nat) : Int32 := hs.getD k 0
theorem ild_at {h : pH} {a k : Nat} {xs : List Int32} (ha : h[a]? = some (.inl xs)) (hk : k < xs.length) (hb : k < 2 ^ 31) : ild h a (nI k) = some (hx xs k) := by
  unfold ild
  rw [ha]
  simp only [nI_clamp hb, nI_pos hb, if_false]
  simp [hx, List.getD, hk]
theorem ist_at {h : pH} {a k : Nat} {xs : List Int32} {x : Int32} (ha : h[a]? = some (.inl xs)) (hk : k < xs.length) (hb : k < 2 ^ 31) : ist h a (nI k) x = some (h.set a (.inl (xs.set k x))) := by
  unfold ist
  rw [ha]
  simp only [nI_clamp hb, nI_pos hb, false_or]
  rw [if_neg (by omega)]
theorem ild8 {h : pH} {a k : Nat} {xs : List Int32} (ha : h[a]? = some (.inl xs)) (hl : xs.length = 8) (hk : k < 8) : ild h a (nI k) = some (hx xs k) := ild_at ha (by omega) (by omega)
theorem ist8 {h : pH} {a k : Nat} {xs : List Int32} {x : Int32} (ha : h[a]? = some (.inl xs)) (hl : xs.length = 8) (hk : k < 8) : ist h a (nI k) x = some (h.set a (.inl (xs.set k x))) := ist_at ha (by omega) (by omega)
theorem gf_at {h : pH} {k ci j : Nat} {fs : List Value} (hk : h[k]? = some (.inr (.inr (ci, fs)))) : gf h k ci j = fs[j]? := by
  unfold gf; rw [hk]; simp
theorem pf_at {h : pH} {k ci j : Nat} {fs : List Value} {v : Value} (hk : h[k]? = some (.inr (.inr (ci, fs)))) (hj : j < fs.length) : pfh h k ci j v = some (h.set k (.inr (.inr (ci, fs.set j v)))) := by
  unfold pfh; rw [hk]; simp [hj]
theorem rcV_at {h : pH} {k ci : Nat} {fs rest : List Value} (hk : h[k]? = some (.inr (.inr (ci, fs)))) : rcV ci h (.ref k :: rest) = True := by
  refine propext ⟨fun _ => trivial, fun _ => ⟨k, rest, fs, rfl, hk⟩⟩
theorem rc0_at {h : pH} {as : List Value} : rc0 h as = True := rfl
theorem rcI_at {h : pH} {k : Nat} {rest : List Value} : rcI h (.ref k :: rest) = True := propext ⟨fun _ => trivial, fun _ => ⟨k, rest, rfl⟩⟩
def b2i (w : Bool) : Int32 := if w then 1 else 0
/-- the sand at place k: its row is the next cell -/
def Snd (h : pH) (k : Nat) (hs : List Int32) (w : Bool) : Prop := h[k]? = some (.inr (.inr (5, [.ref (k + 1), .int (b2i w)]))) ∧ h[k + 1]? = some (.inl hs) ∧ hs.length = 8
def bes (k : Nat) (way : Int32) : Nat := if way = 1 then up k else dn k
theorem bes_lt (k : Nat) (way : Int32) : bes k way < 8 := by unfold bes; split <;> first | exact up_lt k | exact dn_lt k
theorem c_beside (d : Nat) (h : pH) {k : Nat} (hk : k < 8) (way : Int32) : Cl (d + 1) 83 [.int (nI k), .int way] h (some (.int (nI (bes k way)))) h := by
  refine Cl_o 2 rfl [some (.int (nI k)), some (.int way)] rfl rfl ?_
  simp only [r83_0, r83_1, r83_2, r83_5, r83_6, r83_7, r83_8, r83_11, r83_12, r83_13, r83_14, r83_16, r83_17, List.length_cons, List.length_nil, Nat.reduceAdd, Nat.reduceLT, if_true, l10, l01, l20, l21, l02, l12, List.append_nil, List.getElem?_cons_zero, List.getElem?_cons_succ, List.set_cons_zero, List.set_cons_succ, not_false_eq_true, not_true_eq_false, false_implies, true_implies, forall_const, Classical.not_not, rc0_at, rcI_at, sOK0, sOK1, sOK2, sOK3, sOK4, true_and, and_true, kil, Option.toList_some, Option.toList_none, List.nil_append, List.cons_append, Option.some.injEq, exists_eq_left', Value.int.injEq, Value.ref.injEq, Value.long.injEq]
  by_cases hw : way = 1
  · simp [hw, bes, c_uand k hk]
  · simp [hw, bes, c_dand k hk]
def wtl (n : Nat) : Int32 := wts n
theorem c_weightOf (d : Nat) (h : pH) {n : Nat} (hn : n < 5) : Cl (d + 1) 82 [.int (nI n)] h (some (.int (wts n))) h := by
  refine Cl_o 1 rfl [some (.int (nI n))] rfl rfl ?_
  simp only [r82_0, r82_1, r82_4, r82_5, r82_8, r82_9, r82_12, r82_13, r82_16, r82_19, r82_20, r82_21, List.length_cons, List.length_nil, Nat.reduceAdd, Nat.reduceLT, if_true, l10, l01, l20, l21, l02, l12, List.append_nil, List.getElem?_cons_zero, List.getElem?_cons_succ, List.set_cons_zero, List.set_cons_succ, not_false_eq_true, not_true_eq_false, false_implies, true_implies, forall_const, Classical.not_not, rc0_at, rcI_at, sOK0, sOK1, sOK2, sOK3, sOK4, true_and, and_true, kil, Option.toList_some, Option.toList_none, List.nil_append, List.cons_append, Option.some.injEq, exists_eq_left', Value.int.injEq, Value.ref.injEq, Value.long.injEq]
  have h1 : ¬ nI n < 0 := nI_pos (by omega)
  have h2 : ¬ (5 : Int32) ≤ nI n := by
    have : (5 : Int32) = nI 5 := rfl
    rw [this]; exact nI_ge hn (by decide)
  have h3 : vp_in (nI n) 5 := vp_in_nI hn (by decide)
  simp [h1, h2, h3, nI_clamp (show n < 2 ^ 31 by omega)]
theorem c_heightAt (d : Nat) {h : pH} {k c : Nat} {hs : List Int32} {w : Bool} (hS : Snd h k hs w) (hc : c < 8) : Cl (d + 1) 29 [.ref k, .int (nI c)] h (some (.int (hx hs c))) h := by
  obtain ⟨h1, h2, hl⟩ := hS
  refine Cl_o 2 rfl [some (.ref k), some (.int (nI c))] rfl rfl ?_
  simp [r29_0, r29_1, r29_4, r29_5, r29_7, r29_8, r29_9, List.length_cons, List.length_nil, Nat.reduceAdd, Nat.reduceLT, if_true, l10, l01, l20, l21, l02, l12, List.append_nil, List.getElem?_cons_zero, List.getElem?_cons_succ, List.set_cons_zero, List.set_cons_succ, not_false_eq_true, not_true_eq_false, false_implies, true_implies, forall_const, Classical.not_not, rc0_at, rcI_at, sOK0, sOK1, sOK2, sOK3, sOK4, true_and, and_true, kil, Option.toList_some, Option.toList_none, List.nil_append, List.cons_append, Option.some.injEq, exists_eq_left', Value.int.injEq, Value.ref.injEq, Value.long.injEq, gf_at h1, c_and c hc, ild8 h2 hl hc]
def lee (w : Bool) (k : Nat) : Nat := if w then up k else dn k
def luf (w : Bool) (k : Nat) : Nat := if w then dn k else up k
theorem lee_lt (w : Bool) (k : Nat) : lee w k < 8 := by unfold lee; split <;> first | exact up_lt k | exact dn_lt k
theorem luf_lt (w : Bool) (k : Nat) : luf w k < 8 := by unfold luf; split <;> first | exact up_lt k | exact dn_lt k
theorem c_leeOf (d : Nat) {h : pH} {k c : Nat} {hs : List Int32} {w : Bool} (hS : Snd h k hs w) (hc : c < 8) : Cl (d + 1) 41 [.ref k, .int (nI c)] h (some (.int (nI (lee w c)))) h := by
  obtain ⟨h1, h2, hl⟩ := hS
  refine Cl_o 2 rfl [some (.ref k), some (.int (nI c))] rfl rfl ?_
  cases w <;> simp [r41_0, r41_1, r41_4, r41_7, r41_8, r41_9, r41_10, r41_13, r41_14, r41_15, r41_16, r41_18, r41_19, List.length_cons, List.length_nil, Nat.reduceAdd, Nat.reduceLT, if_true, l10, l01, l20, l21, l02, l12, List.append_nil, List.getElem?_cons_zero, List.getElem?_cons_succ, List.set_cons_zero, List.set_cons_succ, not_false_eq_true, not_true_eq_false, false_implies, true_implies, forall_const, Classical.not_not, rc0_at, rcI_at, sOK0, sOK1, sOK2, sOK3, sOK4, true_and, and_true, kil, Option.toList_some, Option.toList_none, List.nil_append, List.cons_append, Option.some.injEq, exists_eq_left', Value.int.injEq, Value.ref.injEq, Value.long.injEq, gf_at h1, b2i, lee, c_uand c hc, c_dand c hc]
theorem c_luffOf (d : Nat) {h : pH} {k c : Nat} {hs : List Int32} {w : Bool} (hS : Snd h k hs w) (hc : c < 8) : Cl (d + 1) 42 [.ref k, .int (nI c)] h (some (.int (nI (luf w c)))) h := by
  obtain ⟨h1, h2, hl⟩ := hS
  refine Cl_o 2 rfl [some (.ref k), some (.int (nI c))] rfl rfl ?_
  cases w <;> simp [r42_0, r42_1, r42_4, r42_7, r42_8, r42_9, r42_10, r42_13, r42_14, r42_15, r42_16, r42_18, r42_19, List.length_cons, List.length_nil, Nat.reduceAdd, Nat.reduceLT, if_true, l10, l01, l20, l21, l02, l12, List.append_nil, List.getElem?_cons_zero, List.getElem?_cons_succ, List.set_cons_zero, List.set_cons_succ, not_false_eq_true, not_true_eq_false, false_implies, true_implies, forall_const, Classical.not_not, rc0_at, rcI_at, sOK0, sOK1, sOK2, sOK3, sOK4, true_and, and_true, kil, Option.toList_some, Option.toList_none, List.nil_append, List.cons_append, Option.some.injEq, exists_eq_left', Value.int.injEq, Value.ref.injEq, Value.long.injEq, gf_at h1, b2i, luf, c_uand c hc, c_dand c hc]
/-- 1 a crest, 2 a hollow, 0 neither -/
def shp (hs : List Int32) (c : Nat) : Int32 := if hx hs (dn c) < hx hs c ∧ hx hs (up c) < hx hs c then 1 else if hx hs c < hx hs (dn c) ∧ hx hs c < hx hs (up c) then 2 else 0
theorem c_shapeAt (d : Nat) {h : pH} {k c : Nat} {hs : List Int32} {w : Bool} (hS : Snd h k hs w) (hc : c < 8) : Cl (d + 1) 36 [.ref k, .int (nI c)] h (some (.int (shp hs c))) h := by
  obtain ⟨h1, h2, hl⟩ := hS
  refine Cl_o 5 rfl [some (.ref k), some (.int (nI c)), none, none, none] rfl rfl ?_
  simp only [r36_0, r36_1, r36_4, r36_5, r36_7, r36_8, r36_9, r36_10, r36_11, r36_14, r36_15, r36_16, r36_17, r36_19, r36_20, r36_21, r36_22, r36_23, r36_26, r36_27, r36_28, r36_29, r36_31, r36_32, r36_33, r36_35, r36_36, r36_37, r36_40, r36_41, r36_43, r36_46, r36_47, r36_48, r36_49, r36_50, r36_53, r36_54, r36_56, r36_59, r36_60, r36_63, r36_64, List.length_cons, List.length_nil, Nat.reduceAdd, Nat.reduceLT, if_true, l10, l01, l20, l21, l02, l12, List.append_nil, List.getElem?_cons_zero, List.getElem?_cons_succ, List.set_cons_zero, List.set_cons_succ, not_false_eq_true, not_true_eq_false, false_implies, true_implies, forall_const, Classical.not_not, rc0_at, rcI_at, sOK0, sOK1, sOK2, sOK3, sOK4, true_and, and_true, kil, Option.toList_some, Option.toList_none, List.nil_append, List.cons_append, Option.some.injEq, exists_eq_left', Value.int.injEq, Value.ref.injEq, Value.long.injEq, gf_at h1, c_and c hc, c_uand c hc, c_dand c hc, ild8 h2 hl hc, ild8 h2 hl (up_lt c), ild8 h2 hl (dn_lt c), List.getElem?_cons_zero]
  unfold shp
  simp only [← Int32.not_lt, Classical.not_not]
  by_cases e1 : hx hs (dn c) < hx hs c <;> by_cases e2 : hx hs (up c) < hx hs c <;> by_cases e3 : hx hs c < hx hs (dn c) <;> by_cases e4 : hx hs c < hx hs (up c) <;> simp [e1, e2, e3, e4]
/-- sand goes from one cell to another -/
def mvs (hs : List Int32) (a b : Nat) (m : Int32) : List Int32 := (hs.set a (hx hs a - m)).set b (hx (hs.set a (hx hs a - m)) b + m)
def mnw (m x : Int32) : Int32 := if x < m then x else m
theorem mvs_len (hs : List Int32) (a b : Nat) (m : Int32) : (mvs hs a b m).length = hs.length := by simp [mvs]
theorem Snd.set {h : pH} {k : Nat} {hs hs' : List Int32} {w : Bool} (hS : Snd h k hs w) (hl : hs'.length = 8) : Snd (h.set (k + 1) (.inl hs')) k hs' w := by
  obtain ⟨h1, h2, -⟩ := hS
  have := (List.getElem?_eq_some_iff.mp h2).1
  refine ⟨?_, ?_, hl⟩
  · rw [List.getElem?_set_ne (by omega)]; exact h1
  · rw [List.getElem?_set_self this]
theorem Snd.set2 {h : pH} {k : Nat} {hs hs' : List Int32} {w : Bool} (hS : Snd h k hs w) : (h.set (k + 1) (.inl hs'))[k + 1]? = some (.inl hs') := by
  obtain ⟨h1, h2, -⟩ := hS
  have := (List.getElem?_eq_some_iff.mp h2).1
  rw [List.getElem?_set_self this]
theorem Snd.set1 {h : pH} {k : Nat} {hs : List Int32} {w : Bool} {c : pC} (hS : Snd h k hs w) : (h.set (k + 1) c)[k]? = some (.inr (.inr (5, [.ref (k + 1), .int (b2i w)]))) := by
  rw [List.getElem?_set_ne (by omega)]; exact hS.1
theorem c_moveSand (d : Nat) {h : pH} {k a b : Nat} {hs : List Int32} {w : Bool} {m : Int32} (hS : Snd h k hs w) (ha : a < 8) (hb : b < 8) : Cl (d + 1) 40 [.ref k, .int (nI a), .int (nI b), .int m] h (some (.int (mnw m (hx hs a)))) (h.set (k + 1) (.inl (mvs hs a b (mnw m (hx hs a))))) := by
  have hS0 := hS
  obtain ⟨h1, h2, hl⟩ := hS
  refine Cl_o 5 rfl [some (.ref k), some (.int (nI a)), some (.int (nI b)), some (.int m), none] rfl rfl ?_
  have hl2 : ∀ x, (hs.set a x).length = 8 := fun x => by simp [hl]
  simp [r40_0, r40_1, r40_2, r40_5, r40_6, r40_8, r40_9, r40_10, r40_13, r40_15, r40_16, r40_19, r40_20, r40_22, r40_23, r40_24, r40_25, r40_27, r40_28, r40_29, r40_30, r40_33, r40_34, r40_36, r40_37, r40_38, r40_39, r40_41, r40_42, r40_43, r40_45, List.length_cons, List.length_nil, Nat.reduceAdd, Nat.reduceLT, if_true, l10, l01, l20, l21, l02, l12, List.append_nil, List.getElem?_cons_zero, List.getElem?_cons_succ, List.set_cons_zero, List.set_cons_succ, not_false_eq_true, not_true_eq_false, false_implies, true_implies, forall_const, Classical.not_not, rc0_at, rcI_at, sOK0, sOK1, sOK2, sOK3, sOK4, true_and, and_true, kil, Option.toList_some, Option.toList_none, List.nil_append, List.cons_append, Option.some.injEq, exists_eq_left', Value.int.injEq, Value.ref.injEq, Value.long.injEq, gf_at h1, gf_at hS0.set1, c_and a ha, c_and b hb, ild8 h2 hl ha, ist8 h2 hl ha, ild8 hS0.set2 (hl2 _) hb, ist8 hS0.set2 (hl2 _) hb]
  simp [mvs, mnw]
