def cG : List Cond := lw_tbl.filter goodWord
/-! how the pure machine lies in the machine: places from a base on -/
abbrev gG : Type := Nat × Nat × Nat × ClassId × (Nat → ClassId) × va_G
def rn (g : gG) : Value → Value
  | .ref k => .ref (g.1 + k)
  | .float w => .ref (if w = 0 then g.2.1 else g.2.2.1)
  | v => v
theorem rn_cat (g : gG) (v : Value) : (rn g v).category = v.category := by cases v <;> rfl
def wE (g : gG) : pC → va_E
  | .inl xs => .inl (g.2.2.2.1, xs.length, .inl (fun j => xs.getD j 0))
  | .inr (.inl q) => .inl (g.2.2.2.2.1 q.1, q.2.length, .inr (.inr (.inr (.inr (fun j => (q.2.getD j none).map (fun k => g.1 + k))))))
  | .inr (.inr q) => .inr (q.1, q.2.map (rn g))
def wR (g : gG) (h : pH) (H : Heap) : Prop := H.size = g.1 + h.length ∧ ∀ (k : Nat) (c : pC), h[k]? = some c → va_at g.2.2.2.2.2 vwCl (g.1 + k, wE g c) H
abbrev nA (g : gG) : Nat → Prop := fun q => g.1 ≤ q
def nests : List (String × Nat × MethodName × String) := [("DuneMaps", 11, { cls := "DuneMaps$Page", name := "<init>", desc := "()V" }, "DuneMaps"), ("DuneMaps$Land", 11, { cls := "DuneMaps$Sand", name := "<init>", desc := "()V" }, "DuneMaps"), ("DuneMaps$Land", 24, { cls := "DuneMaps$Walker", name := "<init>", desc := "()V" }, "DuneMaps"), ("DuneMaps", 28, { cls := "DuneMaps$Sand", name := "<init>", desc := "()V" }, "DuneMaps"), ("DuneMaps$Ordering", 24, { cls := "DuneMaps$Sand", name := "<init>", desc := "()V" }, "DuneMaps"), ("DuneMaps$Footing", 17, { cls := "DuneMaps$Sand", name := "<init>", desc := "()V" }, "DuneMaps"), ("DuneMaps", 52, { cls := "DuneMaps$Dusk", name := "<init>", desc := "()V" }, "DuneMaps"), ("DuneMaps$Land", 46, { cls := "DuneMaps", name := "asNumber", desc := "(Z)I" }, "DuneMaps"), ("DuneMaps$Walker", 31, { cls := "DuneMaps", name := "beside", desc := "(II)I" }, "DuneMaps"), ("DuneMaps$Sand", 52, { cls := "DuneMaps", name := "weightOf", desc := "(I)I" }, "DuneMaps"), ("DuneMaps$Ordering", 71, { cls := "DuneMaps", name := "asNumber", desc := "(Z)I" }, "DuneMaps"), ("DuneMaps$Footing", 55, { cls := "DuneMaps", name := "beside", desc := "(II)I" }, "DuneMaps"), ("DuneMaps$Dusk", 32, { cls := "DuneMaps", name := "beside", desc := "(II)I" }, "DuneMaps")]
abbrev tyl (g : gG) : List (ClassId × FieldType) := [(g.2.2.2.1, .int), (g.2.2.2.2.1 0, .object RX5), (g.2.2.2.2.1 1, .object RX6)]
def cxK (g : gG) (U : State) : Prop := va_K g.2.2.2.2.2 vwCl (tyl g) U ∧ (∀ q ∈ nests, va_Nw (.methodLinkNest q.1 q.2.1 q.2.2.1 q.2.2.2) U) ∧ va_AO RX5 U ∧ va_AO RX6 U
def cxZ (g : gG) (U : State) (H : Heap) : Prop := va_Z "DuneMaps" "WEIGHTS" "[I" (.ref g.2.1) (nA g) U H ∧ va_T .int g.2.1 5 (fun j => .int (wts j)) (nA g) U H
theorem cxK.warm {g : gG} {s U : State} (hW : s.WarmedH U.vm) (h : cxK g s) : cxK g U := ⟨h.1.moved hW.alike, fun q hq => va_Nw.warmM hW (h.2.1 q hq), va_AO.moved hW.alike h.2.2.1, va_AO.moved hW.alike h.2.2.2⟩
theorem cxK.same {g : gG} {s U : State} (hv : s.vm = U.vm) (h : cxK g s) : cxK g U := by
  have ha : s.vm.Alike U.vm := hv ▸ Vm.Alike.refl s.vm
  exact ⟨h.1.moved ha, fun q hq => va_Nw.same rfl hv (h.2.1 q hq), va_AO.moved ha h.2.2.1, va_AO.moved ha h.2.2.2⟩
theorem cxZ.moved {g : gG} {s U : State} {H : Heap} (hv : s.vm.Alike U.vm) (h : cxZ g s H) : cxZ g U H := ⟨h.1.moved hv, h.2.moved hv⟩
theorem cxZ.kept {g : gG} {U : State} {H H1 : Heap} (h : cxZ g U H) (hq : ∀ a : Nat, a < H.size → ¬ nA g a → H1[a]? = H[a]?) : cxZ g U H1 := ⟨h.1.kept hq, h.2.kept hq⟩
theorem wR.at {g : gG} {h : pH} {H : Heap} (w : wR g h H) {k : Nat} {c : pC} (hk : h[k]? = some c) : va_P g.2.2.2.2.2 vwCl [(g.1 + k, wE g c)] H := by
  intro i q hi
  cases i with
  | zero => cases hi; exact w.2 k c hk
  | succ i => simp at hi
theorem wR.set {g : gG} {h : pH} {H H1 : Heap} (w : wR g h H) {k : Nat} {c0 c : pC} (hk : h[k]? = some c0) (hz : H1.size = H.size) (oq : ∀ q : Nat, q ≠ g.1 + k → H1[q]? = H[q]?) (he : va_at g.2.2.2.2.2 vwCl (g.1 + k, wE g c) H1) : wR g (h.set k c) H1 := by
  have hl := (List.getElem?_eq_some_iff.mp hk).1
  refine ⟨by rw [hz, List.length_set]; exact w.1, fun j d hj => ?_⟩
  by_cases e : j = k
  · subst e
    rw [List.getElem?_set_self hl] at hj
    cases hj
    exact he
  · rw [List.getElem?_set_ne (Ne.symm e)] at hj
    exact (w.2 j d hj).kept (oq _ (fun z => e (by simpa using z)))
theorem wR.push {g : gG} {h : pH} {H H1 : Heap} (w : wR g h H) {c : pC} (hz : H1.size = H.size + 1) (oq : ∀ q : Nat, q < H.size → H1[q]? = H[q]?) (he : va_at g.2.2.2.2.2 vwCl (H.size, wE g c) H1) : wR g (h ++ [c]) H1 := by
  refine ⟨by rw [hz, List.length_append, w.1]; simp; omega, fun j d hj => ?_⟩
  by_cases e : j < h.length
  · rw [List.getElem?_append_left e] at hj
    exact (w.2 j d hj).kept (oq _ (by rw [w.1]; show g.1 + j < _; omega))
  · rw [List.getElem?_append_right (by omega)] at hj
    have hz : j - h.length < 1 := (List.getElem?_eq_some_iff.mp hj).1
    have hj0 : j = h.length := by omega
    subst hj0
    rw [Nat.sub_self] at hj
    cases hj
    rw [w.1] at he
    exact he
/-! locals -/
def lvh (g : gG) (ls : Array Slot) (nL : Nat) (L : pL) : Prop := ls.size = nL ∧ L.length = nL ∧ lv_wf ls ∧ ∀ (i : Nat) (v : Value), L[i]? = some (some v) → ls[i]? = some (.val (rn g v))
def asc (g : gG) (L : pL) : List (Nat × Value) := (List.range L.length).filterMap (fun i => (L.getD i none).map (fun v => (i, rn g v)))
theorem asc_mem {g : gG} {L : pL} {i : Nat} {v : Value} (h : L[i]? = some (some v)) : (i, rn g v) ∈ asc g L := by
  refine List.mem_filterMap.mpr ⟨i, List.mem_range.mpr (List.getElem?_eq_some_iff.mp h).1, ?_⟩
  simp [List.getD, h]
theorem lvh.has {g : gG} {ls : Array Slot} {nL : Nat} {L : pL} (h : lvh g ls nL L) : lv_has ls nL (asc g L) := by
  refine ⟨h.1, h.2.2.1, fun q hq => ?_⟩
  obtain ⟨i, -, hi⟩ := List.mem_filterMap.mp hq
  obtain ⟨v, hv, rfl⟩ := Option.map_eq_some_iff.mp hi
  refine h.2.2.2 i v ?_
  cases hL : L[i]? with
  | none => simp [List.getD, hL] at hv
  | some o => simp [List.getD, hL] at hv; rw [hv]
theorem kil_some {o : Option Value} {v : Value} (h : kil o = some v) : o = some v ∧ v.category = 1 := by
  cases o with
  | none => cases h
  | some w => cases w <;> first | (cases h; done) | (cases h; exact ⟨rfl, rfl⟩)
theorem st1_len (L : pL) (i : Nat) (v : Value) : (st1 L i v).length = L.length := by cases i <;> simp [st1]
theorem st1_get {L : pL} {i j : Nat} {v w : Value} (hi : i < L.length) (h : (st1 L i v)[j]? = some (some w)) : (j = i ∧ w = v) ∨ (j ≠ i ∧ L[j]? = some (some w) ∧ (j + 1 = i → w.category = 1)) := by
  cases i with
  | zero =>
    by_cases e : j = 0
    · subst e
      simp only [st1] at h
      rw [List.getElem?_set_self hi] at h
      cases h
      exact Or.inl ⟨rfl, rfl⟩
    · simp only [st1] at h
      rw [List.getElem?_set_ne (Ne.symm e)] at h
      exact Or.inr ⟨e, h, fun z => by omega⟩
  | succ i =>
    by_cases e : j = i + 1
    · subst e
      simp only [st1] at h
      rw [List.getElem?_set_self (by simpa using hi)] at h
      cases h
      exact Or.inl ⟨rfl, rfl⟩
    · simp only [st1] at h
      rw [List.getElem?_set_ne (Ne.symm e)] at h
      by_cases e2 : j = i
      · subst e2
        rw [List.getElem?_set_self (by omega)] at h
        obtain ⟨h1, h2⟩ := kil_some (Option.some.inj h)
        refine Or.inr ⟨e, ?_, fun _ => h2⟩
        have hj : j < L.length := by omega
        rw [List.getElem?_eq_getElem hj]
        simp [List.getD, hj] at h1
        rw [h1]
      · rw [List.getElem?_set_ne (Ne.symm e2)] at h
        exact Or.inr ⟨e, h, fun z => absurd (by omega) e2⟩
theorem lvh_st1 {g : gG} {ls ls' : Array Slot} {nL : Nat} {L : pL} {i : Nat} {v : Value} (h : lvh g ls nL L) (hi : i < L.length) (h' : lv_has ls' nL ((i, rn g v) :: (asc g L).filter (fun q => !(q.1 == i) && !(q.1 + 1 == i && q.2.category == 2)))) : lvh g ls' nL (st1 L i v) := by
  refine ⟨h'.1, by rw [st1_len]; exact h.2.1, h'.2.1, fun j w hj => ?_⟩
  rcases st1_get hi hj with ⟨rfl, rfl⟩ | ⟨h1, h2, h3⟩
  · exact h'.2.2 _ List.mem_cons_self
  · refine h'.2.2 (j, rn g w) (List.mem_cons_of_mem _ (List.mem_filter.mpr ⟨asc_mem h2, ?_⟩))
    by_cases e : j + 1 = i
    · simp [h1, rn_cat, h3 e]
    · simp [h1, e]
theorem lvh_st2 {g : gG} {ls ls' : Array Slot} {nL : Nat} {L : pL} {i : Nat} {v : Value} (h : lvh g ls nL L) (hi : i + 1 < L.length) (h' : lv_has ls' nL ((i, rn g v) :: (asc g L).filter (fun q => !(q.1 == i) && (!(q.1 == i + 1) && !(q.1 + 1 == i && q.2.category == 2))))) : lvh g ls' nL (st2 L i v) := by
  refine ⟨h'.1, by unfold st2; rw [List.length_set, st1_len]; exact h.2.1, h'.2.1, fun j w hj => ?_⟩
  have hne : j ≠ i + 1 := by
    rintro rfl
    unfold st2 at hj
    rw [List.getElem?_set_self (by rw [st1_len]; exact hi)] at hj
    cases hj
  unfold st2 at hj
  rw [List.getElem?_set_ne (Ne.symm hne)] at hj
  rcases st1_get (by omega) hj with ⟨rfl, rfl⟩ | ⟨h1, h2, h3⟩
  · exact h'.2.2 _ List.mem_cons_self
  · refine h'.2.2 (j, rn g w) (List.mem_cons_of_mem _ (List.mem_filter.mpr ⟨asc_mem h2, ?_⟩))
    by_cases e : j + 1 = i
    · simp [h1, hne, rn_cat, h3 e]
    · simp [h1, hne, e]
theorem lvh_inc {g : gG} {ls ls' : Array Slot} {nL : Nat} {L : pL} {i : Nat} {x y : Int32} (h : lvh g ls nL L) (hx : L[i]? = some (some (.int x))) (h' : lv_has ls' nL ((i, .int y) :: (asc g L).filter (fun q => !(q.1 == i) && !(q.1 + 1 == i && q.2.category == 2)))) : lvh g ls' nL (L.set i (some (.int y))) := by
  have hi := (List.getElem?_eq_some_iff.mp hx).1
  refine ⟨h'.1, by rw [List.length_set]; exact h.2.1, h'.2.1, fun j w hj => ?_⟩
  by_cases e : j = i
  · subst e
    rw [List.getElem?_set_self hi] at hj
    cases hj
    exact h'.2.2 _ List.mem_cons_self
  · rw [List.getElem?_set_ne (Ne.symm e)] at hj
    refine h'.2.2 (j, rn g w) (List.mem_cons_of_mem _ (List.mem_filter.mpr ⟨asc_mem hj, ?_⟩))
    have h1 := h.2.2.2 j w hj
    have h2 := h.2.2.2 i _ hx
    have h3 : j + 1 = i → ¬ (rn g w).category = 2 := by
      rintro rfl hc
      have := h.2.2.1.1 j _ h1 hc
      rw [h2] at this
      cases this
    by_cases e2 : j + 1 = i
    · simp [e, h3 e2]
    · simp [e, e2]
theorem ent_lvh (g : gG) (vs : List Value) (n : Nat) (h : (ent vs).length ≤ n) : lvh g ((lg_sl (vs.map (rn g)) ++ List.replicate (n - (lg_sl (vs.map (rn g))).length) Slot.unset).toArray) n (entL n vs) := by
  have hlen : ∀ vs : List Value, (lg_sl (vs.map (rn g))).length = (ent vs).length := by
    intro vs
    induction vs with
    | nil => rfl
    | cons v vs ih =>
      by_cases hc : v.category = 2
      · simp [lg_sl, ent, rn_cat, hc] at ih ⊢; exact ih
      · simp [lg_sl, ent, rn_cat, hc] at ih ⊢; exact ih
  have he := lv_entry (vs.map (rn g)) (n := n) (by rw [hlen]; exact h)
  refine ⟨he.1, by simp [entL]; omega, he.2.1, ?_⟩
  have key : ∀ (vs : List Value) (i : Nat) (v : Value) (o : Nat), (ent vs)[i]? = some (some v) → (o + i, rn g v) ∈ lv_args o (vs.map (rn g)) := by
    intro vs
    induction vs with
    | nil => intro i v o h; simp [ent] at h
    | cons a vs ih =>
      intro i v o h
      by_cases hc : a.category = 2
      · simp only [ent, hc, if_true] at h
        simp only [List.map_cons, lv_args, rn_cat, hc, if_true]
        match i, h with
        | 0, h => simp at h; subst h; exact List.mem_cons_self
        | 1, h => simp at h
        | i + 2, h =>
          simp at h
          have := ih i v (o + 2) h
          rw [show o + (i + 2) = o + 2 + i by omega]
          exact List.mem_cons_of_mem _ this
      · simp only [ent, hc, if_false] at h
        simp only [List.map_cons, lv_args, rn_cat, hc, if_false]
        match i, h with
        | 0, h => simp at h; subst h; exact List.mem_cons_self
        | i + 1, h =>
          simp at h
          have := ih i v (o + 1) h
          rw [show o + (i + 1) = o + 1 + i by omega]
          exact List.mem_cons_of_mem _ this
  intro i v hi
  refine he.2.2 (i, rn g v) ?_
  have hi2 : (ent vs)[i]? = some (some v) := by
    by_cases hl : i < (ent vs).length
    · rw [entL, List.getElem?_append_left hl] at hi; exact hi
    · rw [entL, List.getElem?_append_right (by omega)] at hi
      have := List.mem_of_getElem? hi
      rw [List.mem_replicate] at this
      cases this.2
  have := key vs i v 0 hi2
  rwa [Nat.zero_add] at this
