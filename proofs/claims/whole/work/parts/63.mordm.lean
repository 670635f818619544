/-! ORDER as the reference finds it -/
/-- the last f digits of a code to the base g, the highest first -/
def dgt (g : Nat) : Nat → Nat → List Nat
  | 0, _ => []
  | f + 1, code => code / g ^ f % g :: dgt g f code
/-- which digits were seen -/
def sn4 (g : Nat) : Nat → Nat → Int32 → Int32
  | 0, _, s => s
  | j + 1, l, s => sn4 g j (l / g) (s ||| ((1 : Int32) <<< (nI (l % g) &&& 31)))
theorem sn4_ok : ∀ g, g < 5 → ∀ code, code < g ^ g → (decide (sn4 g g code 0 = ((1 : Int32) <<< (nI g &&& 31)) - 1)) = decide (dgt g g code).Nodup := by decide +kernel
/-- how many good maps in this order -/
def evO (w : Bool) (ws : Nat → wkr) : List Nat → Nat → List Int32 → Nat
  | [], gd, _ => gd
  | m :: t, gd, hs => evO w ws t (gd + b2n (good hs (ws m))) (gob w (ws m) hs)
def whW (who : List Nat) (i : Nat) : Nat := who.getD i 0
def updO (w : Bool) (ws : Nat → wkr) (pre ms : List Nat) (gd : Nat) (hs : List Int32) (st : List Nat × Int) : List Nat × Int := if st.2 < evO w ws ms gd hs then (pre ++ ms, evO w ws ms gd hs) else st
def refO (w : Bool) (ws : Nat → wkr) (who : List Nat) (f : Nat) (pre : List Nat) (gd : Nat) (hs : List Int32) (st : List Nat × Int) : List Nat × Int := (List.range (who.length ^ f)).foldl (fun st c => if (pre ++ (dgt who.length f c).map (whW who)).Nodup then updO w ws pre ((dgt who.length f c).map (whW who)) gd hs st else st) st
theorem fold_range_mul {β : Type} (F : β → Nat → β) (b : Nat) : ∀ (a : Nat) (st : β), (List.range (a * b)).foldl F st = (List.range a).foldl (fun st d => (List.range b).foldl (fun st c => F st (d * b + c)) st) st
  | 0, st => by simp
  | a + 1, st => by
    rw [Nat.succ_mul, List.range_add, List.foldl_append, fold_range_mul F b a, List.range_succ, List.foldl_append]
    simp [List.foldl_map]
theorem dgt_add (g : Nat) (hg : 0 < g) : ∀ (f k d c : Nat), f ≤ k → dgt g f (d * g ^ k + c) = dgt g f c
  | 0, _, _, _, _ => rfl
  | f + 1, k, d, c, h => by
    unfold dgt
    rw [dgt_add g hg f k d c (by omega)]
    obtain ⟨e, rfl⟩ : ∃ e, k = f + (e + 1) := ⟨k - f - 1, by omega⟩
    have : (d * g ^ (f + (e + 1)) + c) / g ^ f % g = c / g ^ f % g := by
      have h1 : d * g ^ (f + (e + 1)) = (d * g ^ e * g) * g ^ f := by
        rw [Nat.pow_add, Nat.pow_succ]
        rw [Nat.mul_assoc d, Nat.mul_assoc d, Nat.mul_comm (g ^ f)]
      rw [h1, Nat.add_comm, Nat.add_mul_div_right _ _ (Nat.pow_pos hg), Nat.add_mul_mod_self_right]
    rw [this]
theorem dgt_head (g f d c : Nat) (hg : 0 < g) (hd : d < g) (hc : c < g ^ f) : dgt g (f + 1) (d * g ^ f + c) = d :: dgt g f c := by
  show (d * g ^ f + c) / g ^ f % g :: dgt g f (d * g ^ f + c) = _
  rw [dgt_add g hg f f d c (Nat.le_refl _), Nat.add_comm, Nat.add_mul_div_right _ _ (Nat.pow_pos hg), Nat.div_eq_of_lt hc, Nat.zero_add, Nat.mod_eq_of_lt hd]
theorem fold_congr {α β : Type} (l : List α) (f g : β → α → β) (h : ∀ a ∈ l, ∀ s, f s a = g s a) : ∀ s, l.foldl f s = l.foldl g s := by
  induction l with
  | nil => intro s; rfl
  | cons a t ih =>
    intro s
    rw [List.foldl_cons, List.foldl_cons, h a List.mem_cons_self]
    exact ih (fun b hb => h b (List.mem_cons_of_mem _ hb)) _
theorem who_range (who : List Nat) : who = (List.range who.length).map (whW who) := by
  apply List.ext_getElem?
  intro i
  rw [List.getElem?_map]
  by_cases h : i < who.length
  · rw [List.getElem?_range h]
    simp [whW, List.getD, h]
  · rw [List.getElem?_eq_none (by omega), List.getElem?_eq_none (by simp; omega)]
    rfl
theorem spO_ref (w : Bool) (ws : Nat → wkr) (who : List Nat) : ∀ (f : Nat) (pre : List Nat) (gd : Nat) (hs : List Int32) (st : List Nat × Int), pre.Nodup → spO w ws who f pre gd hs st = refO w ws who f pre gd hs st := by
  intro f
  induction f with
  | zero =>
    intro pre gd hs st hp
    unfold refO spO
    simp [dgt, hp, updO, evO]
  | succ f ih =>
    intro pre gd hs st hp
    unfold refO
    rw [Nat.pow_succ, Nat.mul_comm, fold_range_mul]
    show who.foldl _ st = _
    conv => lhs; rw [who_range who]
    rw [List.foldl_map]
    refine fold_congr _ _ _ (fun d hd s => ?_) st
    have hd' : d < who.length := List.mem_range.mp hd
    have e1 : ∀ c ∈ List.range (who.length ^ f), dgt who.length (f + 1) (d * who.length ^ f + c) = d :: dgt who.length f c := fun c hc => dgt_head _ _ _ _ (by omega) hd' (List.mem_range.mp hc)
    rw [← who_range who]
    by_cases q : whW who d ∈ pre
    · rw [if_pos q]
      rw [fold_same]
      intro c hc
      rw [e1 c hc, if_neg]
      intro hn
      rw [List.map_cons] at hn
      have := (List.nodup_append.mp hn).2.2 _ q _ List.mem_cons_self
      exact this rfl
    · rw [if_neg q]
      have hp2 : (pre ++ [whW who d]).Nodup := by
        rw [List.nodup_append]
        refine ⟨hp, by simp, fun a ha b hb => ?_⟩
        rw [List.mem_singleton] at hb
        subst hb
        intro e
        subst e
        exact q ha
      rw [ih _ _ _ _ hp2]
      unfold refO
      refine fold_congr _ _ _ (fun c hc s => ?_) s
      have e2 : pre ++ whW who d :: (dgt who.length f c).map (whW who) = pre ++ [whW who d] ++ (dgt who.length f c).map (whW who) := List.append_cons _ _ _
      rw [e1 c hc, List.map_cons, e2]
      by_cases q2 : (pre ++ [whW who d] ++ (dgt who.length f c).map (whW who)).Nodup
      · rw [if_pos q2, if_pos q2]
        unfold updO
        rw [← e2]
        rfl
      · rw [if_neg q2, if_neg q2]
theorem dgt_lt (g : Nat) (hg : 0 < g) : ∀ (f c : Nat), ∀ x ∈ dgt g f c, x < g
  | 0, _, x, h => by simp [dgt] at h
  | f + 1, c, x, h => by
    unfold dgt at h
    rcases List.mem_cons.mp h with rfl | h
    · exact Nat.mod_lt _ hg
    · exact dgt_lt g hg f c x h
theorem dgt_len (g : Nat) : ∀ (f c : Nat), (dgt g f c).length = f
  | 0, _ => rfl
  | f + 1, c => by unfold dgt; rw [List.length_cons, dgt_len g f c]
theorem whW_inj {who : List Nat} (hn : who.Nodup) {i j : Nat} (hi : i < who.length) (hj : j < who.length) (h : whW who i = whW who j) : i = j := by
  unfold whW at h
  rw [List.getD_eq_getElem?_getD, List.getD_eq_getElem?_getD, List.getElem?_eq_getElem hi, List.getElem?_eq_getElem hj] at h
  exact (List.getElem_inj hn).mp h
theorem nodup_map_whW {who : List Nat} (hn : who.Nodup) : ∀ (l : List Nat), (∀ x ∈ l, x < who.length) → ((l.map (whW who)).Nodup ↔ l.Nodup)
  | [], _ => by simp
  | a :: t, h => by
    rw [List.map_cons, List.nodup_cons, List.nodup_cons, nodup_map_whW hn t (fun x hx => h x (List.mem_cons_of_mem _ hx))]
    refine and_congr_left (fun _ => not_congr ⟨fun hm => ?_, fun hm => List.mem_map_of_mem hm⟩)
    obtain ⟨b, hb, e⟩ := List.mem_map.mp hm
    have := whW_inj hn (h b (List.mem_cons_of_mem _ hb)) (h a List.mem_cons_self) e
    subst this
    exact hb
/-- one code of the reference -/
def cdO (A : landT) (c : Nat) (st : List Nat × Int) : List Nat × Int := if (dgt (mps A.2.2.1 A.2.2.2.1) (mps A.2.2.1 A.2.2.2.1) c).Nodup then updO A.2.1 A.2.2.1 [] ((dgt (mps A.2.2.1 A.2.2.2.1) (mps A.2.2.1 A.2.2.2.1) c).map (whW (whoL A.2.2.1 A.2.2.2.1))) 0 A.1 st else st
theorem ordS_ref (A : landT) : ordS A = (List.range (mps A.2.2.1 A.2.2.2.1 ^ mps A.2.2.1 A.2.2.2.1)).foldl (fun st c => cdO A c st) ([], -1) := by
  have hn : (whoL A.2.2.1 A.2.2.2.1).Nodup := List.Pairwise.filter _ List.nodup_range
  unfold ordS
  rw [spO_ref _ _ _ _ _ _ _ _ List.nodup_nil]
  unfold refO
  rw [whoL_len]
  refine fold_congr _ _ _ (fun c hc s => ?_) _
  unfold cdO
  rw [List.nil_append]
  have := nodup_map_whW hn (dgt (mps A.2.2.1 A.2.2.2.1) (mps A.2.2.1 A.2.2.2.1) c) (fun x hx => by
    rw [whoL_len]
    refine dgt_lt _ ?_ _ _ x hx
    rcases Nat.eq_zero_or_pos (mps A.2.2.1 A.2.2.2.1) with z | z
    · rw [z] at hx; simp [dgt] at hx
    · exact z)
  by_cases q : (dgt (mps A.2.2.1 A.2.2.2.1) (mps A.2.2.1 A.2.2.2.1) c).Nodup
  · rw [if_pos q, if_pos (this.mpr q)]
  · rw [if_neg q, if_neg (fun z => q (this.mp z))]
