/-! ORDER: what is to be found, and that the class finds it -/
/-- all orders of those in 'who', the first by numbers first: the best so far is kept unless a later one is better -/
def spO (w : Bool) (ws : Nat → wkr) (who : List Nat) : Nat → List Nat → Nat → List Int32 → List Nat × Int → List Nat × Int
  | 0, pre, gd, _, st => if st.2 < gd then (pre, gd) else st
  | f + 1, pre, gd, hs, st => who.foldl (fun st m => if m ∈ pre then st else spO w ws who f (pre ++ [m]) (gd + b2n (good hs (ws m))) (gob w (ws m) hs) st) st
def whoL (ws : Nat → wkr) (cnt : Nat) : List Nat := (List.range cnt).filter (fun m => decide (0 < (ws m).2.2.2.2.1))
def ordS (A : landT) : List Nat × Int := spO A.2.1 A.2.2.1 (whoL A.2.2.1 A.2.2.2.1) (whoL A.2.2.1 A.2.2.2.1).length [] 0 A.1 ([], -1)
theorem b2n_le (b : Bool) : b2n b ≤ 1 := by cases b <;> decide
theorem fold_same {α β : Type} (l : List α) (f : β → α → β) (s : β) (h : ∀ a ∈ l, f s a = s) : l.foldl f s = s := by
  induction l with
  | nil => rfl
  | cons a t ih =>
    rw [List.foldl_cons, h a List.mem_cons_self]
    exact ih (fun b hb => h b (List.mem_cons_of_mem _ hb))
/-- no order from here on can be better -/
theorem spO_prune (w : Bool) (ws : Nat → wkr) (who : List Nat) : ∀ (f : Nat) (pre : List Nat) (gd : Nat) (hs : List Int32) (st : List Nat × Int), (gd : Int) + f ≤ st.2 → spO w ws who f pre gd hs st = st
  | 0, pre, gd, hs, st, h => by
    unfold spO
    rw [if_neg (by omega)]
  | f + 1, pre, gd, hs, st, h => by
    unfold spO
    refine fold_same _ _ _ (fun m _ => ?_)
    by_cases e : m ∈ pre
    · rw [if_pos e]
    · rw [if_neg e]
      have := b2n_le (good hs (ws m))
      exact spO_prune w ws who f _ _ _ st (by push_cast; omega)
/-- the mask of those who have gone -/
def gnb (pre : List Nat) : Int32 := pre.foldl (fun g m => g ||| ((1 : Int32) <<< (nI m &&& 31))) 0
theorem gnb_app (pre : List Nat) (m : Nat) : gnb (pre ++ [m]) = gnb pre ||| ((1 : Int32) <<< (nI m &&& 31)) := by simp [gnb]
theorem gn_step : ∀ g, g < 16 → ∀ m, m < 4 → ∃ g', g' < 16 ∧ nI g ||| ((1 : Int32) <<< (nI m &&& 31)) = nI g' ∧ ∀ k, k < 4 → (((nI g' >>> (nI k &&& 31)) &&& 1 = 0) ↔ (¬ k = m ∧ (nI g >>> (nI k &&& 31)) &&& 1 = 0)) := by decide +kernel
theorem gnb_ok : ∀ (pre : List Nat), (∀ m ∈ pre, m < 4) → ∃ g, g < 16 ∧ gnb pre = nI g ∧ ∀ k, k < 4 → (((nI g >>> (nI k &&& 31)) &&& 1 = 0) ↔ k ∉ pre) := by
  intro pre
  induction pre using List.reverseRecOn with
  | nil => intro _; exact ⟨0, by decide, rfl, by decide +kernel⟩
  | append_singleton pre m ih =>
    intro h
    obtain ⟨g, h1, h2, h3⟩ := ih (fun k hk => h k (List.mem_append_left _ hk))
    obtain ⟨g', e1, e2, e3⟩ := gn_step g h1 m (h m (by simp))
    refine ⟨g', e1, by rw [gnb_app, h2, e2], fun k hk => ?_⟩
    rw [e3 k hk, h3 k hk]
    simp
    constructor
    · rintro ⟨a, b⟩; exact ⟨b, a⟩
    · rintro ⟨a, b⟩; exact ⟨b, a⟩
theorem gnb_bit {pre : List Nat} (hp : ∀ m ∈ pre, m < 4) {k : Nat} (hk : k < 4) : ((gnb pre >>> (nI k &&& 31)) &&& 1 = 0) ↔ k ∉ pre := by
  obtain ⟨g, -, h2, h3⟩ := gnb_ok pre hp
  rw [h2]
  exact h3 k hk
/-- what the class holds of the best so far -/
def odR (go : Nat) (pre : List Nat) (a : od3) (st : List Nat × Int) : Prop := a.1.length = 4 ∧ a.2.1.length = 4 ∧ (∀ i, i < pre.length → hx a.1 i = nI (pre.getD i 0)) ∧ (a.2.2.toInt = st.2 ∧ -1 ≤ st.2 ∧ st.2 ≤ 4) ∧ (0 ≤ st.2 → st.1.length = go ∧ ∀ i, i < go → hx a.2.1 i = nI (st.1.getD i 0))
theorem odw_who (rc : Nat → od3 → od3) (ws : Nat → wkr) (gn : Int32) : ∀ (j m : Nat) (st : od3), odw rc (odc ws gn) j m st = ((List.range' m j).filter (fun m => decide (0 < (ws m).2.2.2.2.1))).foldl (fun st m => if (gn >>> (nI m &&& 31)) &&& 1 = 0 then rc m st else st) st
  | 0, _, _ => rfl
  | j + 1, m, st => by
    unfold odw
    rw [odw_who rc ws gn j (m + 1), List.range'_succ, List.filter_cons]
    by_cases h : 0 < (ws m).2.2.2.2.1
    · simp [odc, h]
    · simp [odc, h]
theorem fold_rel {α β γ : Type} (R : β → γ → Prop) (l : List α) (f : β → α → β) (g : γ → α → γ) (h : ∀ a ∈ l, ∀ b c, R b c → R (f b a) (g c a)) : ∀ b c, R b c → R (l.foldl f b) (l.foldl g c) := by
  induction l with
  | nil => intro b c hr; exact hr
  | cons a t ih =>
    intro b c hr
    exact ih (fun x hx => h x (List.mem_cons_of_mem _ hx)) _ _ (h a List.mem_cons_self b c hr)
theorem nI3 (a b c : Nat) (ha : a ≤ 4) (hb : b ≤ 4) (hc : c ≤ 4) : (nI a + nI b - nI c).toInt = (a : Int) + b - c := by
  rw [nI_add]
  exact pk_sub_toInt (by omega) (by omega)
theorem odr_spO (w : Bool) (ws : Nat → wkr) (cnt go : Nat) (hc : cnt ≤ 4) (hgo : go = (whoL ws cnt).length) : ∀ (f : Nat) (pre : List Nat) (gd : Nat) (hs : List Int32) (a : od3) (st : List Nat × Int), pre.length + f = 4 → pre.length ≤ go → (∀ m ∈ pre, m < 4) → gd ≤ pre.length → odR go pre a st → odR go pre (odr w ws cnt go f pre.length (gnb pre) gd hs a) (spO w ws (whoL ws cnt) (go - pre.length) pre gd hs st) := by
  have hgo4 : go ≤ 4 := by
    rw [hgo]; unfold whoL
    exact Nat.le_trans (List.length_filter_le _ _) (by simpa using hc)
  have leaf : ∀ (pre : List Nat) (gd : Nat) (a : od3) (st : List Nat × Int), pre.length = go → gd ≤ pre.length → ¬ ((gd : Int) ≤ st.2) → odR go pre a st → odR go pre (a.1, a.1, nI gd) (if st.2 < (gd : Int) then (pre, (gd : Int)) else st) := by
    intro pre gd a st hp hg hn ⟨r1, r2, r3, r4, r5⟩
    rw [if_pos (by omega)]
    exact ⟨r1, r1, r3, ⟨nI_toInt (by omega), by omega, by omega⟩, fun _ => ⟨hp, fun i hi => r3 i (by omega)⟩⟩
  intro f
  induction f with
  | zero =>
    intro pre gd hs a st h1 h2 hm hg hr
    have e4 : pre.length = 4 := by omega
    have eg : go = 4 := by omega
    have hlt : nI gd + nI go - nI pre.length ≤ a.2.2 ↔ (gd : Int) ≤ st.2 := by
      rw [Int32.le_iff_toInt_le, nI3 gd go pre.length (by omega) (by omega) (by omega), hr.2.2.2.1.1]; omega
    unfold odr
    rw [show go - pre.length = 0 by omega]
    unfold spO
    by_cases q : nI gd + nI go - nI pre.length ≤ a.2.2
    · rw [if_pos q, if_neg (by have := hlt.mp q; omega)]
      exact hr
    · rw [if_neg q]
      exact leaf pre gd a st (by omega) hg (fun z => q (hlt.mpr z)) hr
  | succ f ih =>
    intro pre gd hs a st h1 h2 hm hg hr
    have hlt : nI gd + nI go - nI pre.length ≤ a.2.2 ↔ (gd : Int) + go - pre.length ≤ st.2 := by
      rw [Int32.le_iff_toInt_le, nI3 gd go pre.length (by omega) (by omega) (by omega), hr.2.2.2.1.1]
    unfold odr
    by_cases q : nI gd + nI go - nI pre.length ≤ a.2.2
    · rw [if_pos q, spO_prune w ws _ _ _ _ _ st (by have := hlt.mp q; omega)]
      exact hr
    · rw [if_neg q]
      by_cases q2 : go ≤ pre.length
      · rw [if_pos q2, show go - pre.length = 0 by omega]
        unfold spO
        exact leaf pre gd a st (by omega) hg (fun z => q (hlt.mpr (by omega))) hr
      · rw [if_neg q2, odw_who]
        obtain ⟨f', hf'⟩ : ∃ f', go - pre.length = f' + 1 := ⟨go - pre.length - 1, by omega⟩
        rw [hf']
        unfold spO
        have e0 : (List.range' 0 cnt).filter (fun m => decide (0 < (ws m).2.2.2.2.1)) = whoL ws cnt := by unfold whoL; rw [List.range_eq_range']
        rw [e0]
        refine fold_rel (odR go pre) _ _ _ (fun m hmm b c hbc => ?_) a st hr
        have hm4 : m < 4 := by
          have := List.mem_range.mp (List.mem_of_mem_filter hmm)
          omega
        by_cases qm : m ∈ pre
        · rw [if_pos qm, if_neg (fun z => (gnb_bit hm hm4).mp z qm)]
          exact hbc
        · rw [if_neg qm, if_pos ((gnb_bit hm hm4).mpr qm)]
          have hl : (pre ++ [m]).length = pre.length + 1 := by simp
          have hb2 := b2n_le (good hs (ws m))
          have := ih (pre ++ [m]) (gd + b2n (good hs (ws m))) (gob w (ws m) hs) (b.1.set pre.length (nI m), b.2.1, b.2.2) c (by rw [hl]; omega) (by rw [hl]; omega) (fun k hk => by
            rcases List.mem_append.mp hk with hk | hk
            · exact hm k hk
            · rw [List.mem_singleton.mp hk]; exact hm4) (by rw [hl]; omega) ⟨by simp [hbc.1], hbc.2.1, fun i hi => by
              rw [hl] at hi
              by_cases e : i = pre.length
              · subst e
                have : pre.length < b.1.length := by rw [hbc.1]; omega
                simp [hx, this]
              · have h3 := hbc.2.2.1 i (by omega)
                unfold hx at h3 ⊢
                have hi' : i < pre.length := by omega
                simp [List.getD, List.getElem?_set_ne (Ne.symm e), List.getElem?_append_left hi'] at h3 ⊢
                exact h3, hbc.2.2.2.1, hbc.2.2.2.2⟩
          rw [hl, gnb_app] at this
          rw [show go - (pre.length + 1) = f' by omega] at this
          exact ⟨this.1, this.2.1, fun i hi => by
            have h3 := this.2.2.1 i (by rw [hl]; omega)
            simp [List.getD, List.getElem?_append_left hi] at h3 ⊢
            exact h3, this.2.2.2⟩
theorem whoL_len (ws : Nat → wkr) (cnt : Nat) : (whoL ws cnt).length = mps ws cnt := by
  unfold whoL mps
  rw [List.range_eq_range']
  generalize List.range' 0 cnt = l
  induction l with
  | nil => rfl
  | cons a t ih =>
    rw [List.filter_cons, List.map_cons, List.sum_cons]
    by_cases h : 0 < (ws a).2.2.2.2.1
    · simp [h, b2n, ih]; omega
    · simp [h, b2n, ih]
theorem odS_ok (A : landT) (hc : A.2.2.2.1 ≤ 4) (tn bs : List Int32) (h1 : tn.length = 4) (h2 : bs.length = 4) : odR (mps A.2.2.1 A.2.2.2.1) [] (odS A.2.1 A.2.2.1 A.2.2.2.1 A.1 tn bs) (ordS A) := by
  have := odr_spO A.2.1 A.2.2.1 A.2.2.2.1 (mps A.2.2.1 A.2.2.2.1) hc (whoL_len _ _).symm 4 [] 0 A.1 (tn, bs, -1) ([], -1) rfl (Nat.zero_le _) (fun m hm => by cases hm) (Nat.le_refl _) ⟨h1, h2, fun i hi => by cases hi, ⟨rfl, by decide, by decide⟩, fun z => absurd z (by decide)⟩
  unfold odS ordS
  rw [whoL_len]
  exact this
/-- some order is found -/
theorem spO_ge (w : Bool) (ws : Nat → wkr) (who : List Nat) : ∀ (f : Nat) (pre : List Nat) (gd : Nat) (hs : List Int32) (st : List Nat × Int), st.2 ≤ (spO w ws who f pre gd hs st).2
  | 0, pre, gd, hs, st => by
    unfold spO
    split <;> simp <;> omega
  | f + 1, pre, gd, hs, st => by
    unfold spO
    generalize who = l
    suffices h : ∀ (l : List Nat) (st : List Nat × Int), st.2 ≤ (l.foldl (fun st m => if m ∈ pre then st else spO w ws who f (pre ++ [m]) (gd + b2n (good hs (ws m))) (gob w (ws m) hs) st) st).2 by exact sorry
    sorry
