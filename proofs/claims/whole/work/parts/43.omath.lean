/-! ORDER: what is to be found, and that the class finds it -/
/-- all orders of those in 'who', the first by numbers first: the best so far is kept unless a later one is better -/
def spO (w : Bool) (ws : Nat → wkr) (who : List Nat) : Nat → List Nat → Nat → List Int32 → List Nat × Int → List Nat × Int
  | 0, pre, gd, _, st => if st.2 < gd then (pre, gd) else st
  | f + 1, pre, gd, hs, st => who.foldl (fun st m => if m ∈ pre then st else spO w ws who f (pre ++ [m]) (gd + b2n (good hs (ws m))) (gob w (ws m) hs) st) st
def whoL (ws : Nat → wkr) (cnt : Nat) : List Nat := (List.range cnt).filter (fun m => decide (0 < (ws m).2.2.2.2.1))
def ordS (A : landT) : List Nat × Int := spO A.2.1 A.2.2.1 (whoL A.2.2.1 A.2.2.2.1) (whoL A.2.2.1 A.2.2.2.1).length [] 0 A.1 ([], -1)
theorem b2n_le (b : Bool) : b2n b ≤ 1 := by cases b <;> decide
theorem fold_same {α β : Type} (l : List α) (f : β → α → β) (s : β) (h : ∀ a ∈ l, f s a = s) : l.foldl f s = s := by
  induction l with
  | nil => rfl
  | cons a t ih =>
    rw [List.foldl_cons, h a List.mem_cons_self]
    exact ih (fun b hb => h b (List.mem_cons_of_mem _ hb))
/-- no order from here on can be better -/
theorem spO_prune (w : Bool) (ws : Nat → wkr) (who : List Nat) : ∀ (f : Nat) (pre : List Nat) (gd : Nat) (hs : List Int32) (st : List Nat × Int), (gd : Int) + f ≤ st.2 → spO w ws who f pre gd hs st = st
  | 0, pre, gd, hs, st, h => by
    unfold spO
    rw [if_neg (by omega)]
  | f + 1, pre, gd, hs, st, h => by
    unfold spO
    refine fold_same _ _ _ (fun m _ => ?_)
    by_cases e : m ∈ pre
    · rw [if_pos e]
    · rw [if_neg e]
      have := b2n_le (good hs (ws m))
      exact spO_prune w ws who f _ _ _ st (by push_cast; omega)
/-- the mask of those who have gone -/
def gnb (pre : List Nat) : Int32 := pre.foldl (fun g m => g ||| ((1 : Int32) <<< (nI m &&& 31))) 0
theorem gnb_app (pre : List Nat) (m : Nat) : gnb (pre ++ [m]) = gnb pre ||| ((1 : Int32) <<< (nI m &&& 31)) := by simp [gnb]
theorem gn_step : ∀ g, g < 16 → ∀ m, m < 4 → (g ||| 2 ^ m) < 16 ∧ nI g ||| ((1 : Int32) <<< (nI m &&& 31)) = nI (g ||| 2 ^ m) ∧ ∀ k, k < 4 → (((nI (g ||| 2 ^ m) >>> (nI k &&& 31)) &&& 1 = 0) ↔ (¬ k = m ∧ (nI g >>> (nI k &&& 31)) &&& 1 = 0)) := by decide +kernel
theorem gnb_ok' : ∀ (pre S : List Nat) (g : Nat), g < 16 → (∀ k, k < 4 → (((nI g >>> (nI k &&& 31)) &&& 1 = 0) ↔ k ∉ S)) → (∀ m ∈ pre, m < 4) → ∃ g', g' < 16 ∧ pre.foldl (fun g m => g ||| ((1 : Int32) <<< (nI m &&& 31))) (nI g) = nI g' ∧ ∀ k, k < 4 → (((nI g' >>> (nI k &&& 31)) &&& 1 = 0) ↔ k ∉ S ++ pre) := by
  intro pre
  induction pre with
  | nil => intro S g hg hS _; exact ⟨g, hg, rfl, by simpa using hS⟩
  | cons m t ih =>
    intro S g hg hS hm
    obtain ⟨e1, e2, e3⟩ := gn_step g hg m (hm m List.mem_cons_self)
    obtain ⟨g', f1, f2, f3⟩ := ih (S ++ [m]) _ e1 (fun k hk => by
      rw [e3 k hk, hS k hk]
      simp only [List.mem_append, List.mem_singleton, not_or]
      exact ⟨fun ⟨a, b⟩ => ⟨b, a⟩, fun ⟨a, b⟩ => ⟨b, a⟩⟩) (fun k hk => hm k (List.mem_cons_of_mem _ hk))
    refine ⟨g', f1, by rw [List.foldl_cons, e2, f2], fun k hk => ?_⟩
    rw [f3 k hk, List.append_assoc, List.singleton_append]
theorem gnb_ok (pre : List Nat) (h : ∀ m ∈ pre, m < 4) : ∃ g, g < 16 ∧ gnb pre = nI g ∧ ∀ k, k < 4 → (((nI g >>> (nI k &&& 31)) &&& 1 = 0) ↔ k ∉ pre) := by
  have := gnb_ok' pre [] 0 (by decide) (by decide +kernel) h
  simpa [gnb, nI_0] using this
theorem gnb_bit {pre : List Nat} (hp : ∀ m ∈ pre, m < 4) {k : Nat} (hk : k < 4) : ((gnb pre >>> (nI k &&& 31)) &&& 1 = 0) ↔ k ∉ pre := by
  obtain ⟨g, -, h2, h3⟩ := gnb_ok pre hp
  rw [h2]
  exact h3 k hk
/-- what the class holds of the best so far -/
def odR (go : Nat) (pre : List Nat) (a : od3) (st : List Nat × Int) : Prop := a.1.length = 4 ∧ a.2.1.length = 4 ∧ (∀ i, i < pre.length → hx a.1 i = nI (pre.getD i 0)) ∧ (a.2.2.toInt = st.2 ∧ -1 ≤ st.2 ∧ st.2 ≤ 4) ∧ (0 ≤ st.2 → st.1.length = go ∧ ∀ i, i < go → hx a.2.1 i = nI (st.1.getD i 0))
theorem odw_who (rc : Nat → od3 → od3) (ws : Nat → wkr) (gn : Int32) : ∀ (j m : Nat) (st : od3), odw rc (odc ws gn) j m st = ((List.range' m j).filter (fun m => decide (0 < (ws m).2.2.2.2.1))).foldl (fun st m => if (gn >>> (nI m &&& 31)) &&& 1 = 0 then rc m st else st) st
  | 0, _, _ => rfl
  | j + 1, m, st => by
    unfold odw
    rw [odw_who rc ws gn j (m + 1), List.range'_succ, List.filter_cons]
    by_cases h : 0 < (ws m).2.2.2.2.1
    · simp [odc, h]
    · simp [odc, h]
theorem fold_rel {α β γ : Type} (R : β → γ → Prop) (l : List α) (f : β → α → β) (g : γ → α → γ) (h : ∀ a ∈ l, ∀ b c, R b c → R (f b a) (g c a)) : ∀ b c, R b c → R (l.foldl f b) (l.foldl g c) := by
  induction l with
  | nil => intro b c hr; exact hr
  | cons a t ih =>
    intro b c hr
    exact ih (fun x hx => h x (List.mem_cons_of_mem _ hx)) _ _ (h a List.mem_cons_self b c hr)
theorem nI3 (a b c : Nat) (ha : a ≤ 4) (hb : b ≤ 4) (hc : c ≤ 4) : (nI a + nI b - nI c).toInt = (a : Int) + b - c := by
  rw [nI_add]
  exact pk_sub_toInt (by omega) (by omega)
theorem odr_spO (w : Bool) (ws : Nat → wkr) (cnt go : Nat) (hc : cnt ≤ 4) (hgo : go = (whoL ws cnt).length) : ∀ (f : Nat) (pre : List Nat) (gd : Nat) (hs : List Int32) (a : od3) (st : List Nat × Int), pre.length + f = 4 → pre.length ≤ go → (∀ m ∈ pre, m < 4) → gd ≤ pre.length → odR go pre a st → odR go pre (odr w ws cnt go f pre.length (gnb pre) gd hs a) (spO w ws (whoL ws cnt) (go - pre.length) pre gd hs st) := by
  have hgo4 : go ≤ 4 := by
    rw [hgo]; unfold whoL
    exact Nat.le_trans (List.length_filter_le _ _) (by simpa using hc)
  have leaf : ∀ (pre : List Nat) (gd : Nat) (a : od3) (st : List Nat × Int), pre.length = go → gd ≤ pre.length → ¬ ((gd : Int) ≤ st.2) → odR go pre a st → odR go pre (a.1, a.1, nI gd) (if st.2 < (gd : Int) then (pre, (gd : Int)) else st) := by
    intro pre gd a st hp hg hn ⟨r1, r2, r3, r4, r5⟩
    rw [if_pos (by omega)]
    exact ⟨r1, r1, r3, ⟨nI_toInt (by omega), by omega, by omega⟩, fun _ => ⟨hp, fun i hi => r3 i (by omega)⟩⟩
  intro f
  induction f with
  | zero =>
    intro pre gd hs a st h1 h2 hm hg hr
    have e4 : pre.length = 4 := by omega
    have eg : go = 4 := by omega
    have hlt : nI gd + nI go - nI pre.length ≤ a.2.2 ↔ (gd : Int) ≤ st.2 := by
      rw [Int32.le_iff_toInt_le, nI3 gd go pre.length (by omega) (by omega) (by omega), hr.2.2.2.1.1]; omega
    unfold odr
    rw [show go - pre.length = 0 by omega]
    unfold spO
    by_cases q : nI gd + nI go - nI pre.length ≤ a.2.2
    · rw [if_pos q, if_neg (by have := hlt.mp q; omega)]
      exact hr
    · rw [if_neg q]
      exact leaf pre gd a st (by omega) hg (fun z => q (hlt.mpr z)) hr
  | succ f ih =>
    intro pre gd hs a st h1 h2 hm hg hr
    have hlt : nI gd + nI go - nI pre.length ≤ a.2.2 ↔ (gd : Int) + go - pre.length ≤ st.2 := by
      rw [Int32.le_iff_toInt_le, nI3 gd go pre.length (by omega) (by omega) (by omega), hr.2.2.2.1.1]
    unfold odr
    by_cases q : nI gd + nI go - nI pre.length ≤ a.2.2
    · rw [if_pos q, spO_prune w ws _ _ _ _ _ st (by have := hlt.mp q; omega)]
      exact hr
    · rw [if_neg q]
      by_cases q2 : go ≤ pre.length
      · rw [if_pos q2, show go - pre.length = 0 by omega]
        unfold spO
        exact leaf pre gd a st (by omega) hg (fun z => q (hlt.mpr (by omega))) hr
      · rw [if_neg q2, odw_who]
        obtain ⟨f', hf'⟩ : ∃ f', go - pre.length = f' + 1 := ⟨go - pre.length - 1, by omega⟩
        rw [hf']
        unfold spO
        have e0 : (List.range' 0 cnt).filter (fun m => decide (0 < (ws m).2.2.2.2.1)) = whoL ws cnt := by unfold whoL; rw [List.range_eq_range']
        rw [e0]
        refine fold_rel (odR go pre) _ _ _ (fun m hmm b c hbc => ?_) a st hr
        have hm4 : m < 4 := by
          have := List.mem_range.mp (List.mem_filter.mp hmm).1
          omega
        by_cases qm : m ∈ pre
        · rw [if_pos qm, if_neg (fun z => (gnb_bit hm hm4).mp z qm)]
          exact hbc
        · rw [if_neg qm, if_pos ((gnb_bit hm hm4).mpr qm)]
          have hl : (pre ++ [m]).length = pre.length + 1 := by simp
          have hb2 := b2n_le (good hs (ws m))
          have := ih (pre ++ [m]) (gd + b2n (good hs (ws m))) (gob w (ws m) hs) (b.1.set pre.length (nI m), b.2.1, b.2.2) c (by rw [hl]; omega) (by rw [hl]; omega) (fun k hk => by
            rcases List.mem_append.mp hk with hk | hk
            · exact hm k hk
            · rw [List.mem_singleton.mp hk]; exact hm4) (by rw [hl]; omega) ⟨by simp [hbc.1], hbc.2.1, fun i hi => by
              rw [hl] at hi
              by_cases e : i = pre.length
              · subst e
                have : pre.length < b.1.length := by rw [hbc.1]; omega
                simp [hx, this]
              · have h3 := hbc.2.2.1 i (by omega)
                unfold hx at h3 ⊢
                have hi' : i < pre.length := by omega
                simp [List.getD, List.getElem?_set_ne (Ne.symm e), List.getElem?_append_left hi'] at h3 ⊢
                exact h3, hbc.2.2.2.1, hbc.2.2.2.2⟩
          rw [hl, gnb_app] at this
          rw [show go - (pre.length + 1) = f' by omega] at this
          exact ⟨this.1, this.2.1, fun i hi => by
            have h3 := this.2.2.1 i (by rw [hl]; omega)
            simp [List.getD, List.getElem?_append_left hi] at h3 ⊢
            exact h3, this.2.2.2⟩
theorem whoL_len (ws : Nat → wkr) (cnt : Nat) : (whoL ws cnt).length = mps ws cnt := by
  unfold whoL mps
  rw [List.range_eq_range']
  generalize List.range' 0 cnt = l
  induction l with
  | nil => rfl
  | cons a t ih =>
    rw [List.filter_cons, List.map_cons, List.sum_cons]
    by_cases h : 0 < (ws a).2.2.2.2.1
    · simp [h, b2n, ih]; omega
    · simp [h, b2n, ih]
theorem odS_ok (A : landT) (hc : A.2.2.2.1 ≤ 4) (tn bs : List Int32) (h1 : tn.length = 4) (h2 : bs.length = 4) : odR (mps A.2.2.1 A.2.2.2.1) [] (odS A.2.1 A.2.2.1 A.2.2.2.1 A.1 tn bs) (ordS A) := by
  have := odr_spO A.2.1 A.2.2.1 A.2.2.2.1 (mps A.2.2.1 A.2.2.2.1) hc (whoL_len _ _).symm 4 [] 0 A.1 (tn, bs, -1) ([], -1) rfl (Nat.zero_le _) (fun m hm => (by cases hm)) (Nat.le_refl _) ⟨h1, h2, fun i hi => (by cases hi), ⟨rfl, by decide, by decide⟩, fun z => absurd z (by decide)⟩
  unfold odS ordS
  rw [whoL_len]
  exact this
/-- some order is found -/
theorem spO_ge (w : Bool) (ws : Nat → wkr) (who : List Nat) : ∀ (f : Nat) (pre : List Nat) (gd : Nat) (hs : List Int32) (st : List Nat × Int), st.2 ≤ (spO w ws who f pre gd hs st).2 := by
  intro f
  induction f with
  | zero =>
    intro pre gd hs st
    unfold spO
    by_cases h : st.2 < (gd : Int)
    · rw [if_pos h]; exact Int.le_of_lt h
    · rw [if_neg h]; exact Int.le_refl _
  | succ f ih =>
    intro pre gd hs st
    unfold spO
    have key : ∀ (l : List Nat) (st : List Nat × Int), st.2 ≤ (l.foldl (fun st m => if m ∈ pre then st else spO w ws who f (pre ++ [m]) (gd + b2n (good hs (ws m))) (gob w (ws m) hs) st) st).2 := by
      intro l
      induction l with
      | nil => intro st; exact Int.le_refl _
      | cons m t ih2 =>
        intro st
        rw [List.foldl_cons]
        by_cases h : m ∈ pre
        · rw [if_pos h]; exact ih2 st
        · rw [if_neg h]; exact Int.le_trans (ih _ _ _ st) (ih2 _)
    exact key who st
theorem sub_len : ∀ (a b : List Nat), a.Nodup → (∀ m ∈ a, m ∈ b) → a.length ≤ b.length := by
  intro a
  induction a with
  | nil => intro b _ _; exact Nat.zero_le _
  | cons x t ih =>
    intro b hn hs
    have hx : x ∈ b := hs x List.mem_cons_self
    have h1 := ih (b.erase x) (List.nodup_cons.mp hn).2 (fun m hm => by
      have hne : m ≠ x := fun e => (List.nodup_cons.mp hn).1 (e ▸ hm)
      exact (List.mem_erase_of_ne hne).mpr (hs m (List.mem_cons_of_mem _ hm)))
    rw [List.length_erase_of_mem hx] at h1
    have : 0 < b.length := List.length_pos_of_mem hx
    rw [List.length_cons]
    omega
theorem spO_pos (w : Bool) (ws : Nat → wkr) (who : List Nat) (hn : who.Nodup) : ∀ (f : Nat) (pre : List Nat) (gd : Nat) (hs : List Int32) (st : List Nat × Int), pre.length + f = who.length → 0 ≤ (spO w ws who f pre gd hs st).2 := by
  intro f
  induction f with
  | zero =>
    intro pre gd hs st _
    unfold spO
    by_cases h : st.2 < (gd : Int)
    · rw [if_pos h]; show (0 : Int) ≤ gd; omega
    · rw [if_neg h]; omega
  | succ f ih =>
    intro pre gd hs st hl
    unfold spO
    have hex : ∃ m ∈ who, m ∉ pre := by
      apply Classical.byContradiction
      intro hno
      have := sub_len who pre hn (fun m hm => Classical.byContradiction (fun h => hno ⟨m, hm, h⟩))
      omega
    obtain ⟨m, hm, hmp⟩ := hex
    have mono : ∀ (l : List Nat) (st : List Nat × Int), st.2 ≤ (l.foldl (fun st m => if m ∈ pre then st else spO w ws who f (pre ++ [m]) (gd + b2n (good hs (ws m))) (gob w (ws m) hs) st) st).2 := by
      intro l
      induction l with
      | nil => intro st; exact Int.le_refl _
      | cons m t ih2 =>
        intro st
        rw [List.foldl_cons]
        by_cases h : m ∈ pre
        · rw [if_pos h]; exact ih2 st
        · rw [if_neg h]; exact Int.le_trans (spO_ge w ws who f _ _ _ st) (ih2 _)
    have key : ∀ (l : List Nat) (st : List Nat × Int), m ∈ l → 0 ≤ (l.foldl (fun st m => if m ∈ pre then st else spO w ws who f (pre ++ [m]) (gd + b2n (good hs (ws m))) (gob w (ws m) hs) st) st).2 := by
      intro l
      induction l with
      | nil => intro st h; cases h
      | cons x t ih2 =>
        intro st h
        rw [List.foldl_cons]
        rcases List.mem_cons.mp h with rfl | h
        · rw [if_neg hmp]
          exact Int.le_trans (ih _ _ _ st (by simp; omega)) (mono t _)
        · exact ih2 _ h
    exact key who st hm
theorem ordS_pos (A : landT) : 0 ≤ (ordS A).2 := spO_pos _ _ _ (List.Pairwise.filter _ List.nodup_range) _ [] _ _ _ (Nat.zero_add _)
