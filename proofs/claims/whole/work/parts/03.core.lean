/-! A pure machine beside the machine: a heap of cells by their places, locals, a stack; an instruction is a predicate transformer. -/
abbrev pC : Type := (List Int32) ⊕ ((Nat × List (Option Nat)) ⊕ (Nat × List Value))
abbrev pH : Type := List pC
abbrev pL : Type := List (Option Value)
abbrev pK : Type := Nat → pL → List Value → pH → Prop
abbrev pR : Type := Option Value → pH → Prop
abbrev pF : Type := Nat → List Value → pH → Option Value → pH → Prop
abbrev pO : Type := pF → pR → pK → pL → List Value → pH → Prop
def csz : pC → Nat
  | .inl xs => xs.length
  | .inr (.inl q) => q.2.length
  | .inr (.inr q) => q.2.length
def sz (h : pH) : Nat := (h.map csz).sum
theorem sz_app (h k : pH) : sz (h ++ k) = sz h + sz k := by simp [sz]
theorem sz_set {h : pH} {k : Nat} {c c' : pC} (hk : h[k]? = some c) (hc : csz c' = csz c) : sz (h.set k c') = sz h := by
  induction h generalizing k with
  | nil => simp at hk
  | cons a t ih =>
    cases k with
    | zero =>
      simp at hk
      subst hk
      simp [sz, hc]
    | succ k =>
      simp at hk
      have := ih hk
      simp [sz] at this ⊢
      omega
def kil : Option Value → Option Value
  | some (.long _) => none
  | some (.double _) => none
  | v => v
def st1 (L : pL) (i : Nat) (v : Value) : pL := match i with
  | 0 => L.set 0 (some v)
  | j + 1 => (L.set j (kil (L.getD j none))).set (j + 1) (some v)
def st2 (L : pL) (i : Nat) (v : Value) : pL := (st1 L i v).set (i + 1) none
def isR : Value → Bool
  | .ref _ => true
  | .null => true
  | .float _ => true
  | _ => false
def sOK (S : List Value) : Prop := (S.map fun v => v.category).sum ≤ 8
theorem sOK0 : sOK [] = True := by simp [sOK]
theorem sOK1 (a : Value) : sOK [a] = True := by cases a <;> simp [sOK, Value.category]
theorem sOK2 (a b : Value) : sOK [a, b] = True := by cases a <;> cases b <;> simp [sOK, Value.category]
theorem sOK3 (a b c : Value) : sOK [a, b, c] = True := by cases a <;> cases b <;> cases c <;> simp [sOK, Value.category]
theorem sOK4 (a b c d : Value) : sOK [a, b, c, d] = True := by
  have h : ∀ v : Value, v.category ≤ 2 := fun v => by cases v <;> simp [Value.category]
  have := h a; have := h b; have := h c; have := h d
  simp [sOK]; omega
def gf (h : pH) (k ci j : Nat) : Option Value := match h[k]? with
  | some (.inr (.inr q)) => if q.1 = ci then q.2[j]? else none
  | _ => none
def pfh (h : pH) (k ci j : Nat) (v : Value) : Option pH := match h[k]? with
  | some (.inr (.inr q)) => if q.1 = ci ∧ j < q.2.length then some (h.set k (.inr (.inr (ci, q.2.set j v)))) else none
  | _ => none
def ild (h : pH) (k : Nat) (i : Int32) : Option Int32 := match h[k]? with
  | some (.inl xs) => if i < 0 then none else xs[i.toNatClampNeg]?
  | _ => none
def ist (h : pH) (k : Nat) (i x : Int32) : Option pH := match h[k]? with
  | some (.inl xs) => if i < 0 ∨ xs.length ≤ i.toNatClampNeg then none else some (h.set k (.inl (xs.set i.toNatClampNeg x)))
  | _ => none
def vq : Option Nat → Value
  | none => .null
  | some k => .ref k
def ald (h : pH) (k : Nat) (i : Int32) : Option Value := match h[k]? with
  | some (.inr (.inl q)) => if i < 0 ∨ 2 ≤ q.1 then none else q.2[i.toNatClampNeg]?.map vq
  | _ => none
def asth (h : pH) (k : Nat) (i : Int32) (v t ci : Nat) : Option pH := match h[k]?, h[v]? with
  | some (.inr (.inl q)), some (.inr (.inr o)) => if q.1 = t ∧ o.1 = ci ∧ ¬ (i < 0 ∨ q.2.length ≤ i.toNatClampNeg) then some (h.set k (.inr (.inl (t, q.2.set i.toNatClampNeg (some v))))) else none
  | _, _ => none
def alen (h : pH) (k : Nat) : Option Nat := match h[k]? with
  | some (.inl xs) => some xs.length
  | some (.inr (.inl q)) => if q.1 < 2 then some q.2.length else none
  | _ => none
def rcv (h : pH) (ci : Nat) (as : List Value) : Prop := ∃ (k : Nat) (rest : List Value) (fs : List Value), as = .ref k :: rest ∧ h[k]? = some (.inr (.inr (ci, fs)))
def wts (j : Nat) : Int32 := ([1, 2, 0, 1, 4] : List Int32).getD j 0
/-! the instructions -/
def o_const (v : Value) (nx : Nat) : pO := fun _ _ K L S h => K nx L (v :: S) h
def o_il (i nx : Nat) : pO := fun _ _ K L S h => ∃ x, L[i]? = some (some (.int x)) ∧ K nx L (.int x :: S) h
def o_ll (i nx : Nat) : pO := fun _ _ K L S h => ∃ x, L[i]? = some (some (.long x)) ∧ K nx L (.long x :: S) h
def o_al (i nx : Nat) : pO := fun _ _ K L S h => ∃ v, L[i]? = some (some v) ∧ isR v = true ∧ K nx L (v :: S) h
def o_is (i nx : Nat) : pO := fun _ _ K L S h => ∃ x S', S = .int x :: S' ∧ i < L.length ∧ K nx (st1 L i (.int x)) S' h
def o_as (i nx : Nat) : pO := fun _ _ K L S h => ∃ v S', S = v :: S' ∧ isR v = true ∧ i < L.length ∧ K nx (st1 L i v) S' h
def o_ls (i nx : Nat) : pO := fun _ _ K L S h => ∃ x S', S = .long x :: S' ∧ i + 1 < L.length ∧ K nx (st2 L i (.long x)) S' h
def o_inc (i : Nat) (n : Int32) (nx : Nat) : pO := fun _ _ K L S h => ∃ x, L[i]? = some (some (.int x)) ∧ K nx (L.set i (some (.int (x + n)))) S h
def o_bin (f : Int32 → Int32 → Int32) (nx : Nat) : pO := fun _ _ K L S h => ∃ x y S', S = .int y :: .int x :: S' ∧ K nx L (.int (f x y) :: S') h
def o_binz (f : Int32 → Int32 → Int32) (nx : Nat) : pO := fun _ _ K L S h => ∃ x y S', S = .int y :: .int x :: S' ∧ ¬ y = 0 ∧ K nx L (.int (f x y) :: S') h
def o_lbin (f : Int64 → Int64 → Int64) (nx : Nat) : pO := fun _ _ K L S h => ∃ x y S', S = .long y :: .long x :: S' ∧ K nx L (.long (f x y) :: S') h
def o_lcmp (nx : Nat) : pO := fun _ _ K L S h => ∃ x y S', S = .long y :: .long x :: S' ∧ K nx L (.int (lg_cmp x y) :: S') h
def o_i2l (nx : Nat) : pO := fun _ _ K L S h => ∃ x S', S = .int x :: S' ∧ K nx L (.long x.toInt64 :: S') h
def o_l2i (nx : Nat) : pO := fun _ _ K L S h => ∃ x S', S = .long x :: S' ∧ K nx L (.int x.toInt32 :: S') h
def o_dup (nx : Nat) : pO := fun _ _ K L S h => ∃ v S', S = v :: S' ∧ v.category = 1 ∧ K nx L (v :: v :: S') h
def o_dup2 (nx : Nat) : pO := fun _ _ K L S h => ∃ v w S', S = v :: w :: S' ∧ v.category = 1 ∧ w.category = 1 ∧ K nx L (v :: w :: v :: w :: S') h
def o_pop (nx : Nat) : pO := fun _ _ K L S h => ∃ v S', S = v :: S' ∧ v.category = 1 ∧ K nx L S' h
def o_goto (tg : Nat) : pO := fun _ _ K L S h => K tg L S h
def o_if (c : Int32 → Prop) (tg nx : Nat) : pO := fun _ _ K L S h => ∃ x S', S = .int x :: S' ∧ (c x → K tg L S' h) ∧ (¬ c x → K nx L S' h)
def o_cmp (c : Int32 → Int32 → Prop) (tg nx : Nat) : pO := fun _ _ K L S h => ∃ x y S', S = .int y :: .int x :: S' ∧ (c x y → K tg L S' h) ∧ (¬ c x y → K nx L S' h)
def o_nul (tg nx : Nat) : pO := fun _ _ K L S h => (∃ S', S = .null :: S' ∧ K tg L S' h) ∨ (∃ k S', S = .ref k :: S' ∧ K nx L S' h)
def o_sw (ps : List (Int32 × Nat)) (df : Nat) : pO := fun _ _ K L S h => ∃ x S', S = .int x :: S' ∧ (∀ q ∈ ps, x = q.1 → K q.2 L S' h) ∧ ((∀ q ∈ ps, ¬ x = q.1) → K df L S' h)
def o_gf (ci j nx : Nat) : pO := fun _ _ K L S h => ∃ k S' v, S = .ref k :: S' ∧ gf h k ci j = some v ∧ K nx L (v :: S') h
def o_pf (ok : Value → Prop) (ci j nx : Nat) : pO := fun _ _ K L S h => ∃ v k S' h', S = v :: .ref k :: S' ∧ ok v ∧ pfh h k ci j v = some h' ∧ K nx L S' h'
def o_ia (nx : Nat) : pO := fun _ _ K L S h => ∃ i k S' x, S = .int i :: .ref k :: S' ∧ ild h k i = some x ∧ K nx L (.int x :: S') h
def o_ist (nx : Nat) : pO := fun _ _ K L S h => ∃ x i k S' h', S = .int x :: .int i :: .ref k :: S' ∧ ist h k i x = some h' ∧ K nx L S' h'
def o_aa (nx : Nat) : pO := fun _ _ K L S h => ∃ i k S' v, S = .int i :: .ref k :: S' ∧ ald h k i = some v ∧ K nx L (v :: S') h
def o_ast (t ci nx : Nat) : pO := fun _ _ K L S h => ∃ v i k S' h', S = .ref v :: .int i :: .ref k :: S' ∧ asth h k i v t ci = some h' ∧ K nx L S' h'
def o_len (nx : Nat) : pO := fun _ _ K L S h => ∃ k S' n, S = .ref k :: S' ∧ alen h k = some n ∧ K nx L (.int (Int32.ofNat n) :: S') h
def o_iaT (nx : Nat) : pO := fun _ _ K L S h => ∃ i S', S = .int i :: .float 0 :: S' ∧ vp_in i 5 ∧ K nx L (.int (wts i.toNatClampNeg) :: S') h
def o_lenT (nx : Nat) : pO := fun _ _ K L S h => ∃ S', S = .float 0 :: S' ∧ K nx L (.int 5 :: S') h
def o_iaS (n : Nat) (xs : Nat → Int32) (nx : Nat) : pO := fun _ _ K L S h => ∃ i S', S = .int i :: .float 1 :: S' ∧ vp_in i n ∧ K nx L (.int (xs i.toNatClampNeg) :: S') h
def o_lenS (n : Nat) (nx : Nat) : pO := fun _ _ K L S h => ∃ S', S = .float 1 :: S' ∧ K nx L (.int (Int32.ofNat n) :: S') h
def o_new (ci : Nat) (fs : List Value) (nx : Nat) : pO := fun _ _ K L S h => K nx L (.ref h.length :: S) (h ++ [.inr (.inr (ci, fs))])
def o_newa (nx : Nat) : pO := fun _ _ K L S h => ∃ n S', S = .int n :: S' ∧ ¬ n < 0 ∧ n.toNatClampNeg ≤ 1000 ∧ K nx L (.ref h.length :: S') (h ++ [.inl (List.replicate n.toNatClampNeg 0)])
def o_anew (t nx : Nat) : pO := fun _ _ K L S h => ∃ n S', S = .int n :: S' ∧ ¬ n < 0 ∧ n.toNatClampNeg ≤ 1000 ∧ K nx L (.ref h.length :: S') (h ++ [.inr (.inl (t, List.replicate n.toNatClampNeg none))])
def o_obj (nx : Nat) : pO := fun _ _ K L S h => ∃ k S', S = .ref k :: S' ∧ sOK S' ∧ K nx L S' h
def o_call (rc : pH → List Value → Prop) (y n nx : Nat) : pO := fun F _ K L S h => n ≤ S.length ∧ sOK (S.drop n) ∧ rc h (S.take n).reverse ∧ ∃ r h1, F y (S.take n).reverse h r h1 ∧ K nx L (r.toList ++ S.drop n) h1
def o_iret : pO := fun _ R _ _ S h => ∃ x, S = [.int x] ∧ R (some (.int x)) h
def o_zret : pO := fun _ R _ _ S h => ∃ x, S = [.int x] ∧ (x = 0 ∨ x = 1) ∧ R (some (.int x)) h
def o_lret : pO := fun _ R _ _ S h => ∃ x, S = [.long x] ∧ R (some (.long x)) h
def o_aret : pO := fun _ R _ _ S h => ∃ v, S = [v] ∧ (v = .null ∨ ∃ k, v = .ref k) ∧ R (some v) h
def o_vret : pO := fun _ R _ _ S h => S = [] ∧ R none h
def o_fail : pO := fun _ _ _ _ _ _ => False
/-! a run: the least predicate that the instructions keep -/
def rRun (T : Nat → pO) (F : pF) (R : pR) (pc : Nat) (L : pL) (S : List Value) (h : pH) : Prop := ∀ P : pK, (∀ pc L S h, T pc F R P L S h → P pc L S h) → P pc L S h
def ent : List Value → pL
  | [] => []
  | v :: vs => if v.category = 2 then some v :: none :: ent vs else some v :: ent vs
def entL (n : Nat) (vs : List Value) : pL := ent vs ++ List.replicate (n - (ent vs).length) none
def rCall (T : Nat → Nat → pO) (ml : Nat → Nat) : Nat → pF
  | 0 => fun _ _ _ _ _ => False
  | d + 1 => fun y as h r h' => (ent as).length ≤ ml y ∧ rRun (T y) (rCall T ml d) (fun r1 h1 => r1 = r ∧ h1 = h') 0 (entL (ml y) as) [] h
def moO (o : pO) : Prop := ∀ (F : pF) (R : pR) (P P' : pK) (L : pL) (S : List Value) (h : pH), (∀ pc L S h, P pc L S h → P' pc L S h) → o F R P L S h → o F R P' L S h
theorem run_eq {T : Nat → pO} (hT : ∀ pc, moO (T pc)) (F : pF) (R : pR) (pc : Nat) (L : pL) (S : List Value) (h : pH) : rRun T F R pc L S h = T pc F R (rRun T F R) L S h := by
  have fold : ∀ pc L S h, T pc F R (rRun T F R) L S h → rRun T F R pc L S h := by
    intro pc L S h hh P hP
    exact hP pc L S h (hT pc F R _ P L S h (fun pc L S h hr => hr P hP) hh)
  refine propext ⟨fun hr => ?_, fold pc L S h⟩
  exact hr (fun pc L S h => T pc F R (rRun T F R) L S h) (fun pc L S h hh => hT pc F R _ _ L S h fold hh)
def leO (o : pO) : Prop := ∀ (F : pF) (R : pR) (N Z : Nat), (∀ y as h r h1, F y as h r h1 → h.length ≤ h1.length ∧ sz h ≤ sz h1) → (∀ r h, R r h → h.length ≤ N ∧ sz h ≤ Z) → ∀ (L : pL) (S : List Value) (h : pH), o F R (fun _ _ _ h => h.length ≤ N ∧ sz h ≤ Z) L S h → h.length ≤ N ∧ sz h ≤ Z
theorem m_const (v : Value) (nx : Nat) : moO (o_const v nx) ∧ leO (o_const v nx) := ⟨fun _ _ _ _ _ _ _ hP h => hP _ _ _ _ h, fun _ _ _ _ _ _ _ _ _ h => h⟩
theorem m_il (i nx : Nat) : moO (o_il i nx) ∧ leO (o_il i nx) := ⟨fun _ _ _ _ _ _ _ hP ⟨x, a, h⟩ => ⟨x, a, hP _ _ _ _ h⟩, fun _ _ _ _ _ _ _ _ _ ⟨_, _, h⟩ => h⟩
theorem m_ll (i nx : Nat) : moO (o_ll i nx) ∧ leO (o_ll i nx) := ⟨fun _ _ _ _ _ _ _ hP ⟨x, a, h⟩ => ⟨x, a, hP _ _ _ _ h⟩, fun _ _ _ _ _ _ _ _ _ ⟨_, _, h⟩ => h⟩
theorem m_al (i nx : Nat) : moO (o_al i nx) ∧ leO (o_al i nx) := ⟨fun _ _ _ _ _ _ _ hP ⟨x, a, b, h⟩ => ⟨x, a, b, hP _ _ _ _ h⟩, fun _ _ _ _ _ _ _ _ _ ⟨_, _, _, h⟩ => h⟩
theorem m_is (i nx : Nat) : moO (o_is i nx) ∧ leO (o_is i nx) := ⟨fun _ _ _ _ _ _ _ hP ⟨x, s, a, b, h⟩ => ⟨x, s, a, b, hP _ _ _ _ h⟩, fun _ _ _ _ _ _ _ _ _ ⟨_, _, _, _, h⟩ => h⟩
theorem m_as (i nx : Nat) : moO (o_as i nx) ∧ leO (o_as i nx) := ⟨fun _ _ _ _ _ _ _ hP ⟨x, s, a, b, c, h⟩ => ⟨x, s, a, b, c, hP _ _ _ _ h⟩, fun _ _ _ _ _ _ _ _ _ ⟨_, _, _, _, _, h⟩ => h⟩
theorem m_ls (i nx : Nat) : moO (o_ls i nx) ∧ leO (o_ls i nx) := ⟨fun _ _ _ _ _ _ _ hP ⟨x, s, a, b, h⟩ => ⟨x, s, a, b, hP _ _ _ _ h⟩, fun _ _ _ _ _ _ _ _ _ ⟨_, _, _, _, h⟩ => h⟩
theorem m_inc (i : Nat) (n : Int32) (nx : Nat) : moO (o_inc i n nx) ∧ leO (o_inc i n nx) := ⟨fun _ _ _ _ _ _ _ hP ⟨x, a, h⟩ => ⟨x, a, hP _ _ _ _ h⟩, fun _ _ _ _ _ _ _ _ _ ⟨_, _, h⟩ => h⟩
theorem m_bin (f : Int32 → Int32 → Int32) (nx : Nat) : moO (o_bin f nx) ∧ leO (o_bin f nx) := ⟨fun _ _ _ _ _ _ _ hP ⟨x, y, s, a, h⟩ => ⟨x, y, s, a, hP _ _ _ _ h⟩, fun _ _ _ _ _ _ _ _ _ ⟨_, _, _, _, h⟩ => h⟩
theorem m_binz (f : Int32 → Int32 → Int32) (nx : Nat) : moO (o_binz f nx) ∧ leO (o_binz f nx) := ⟨fun _ _ _ _ _ _ _ hP ⟨x, y, s, a, b, h⟩ => ⟨x, y, s, a, b, hP _ _ _ _ h⟩, fun _ _ _ _ _ _ _ _ _ ⟨_, _, _, _, _, h⟩ => h⟩
theorem m_lbin (f : Int64 → Int64 → Int64) (nx : Nat) : moO (o_lbin f nx) ∧ leO (o_lbin f nx) := ⟨fun _ _ _ _ _ _ _ hP ⟨x, y, s, a, h⟩ => ⟨x, y, s, a, hP _ _ _ _ h⟩, fun _ _ _ _ _ _ _ _ _ ⟨_, _, _, _, h⟩ => h⟩
theorem m_lcmp (nx : Nat) : moO (o_lcmp nx) ∧ leO (o_lcmp nx) := ⟨fun _ _ _ _ _ _ _ hP ⟨x, y, s, a, h⟩ => ⟨x, y, s, a, hP _ _ _ _ h⟩, fun _ _ _ _ _ _ _ _ _ ⟨_, _, _, _, h⟩ => h⟩
theorem m_i2l (nx : Nat) : moO (o_i2l nx) ∧ leO (o_i2l nx) := ⟨fun _ _ _ _ _ _ _ hP ⟨x, s, a, h⟩ => ⟨x, s, a, hP _ _ _ _ h⟩, fun _ _ _ _ _ _ _ _ _ ⟨_, _, _, h⟩ => h⟩
theorem m_l2i (nx : Nat) : moO (o_l2i nx) ∧ leO (o_l2i nx) := ⟨fun _ _ _ _ _ _ _ hP ⟨x, s, a, h⟩ => ⟨x, s, a, hP _ _ _ _ h⟩, fun _ _ _ _ _ _ _ _ _ ⟨_, _, _, h⟩ => h⟩
theorem m_dup (nx : Nat) : moO (o_dup nx) ∧ leO (o_dup nx) := ⟨fun _ _ _ _ _ _ _ hP ⟨x, s, a, b, h⟩ => ⟨x, s, a, b, hP _ _ _ _ h⟩, fun _ _ _ _ _ _ _ _ _ ⟨_, _, _, _, h⟩ => h⟩
theorem m_dup2 (nx : Nat) : moO (o_dup2 nx) ∧ leO (o_dup2 nx) := ⟨fun _ _ _ _ _ _ _ hP ⟨x, y, s, a, b, c, h⟩ => ⟨x, y, s, a, b, c, hP _ _ _ _ h⟩, fun _ _ _ _ _ _ _ _ _ ⟨_, _, _, _, _, _, h⟩ => h⟩
theorem m_pop (nx : Nat) : moO (o_pop nx) ∧ leO (o_pop nx) := ⟨fun _ _ _ _ _ _ _ hP ⟨x, s, a, b, h⟩ => ⟨x, s, a, b, hP _ _ _ _ h⟩, fun _ _ _ _ _ _ _ _ _ ⟨_, _, _, _, h⟩ => h⟩
theorem m_goto (tg : Nat) : moO (o_goto tg) ∧ leO (o_goto tg) := ⟨fun _ _ _ _ _ _ _ hP h => hP _ _ _ _ h, fun _ _ _ _ _ _ _ _ _ h => h⟩
theorem m_if (c : Int32 → Prop) (tg nx : Nat) : moO (o_if c tg nx) ∧ leO (o_if c tg nx) := ⟨fun _ _ _ _ _ _ _ hP ⟨x, s, a, b, d⟩ => ⟨x, s, a, fun q => hP _ _ _ _ (b q), fun q => hP _ _ _ _ (d q)⟩, fun _ _ _ _ _ _ _ _ _ ⟨x, _, _, b, d⟩ => (Classical.em (c x)).elim b d⟩
theorem m_cmp (c : Int32 → Int32 → Prop) (tg nx : Nat) : moO (o_cmp c tg nx) ∧ leO (o_cmp c tg nx) := ⟨fun _ _ _ _ _ _ _ hP ⟨x, y, s, a, b, d⟩ => ⟨x, y, s, a, fun q => hP _ _ _ _ (b q), fun q => hP _ _ _ _ (d q)⟩, fun _ _ _ _ _ _ _ _ _ ⟨x, y, _, _, b, d⟩ => (Classical.em (c x y)).elim b d⟩
theorem m_nul (tg nx : Nat) : moO (o_nul tg nx) ∧ leO (o_nul tg nx) := ⟨fun _ _ _ _ _ _ _ hP q => q.elim (fun ⟨s, a, b⟩ => Or.inl ⟨s, a, hP _ _ _ _ b⟩) (fun ⟨k, s, a, b⟩ => Or.inr ⟨k, s, a, hP _ _ _ _ b⟩), fun _ _ _ _ _ _ _ _ _ q => q.elim (fun ⟨_, _, b⟩ => b) (fun ⟨_, _, _, b⟩ => b)⟩
theorem m_sw (ps : List (Int32 × Nat)) (df : Nat) : moO (o_sw ps df) ∧ leO (o_sw ps df) := ⟨fun _ _ _ _ _ _ _ hP ⟨x, s, a, b, d⟩ => ⟨x, s, a, fun q hq e => hP _ _ _ _ (b q hq e), fun q => hP _ _ _ _ (d q)⟩, fun _ _ _ _ _ _ _ _ _ ⟨x, _, _, b, d⟩ => (Classical.em (∃ q ∈ ps, x = q.1)).elim (fun ⟨q, hq, e⟩ => b q hq e) (fun z => d (fun q hq e => z ⟨q, hq, e⟩))⟩
theorem m_gf (ci j nx : Nat) : moO (o_gf ci j nx) ∧ leO (o_gf ci j nx) := ⟨fun _ _ _ _ _ _ _ hP ⟨x, s, v, a, b, h⟩ => ⟨x, s, v, a, b, hP _ _ _ _ h⟩, fun _ _ _ _ _ _ _ _ _ ⟨_, _, _, _, _, h⟩ => h⟩
theorem pfh_some {h h' : pH} {k ci j : Nat} {v : Value} (e : pfh h k ci j v = some h') : ∃ fs, h[k]? = some (.inr (.inr (ci, fs))) ∧ j < fs.length ∧ h' = h.set k (.inr (.inr (ci, fs.set j v))) := by
  unfold pfh at e
  split at e
  · next q hq =>
    split at e
    · next hc =>
      obtain ⟨c0, fs⟩ := q
      obtain ⟨rfl, hj⟩ := hc
      exact ⟨fs, hq, hj, (Option.some.inj e).symm⟩
    · cases e
  · cases e
theorem gf_some {h : pH} {k ci j : Nat} {v : Value} (e : gf h k ci j = some v) : ∃ fs, h[k]? = some (.inr (.inr (ci, fs))) ∧ fs[j]? = some v := by
  unfold gf at e
  split at e
  · next q hq =>
    split at e
    · next hc =>
      obtain ⟨c0, fs⟩ := q
      subst hc
      exact ⟨fs, hq, e⟩
    · cases e
  · cases e
theorem ild_some {h : pH} {k : Nat} {i x : Int32} (e : ild h k i = some x) : ∃ xs, h[k]? = some (.inl xs) ∧ vp_in i xs.length ∧ xs.getD i.toNatClampNeg 0 = x := by
  unfold ild at e
  split at e
  · next xs hq =>
    split at e
    · cases e
    · next hc =>
      obtain ⟨h1, h2⟩ := List.getElem?_eq_some_iff.mp e
      exact ⟨xs, hq, fun z => z.elim hc (fun z => by omega), by simp [List.getD, e]⟩
  · cases e
theorem ist_some {h h' : pH} {k : Nat} {i x : Int32} (e : ist h k i x = some h') : ∃ xs, h[k]? = some (.inl xs) ∧ vp_in i xs.length ∧ h' = h.set k (.inl (xs.set i.toNatClampNeg x)) := by
  unfold ist at e
  split at e
  · next xs hq =>
    split at e
    · cases e
    · next hc => exact ⟨xs, hq, hc, (Option.some.inj e).symm⟩
  · cases e
theorem ald_some {h : pH} {k : Nat} {i : Int32} {v : Value} (e : ald h k i = some v) : ∃ t rs r, h[k]? = some (.inr (.inl (t, rs))) ∧ t < 2 ∧ vp_in i rs.length ∧ rs[i.toNatClampNeg]? = some r ∧ vq r = v := by
  unfold ald at e
  split at e
  · next q hq =>
    split at e
    · cases e
    · next hc =>
      obtain ⟨t, rs⟩ := q
      obtain ⟨r, h1, h2⟩ := Option.map_eq_some_iff.mp e
      have h3 := (List.getElem?_eq_some_iff.mp h1).1
      exact ⟨t, rs, r, hq, by dsimp only at hc; omega, fun z => z.elim (fun z => hc (Or.inl z)) (fun z => by dsimp only at h3; omega), h1, h2⟩
  · cases e
theorem asth_some {h h' : pH} {k : Nat} {i : Int32} {v t ci : Nat} (e : asth h k i v t ci = some h') : ∃ rs fs, h[k]? = some (.inr (.inl (t, rs))) ∧ h[v]? = some (.inr (.inr (ci, fs))) ∧ vp_in i rs.length ∧ h' = h.set k (.inr (.inl (t, rs.set i.toNatClampNeg (some v)))) := by
  unfold asth at e
  split at e
  · next q o hq ho =>
    split at e
    · next hc =>
      obtain ⟨t, rs⟩ := q
      obtain ⟨ci, fs⟩ := o
      obtain ⟨rfl, rfl, hj⟩ := hc
      exact ⟨rs, fs, hq, ho, hj, (Option.some.inj e).symm⟩
    · cases e
  · cases e
theorem alen_some {h : pH} {k n : Nat} (e : alen h k = some n) : (∃ xs, h[k]? = some (.inl xs) ∧ n = xs.length) ∨ (∃ t rs, h[k]? = some (.inr (.inl (t, rs))) ∧ t < 2 ∧ n = rs.length) := by
  unfold alen at e
  split at e
  · next xs hq => exact Or.inl ⟨xs, hq, (Option.some.inj e).symm⟩
  · next q hq =>
    split at e
    · next hc => exact Or.inr ⟨q.1, q.2, hq, hc, (Option.some.inj e).symm⟩
    · cases e
  · cases e
theorem m_pf (ok : Value → Prop) (ci j nx : Nat) : moO (o_pf ok ci j nx) ∧ leO (o_pf ok ci j nx) := by
  refine ⟨fun _ _ _ _ _ _ _ hP ⟨x, s, v, h', a, b, c, h⟩ => ⟨x, s, v, h', a, b, c, hP _ _ _ _ h⟩, fun _ _ _ _ _ _ _ _ _ ⟨_, _, _, _, _, _, c, h⟩ => ?_⟩
  obtain ⟨fs, h1, -, rfl⟩ := pfh_some c
  try dsimp only at h
  rw [List.length_set, sz_set h1 (by simp [csz])] at h
  exact h
theorem m_ia (nx : Nat) : moO (o_ia nx) ∧ leO (o_ia nx) := ⟨fun _ _ _ _ _ _ _ hP ⟨x, s, v, z, a, b, h⟩ => ⟨x, s, v, z, a, b, hP _ _ _ _ h⟩, fun _ _ _ _ _ _ _ _ _ ⟨_, _, _, _, _, _, h⟩ => h⟩
theorem m_ist (nx : Nat) : moO (o_ist nx) ∧ leO (o_ist nx) := by
  refine ⟨fun _ _ _ _ _ _ _ hP ⟨x, i, k, s, h', a, c, h⟩ => ⟨x, i, k, s, h', a, c, hP _ _ _ _ h⟩, fun _ _ _ _ _ _ _ _ _ ⟨_, _, _, _, _, _, c, h⟩ => ?_⟩
  obtain ⟨xs, h1, -, rfl⟩ := ist_some c
  try dsimp only at h
  rw [List.length_set, sz_set h1 (by simp [csz])] at h
  exact h
theorem m_aa (nx : Nat) : moO (o_aa nx) ∧ leO (o_aa nx) := ⟨fun _ _ _ _ _ _ _ hP ⟨x, s, v, z, a, b, h⟩ => ⟨x, s, v, z, a, b, hP _ _ _ _ h⟩, fun _ _ _ _ _ _ _ _ _ ⟨_, _, _, _, _, _, h⟩ => h⟩
theorem m_ast (t ci nx : Nat) : moO (o_ast t ci nx) ∧ leO (o_ast t ci nx) := by
  refine ⟨fun _ _ _ _ _ _ _ hP ⟨x, i, k, s, h', a, c, h⟩ => ⟨x, i, k, s, h', a, c, hP _ _ _ _ h⟩, fun _ _ _ _ _ _ _ _ _ ⟨_, _, _, _, _, _, c, h⟩ => ?_⟩
  obtain ⟨rs, fs, h1, -, -, rfl⟩ := asth_some c
  try dsimp only at h
  rw [List.length_set, sz_set h1 (by simp [csz])] at h
  exact h
theorem m_len (nx : Nat) : moO (o_len nx) ∧ leO (o_len nx) := ⟨fun _ _ _ _ _ _ _ hP ⟨x, s, v, a, b, h⟩ => ⟨x, s, v, a, b, hP _ _ _ _ h⟩, fun _ _ _ _ _ _ _ _ _ ⟨_, _, _, _, _, h⟩ => h⟩
theorem m_iaT (nx : Nat) : moO (o_iaT nx) ∧ leO (o_iaT nx) := ⟨fun _ _ _ _ _ _ _ hP ⟨x, s, a, b, h⟩ => ⟨x, s, a, b, hP _ _ _ _ h⟩, fun _ _ _ _ _ _ _ _ _ ⟨_, _, _, _, h⟩ => h⟩
theorem m_lenT (nx : Nat) : moO (o_lenT nx) ∧ leO (o_lenT nx) := ⟨fun _ _ _ _ _ _ _ hP ⟨s, a, h⟩ => ⟨s, a, hP _ _ _ _ h⟩, fun _ _ _ _ _ _ _ _ _ ⟨_, _, h⟩ => h⟩
theorem m_iaS (n : Nat) (xs : Nat → Int32) (nx : Nat) : moO (o_iaS n xs nx) ∧ leO (o_iaS n xs nx) := ⟨fun _ _ _ _ _ _ _ hP ⟨x, s, a, b, h⟩ => ⟨x, s, a, b, hP _ _ _ _ h⟩, fun _ _ _ _ _ _ _ _ _ ⟨_, _, _, _, h⟩ => h⟩
theorem m_lenS (n nx : Nat) : moO (o_lenS n nx) ∧ leO (o_lenS n nx) := ⟨fun _ _ _ _ _ _ _ hP ⟨s, a, h⟩ => ⟨s, a, hP _ _ _ _ h⟩, fun _ _ _ _ _ _ _ _ _ ⟨_, _, h⟩ => h⟩
theorem m_new (ci : Nat) (fs : List Value) (nx : Nat) : moO (o_new ci fs nx) ∧ leO (o_new ci fs nx) := ⟨fun _ _ _ _ _ _ _ hP h => hP _ _ _ _ h, fun _ _ _ _ _ _ _ _ _ h => by
  dsimp only [o_new] at h
  rw [List.length_append, sz_app] at h
  omega⟩
theorem m_newa (nx : Nat) : moO (o_newa nx) ∧ leO (o_newa nx) := ⟨fun _ _ _ _ _ _ _ hP ⟨n, s, a, b, c, h⟩ => ⟨n, s, a, b, c, hP _ _ _ _ h⟩, fun _ _ _ _ _ _ _ _ _ ⟨_, _, _, _, _, h⟩ => by
  try dsimp only at h
  rw [List.length_append, sz_app] at h
  omega⟩
theorem m_anew (t nx : Nat) : moO (o_anew t nx) ∧ leO (o_anew t nx) := ⟨fun _ _ _ _ _ _ _ hP ⟨n, s, a, b, c, h⟩ => ⟨n, s, a, b, c, hP _ _ _ _ h⟩, fun _ _ _ _ _ _ _ _ _ ⟨_, _, _, _, _, h⟩ => by
  try dsimp only at h
  rw [List.length_append, sz_app] at h
  omega⟩
theorem m_obj (nx : Nat) : moO (o_obj nx) ∧ leO (o_obj nx) := ⟨fun _ _ _ _ _ _ _ hP ⟨x, s, a, b, h⟩ => ⟨x, s, a, b, hP _ _ _ _ h⟩, fun _ _ _ _ _ _ _ _ _ ⟨_, _, _, _, h⟩ => h⟩
theorem m_call (rc : pH → List Value → Prop) (y n nx : Nat) : moO (o_call rc y n nx) ∧ leO (o_call rc y n nx) := by
  refine ⟨fun _ _ _ _ _ _ _ hP ⟨a, b, c, r, h1, d, h⟩ => ⟨a, b, c, r, h1, d, hP _ _ _ _ h⟩, fun _ _ _ _ hF _ _ _ _ ⟨_, _, _, r, h1, d, h⟩ => ?_⟩
  have := hF _ _ _ _ _ d
  omega
theorem m_iret : moO o_iret ∧ leO o_iret := ⟨fun _ _ _ _ _ _ _ _ h => h, fun _ _ _ _ _ hR _ _ _ ⟨_, _, h⟩ => hR _ _ h⟩
theorem m_zret : moO o_zret ∧ leO o_zret := ⟨fun _ _ _ _ _ _ _ _ h => h, fun _ _ _ _ _ hR _ _ _ ⟨_, _, _, h⟩ => hR _ _ h⟩
theorem m_lret : moO o_lret ∧ leO o_lret := ⟨fun _ _ _ _ _ _ _ _ h => h, fun _ _ _ _ _ hR _ _ _ ⟨_, _, h⟩ => hR _ _ h⟩
theorem m_aret : moO o_aret ∧ leO o_aret := ⟨fun _ _ _ _ _ _ _ _ h => h, fun _ _ _ _ _ hR _ _ _ ⟨_, _, _, h⟩ => hR _ _ h⟩
theorem m_vret : moO o_vret ∧ leO o_vret := ⟨fun _ _ _ _ _ _ _ _ h => h, fun _ _ _ _ _ hR _ _ _ ⟨_, h⟩ => hR _ _ h⟩
theorem m_fail : moO o_fail ∧ leO o_fail := ⟨fun _ _ _ _ _ _ _ _ h => h, fun _ _ _ _ _ _ _ _ _ h => False.elim h⟩
