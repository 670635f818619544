/-! what a method is: its code, its class, how many locals, what it answers, whether it is a constructor -/
abbrev sI : Type := ByteArray × String × Nat × Option FieldType × Bool
def wst (p : Program) (l : Launch) (e : Env) (R : Room) (s : State) (m : MethodId) (args : Array Value) (below : List Frame) (meth : Method) (c : Code) (Q : State → Prop) (g : gG) (nL n0 z0 N Z : Nat) : pK := fun pc L S h => (h.length ≤ N ∧ sz h ≤ Z) ∧ ∀ (H : Heap) (locs : List Loc) (cells slots : Nat) (ls : Array Slot), wR g h H → va_S (nA g) s.heap H locs → lvh g ls nL L → cells + n0 = h.length → slots + z0 = sz h → W p l e R s m args below meth c H locs cells slots Q (F0 m pc ls (S.map (rn g)))
def rOk (mr : Option FieldType) (r : Option Value) (ins : Instr) : Prop := (∃ x ty, r = some (.int x) ∧ ins = .ireturn ∧ mr = some ty ∧ narrow ty (.int x) = .int x) ∨ (∃ x, r = some (.long x) ∧ ins = .lreturn ∧ mr = some .long) ∨ (r = none ∧ ins = .return_ ∧ mr = none) ∨ (∃ v n, r = some v ∧ (v = .null ∨ ∃ k, v = .ref k) ∧ ins = .areturn ∧ mr = some (.object n))
def cPre (g : gG) (h : pH) (U : State) : Prop := wR g h U.heap ∧ cxK g U ∧ cxZ g U U.heap
def cPost (g : gG) (r : Option Value) (h1 : pH) : Array Value → State → Outcome → State → Prop := fun _ st oc t => oc = .returned (r.map (rn g)) ∧ wR g h1 t.heap ∧ va_F (nA g) st t
abbrev mI : Type := Nat → MethodName × sI
def mW (M : mI) (y : Nat) : List Cond := Cond.code (M y).1 (M y).2.1 (M y).2.2.2.1 (M y).2.2.2.2.1 :: cG
/-- the context in which a method's instructions stand -/
def cx (SC : Nat → (Nat → Int32) → Prop) (M : mI) (p : Program) (l : Launch) (e : Env) (R : Room) (s : State) (m : MethodId) (args : Array Value) (below : List Frame) (meth : Method) (c : Code) (Q : State → Prop) (g : gG) (n0 z0 N Z : Nat) (F : pF) (Rt : pR) (si : sI) : Prop :=
  (p.tables.exec = Jvm.exec ∧ c.code = si.1 ∧ c.maxLocals = si.2.2.1 ∧ s.vm.findClass si.2.1 = some m.cls ∧ ∀ w ∈ cG, w.before args s = true) ∧ cxK g s ∧ (cxZ g s s.heap ∧ ∀ n xs, SC n xs → va_X g.2.2.1 n xs s s.heap ∧ g.2.2.1 < g.1) ∧ (g.1 ≤ s.heap.size ∧ N ≤ R.cells + n0 ∧ Z ≤ R.slots + z0 ∧ 1 ≤ R.frames ∧ 32 ≤ R.locals) ∧ (si.2.2.2.2 = true → meth.name = "<init>") ∧
  (∀ y as h r h1, F y as h r h1 → (h.length ≤ h1.length ∧ sz h ≤ sz h1) ∧ ∃ rm : Room, rm.cells = h1.length - h.length ∧ rm.slots = sz h1 - sz h ∧ rm.frames + 1 ≤ R.frames ∧ 64 + rm.locals ≤ R.locals ∧ Met l (M y).1 (mW M y) rm (va_Pc (as.map (rn g)) (cPre g h)) (cPost g r h1) (h1.length - h.length) (sz h1 - sz h) (nA g)) ∧
  (∀ r h, Rt r h → (h.length ≤ N ∧ sz h ≤ Z) ∧ ∀ (pc : Nat) (ins : Instr) (H : Heap) (locs : List Loc) (cells slots : Nat) (ls : Array Slot), wR g h H → va_S (nA g) s.heap H locs → cells + n0 = h.length → slots + z0 = sz h → decode si.1 pc = .ok (ins, 1) → rOk si.2.2.2.1 r ins → W p l e R s m args below meth c H locs cells slots Q (F0 m pc ls ((r.map (rn g)).toList)))
/-- an instruction is sound where it stands -/
def soO (SC : Nat → (Nat → Int32) → Prop) (M : mI) (si : sI) (pc : Nat) (o : pO) : Prop := ∀ (p : Program) (l : Launch) (e : Env) (R : Room) (s : State) (m : MethodId) (args : Array Value) (below : List Frame) (meth : Method) (c : Code) (Q : State → Prop) (g : gG) (n0 z0 N Z : Nat) (F : pF) (Rt : pR), cx SC M p l e R s m args below meth c Q g n0 z0 N Z F Rt si → ∀ (L : pL) (S : List Value) (h : pH), o F Rt (wst p l e R s m args below meth c Q g si.2.2.1 n0 z0 N Z) L S h → ∀ (H : Heap) (locs : List Loc) (cells slots : Nat) (ls : Array Slot), wR g h H → va_S (nA g) s.heap H locs → lvh g ls si.2.2.1 L → cells + n0 = h.length → slots + z0 = sz h → W p l e R s m args below meth c H locs cells slots Q (F0 m pc ls (S.map (rn g)))
def okA (SC : Nat → (Nat → Int32) → Prop) (M : mI) (si : sI) (pc : Nat) (o : pO) : Prop := (moO o ∧ leO o) ∧ soO SC M si pc o
section SO
variable {SC : Nat → (Nat → Int32) → Prop} {M : mI} {cc : ByteArray} {own : String} {nL : Nat} {mr : Option FieldType} {ini : Bool} {pc : Nat}
theorem k_iconst {n : Int} (v : Int32) (hd : decode cc pc = .ok (.iconst n, 1)) (hv : Int32.ofInt n = v) : okA SC M (cc, own, nL, mr, ini) pc (o_const (.int v) (pc + 1)) := by
  refine ⟨m_const _ _, ?_⟩
  intro p l e R s m args below meth c Q g n0 z0 N Z F Rt C L S h ho H locs cells slots ls a1 a2 a3 a4 a5
  exact lv_iconst C.1.1 C.1.2.1 hd hv (ho.2 H locs cells slots ls a1 a2 a3 a4 a5)
theorem k_bipush {n : Int} (v : Int32) (hd : decode cc pc = .ok (.bipush n, 2)) (hv : (Int8.ofInt n).toInt32 = v) : okA SC M (cc, own, nL, mr, ini) pc (o_const (.int v) (pc + 2)) := by
  refine ⟨m_const _ _, ?_⟩
  intro p l e R s m args below meth c Q g n0 z0 N Z F Rt C L S h ho H locs cells slots ls a1 a2 a3 a4 a5
  exact lv_bipush C.1.1 C.1.2.1 hd hv (ho.2 H locs cells slots ls a1 a2 a3 a4 a5)
theorem k_sipush {n : Int} (v : Int32) (hd : decode cc pc = .ok (.sipush n, 3)) (hv : (Int16.ofInt n).toInt32 = v) : okA SC M (cc, own, nL, mr, ini) pc (o_const (.int v) (pc + 3)) := by
  refine ⟨m_const _ _, ?_⟩
  intro p l e R s m args below meth c Q g n0 z0 N Z F Rt C L S h ho H locs cells slots ls a1 a2 a3 a4 a5
  exact lv_sipush C.1.1 C.1.2.1 hd hv (ho.2 H locs cells slots ls a1 a2 a3 a4 a5)
theorem k_lconst {n : Fin 2} (v : Int64) (hd : decode cc pc = .ok (.lconst n, 1)) (hv : Int64.ofNat (n : Nat) = v) : okA SC M (cc, own, nL, mr, ini) pc (o_const (.long v) (pc + 1)) := by
  refine ⟨m_const _ _, ?_⟩
  intro p l e R s m args below meth c Q g n0 z0 N Z F Rt C L S h ho H locs cells slots ls a1 a2 a3 a4 a5
  exact lv_lconst C.1.1 C.1.2.1 hd hv (ho.2 H locs cells slots ls a1 a2 a3 a4 a5)
theorem k_ldc {idx : Nat} {v : Int32} (hw : Cond.constant own idx v ∈ cG) (hd : decode cc pc = .ok (.ldc idx, 2)) : okA SC M (cc, own, nL, mr, ini) pc (o_const (.int v) (pc + 2)) := by
  refine ⟨m_const _ _, ?_⟩
  intro p l e R s m args below meth c Q g n0 z0 N Z F Rt C L S h ho H locs cells slots ls a1 a2 a3 a4 a5
  exact lv_ldc C.1.1 C.1.2.1 C.1.2.2.2.1 (C.1.2.2.2.2 _ hw) hd (ho.2 H locs cells slots ls a1 a2 a3 a4 a5)
theorem k_ldcw {idx : Nat} {v : Int32} (hw : Cond.constant own idx v ∈ cG) (hd : decode cc pc = .ok (.ldc_w idx, 3)) : okA SC M (cc, own, nL, mr, ini) pc (o_const (.int v) (pc + 3)) := by
  refine ⟨m_const _ _, ?_⟩
  intro p l e R s m args below meth c Q g n0 z0 N Z F Rt C L S h ho H locs cells slots ls a1 a2 a3 a4 a5
  exact lv_ldcw C.1.1 C.1.2.1 C.1.2.2.2.1 (C.1.2.2.2.2 _ hw) hd (ho.2 H locs cells slots ls a1 a2 a3 a4 a5)
theorem k_ldc2 {idx : Nat} {v : Int64} (hw : Cond.constantLong own idx v ∈ cG) (hd : decode cc pc = .ok (.ldc2_w idx, 3)) : okA SC M (cc, own, nL, mr, ini) pc (o_const (.long v) (pc + 3)) := by
  refine ⟨m_const _ _, ?_⟩
  intro p l e R s m args below meth c Q g n0 z0 N Z F Rt C L S h ho H locs cells slots ls a1 a2 a3 a4 a5
  exact lv_ldc2 C.1.1 C.1.2.1 C.1.2.2.2.1 (C.1.2.2.2.2 _ hw) hd (ho.2 H locs cells slots ls a1 a2 a3 a4 a5)
theorem k_null (hd : decode cc pc = .ok (.aconst_null, 1)) : okA SC M (cc, own, nL, mr, ini) pc (o_const .null (pc + 1)) := by
  refine ⟨m_const _ _, ?_⟩
  intro p l e R s m args below meth c Q g n0 z0 N Z F Rt C L S h ho H locs cells slots ls a1 a2 a3 a4 a5
  exact lv_null C.1.1 C.1.2.1 hd (ho.2 H locs cells slots ls a1 a2 a3 a4 a5)
theorem k_ilN {i : Fin 4} {k : Nat} (hd : decode cc pc = .ok (.iload_n i, 1)) (hi : (i : Nat) = k) : okA SC M (cc, own, nL, mr, ini) pc (o_il k (pc + 1)) := by
  refine ⟨m_il _ _, ?_⟩
  intro p l e R s m args below meth c Q g n0 z0 N Z F Rt C L S h ⟨x, hL, ho⟩ H locs cells slots ls a1 a2 a3 a4 a5
  exact lv_iload_n C.1.1 C.1.2.1 hd hi (a3.2.2.2 _ _ hL) (ho.2 H locs cells slots ls a1 a2 a3 a4 a5)
theorem k_il {k : Nat} (hd : decode cc pc = .ok (.iload k, 2)) : okA SC M (cc, own, nL, mr, ini) pc (o_il k (pc + 2)) := by
  refine ⟨m_il _ _, ?_⟩
  intro p l e R s m args below meth c Q g n0 z0 N Z F Rt C L S h ⟨x, hL, ho⟩ H locs cells slots ls a1 a2 a3 a4 a5
  exact lv_iload C.1.1 C.1.2.1 hd (a3.2.2.2 _ _ hL) (ho.2 H locs cells slots ls a1 a2 a3 a4 a5)
theorem k_llN {i : Fin 4} {k : Nat} (hd : decode cc pc = .ok (.lload_n i, 1)) (hi : (i : Nat) = k) : okA SC M (cc, own, nL, mr, ini) pc (o_ll k (pc + 1)) := by
  refine ⟨m_ll _ _, ?_⟩
  intro p l e R s m args below meth c Q g n0 z0 N Z F Rt C L S h ⟨x, hL, ho⟩ H locs cells slots ls a1 a2 a3 a4 a5
  exact lv_lload_n C.1.1 C.1.2.1 hd hi (a3.2.2.2 _ _ hL) (ho.2 H locs cells slots ls a1 a2 a3 a4 a5)
theorem k_ll {k : Nat} (hd : decode cc pc = .ok (.lload k, 2)) : okA SC M (cc, own, nL, mr, ini) pc (o_ll k (pc + 2)) := by
  refine ⟨m_ll _ _, ?_⟩
  intro p l e R s m args below meth c Q g n0 z0 N Z F Rt C L S h ⟨x, hL, ho⟩ H locs cells slots ls a1 a2 a3 a4 a5
  exact lv_lload C.1.1 C.1.2.1 hd (a3.2.2.2 _ _ hL) (ho.2 H locs cells slots ls a1 a2 a3 a4 a5)
theorem k_alN {i : Fin 4} {k : Nat} (hd : decode cc pc = .ok (.aload_n i, 1)) (hi : (i : Nat) = k) : okA SC M (cc, own, nL, mr, ini) pc (o_al k (pc + 1)) := by
  refine ⟨m_al _ _, ?_⟩
  intro p l e R s m args below meth c Q g n0 z0 N Z F Rt C L S h ⟨x, hL, hr, ho⟩ H locs cells slots ls a1 a2 a3 a4 a5
  have hg := a3.2.2.2 _ _ hL
  have hk := ho.2 H locs cells slots ls a1 a2 a3 a4 a5
  cases x with
  | ref q => exact lv_aload_n C.1.1 C.1.2.1 hd hi hg hk
  | null => exact lv_aload_nN C.1.1 C.1.2.1 hd hi hg hk
  | float q => exact lv_aload_n C.1.1 C.1.2.1 hd hi hg hk
  | _ => cases hr
theorem k_al {k : Nat} (hd : decode cc pc = .ok (.aload k, 2)) : okA SC M (cc, own, nL, mr, ini) pc (o_al k (pc + 2)) := by
  refine ⟨m_al _ _, ?_⟩
  intro p l e R s m args below meth c Q g n0 z0 N Z F Rt C L S h ⟨x, hL, hr, ho⟩ H locs cells slots ls a1 a2 a3 a4 a5
  have hg := a3.2.2.2 _ _ hL
  have hk := ho.2 H locs cells slots ls a1 a2 a3 a4 a5
  cases x with
  | ref q => exact lv_aload C.1.1 C.1.2.1 hd hg hk
  | null => exact lv_aloadN C.1.1 C.1.2.1 hd hg hk
  | float q => exact lv_aload C.1.1 C.1.2.1 hd hg hk
  | _ => cases hr
theorem k_isN {i : Fin 4} {k : Nat} (hd : decode cc pc = .ok (.istore_n i, 1)) (hi : (i : Nat) = k) : okA SC M (cc, own, nL, mr, ini) pc (o_is k (pc + 1)) := by
  refine ⟨m_is _ _, ?_⟩
  rintro p l e R s m args below meth c Q g n0 z0 N Z F Rt C L S h ⟨x, S', rfl, hn, ho⟩ H locs cells slots ls a1 a2 a3 a4 a5
  exact lv_istore_n C.1.1 C.1.2.1 hd hi a3.has (by rw [← a3.2.1]; exact hn) rfl (fun ls' h' => ho.2 H locs cells slots ls' a1 a2 (lvh_st1 a3 hn h') a4 a5)
theorem k_is {k : Nat} (hd : decode cc pc = .ok (.istore k, 2)) : okA SC M (cc, own, nL, mr, ini) pc (o_is k (pc + 2)) := by
  refine ⟨m_is _ _, ?_⟩
  rintro p l e R s m args below meth c Q g n0 z0 N Z F Rt C L S h ⟨x, S', rfl, hn, ho⟩ H locs cells slots ls a1 a2 a3 a4 a5
  exact lv_istore C.1.1 C.1.2.1 hd a3.has (by rw [← a3.2.1]; exact hn) rfl (fun ls' h' => ho.2 H locs cells slots ls' a1 a2 (lvh_st1 a3 hn h') a4 a5)
theorem k_lsN {i : Fin 4} {k : Nat} (hd : decode cc pc = .ok (.lstore_n i, 1)) (hi : (i : Nat) = k) : okA SC M (cc, own, nL, mr, ini) pc (o_ls k (pc + 1)) := by
  refine ⟨m_ls _ _, ?_⟩
  rintro p l e R s m args below meth c Q g n0 z0 N Z F Rt C L S h ⟨x, S', rfl, hn, ho⟩ H locs cells slots ls a1 a2 a3 a4 a5
  exact lv_lstore_n C.1.1 C.1.2.1 hd hi a3.has (by rw [← a3.2.1]; exact hn) rfl (fun ls' h' => ho.2 H locs cells slots ls' a1 a2 (lvh_st2 a3 hn h') a4 a5)
theorem k_asN {i : Fin 4} {k : Nat} (hd : decode cc pc = .ok (.astore_n i, 1)) (hi : (i : Nat) = k) : okA SC M (cc, own, nL, mr, ini) pc (o_as k (pc + 1)) := by
  refine ⟨m_as _ _, ?_⟩
  rintro p l e R s m args below meth c Q g n0 z0 N Z F Rt C L S h ⟨x, S', rfl, hr, hn, ho⟩ H locs cells slots ls a1 a2 a3 a4 a5
  have hk := fun (ls' : Array Slot) (h' : lv_has ls' nL ((k, rn g x) :: (asc g L).filter (fun q => !(q.1 == k) && !(q.1 + 1 == k && q.2.category == 2)))) => ho.2 H locs cells slots ls' a1 a2 (lvh_st1 a3 hn h') a4 a5
  cases x with
  | ref q => exact lv_astore_n C.1.1 C.1.2.1 hd hi a3.has (by rw [← a3.2.1]; exact hn) rfl hk
  | null => exact lv_astore_nN C.1.1 C.1.2.1 hd hi a3.has (by rw [← a3.2.1]; exact hn) rfl hk
  | float q => exact lv_astore_n C.1.1 C.1.2.1 hd hi a3.has (by rw [← a3.2.1]; exact hn) rfl hk
  | _ => cases hr
theorem k_as {k : Nat} (hd : decode cc pc = .ok (.astore k, 2)) : okA SC M (cc, own, nL, mr, ini) pc (o_as k (pc + 2)) := by
  refine ⟨m_as _ _, ?_⟩
  rintro p l e R s m args below meth c Q g n0 z0 N Z F Rt C L S h ⟨x, S', rfl, hr, hn, ho⟩ H locs cells slots ls a1 a2 a3 a4 a5
  have hk := fun (ls' : Array Slot) (h' : lv_has ls' nL ((k, rn g x) :: (asc g L).filter (fun q => !(q.1 == k) && !(q.1 + 1 == k && q.2.category == 2)))) => ho.2 H locs cells slots ls' a1 a2 (lvh_st1 a3 hn h') a4 a5
  cases x with
  | ref q => exact lv_astore C.1.1 C.1.2.1 hd a3.has (by rw [← a3.2.1]; exact hn) rfl hk
  | null => exact lv_astoreN C.1.1 C.1.2.1 hd a3.has (by rw [← a3.2.1]; exact hn) rfl hk
  | float q => exact lv_astore C.1.1 C.1.2.1 hd a3.has (by rw [← a3.2.1]; exact hn) rfl hk
  | _ => cases hr
theorem k_inc {k : Nat} {n : Int} (v : Int32) (hd : decode cc pc = .ok (.iinc k n, 3)) (hv : Int32.ofInt n = v) : okA SC M (cc, own, nL, mr, ini) pc (o_inc k v (pc + 3)) := by
  refine ⟨m_inc _ _ _, ?_⟩
  rintro p l e R s m args below meth c Q g n0 z0 N Z F Rt C L S h ⟨x, hL, ho⟩ H locs cells slots ls a1 a2 a3 a4 a5
  subst hv
  obtain ⟨i, hi⟩ := List.getElem?_of_mem (asc_mem (g := g) hL)
  exact lv_iinc C.1.1 C.1.2.1 hd a3.has hi rfl (by rw [← a3.2.1]; exact (List.getElem?_eq_some_iff.mp hL).1) rfl (fun ls' h' => ho.2 H locs cells slots ls' a1 a2 (lvh_inc a3 hL h') a4 a5)
theorem k_iadd (hd : decode cc pc = .ok (.iadd, 1)) : okA SC M (cc, own, nL, mr, ini) pc (o_bin (fun x y => x + y) (pc + 1)) := by
  refine ⟨m_bin _ _, ?_⟩
  rintro p l e R s m args below meth c Q g n0 z0 N Z F Rt C L S h ⟨x, y, S', rfl, ho⟩ H locs cells slots ls a1 a2 a3 a4 a5
  exact lv_iadd C.1.1 C.1.2.1 hd (ho.2 H locs cells slots ls a1 a2 a3 a4 a5)
theorem k_isub (hd : decode cc pc = .ok (.isub, 1)) : okA SC M (cc, own, nL, mr, ini) pc (o_bin (fun x y => x - y) (pc + 1)) := by
  refine ⟨m_bin _ _, ?_⟩
  rintro p l e R s m args below meth c Q g n0 z0 N Z F Rt C L S h ⟨x, y, S', rfl, ho⟩ H locs cells slots ls a1 a2 a3 a4 a5
  exact lv_isub C.1.1 C.1.2.1 hd (ho.2 H locs cells slots ls a1 a2 a3 a4 a5)
theorem k_imul (hd : decode cc pc = .ok (.imul, 1)) : okA SC M (cc, own, nL, mr, ini) pc (o_bin (fun x y => x * y) (pc + 1)) := by
  refine ⟨m_bin _ _, ?_⟩
  rintro p l e R s m args below meth c Q g n0 z0 N Z F Rt C L S h ⟨x, y, S', rfl, ho⟩ H locs cells slots ls a1 a2 a3 a4 a5
  exact lv_imul C.1.1 C.1.2.1 hd (ho.2 H locs cells slots ls a1 a2 a3 a4 a5)
theorem k_iand (hd : decode cc pc = .ok (.iand, 1)) : okA SC M (cc, own, nL, mr, ini) pc (o_bin (fun x y => x &&& y) (pc + 1)) := by
  refine ⟨m_bin _ _, ?_⟩
  rintro p l e R s m args below meth c Q g n0 z0 N Z F Rt C L S h ⟨x, y, S', rfl, ho⟩ H locs cells slots ls a1 a2 a3 a4 a5
  exact lv_iand C.1.1 C.1.2.1 hd (ho.2 H locs cells slots ls a1 a2 a3 a4 a5)
theorem k_ior (hd : decode cc pc = .ok (.ior, 1)) : okA SC M (cc, own, nL, mr, ini) pc (o_bin (fun x y => x ||| y) (pc + 1)) := by
  refine ⟨m_bin _ _, ?_⟩
  rintro p l e R s m args below meth c Q g n0 z0 N Z F Rt C L S h ⟨x, y, S', rfl, ho⟩ H locs cells slots ls a1 a2 a3 a4 a5
  exact lv_ior C.1.1 C.1.2.1 hd (ho.2 H locs cells slots ls a1 a2 a3 a4 a5)
theorem k_ishl (hd : decode cc pc = .ok (.ishl, 1)) : okA SC M (cc, own, nL, mr, ini) pc (o_bin (fun x y => x <<< (y &&& 31)) (pc + 1)) := by
  refine ⟨m_bin _ _, ?_⟩
  rintro p l e R s m args below meth c Q g n0 z0 N Z F Rt C L S h ⟨x, y, S', rfl, ho⟩ H locs cells slots ls a1 a2 a3 a4 a5
  exact lv_ishl C.1.1 C.1.2.1 hd (ho.2 H locs cells slots ls a1 a2 a3 a4 a5)
theorem k_ishr (hd : decode cc pc = .ok (.ishr, 1)) : okA SC M (cc, own, nL, mr, ini) pc (o_bin (fun x y => x >>> (y &&& 31)) (pc + 1)) := by
  refine ⟨m_bin _ _, ?_⟩
  rintro p l e R s m args below meth c Q g n0 z0 N Z F Rt C L S h ⟨x, y, S', rfl, ho⟩ H locs cells slots ls a1 a2 a3 a4 a5
  exact lv_ishr C.1.1 C.1.2.1 hd (ho.2 H locs cells slots ls a1 a2 a3 a4 a5)
theorem k_iushr (hd : decode cc pc = .ok (.iushr, 1)) : okA SC M (cc, own, nL, mr, ini) pc (o_bin (fun x y => (x.toUInt32 >>> (y.toUInt32 &&& Int32.toUInt32 31)).toInt32) (pc + 1)) := by
  refine ⟨m_bin _ _, ?_⟩
  rintro p l e R s m args below meth c Q g n0 z0 N Z F Rt C L S h ⟨x, y, S', rfl, ho⟩ H locs cells slots ls a1 a2 a3 a4 a5
  exact lv_iushr C.1.1 C.1.2.1 hd rfl (ho.2 H locs cells slots ls a1 a2 a3 a4 a5)
theorem k_ladd (hd : decode cc pc = .ok (.ladd, 1)) : okA SC M (cc, own, nL, mr, ini) pc (o_lbin (fun x y => x + y) (pc + 1)) := by
  refine ⟨m_lbin _ _, ?_⟩
  rintro p l e R s m args below meth c Q g n0 z0 N Z F Rt C L S h ⟨x, y, S', rfl, ho⟩ H locs cells slots ls a1 a2 a3 a4 a5
  exact lv_ladd C.1.1 C.1.2.1 hd (ho.2 H locs cells slots ls a1 a2 a3 a4 a5)
theorem k_lmul (hd : decode cc pc = .ok (.lmul, 1)) : okA SC M (cc, own, nL, mr, ini) pc (o_lbin (fun x y => x * y) (pc + 1)) := by
  refine ⟨m_lbin _ _, ?_⟩
  rintro p l e R s m args below meth c Q g n0 z0 N Z F Rt C L S h ⟨x, y, S', rfl, ho⟩ H locs cells slots ls a1 a2 a3 a4 a5
  exact lv_lmul C.1.1 C.1.2.1 hd (ho.2 H locs cells slots ls a1 a2 a3 a4 a5)
theorem k_land (hd : decode cc pc = .ok (.land, 1)) : okA SC M (cc, own, nL, mr, ini) pc (o_lbin (fun x y => x &&& y) (pc + 1)) := by
  refine ⟨m_lbin _ _, ?_⟩
  rintro p l e R s m args below meth c Q g n0 z0 N Z F Rt C L S h ⟨x, y, S', rfl, ho⟩ H locs cells slots ls a1 a2 a3 a4 a5
  exact lv_land C.1.1 C.1.2.1 hd (ho.2 H locs cells slots ls a1 a2 a3 a4 a5)
theorem k_idiv (hd : decode cc pc = .ok (.idiv, 1)) : okA SC M (cc, own, nL, mr, ini) pc (o_binz (fun x y => x / y) (pc + 1)) := by
  refine ⟨m_binz _ _, ?_⟩
  rintro p l e R s m args below meth c Q g n0 z0 N Z F Rt C L S h ⟨x, y, S', rfl, hy, ho⟩ H locs cells slots ls a1 a2 a3 a4 a5
  exact lv_idiv C.1.1 C.1.2.1 hd hy (ho.2 H locs cells slots ls a1 a2 a3 a4 a5)
theorem k_irem (hd : decode cc pc = .ok (.irem, 1)) : okA SC M (cc, own, nL, mr, ini) pc (o_binz (fun x y => x - x / y * y) (pc + 1)) := by
  refine ⟨m_binz _ _, ?_⟩
  rintro p l e R s m args below meth c Q g n0 z0 N Z F Rt C L S h ⟨x, y, S', rfl, hy, ho⟩ H locs cells slots ls a1 a2 a3 a4 a5
  exact lv_irem C.1.1 C.1.2.1 hd hy (ho.2 H locs cells slots ls a1 a2 a3 a4 a5)
theorem k_lcmp (hd : decode cc pc = .ok (.lcmp, 1)) : okA SC M (cc, own, nL, mr, ini) pc (o_lcmp (pc + 1)) := by
  refine ⟨m_lcmp _, ?_⟩
  rintro p l e R s m args below meth c Q g n0 z0 N Z F Rt C L S h ⟨x, y, S', rfl, ho⟩ H locs cells slots ls a1 a2 a3 a4 a5
  exact W.lcmp C.1.1 C.1.2.1 hd (ho.2 H locs cells slots ls a1 a2 a3 a4 a5)
theorem k_i2l (hd : decode cc pc = .ok (.i2l, 1)) : okA SC M (cc, own, nL, mr, ini) pc (o_i2l (pc + 1)) := by
  refine ⟨m_i2l _, ?_⟩
  rintro p l e R s m args below meth c Q g n0 z0 N Z F Rt C L S h ⟨x, S', rfl, ho⟩ H locs cells slots ls a1 a2 a3 a4 a5
  exact lv_i2l C.1.1 C.1.2.1 hd rfl (ho.2 H locs cells slots ls a1 a2 a3 a4 a5)
theorem k_l2i (hd : decode cc pc = .ok (.l2i, 1)) : okA SC M (cc, own, nL, mr, ini) pc (o_l2i (pc + 1)) := by
  refine ⟨m_l2i _, ?_⟩
  rintro p l e R s m args below meth c Q g n0 z0 N Z F Rt C L S h ⟨x, S', rfl, ho⟩ H locs cells slots ls a1 a2 a3 a4 a5
  exact lv_l2i C.1.1 C.1.2.1 hd rfl (ho.2 H locs cells slots ls a1 a2 a3 a4 a5)
theorem k_dup (hd : decode cc pc = .ok (.dup, 1)) : okA SC M (cc, own, nL, mr, ini) pc (o_dup (pc + 1)) := by
  refine ⟨m_dup _, ?_⟩
  rintro p l e R s m args below meth c Q g n0 z0 N Z F Rt C L S h ⟨x, S', rfl, hc, ho⟩ H locs cells slots ls a1 a2 a3 a4 a5
  exact lv_dup C.1.1 C.1.2.1 hd (by rw [rn_cat]; exact hc) (ho.2 H locs cells slots ls a1 a2 a3 a4 a5)
theorem k_dup2 (hd : decode cc pc = .ok (.dup2, 1)) : okA SC M (cc, own, nL, mr, ini) pc (o_dup2 (pc + 1)) := by
  refine ⟨m_dup2 _, ?_⟩
  rintro p l e R s m args below meth c Q g n0 z0 N Z F Rt C L S h ⟨x, y, S', rfl, hc, hc2, ho⟩ H locs cells slots ls a1 a2 a3 a4 a5
  exact lv_dup2_11 C.1.1 C.1.2.1 hd (by rw [rn_cat]; exact hc) (by rw [rn_cat]; exact hc2) (ho.2 H locs cells slots ls a1 a2 a3 a4 a5)
theorem k_pop (hd : decode cc pc = .ok (.pop, 1)) : okA SC M (cc, own, nL, mr, ini) pc (o_pop (pc + 1)) := by
  refine ⟨m_pop _, ?_⟩
  rintro p l e R s m args below meth c Q g n0 z0 N Z F Rt C L S h ⟨x, S', rfl, hc, ho⟩ H locs cells slots ls a1 a2 a3 a4 a5
  exact lv_pop C.1.1 C.1.2.1 hd (by rw [rn_cat]; exact hc) (ho.2 H locs cells slots ls a1 a2 a3 a4 a5)
theorem k_goto {off : Int} {tg : Nat} (hd : decode cc pc = .ok (.goto off, 3)) (ht : (pc : Int) + off = (tg : Int)) : okA SC M (cc, own, nL, mr, ini) pc (o_goto tg) := by
  refine ⟨m_goto _, ?_⟩
  rintro p l e R s m args below meth c Q g n0 z0 N Z F Rt C L S h ho H locs cells slots ls a1 a2 a3 a4 a5
  exact lv_goto C.1.1 C.1.2.1 hd ht (ho.2 H locs cells slots ls a1 a2 a3 a4 a5)
theorem k_if_eq {off : Int} {tg : Nat} (hd : decode cc pc = .ok (.ifCond .eq off, 3)) (ht : (pc : Int) + off = (tg : Int)) : okA SC M (cc, own, nL, mr, ini) pc (o_if (fun x => x = 0) tg (pc + 3)) := by
  refine ⟨m_if _ _ _, ?_⟩
  rintro p l e R s m args below meth c Q g n0 z0 N Z F Rt C L S h ⟨x, S', rfl, h1, h2⟩ H locs cells slots ls a1 a2 a3 a4 a5
  exact lv_if_eq C.1.1 C.1.2.1 hd ht (fun q => (h1 q).2 H locs cells slots ls a1 a2 a3 a4 a5) (fun q => (h2 q).2 H locs cells slots ls a1 a2 a3 a4 a5)
theorem k_icmp_eq {off : Int} {tg : Nat} (hd : decode cc pc = .ok (.if_icmp .eq off, 3)) (ht : (pc : Int) + off = (tg : Int)) : okA SC M (cc, own, nL, mr, ini) pc (o_cmp (fun x y => x = y) tg (pc + 3)) := by
  refine ⟨m_cmp _ _ _, ?_⟩
  rintro p l e R s m args below meth c Q g n0 z0 N Z F Rt C L S h ⟨x, y, S', rfl, h1, h2⟩ H locs cells slots ls a1 a2 a3 a4 a5
  exact lv_icmp_eq C.1.1 C.1.2.1 hd ht (fun q => (h1 q).2 H locs cells slots ls a1 a2 a3 a4 a5) (fun q => (h2 q).2 H locs cells slots ls a1 a2 a3 a4 a5)
theorem k_if_ne {off : Int} {tg : Nat} (hd : decode cc pc = .ok (.ifCond .ne off, 3)) (ht : (pc : Int) + off = (tg : Int)) : okA SC M (cc, own, nL, mr, ini) pc (o_if (fun x => ¬ x = 0) tg (pc + 3)) := by
  refine ⟨m_if _ _ _, ?_⟩
  rintro p l e R s m args below meth c Q g n0 z0 N Z F Rt C L S h ⟨x, S', rfl, h1, h2⟩ H locs cells slots ls a1 a2 a3 a4 a5
  exact lv_if_ne C.1.1 C.1.2.1 hd ht (fun q => (h1 q).2 H locs cells slots ls a1 a2 a3 a4 a5) (fun q => (h2 (fun z => z q)).2 H locs cells slots ls a1 a2 a3 a4 a5)
theorem k_icmp_ne {off : Int} {tg : Nat} (hd : decode cc pc = .ok (.if_icmp .ne off, 3)) (ht : (pc : Int) + off = (tg : Int)) : okA SC M (cc, own, nL, mr, ini) pc (o_cmp (fun x y => ¬ x = y) tg (pc + 3)) := by
  refine ⟨m_cmp _ _ _, ?_⟩
  rintro p l e R s m args below meth c Q g n0 z0 N Z F Rt C L S h ⟨x, y, S', rfl, h1, h2⟩ H locs cells slots ls a1 a2 a3 a4 a5
  exact lv_icmp_ne C.1.1 C.1.2.1 hd ht (fun q => (h1 q).2 H locs cells slots ls a1 a2 a3 a4 a5) (fun q => (h2 (fun z => z q)).2 H locs cells slots ls a1 a2 a3 a4 a5)
theorem k_if_lt {off : Int} {tg : Nat} (hd : decode cc pc = .ok (.ifCond .lt off, 3)) (ht : (pc : Int) + off = (tg : Int)) : okA SC M (cc, own, nL, mr, ini) pc (o_if (fun x => x < 0) tg (pc + 3)) := by
  refine ⟨m_if _ _ _, ?_⟩
  rintro p l e R s m args below meth c Q g n0 z0 N Z F Rt C L S h ⟨x, S', rfl, h1, h2⟩ H locs cells slots ls a1 a2 a3 a4 a5
  exact lv_if_lt C.1.1 C.1.2.1 hd ht (fun q => (h1 q).2 H locs cells slots ls a1 a2 a3 a4 a5) (fun q => (h2 q).2 H locs cells slots ls a1 a2 a3 a4 a5)
theorem k_icmp_lt {off : Int} {tg : Nat} (hd : decode cc pc = .ok (.if_icmp .lt off, 3)) (ht : (pc : Int) + off = (tg : Int)) : okA SC M (cc, own, nL, mr, ini) pc (o_cmp (fun x y => x < y) tg (pc + 3)) := by
  refine ⟨m_cmp _ _ _, ?_⟩
  rintro p l e R s m args below meth c Q g n0 z0 N Z F Rt C L S h ⟨x, y, S', rfl, h1, h2⟩ H locs cells slots ls a1 a2 a3 a4 a5
  exact lv_icmp_lt C.1.1 C.1.2.1 hd ht (fun q => (h1 q).2 H locs cells slots ls a1 a2 a3 a4 a5) (fun q => (h2 q).2 H locs cells slots ls a1 a2 a3 a4 a5)
theorem k_if_ge {off : Int} {tg : Nat} (hd : decode cc pc = .ok (.ifCond .ge off, 3)) (ht : (pc : Int) + off = (tg : Int)) : okA SC M (cc, own, nL, mr, ini) pc (o_if (fun x => 0 ≤ x) tg (pc + 3)) := by
  refine ⟨m_if _ _ _, ?_⟩
  rintro p l e R s m args below meth c Q g n0 z0 N Z F Rt C L S h ⟨x, S', rfl, h1, h2⟩ H locs cells slots ls a1 a2 a3 a4 a5
  exact lv_if_ge C.1.1 C.1.2.1 hd ht (fun q => (h1 q).2 H locs cells slots ls a1 a2 a3 a4 a5) (fun q => (h2 q).2 H locs cells slots ls a1 a2 a3 a4 a5)
theorem k_icmp_ge {off : Int} {tg : Nat} (hd : decode cc pc = .ok (.if_icmp .ge off, 3)) (ht : (pc : Int) + off = (tg : Int)) : okA SC M (cc, own, nL, mr, ini) pc (o_cmp (fun x y => y ≤ x) tg (pc + 3)) := by
  refine ⟨m_cmp _ _ _, ?_⟩
  rintro p l e R s m args below meth c Q g n0 z0 N Z F Rt C L S h ⟨x, y, S', rfl, h1, h2⟩ H locs cells slots ls a1 a2 a3 a4 a5
  exact lv_icmp_ge C.1.1 C.1.2.1 hd ht (fun q => (h1 q).2 H locs cells slots ls a1 a2 a3 a4 a5) (fun q => (h2 q).2 H locs cells slots ls a1 a2 a3 a4 a5)
theorem k_if_gt {off : Int} {tg : Nat} (hd : decode cc pc = .ok (.ifCond .gt off, 3)) (ht : (pc : Int) + off = (tg : Int)) : okA SC M (cc, own, nL, mr, ini) pc (o_if (fun x => 0 < x) tg (pc + 3)) := by
  refine ⟨m_if _ _ _, ?_⟩
  rintro p l e R s m args below meth c Q g n0 z0 N Z F Rt C L S h ⟨x, S', rfl, h1, h2⟩ H locs cells slots ls a1 a2 a3 a4 a5
  exact lv_if_gt C.1.1 C.1.2.1 hd ht (fun q => (h1 q).2 H locs cells slots ls a1 a2 a3 a4 a5) (fun q => (h2 q).2 H locs cells slots ls a1 a2 a3 a4 a5)
theorem k_icmp_gt {off : Int} {tg : Nat} (hd : decode cc pc = .ok (.if_icmp .gt off, 3)) (ht : (pc : Int) + off = (tg : Int)) : okA SC M (cc, own, nL, mr, ini) pc (o_cmp (fun x y => y < x) tg (pc + 3)) := by
  refine ⟨m_cmp _ _ _, ?_⟩
  rintro p l e R s m args below meth c Q g n0 z0 N Z F Rt C L S h ⟨x, y, S', rfl, h1, h2⟩ H locs cells slots ls a1 a2 a3 a4 a5
  exact lv_icmp_gt C.1.1 C.1.2.1 hd ht (fun q => (h1 q).2 H locs cells slots ls a1 a2 a3 a4 a5) (fun q => (h2 q).2 H locs cells slots ls a1 a2 a3 a4 a5)
theorem k_if_le {off : Int} {tg : Nat} (hd : decode cc pc = .ok (.ifCond .le off, 3)) (ht : (pc : Int) + off = (tg : Int)) : okA SC M (cc, own, nL, mr, ini) pc (o_if (fun x => x ≤ 0) tg (pc + 3)) := by
  refine ⟨m_if _ _ _, ?_⟩
  rintro p l e R s m args below meth c Q g n0 z0 N Z F Rt C L S h ⟨x, S', rfl, h1, h2⟩ H locs cells slots ls a1 a2 a3 a4 a5
  exact lv_if_le C.1.1 C.1.2.1 hd ht (fun q => (h1 q).2 H locs cells slots ls a1 a2 a3 a4 a5) (fun q => (h2 q).2 H locs cells slots ls a1 a2 a3 a4 a5)
theorem k_icmp_le {off : Int} {tg : Nat} (hd : decode cc pc = .ok (.if_icmp .le off, 3)) (ht : (pc : Int) + off = (tg : Int)) : okA SC M (cc, own, nL, mr, ini) pc (o_cmp (fun x y => x ≤ y) tg (pc + 3)) := by
  refine ⟨m_cmp _ _ _, ?_⟩
  rintro p l e R s m args below meth c Q g n0 z0 N Z F Rt C L S h ⟨x, y, S', rfl, h1, h2⟩ H locs cells slots ls a1 a2 a3 a4 a5
  exact lv_icmp_le C.1.1 C.1.2.1 hd ht (fun q => (h1 q).2 H locs cells slots ls a1 a2 a3 a4 a5) (fun q => (h2 q).2 H locs cells slots ls a1 a2 a3 a4 a5)
theorem k_ifnull {off : Int} {tg : Nat} (hd : decode cc pc = .ok (.ifnull off, 3)) (ht : (pc : Int) + off = (tg : Int)) : okA SC M (cc, own, nL, mr, ini) pc (o_nul tg (pc + 3)) := by
  refine ⟨m_nul _ _, ?_⟩
  rintro p l e R s m args below meth c Q g n0 z0 N Z F Rt C L S h (⟨S', rfl, ho⟩ | ⟨k, S', rfl, ho⟩) H locs cells slots ls a1 a2 a3 a4 a5
  · exact lv_ifnullN C.1.1 C.1.2.1 hd ht (ho.2 H locs cells slots ls a1 a2 a3 a4 a5)
  · exact lv_ifnull C.1.1 C.1.2.1 hd (ho.2 H locs cells slots ls a1 a2 a3 a4 a5)
/-- ifnonnull: null goes on, another jumps -/
def o_nnul (tg nx : Nat) : pO := fun _ _ K L S h => (∃ S', S = .null :: S' ∧ K nx L S' h) ∨ (∃ k S', S = .ref k :: S' ∧ K tg L S' h)
theorem m_nnul (tg nx : Nat) : moO (o_nnul tg nx) ∧ leO (o_nnul tg nx) := ⟨fun _ _ _ _ _ _ _ hP q => q.elim (fun ⟨s, a, b⟩ => Or.inl ⟨s, a, hP _ _ _ _ b⟩) (fun ⟨k, s, a, b⟩ => Or.inr ⟨k, s, a, hP _ _ _ _ b⟩), fun _ _ _ _ _ _ _ _ _ q => q.elim (fun ⟨_, _, b⟩ => b) (fun ⟨_, _, _, b⟩ => b)⟩
theorem k_ifnonnull {off : Int} {tg : Nat} (hd : decode cc pc = .ok (.ifnonnull off, 3)) (ht : (pc : Int) + off = (tg : Int)) : okA SC M (cc, own, nL, mr, ini) pc (o_nnul tg (pc + 3)) := by
  refine ⟨m_nnul _ _, ?_⟩
  rintro p l e R s m args below meth c Q g n0 z0 N Z F Rt C L S h (⟨S', rfl, ho⟩ | ⟨k, S', rfl, ho⟩) H locs cells slots ls a1 a2 a3 a4 a5
  · exact lv_ifnonnullN C.1.1 C.1.2.1 hd (ho.2 H locs cells slots ls a1 a2 a3 a4 a5)
  · exact lv_ifnonnull C.1.1 C.1.2.1 hd ht (ho.2 H locs cells slots ls a1 a2 a3 a4 a5)
theorem k_tsw {dflt lo hi : Int} {offs : Array Int} {len df : Nat} (ps : List (Int32 × Nat)) (hd : decode cc pc = .ok (.tableswitch dflt lo hi offs, len)) (hdf : (pc : Int) + dflt = (df : Int)) (hlo : -2147483648 ≤ lo) (hhi : hi ≤ 2147483647)
    (hp : ∀ i, i < ps.length → ∃ off : Int, offs[i]? = some off ∧ (pc : Int) + off = ((ps.getD i (0, 0)).2 : Int) ∧ (ps.getD i (0, 0)).1 = Int32.ofInt (lo + i)) (hn : (ps.length : Int) = hi - lo + 1) : okA SC M (cc, own, nL, mr, ini) pc (o_sw ps df) := by
  refine ⟨m_sw _ _, ?_⟩
  rintro p l e R s m args below meth c Q g n0 z0 N Z F Rt C L S h ⟨x, S', rfl, h1, h2⟩ H locs cells slots ls a1 a2 a3 a4 a5
  by_cases hx : x.toInt < lo ∨ hi < x.toInt
  · refine lv_tableOut C.1.1 C.1.2.1 hd hx hdf ((h2 ?_).2 H locs cells slots ls a1 a2 a3 a4 a5)
    intro q hq e
    obtain ⟨i, hi1⟩ := List.getElem?_of_mem hq
    have hil := (List.getElem?_eq_some_iff.mp hi1).1
    obtain ⟨off, -, -, h3⟩ := hp i hil
    have hg : ps.getD i (0, 0) = q := by simp [List.getD, hi1]
    rw [hg] at h3
    rw [e, h3, Int32.toInt_ofInt_of_le (by omega) (by omega)] at hx
    omega
  · have hx1 : ¬ x.toInt < lo := fun z => hx (Or.inl z)
    have hx2 : ¬ hi < x.toInt := fun z => hx (Or.inr z)
    have hil : (x.toInt - lo).toNat < ps.length := by omega
    obtain ⟨off, h3, h4, h5⟩ := hp _ hil
    refine lv_tableIn C.1.1 C.1.2.1 hd hx1 hx2 h3 h4 ((h1 (ps.getD (x.toInt - lo).toNat (0, 0)) ?_ ?_).2 H locs cells slots ls a1 a2 a3 a4 a5)
    · simp [List.getD, hil]
    · rw [h5]
      rw [show lo + ((x.toInt - lo).toNat : Int) = x.toInt by omega]
      exact (Int32.ofInt_toInt x).symm
theorem k_lsw {dflt : Int} {qs : Array (Int × Int)} {len df : Nat} (ps : List (Int32 × Nat)) (hd : decode cc pc = .ok (.lookupswitch dflt qs, len)) (hdf : (pc : Int) + dflt = (df : Int)) (hs : (qs.toList.zip (qs.toList.drop 1)).all (fun (a, next) => a.1 < next.1) = true)
    (hp : ps.map (fun q => (q.1.toInt, (q.2 : Int))) = qs.toList.map (fun q => (q.1, (pc : Int) + q.2))) : okA SC M (cc, own, nL, mr, ini) pc (o_sw ps df) := by
  refine ⟨m_sw _ _, ?_⟩
  rintro p l e R s m args below meth c Q g n0 z0 N Z F Rt C L S h ⟨x, S', rfl, h1, h2⟩ H locs cells slots ls a1 a2 a3 a4 a5
  have key : ∀ (qs : List (Int × Int)) (ps : List (Int32 × Nat)), ps.map (fun q => (q.1.toInt, (q.2 : Int))) = qs.map (fun q => (q.1, (pc : Int) + q.2)) → (∃ q ∈ ps, x = q.1 ∧ (pc : Int) + Op.lookupswitch.offset qs dflt x.toInt = (q.2 : Int)) ∨ ((∀ q ∈ ps, ¬ x = q.1) ∧ Op.lookupswitch.offset qs dflt x.toInt = dflt) := by
    intro qs
    induction qs with
    | nil =>
      intro ps hps
      cases ps with
      | nil => exact Or.inr ⟨fun q hq => (by cases hq), rfl⟩
      | cons a t => simp at hps
    | cons b t ih =>
      intro ps hps
      cases ps with
      | nil => simp at hps
      | cons a u =>
        obtain ⟨b1, b2⟩ := b
        simp only [List.map_cons, List.cons.injEq, Prod.mk.injEq] at hps
        obtain ⟨⟨e1, e2⟩, e3⟩ := hps
        rw [Op.lookupswitch.offset_cons]
        by_cases hx : b1 = x.toInt
        · rw [if_pos hx]
          exact Or.inl ⟨a, List.mem_cons_self, Int32.toInt_inj.mp (by rw [← hx, e1]), e2.symm⟩
        · rw [if_neg hx]
          rcases ih u e3 with ⟨q, g1, g2, g3⟩ | ⟨g1, g2⟩
          · exact Or.inl ⟨q, List.mem_cons_of_mem _ g1, g2, g3⟩
          · refine Or.inr ⟨fun q hq => ?_, g2⟩
            rcases List.mem_cons.mp hq with rfl | hq
            · intro z
              exact hx (by rw [z, e1])
            · exact g1 q hq
  rcases key qs.toList ps hp with ⟨q, g1, g2, g3⟩ | ⟨g1, g2⟩
  · exact lv_lookup C.1.1 C.1.2.1 hd hs rfl g3 ((h1 q g1 g2).2 H locs cells slots ls a1 a2 a3 a4 a5)
  · exact lv_lookup C.1.1 C.1.2.1 hd hs g2 hdf ((h2 g1).2 H locs cells slots ls a1 a2 a3 a4 a5)
theorem k_iret (hd : decode cc pc = .ok (.ireturn, 1)) : okA SC M (cc, own, nL, some .int, ini) pc o_iret := by
  refine ⟨m_iret, ?_⟩
  rintro p l e R s m args below meth c Q g n0 z0 N Z F Rt C L S h ⟨x, rfl, ho⟩ H locs cells slots ls a1 a2 a3 a4 a5
  exact (C.2.2.2.2.2.2 _ _ ho).2 pc _ H locs cells slots ls a1 a2 a4 a5 hd (Or.inl ⟨x, _, rfl, rfl, rfl, rfl⟩)
theorem k_zret (hd : decode cc pc = .ok (.ireturn, 1)) : okA SC M (cc, own, nL, some .boolean, ini) pc o_zret := by
  refine ⟨m_zret, ?_⟩
  rintro p l e R s m args below meth c Q g n0 z0 N Z F Rt C L S h ⟨x, rfl, hx, ho⟩ H locs cells slots ls a1 a2 a3 a4 a5
  exact (C.2.2.2.2.2.2 _ _ ho).2 pc _ H locs cells slots ls a1 a2 a4 a5 hd (Or.inl ⟨x, _, rfl, rfl, rfl, by rcases hx with rfl | rfl <;> rfl⟩)
theorem k_lret (hd : decode cc pc = .ok (.lreturn, 1)) : okA SC M (cc, own, nL, some .long, ini) pc o_lret := by
  refine ⟨m_lret, ?_⟩
  rintro p l e R s m args below meth c Q g n0 z0 N Z F Rt C L S h ⟨x, rfl, ho⟩ H locs cells slots ls a1 a2 a3 a4 a5
  exact (C.2.2.2.2.2.2 _ _ ho).2 pc _ H locs cells slots ls a1 a2 a4 a5 hd (Or.inr (Or.inl ⟨x, rfl, rfl, rfl⟩))
theorem k_aret {nm : String} (hd : decode cc pc = .ok (.areturn, 1)) : okA SC M (cc, own, nL, some (.object nm), ini) pc o_aret := by
  refine ⟨m_aret, ?_⟩
  rintro p l e R s m args below meth c Q g n0 z0 N Z F Rt C L S h ⟨x, rfl, hx, ho⟩ H locs cells slots ls a1 a2 a3 a4 a5
  exact (C.2.2.2.2.2.2 _ _ ho).2 pc _ H locs cells slots ls a1 a2 a4 a5 hd (Or.inr (Or.inr (Or.inr ⟨x, nm, rfl, hx, rfl, rfl⟩)))
theorem k_vret (hd : decode cc pc = .ok (.return_, 1)) : okA SC M (cc, own, nL, none, ini) pc o_vret := by
  refine ⟨m_vret, ?_⟩
  rintro p l e R s m args below meth c Q g n0 z0 N Z F Rt C L S h ⟨rfl, ho⟩ H locs cells slots ls a1 a2 a3 a4 a5
  exact (C.2.2.2.2.2.2 _ _ ho).2 pc _ H locs cells slots ls a1 a2 a4 a5 hd (Or.inr (Or.inr (Or.inl ⟨rfl, rfl, rfl⟩)))
end SO
