theorem cPre_blind (g : gG) (h : pH) (as : List Value) : FrameBlind (va_Pc (as.map (rn g)) (cPre g h)) := by
  rintro a U gf mk ⟨q0, q1, q2, q3⟩
  exact ⟨q0, q1, q2.same rfl, q3.moved (Vm.Alike.refl U.vm)⟩
theorem cPre_at {g : gG} {h : pH} {s : State} {H : Heap} {locs : List Loc} (a1 : wR g h H) (a2 : va_S (nA g) s.heap H locs) (k1 : cxK g s) (k2 : cxZ g s s.heap) : ∀ U : State, U.heap = H → s.WarmedH U.vm → cPre g h U := by
  intro U hU hW
  refine ⟨by rw [hU]; exact a1, k1.warm hW, ?_⟩
  rw [hU]
  exact (k2.kept a2.2.1).moved hW.alike
section SC1
variable {p : Program} {l : Launch} {e : Env} {R : Room} {s : State} {m : MethodId} {args : Array Value} {below : List Frame} {meth : Method} {c : Code} {H : Heap} {locs : List Loc} {cells slots : Nat} {Q : State → Prop}
theorem run_to {g : gG} {r : Option Value} {h1 : pH} {mc ms pc : Nat} {ls : Array Slot} {st0 rest : List Value} {a : Array Value} (hr : va_Run p l e R s m args below meth c H locs cells slots mc ms (F0 m pc ls st0) rest (cPost g r h1 a) (nA g)) (hS : va_S (nA g) s.heap H locs)
    (kk : ∀ (H1 : Heap) (locs1 : List Loc), wR g h1 H1 → va_S (nA g) s.heap H1 locs1 → W p l e R s m args below meth c H1 locs1 (cells + mc) (slots + ms) Q (F0 m (pc + 3) ls ((r.map (rn g)).toList ++ rest))) : W p l e R s m args below meth c H locs cells slots Q (F0 m pc ls st0) := by
  intro T hT X
  obtain ⟨v, st₀, t, T', L, h0, X', hL, e1, e2, ⟨hv, hw, hz, hk⟩, st⟩ := hr T hT X
  cases hv
  rw [h0] at hz hk
  obtain ⟨t2, b1, b2⟩ := kk T'.heap (locs ++ L) (by rw [e1]; exact hw) ⟨Nat.le_trans hS.1 (by rw [e1]; exact hz), fun q h1 h2 => by rw [e1, hk q (Nat.lt_of_lt_of_le h1 hS.1) h2]; exact hS.2.1 q h1 h2, fun q hq => by
      rcases List.mem_append.mp hq with h | h
      · exact hS.2.2 q h
      · exact hL q h⟩ T' rfl X'
  exact ⟨t2, st t2 b1, b2⟩
end SC1
theorem rn_sum (g : gG) (S : List Value) : ((S.map (rn g)).map fun v => v.category).sum = (S.map fun v => v.category).sum := by
  rw [List.map_map]
  have : ((fun v => v.category) ∘ rn g) = fun v : Value => v.category := funext fun v => rn_cat g v
  rw [this]
theorem S_split (g : gG) (S : List Value) (n : Nat) : S.map (rn g) = (((S.take n).reverse).map (rn g)).reverse ++ (S.drop n).map (rn g) := by
  rw [← List.map_reverse, List.reverse_reverse, ← List.map_append, List.take_append_drop]
theorem r_push (g : gG) (r : Option Value) (S : List Value) : (r.toList ++ S).map (rn g) = (r.map (rn g)).toList ++ S.map (rn g) := by cases r <;> rfl
def rc0 (_ : pH) (_ : List Value) : Prop := True
def rcI (_ : pH) (as : List Value) : Prop := ∃ k rest, as = .ref k :: rest
def rcV (ci : Nat) (h : pH) (as : List Value) : Prop := rcv h ci as
section SK
variable {SC : Nat → (Nat → Int32) → Prop} {M : mI} {cc : ByteArray} {own : String} {nL : Nat} {mr : Option FieldType} {ini : Bool} {pc : Nat}
theorem k_callV {idx y n ci : Nat} {C : String} {T : u_T} {Nf : Nat} (hc : vwCl[ci]? = some (C, T, Nf)) (w1 : Cond.methodLink own idx (M y).1 ∈ cG) (w2 : Cond.instanceMethod (M y).1 ∈ cG) (w3 : Cond.selects C (M y).1 (M y).1 ∈ cG) (w4 : Cond.initialized C ∈ cG) (w5 : Cond.code (M y).1 (M y).2.1 (M y).2.2.2.1 (M y).2.2.2.2.1 ∈ cG)
    (hy : (M y).1.cls = C ∧ (M y).1.cls ≠ "java/lang/invoke/MethodHandle" ∧ (M y).1.cls ≠ "java/lang/invoke/VarHandle" ∧ (parseMethodDescriptor (M y).1.desc).map (fun d => d.parameters.length) = some n) (hm : (M y).2.2.2.1 ≤ 45) (hd : decode cc pc = .ok (.invokevirtual idx, 3)) : okA SC M (cc, own, nL, mr, ini) pc (o_call (rcV ci) y (n + 1) (pc + 3)) := by
  refine ⟨m_call _ _ _ _, ?_⟩
  rintro p l e R s m args below meth c Q g n0 z0 N Z F Rt Cx L S h ⟨hn, hs, ⟨k, rest, fs, hk, hob⟩, r, h1, hF, ho⟩ H locs cells slots ls a1 a2 a3 a4 a5
  obtain ⟨hz, rm, r1, r2, r3, r4, hM⟩ := Cx.2.2.2.2.2.1 _ _ _ _ _ hF
  have hz1 := ho.1
  have hR := Cx.2.2.2.1
  have hlen : rest.length = n := by
    have e1 := congrArg List.length hk
    simp only [List.length_reverse, List.length_take, List.length_cons] at e1
    omega
  rw [S_split g S (n + 1), hk]
  rw [hk] at hM
  refine run_to (va_runV (As := rest.map (rn g)) (rest := (S.drop (n + 1)).map (rn g)) (b := g.1 + k) (C := C) (n := n) Cx.1 hM (cwV n Cx.1.2.2.2.2 (fun w hw => ?_) rfl r1 r2 hy ⟨r3, by omega⟩) ⟨cPre_blind g h _, ?_, fun U hU hW => ⟨rfl, cPre_at a1 a2 Cx.2.1 Cx.2.2.1.1 U hU hW⟩⟩ rfl (by rw [List.length_map]; exact hlen) a3.1 ?_ (lv_room (by rw [rn_sum]; exact hs)) hd ⟨by omega, by omega⟩) a2 (fun H1 locs1 hw hS1 => ?_)
  · unfold wsV at hw
    rcases List.mem_append.mp hw with hw | hw
    · simp only [List.mem_cons, List.not_mem_nil, or_false] at hw
      rcases hw with rfl | rfl | rfl | rfl
      · exact ⟨w1, cG_good w1⟩
      · exact ⟨w2, cG_good w2⟩
      · exact ⟨w3, cG_good w3⟩
      · exact ⟨w4, cG_good w4⟩
    · exact mW_good w5 w hw
  · exact va_recv Cx.2.1.1 (a1.at hob) (ci := ci) (q := (C, T, Nf)) (q0 := 0) hc rfl
  · simp [rn]
  · rw [← r_push]
    exact ho.2 H1 locs1 _ _ ls hw hS1 a3 (by omega) (by omega)
theorem k_callS {idx y n : Nat} (w1 : Cond.methodLink own idx (M y).1 ∈ cG) (w2 : Cond.static (M y).1 ∈ cG) (w4 : Cond.initialized (M y).1.cls ∈ cG) (w5 : Cond.code (M y).1 (M y).2.1 (M y).2.2.2.1 (M y).2.2.2.2.1 ∈ cG)
    (hy : (M y).1.cls ≠ "java/lang/invoke/MethodHandle" ∧ (M y).1.cls ≠ "java/lang/invoke/VarHandle" ∧ (parseMethodDescriptor (M y).1.desc).map (fun d => d.parameters.length) = some n) (hm : (M y).2.2.2.1 ≤ 45) (hd : decode cc pc = .ok (.invokestatic idx, 3)) : okA SC M (cc, own, nL, mr, ini) pc (o_call rc0 y n (pc + 3)) := by
  refine ⟨m_call _ _ _ _, ?_⟩
  rintro p l e R s m args below meth c Q g n0 z0 N Z F Rt Cx L S h ⟨hn, hs, -, r, h1, hF, ho⟩ H locs cells slots ls a1 a2 a3 a4 a5
  obtain ⟨hz, rm, r1, r2, r3, r4, hM⟩ := Cx.2.2.2.2.2.1 _ _ _ _ _ hF
  have hz1 := ho.1
  have hR := Cx.2.2.2.1
  rw [S_split g S n]
  refine run_to (va_runS (As := ((S.take n).reverse).map (rn g)) (rest := (S.drop n).map (rn g)) (n := n) Cx.1 hM (va_cwS n Cx.1.2.2.2.2 (fun w hw => ?_) rfl r1 r2 hy ⟨r3, by omega⟩) ⟨cPre_blind g h _, fun U hU hW => ⟨rfl, cPre_at a1 a2 Cx.2.1 Cx.2.2.1.1 U hU hW⟩⟩ rfl (by simp; omega) a3.1 rfl (lv_room (by rw [rn_sum]; exact hs)) hd ⟨by omega, by omega⟩) a2 (fun H1 locs1 hw hS1 => ?_)
  · unfold va_wsS at hw
    rcases List.mem_append.mp hw with hw | hw
    · simp only [List.mem_cons, List.not_mem_nil, or_false] at hw
      rcases hw with rfl | rfl | rfl
      · exact ⟨w1, cG_good w1⟩
      · exact ⟨w2, cG_good w2⟩
      · exact ⟨w4, cG_good w4⟩
    · exact mW_good w5 w hw
  · rw [← r_push]
    exact ho.2 H1 locs1 _ _ ls hw hS1 a3 (by omega) (by omega)
theorem k_callSN {idx y n : Nat} {host : String} (w1 : (own, idx, (M y).1, host) ∈ nests) (w2 : Cond.static (M y).1 ∈ cG) (w4 : Cond.initialized (M y).1.cls ∈ cG) (w5 : Cond.code (M y).1 (M y).2.1 (M y).2.2.2.1 (M y).2.2.2.2.1 ∈ cG)
    (hy : (M y).1.cls ≠ "java/lang/invoke/MethodHandle" ∧ (M y).1.cls ≠ "java/lang/invoke/VarHandle" ∧ (parseMethodDescriptor (M y).1.desc).map (fun d => d.parameters.length) = some n) (hm : (M y).2.2.2.1 ≤ 45) (hd : decode cc pc = .ok (.invokestatic idx, 3)) : okA SC M (cc, own, nL, mr, ini) pc (o_call rc0 y n (pc + 3)) := by
  refine ⟨m_call _ _ _ _, ?_⟩
  rintro p l e R s m args below meth c Q g n0 z0 N Z F Rt Cx L S h ⟨hn, hs, -, r, h1, hF, ho⟩ H locs cells slots ls a1 a2 a3 a4 a5
  obtain ⟨hz, rm, r1, r2, r3, r4, hM⟩ := Cx.2.2.2.2.2.1 _ _ _ _ _ hF
  have hz1 := ho.1
  have hR := Cx.2.2.2.1
  rw [S_split g S n]
  refine run_to (va_runSN (As := ((S.take n).reverse).map (rn g)) (rest := (S.drop n).map (rn g)) (n := n) Cx.1 hM ⟨va_cnB n Cx.1.2.2.2.2 (mW_good w5) rfl r1 r2 (Cx.2.1.2.1 _ w1) (Cx.1.2.2.2.2 _ w4) hy ⟨r3, by omega⟩, Cx.1.2.2.2.2 _ w2, trivial⟩ ⟨cPre_blind g h _, fun U hU hW => ⟨rfl, cPre_at a1 a2 Cx.2.1 Cx.2.2.1.1 U hU hW⟩⟩ rfl (by simp; omega) a3.1 rfl (lv_room (by rw [rn_sum]; exact hs)) hd ⟨by omega, by omega⟩) a2 (fun H1 locs1 hw hS1 => ?_)
  rw [← r_push]
  exact ho.2 H1 locs1 _ _ ls hw hS1 a3 (by omega) (by omega)
theorem k_callI {idx y n : Nat} (w1 : Cond.methodLink own idx (M y).1 ∈ cG) (w2 : Cond.instanceMethod (M y).1 ∈ cG) (w4 : Cond.initialized (M y).1.cls ∈ cG) (hrt : (M y).2.2.2.2.1 = none) (w5 : Cond.code (M y).1 (M y).2.1 (M y).2.2.2.1 (M y).2.2.2.2.1 ∈ cG) (hin : (M y).1.name = "<init>")
    (hy : (M y).1.cls ≠ "java/lang/invoke/MethodHandle" ∧ (M y).1.cls ≠ "java/lang/invoke/VarHandle" ∧ (parseMethodDescriptor (M y).1.desc).map (fun d => d.parameters.length) = some n) (hm : (M y).2.2.2.1 ≤ 45) (hd : decode cc pc = .ok (.invokespecial idx, 3)) : okA SC M (cc, own, nL, mr, ini) pc (o_call rcI y (n + 1) (pc + 3)) := by
  refine ⟨m_call _ _ _ _, ?_⟩
  rintro p l e R s m args below meth c Q g n0 z0 N Z F Rt Cx L S h ⟨hn, hs, ⟨k, rest, hk⟩, r, h1, hF, ho⟩ H locs cells slots ls a1 a2 a3 a4 a5
  obtain ⟨hz, rm, r1, r2, r3, r4, hM⟩ := Cx.2.2.2.2.2.1 _ _ _ _ _ hF
  have hz1 := ho.1
  have hR := Cx.2.2.2.1
  have hlen : rest.length = n := by
    have e1 := congrArg List.length hk
    simp only [List.length_reverse, List.length_take, List.length_cons] at e1
    omega
  rw [S_split g S (n + 1), hk]
  rw [hk] at hM
  refine run_to (va_runI (As := rest.map (rn g)) (rest := (S.drop (n + 1)).map (rn g)) (b := g.1 + k) (n := n) Cx.1 hM (cwI n Cx.1.2.2.2.2 (mW_good w5) (by unfold mW; rw [hrt]) r1 r2 (Cx.1.2.2.2.2 _ w4) (Cx.1.2.2.2.2 _ w1) (Cx.1.2.2.2.2 _ w2) hin hy ⟨r3, by omega⟩) ⟨cPre_blind g h _, fun U hU hW => ⟨rfl, cPre_at a1 a2 Cx.2.1 Cx.2.2.1.1 U hU hW⟩⟩ rfl (by rw [List.length_map]; exact hlen) a3.1 ?_ (lv_room (by rw [rn_sum]; exact hs)) hd ⟨by omega, by omega⟩) a2 (fun H1 locs1 hw hS1 => ?_)
  · simp [rn]
  · rw [← r_push]
    exact ho.2 H1 locs1 _ _ ls hw hS1 a3 (by omega) (by omega)
theorem k_callIN {idx y n : Nat} {host : String} (w1 : (own, idx, (M y).1, host) ∈ nests) (w2 : Cond.instanceMethod (M y).1 ∈ cG) (w4 : Cond.initialized (M y).1.cls ∈ cG) (hrt : (M y).2.2.2.2.1 = none) (w5 : Cond.code (M y).1 (M y).2.1 (M y).2.2.2.1 (M y).2.2.2.2.1 ∈ cG) (hin : (M y).1.name = "<init>")
    (hy : (M y).1.cls ≠ "java/lang/invoke/MethodHandle" ∧ (M y).1.cls ≠ "java/lang/invoke/VarHandle" ∧ (parseMethodDescriptor (M y).1.desc).map (fun d => d.parameters.length) = some n) (hm : (M y).2.2.2.1 ≤ 45) (hd : decode cc pc = .ok (.invokespecial idx, 3)) : okA SC M (cc, own, nL, mr, ini) pc (o_call rcI y (n + 1) (pc + 3)) := by
  refine ⟨m_call _ _ _ _, ?_⟩
  rintro p l e R s m args below meth c Q g n0 z0 N Z F Rt Cx L S h ⟨hn, hs, ⟨k, rest, hk⟩, r, h1, hF, ho⟩ H locs cells slots ls a1 a2 a3 a4 a5
  obtain ⟨hz, rm, r1, r2, r3, r4, hM⟩ := Cx.2.2.2.2.2.1 _ _ _ _ _ hF
  have hz1 := ho.1
  have hR := Cx.2.2.2.1
  have hlen : rest.length = n := by
    have e1 := congrArg List.length hk
    simp only [List.length_reverse, List.length_take, List.length_cons] at e1
    omega
  rw [S_split g S (n + 1), hk]
  rw [hk] at hM
  refine run_to (va_runIN (As := rest.map (rn g)) (rest := (S.drop (n + 1)).map (rn g)) (b := g.1 + k) (n := n) Cx.1 hM ⟨va_cnB n Cx.1.2.2.2.2 (mW_good w5) (by unfold mW; rw [hrt]) r1 r2 (Cx.2.1.2.1 _ w1) (Cx.1.2.2.2.2 _ w4) hy ⟨r3, by omega⟩, hin, Cx.1.2.2.2.2 _ w2⟩ ⟨cPre_blind g h _, fun U hU hW => ⟨rfl, cPre_at a1 a2 Cx.2.1 Cx.2.2.1.1 U hU hW⟩⟩ rfl (by rw [List.length_map]; exact hlen) a3.1 ?_ (lv_room (by rw [rn_sum]; exact hs)) hd ⟨by omega, by omega⟩) a2 (fun H1 locs1 hw hS1 => ?_)
  · simp [rn]
  · rw [← r_push]
    exact ho.2 H1 locs1 _ _ ls hw hS1 a3 (by omega) (by omega)
end SK
/-! Math.min, Math.max: the library's own rows -/
def o_mm (f : Int32 → Int32 → Int32) (nx : Nat) : pO := fun _ _ K L S h => ∃ x y S', S = .int y :: .int x :: S' ∧ sOK S' ∧ K nx L (.int (f x y) :: S') h
theorem m_mm (f : Int32 → Int32 → Int32) (nx : Nat) : moO (o_mm f nx) ∧ leO (o_mm f nx) := ⟨fun _ _ _ _ _ _ _ hP ⟨x, y, s, a, b, h⟩ => ⟨x, y, s, a, b, hP _ _ _ _ h⟩, fun _ _ _ _ _ _ _ _ _ ⟨_, _, _, _, _, h⟩ => h⟩
section SM
variable {SC : Nat → (Nat → Int32) → Prop} {M : mI} {cc : ByteArray} {own : String} {nL : Nat} {mr : Option FieldType} {ini : Bool} {pc : Nat}
theorem k_mmin {idx : Nat} (w1 : Cond.methodLink own idx Lib.Math.min.name ∈ cG) (w2 : Cond.static Lib.Math.min.name ∈ cG) (w3 : Cond.initialized "java/lang/Math" ∈ cG) (w4 : Cond.code Lib.Math.min.name Lib.Math.min.code 2 (some .int) ∈ cG) (hd : decode cc pc = .ok (.invokestatic idx, 3)) : okA SC M (cc, own, nL, mr, ini) pc (o_mm (fun x y => if y < x then y else x) (pc + 3)) := by
  refine ⟨m_mm _ _, ?_⟩
  rintro p l e R s m args below meth c Q g n0 z0 N Z F Rt C L S h ⟨x, y, S', rfl, hs, ho⟩ H locs cells slots ls a1 a2 a3 a4 a5
  have hR := C.2.2.2.1
  have hz := ho.1
  have hs' : ((S'.map (rn g)).map fun v => v.category).sum ≤ 8 := by rw [rn_sum]; exact hs
  exact va_mmin C.1.1 C.1.2.1 (by rw [C.1.2.2.1]; exact a3.1.symm) C.1.2.2.2.1 (C.1.2.2.2.2 _ w1) (C.1.2.2.2.2 _ w2) (C.1.2.2.2.2 _ w3) (C.1.2.2.2.2 _ w4) hR.2.2.2.1 (by omega) (by omega) (by omega) hd (ho.2 H locs cells slots ls a1 a2 a3 a4 a5)
theorem k_mmax {idx : Nat} (w1 : Cond.methodLink own idx Lib.Math.max.name ∈ cG) (w2 : Cond.static Lib.Math.max.name ∈ cG) (w3 : Cond.initialized "java/lang/Math" ∈ cG) (w4 : Cond.code Lib.Math.max.name Lib.Math.max.code 2 (some .int) ∈ cG) (hd : decode cc pc = .ok (.invokestatic idx, 3)) : okA SC M (cc, own, nL, mr, ini) pc (o_mm (fun x y => if x < y then y else x) (pc + 3)) := by
  refine ⟨m_mm _ _, ?_⟩
  rintro p l e R s m args below meth c Q g n0 z0 N Z F Rt C L S h ⟨x, y, S', rfl, hs, ho⟩ H locs cells slots ls a1 a2 a3 a4 a5
  have hR := C.2.2.2.1
  have hz := ho.1
  have hs' : ((S'.map (rn g)).map fun v => v.category).sum ≤ 8 := by rw [rn_sum]; exact hs
  exact va_mmax C.1.1 C.1.2.1 (by rw [C.1.2.2.1]; exact a3.1.symm) C.1.2.2.2.1 (C.1.2.2.2.2 _ w1) (C.1.2.2.2.2 _ w2) (C.1.2.2.2.2 _ w3) (C.1.2.2.2.2 _ w4) hR.2.2.2.1 (by omega) (by omega) (by omega) hd (ho.2 H locs cells slots ls a1 a2 a3 a4 a5)
end SM
