theorem cG_good {w : Cond} (h : w ∈ cG) : (w.onTables && w.keeps) = true ∨ ∃ ty, w = .arrayClass ty := good_of_word (List.mem_filter.mp h).2
theorem mW_good {M : mI} {y : Nat} (hc : Cond.code (M y).1 (M y).2.1 (M y).2.2.2.1 (M y).2.2.2.2.1 ∈ cG) : GoodIn cG (mW M y) := fun w hw => by
  rcases List.mem_cons.mp hw with rfl | hw
  · exact ⟨hc, cG_good hc⟩
  · exact ⟨hw, cG_good hw⟩
def okI (v : Value) : Prop := ∃ x, v = .int x
def okZ (v : Value) : Prop := v = .int 0 ∨ v = .int 1
def okJ (v : Value) : Prop := ∃ x, v = .long x
def okR (v : Value) : Prop := ∃ k, v = .ref k
theorem okI_fit (g : gG) (v : Value) (h : okI v) : narrow .int (rn g v) = rn g v ∧ fits .int (rn g v) = true := by obtain ⟨x, rfl⟩ := h; exact ⟨rfl, rfl⟩
theorem okZ_fit (g : gG) (v : Value) (h : okZ v) : narrow .boolean (rn g v) = rn g v ∧ fits .boolean (rn g v) = true := by rcases h with rfl | rfl <;> exact ⟨rfl, rfl⟩
theorem okJ_fit (g : gG) (v : Value) (h : okJ v) : narrow .long (rn g v) = rn g v ∧ fits .long (rn g v) = true := by obtain ⟨x, rfl⟩ := h; exact ⟨rfl, rfl⟩
theorem okR_fitO (n : String) (g : gG) (v : Value) (h : okR v) : narrow (.object n) (rn g v) = rn g v ∧ fits (.object n) (rn g v) = true := by obtain ⟨x, rfl⟩ := h; exact ⟨rfl, rfl⟩
theorem okR_fitA (t : FieldType) (g : gG) (v : Value) (h : okR v) : narrow (.array t) (rn g v) = rn g v ∧ fits (.array t) (rn g v) = true := by obtain ⟨x, rfl⟩ := h; exact ⟨rfl, rfl⟩
section SH
variable {SC : Nat → (Nat → Int32) → Prop} {M : mI} {cc : ByteArray} {own : String} {nL : Nat} {mr : Option FieldType} {ini : Bool} {pc : Nat}
theorem k_gf {idx ci j Nf : Nat} {Cn : String} {T : u_T} (hc : vwCl[ci]? = some (Cn, T, Nf)) (hin : ∀ w ∈ u_ws Cn T Nf, w ∈ cG) (hj : j < Nf) (hl : Cond.fieldLink own idx (T j).1 (T j).2.1 (T j).2.2.1 ∈ cG) (hd : decode cc pc = .ok (.getfield idx, 3)) : okA SC M (cc, own, nL, mr, ini) pc (o_gf ci j (pc + 3)) := by
  refine ⟨m_gf _ _ _, ?_⟩
  rintro p l e R s m args below meth c Q g n0 z0 N Z F Rt C L S h ⟨k, S', v, rfl, hg, ho⟩ H locs cells slots ls a1 a2 a3 a4 a5
  obtain ⟨fs, h1, h2⟩ := gf_some hg
  exact va_get C.1.1 C.1.2.1 C.1.2.2.2.2 hin C.1.2.2.2.1 C.2.1.1 (a1.at h1) 0 rfl hc j hj (C.1.2.2.2.2 _ hl) (fun _ z => z) (v := rn g v) (by rw [List.getElem?_map, h2]; rfl) hd (ho.2 H locs cells slots ls a1 a2 a3 a4 a5)
theorem k_pf {ok : Value → Prop} {idx ci j Nf : Nat} {Cn : String} {T : u_T} {ty : FieldType} (ty0 : Nat → FieldType) (hty : ∀ k, k < Nf → parseFieldDescriptor (T k).2.2.1 = some (ty0 k)) (hnm : ∀ a, a < Nf → ∀ b, b < Nf → a ≠ b → (T a).2.1 ≠ (T b).2.1) (hok : ∀ g v, ok v → narrow ty (rn g v) = rn g v ∧ fits ty (rn g v) = true) (hc : vwCl[ci]? = some (Cn, T, Nf)) (hin : ∀ w ∈ u_ws Cn T Nf, w ∈ cG) (hj : j < Nf) (hfin : (T j).2.2.2 = false) (hdt : parseFieldDescriptor (T j).2.2.1 = some ty) (hl : Cond.fieldLink own idx (T j).1 (T j).2.1 (T j).2.2.1 ∈ cG) (hd : decode cc pc = .ok (.putfield idx, 3)) : okA SC M (cc, own, nL, mr, ini) pc (o_pf ok ci j (pc + 3)) := by
  refine ⟨m_pf _ _ _ _, ?_⟩
  rintro p l e R s m args below meth c Q g n0 z0 N Z F Rt C L S h ⟨v, k, S', h', rfl, hv, hg, ho⟩ H locs cells slots ls a1 a2 a3 a4 a5
  obtain ⟨fs, h1, h2, rfl⟩ := pfh_some hg
  have hap := va_apart (own := own) C.1.2.2.2.2 hin ty0 hty hnm C.2.1.1 hc
  obtain ⟨r, r1, cell, q1, q2, q3, q4⟩ := a1.2 k _ h1
  have hr : r = (Cn, T, Nf) := Option.some.inj (r1.symm.trans hc)
  subst hr
  obtain ⟨hS, hfc, kC, hkC, hkind⟩ := C.2.1.1.1 ci _ hc
  obtain ⟨cf, kf, fi, f, hi, hsl⟩ := hS j hj
  have hlay := C.1.2.2.2.2 _ (hin _ (u_in_lay hj))
  unfold u_lay at hlay
  rw [if_neg (by rw [hfin]; decide)] at hlay
  have hst := (u_facts hfc hkC (u_lays C.1.2.2.2.2 hin hj) hi).1
  have h6 := u_store hfc hkC hkind hlay hi hdt (hok g v hv).1 (hok g v hv).2
  refine W.putK C.1.1 C.1.2.1 (f := f) ⟨C.1.2.2.2.1, C.1.2.2.2.2 _ hl, ⟨_, _, _, hi⟩, hst⟩ (by rw [q2]; exact h6) q1 q3 (by rw [hsl]; exact k2_hasslot (q4 j hj)) rfl rfl hd fun H' e1 e2 e3 => ?_
  rw [hsl] at e1 ⊢
  refine ho.2 H' _ cells slots ls (a1.set h1 e2 e3 ⟨_, hc, t_OB.to (V := updV (vp_V (fs.map (rn g))) j (rn g v)) ⟨_, e1, q2, q3, t_set q4 hap hj (rn g v)⟩ (fun i _ => ?_)⟩) (a2.put e2 e3 (Nat.le_add_right _ _)) a3 (by rw [List.length_set]; exact a4) (by rw [sz_set h1 (by simp [csz])]; exact a5)
  rw [vp_updV_set (by rw [List.length_map]; exact h2)]
  show _ = vp_V ((fs.set j v).map (rn g)) i
  rw [List.map_set]
theorem k_pfF {ok : Value → Prop} {idx ci j Nf : Nat} {Cn : String} {T : u_T} {ty : FieldType} (ty0 : Nat → FieldType) (hty : ∀ k, k < Nf → parseFieldDescriptor (T k).2.2.1 = some (ty0 k)) (hnm : ∀ a, a < Nf → ∀ b, b < Nf → a ≠ b → (T a).2.1 ≠ (T b).2.1) (hok : ∀ g v, ok v → narrow ty (rn g v) = rn g v ∧ fits ty (rn g v) = true) (hc : vwCl[ci]? = some (Cn, T, Nf)) (hin : ∀ w ∈ u_ws Cn T Nf, w ∈ cG) (hj : j < Nf) (hfin : (T j).2.2.2 = true) (hdecl : (T j).1 = own) (hdt : parseFieldDescriptor (T j).2.2.1 = some ty) (hl : Cond.fieldLink own idx (T j).1 (T j).2.1 (T j).2.2.1 ∈ cG) (hd : decode cc pc = .ok (.putfield idx, 3)) : okA SC M (cc, own, nL, mr, true) pc (o_pf ok ci j (pc + 3)) := by
  refine ⟨m_pf _ _ _ _, ?_⟩
  rintro p l e R s m args below meth c Q g n0 z0 N Z F Rt C L S h ⟨v, k, S', h', rfl, hv, hg, ho⟩ H locs cells slots ls a1 a2 a3 a4 a5
  obtain ⟨fs, h1, h2, rfl⟩ := pfh_some hg
  have hap := va_apart (own := own) C.1.2.2.2.2 hin ty0 hty hnm C.2.1.1 hc
  obtain ⟨r, r1, cell, q1, q2, q3, q4⟩ := a1.2 k _ h1
  have hr : r = (Cn, T, Nf) := Option.some.inj (r1.symm.trans hc)
  subst hr
  obtain ⟨hS, hfc, kC, hkC, hkind⟩ := C.2.1.1.1 ci _ hc
  obtain ⟨cf, kf, fi, f, hi, hsl⟩ := hS j hj
  have hlay := C.1.2.2.2.2 _ (hin _ (u_in_lay hj))
  unfold u_lay at hlay
  rw [if_pos hfin] at hlay
  have hst := (u_facts hfc hkC (u_lays C.1.2.2.2.2 hin hj) hi).1
  have hcf : m.cls = cf := by
    obtain ⟨_, _, c', _, _, _, -, -, hf', -, -, -, hown2, -⟩ := Cond.laysFinal_spec hlay
    have e1 : c' = cf := by have := hi.symm.trans hf'; simp at this; exact this.1.symm
    rw [hdecl] at hown2
    rw [← e1]; exact Option.some.inj (C.1.2.2.2.1.symm.trans hown2)
  have h6 := u_fits hfc hkC hkind (Or.inr hlay) hi hdt (hok g v hv).1 (hok g v hv).2
  refine W.putFinK C.1.1 C.1.2.1 C.1.2.2.2.1 (C.1.2.2.2.2 _ hl) hi hst hcf (C.2.2.2.2.1 rfl) (by rw [q2]; exact h6) q1 q3 (by rw [hsl]; exact k2_hasslot (q4 j hj)) rfl rfl hd fun H' e1 e2 e3 => ?_
  rw [hsl] at e1 ⊢
  refine ho.2 H' _ cells slots ls (a1.set h1 e2 e3 ⟨_, hc, t_OB.to (V := updV (vp_V (fs.map (rn g))) j (rn g v)) ⟨_, e1, q2, q3, t_set q4 hap hj (rn g v)⟩ (fun i _ => ?_)⟩) (a2.put e2 e3 (Nat.le_add_right _ _)) a3 (by rw [List.length_set]; exact a4) (by rw [sz_set h1 (by simp [csz])]; exact a5)
  rw [vp_updV_set (by rw [List.length_map]; exact h2)]
  show _ = vp_V ((fs.set j v).map (rn g)) i
  rw [List.map_set]
theorem k_ia (hd : decode cc pc = .ok (.iaload, 1)) : okA SC M (cc, own, nL, mr, ini) pc (o_ia (pc + 1)) := by
  refine ⟨m_ia _, ?_⟩
  rintro p l e R s m args below meth c Q g n0 z0 N Z F Rt C L S h ⟨i, k, S', x, rfl, hg, ho⟩ H locs cells slots ls a1 a2 a3 a4 a5
  obtain ⟨xs, h1, h2, rfl⟩ := ild_some hg
  exact va_iald C.1.1 C.1.2.1 C.2.1.1 (a1.at h1) 0 0 rfl rfl h2 hd (ho.2 H locs cells slots ls a1 a2 a3 a4 a5)
theorem k_ist (hd : decode cc pc = .ok (.iastore, 1)) : okA SC M (cc, own, nL, mr, ini) pc (o_ist (pc + 1)) := by
  refine ⟨m_ist _, ?_⟩
  rintro p l e R s m args below meth c Q g n0 z0 N Z F Rt C L S h ⟨x, i, k, S', h', rfl, hg, ho⟩ H locs cells slots ls a1 a2 a3 a4 a5
  obtain ⟨xs, h1, h2, rfl⟩ := ist_some hg
  have hlt : i.toNatClampNeg < xs.length := Nat.not_le.mp fun q => h2 (Or.inr q)
  refine W.iast C.1.1 C.1.2.1 (a1.2 k _ h1) ((C.2.1.1.2 0 _ rfl).1 xs.length (fun j => .int (xs.getD j 0))) (fun q => by cases q) (by show ¬ (i < 0 ∨ (arrV _ _ _).slots.size ≤ _); rw [arrV_size]; exact h2) rfl rfl hd fun H1 e1 e2 e3 => ?_
  refine ho.2 H1 _ cells slots ls (a1.set h1 e2 e3 ?_) (a2.put e2 e3 (Nat.le_add_right _ _)) a3 (by rw [List.length_set]; exact a4) (by rw [sz_set h1 (by simp [csz])]; exact a5)
  show H1[_]? = some (vp_cell _ _)
  rw [e1]
  show some ((vp_cell _ (_, Sum.inl _)).setSlot _ _) = some (vp_cell _ (_, Sum.inl _))
  rw [vp_cell_i, vp_cell_i, arrV_store, List.length_set]
  congr 2
  funext q
  by_cases hq : q = i.toNatClampNeg
  · subst hq
    simp [updV, hlt]
  · simp [updV, hq, List.getElem?_set_ne (Ne.symm hq)]
theorem k_aa (hd : decode cc pc = .ok (.aaload, 1)) : okA SC M (cc, own, nL, mr, ini) pc (o_aa (pc + 1)) := by
  refine ⟨m_aa _, ?_⟩
  rintro p l e R s m args below meth c Q g n0 z0 N Z F Rt C L S h ⟨i, k, S', v, rfl, hg, ho⟩ H locs cells slots ls a1 a2 a3 a4 a5
  obtain ⟨t, rs, r, h1, ht, h2, h3, rfl⟩ := ald_some hg
  have hk := ho.2 H locs cells slots ls a1 a2 a3 a4 a5
  have ee : va_rf ((rs.getD i.toNatClampNeg none).map (fun k => g.1 + k)) = rn g (vq r) := by
    rw [show rs.getD i.toNatClampNeg none = r by simp [List.getD, h3]]
    cases r <;> rfl
  have hk2 : W p l e R s m args below meth c H locs cells slots Q (F0 m (pc + 1) ls (va_rf ((rs.getD i.toNatClampNeg none).map (fun k => g.1 + k)) :: S'.map (rn g))) := by rw [ee]; exact hk
  match t, ht with
  | 0, _ => exact va_aldq C.1.1 C.1.2.1 C.2.1.1 (a1.at h1) 0 1 rfl rfl h2 hd hk2
  | 1, _ => exact va_aldq C.1.1 C.1.2.1 C.2.1.1 (a1.at h1) 0 2 rfl rfl h2 hd hk2
theorem k_ast {t ci : Nat} {r : vw_C} (t0 : Nat) (ht : ∀ g : gG, (tyl g)[t0]? = some (g.2.2.2.2.1 t, .object r.1)) (hc : vwCl[ci]? = some r) (hd : decode cc pc = .ok (.aastore, 1)) : okA SC M (cc, own, nL, mr, ini) pc (o_ast t ci (pc + 1)) := by
  refine ⟨m_ast _ _ _, ?_⟩
  rintro p l e R s m args below meth c Q g n0 z0 N Z F Rt C L S h ⟨v, i, k, S', h', rfl, hg, ho⟩ H locs cells slots ls a1 a2 a3 a4 a5
  obtain ⟨rs, fs, h1, h2, h3, rfl⟩ := asth_some hg
  have hlt : i.toNatClampNeg < rs.length := Nat.not_le.mp fun q => h3 (Or.inr q)
  have h0 : ¬ i < 0 := fun q => h3 (Or.inl q)
  obtain ⟨r', hr', cellV, g1, g2, g3, -⟩ := a1.2 v _ h2
  have hcls := (C.2.1.1.1 ci r hc).2
  obtain ⟨kA, comp, k1, k2, k3, -⟩ := (C.2.1.1.2 t0 _ (ht g)).2
  have hcomp : comp = g.2.2.2.2.2.1 ci := Option.some.inj (k3.symm.trans hcls.1)
  subst hcomp
  obtain ⟨kC, hkC, -⟩ := hcls.2
  refine W.aast C.1.1 C.1.2.1 (a1.2 k _ h1) (fun q h => by cases h) (fun h => by cases h) k1 k2 rfl hkC ⟨h0, by show _ < (arrV _ _ _).slots.size; rw [arrV_size]; exact hlt⟩ g1 (fun q h => by rw [g3] at h; cases h) (by rw [g2]; exact hkC) (by rw [g2]; exact va_assign hcls) rfl rfl hd fun H1 e1 e2 e3 => ?_
  refine ho.2 H1 _ cells slots ls (a1.set h1 e2 e3 ?_) (a2.put e2 e3 (Nat.le_add_right _ _)) a3 (by rw [List.length_set]; exact a4) (by rw [sz_set h1 (by simp [csz])]; exact a5)
  show H1[_]? = some (vp_cell _ _)
  rw [e1]
  show some ((vp_cell _ (_, Sum.inr (Sum.inr (Sum.inr (Sum.inr _))))).setSlot _ _) = some (vp_cell _ (_, Sum.inr (Sum.inr (Sum.inr (Sum.inr _)))))
  rw [vp_cell_q, vp_cell_q, arrV_store, List.length_set]
  congr 2
  funext q
  by_cases hq : q = i.toNatClampNeg
  · subst hq
    simp [updV, hlt, va_rf]
  · simp [updV, hq, List.getElem?_set_ne (Ne.symm hq)]
theorem k_len (hd : decode cc pc = .ok (.arraylength, 1)) : okA SC M (cc, own, nL, mr, ini) pc (o_len (pc + 1)) := by
  refine ⟨m_len _, ?_⟩
  rintro p l e R s m args below meth c Q g n0 z0 N Z F Rt C L S h ⟨k, S', n, rfl, hg, ho⟩ H locs cells slots ls a1 a2 a3 a4 a5
  have hk := ho.2 H locs cells slots ls a1 a2 a3 a4 a5
  rcases alen_some hg with ⟨xs, h1, rfl⟩ | ⟨t, rs, h1, ht, rfl⟩
  · exact va_alen C.1.1 C.1.2.1 C.2.1.1 (a1.at h1) 0 0 rfl rfl rfl hd hk
  · match t, ht with
    | 0, _ => exact va_alen C.1.1 C.1.2.1 C.2.1.1 (a1.at h1) 0 1 rfl rfl rfl hd hk
    | 1, _ => exact va_alen C.1.1 C.1.2.1 C.2.1.1 (a1.at h1) 0 2 rfl rfl rfl hd hk
theorem k_gs {idx : Nat} (hl : Cond.fieldLink own idx "DuneMaps" "WEIGHTS" "[I" ∈ cG) (hd : decode cc pc = .ok (.getstatic idx, 3)) : okA SC M (cc, own, nL, mr, ini) pc (o_const (.float 0) (pc + 3)) := by
  refine ⟨m_const _ _, ?_⟩
  intro p l e R s m args below meth c Q g n0 z0 N Z F Rt C L S h ho H locs cells slots ls a1 a2 a3 a4 a5
  exact va_gets C.1.1 C.1.2.1 C.2.2.1.1.1 a2 C.1.2.2.2.1 (C.1.2.2.2.2 _ hl) (fun _ z => z) hd (ho.2 H locs cells slots ls a1 a2 a3 a4 a5)
theorem k_iaT (hd : decode cc pc = .ok (.iaload, 1)) : okA SC M (cc, own, nL, mr, ini) pc (o_iaT (pc + 1)) := by
  refine ⟨m_iaT _, ?_⟩
  rintro p l e R s m args below meth c Q g n0 z0 N Z F Rt C L S h ⟨i, S', rfl, hi, ho⟩ H locs cells slots ls a1 a2 a3 a4 a5
  exact va_ti C.1.1 C.1.2.1 C.2.2.1.1.2 a2 hi rfl hd (ho.2 H locs cells slots ls a1 a2 a3 a4 a5)
theorem k_lenT (hd : decode cc pc = .ok (.arraylength, 1)) : okA SC M (cc, own, nL, mr, ini) pc (o_lenT (pc + 1)) := by
  refine ⟨m_lenT _, ?_⟩
  rintro p l e R s m args below meth c Q g n0 z0 N Z F Rt C L S h ⟨S', rfl, ho⟩ H locs cells slots ls a1 a2 a3 a4 a5
  exact va_tlen C.1.1 C.1.2.1 C.2.2.1.1.2 a2 rfl hd (ho.2 H locs cells slots ls a1 a2 a3 a4 a5)
theorem k_iaS {n : Nat} {xs : Nat → Int32} (hS : SC n xs) (hd : decode cc pc = .ok (.iaload, 1)) : okA SC M (cc, own, nL, mr, ini) pc (o_iaS n xs (pc + 1)) := by
  refine ⟨m_iaS _ _ _, ?_⟩
  rintro p l e R s m args below meth c Q g n0 z0 N Z F Rt C L S h ⟨i, S', rfl, hi, ho⟩ H locs cells slots ls a1 a2 a3 a4 a5
  obtain ⟨hX, hb⟩ := C.2.2.1.2 n xs hS
  exact va_sld C.1.1 C.1.2.1 hX (Nat.lt_of_lt_of_le hb C.2.2.2.1.1) (Nat.not_le.mpr hb) a2 hi hd (ho.2 H locs cells slots ls a1 a2 a3 a4 a5)
theorem k_lenS {n : Nat} {xs : Nat → Int32} (hS : SC n xs) (hd : decode cc pc = .ok (.arraylength, 1)) : okA SC M (cc, own, nL, mr, ini) pc (o_lenS n (pc + 1)) := by
  refine ⟨m_lenS _ _, ?_⟩
  rintro p l e R s m args below meth c Q g n0 z0 N Z F Rt C L S h ⟨S', rfl, ho⟩ H locs cells slots ls a1 a2 a3 a4 a5
  obtain ⟨hX, hb⟩ := C.2.2.1.2 n xs hS
  exact va_slen C.1.1 C.1.2.1 hX (Nat.lt_of_lt_of_le hb C.2.2.2.1.1) (Nat.not_le.mpr hb) a2 hd (ho.2 H locs cells slots ls a1 a2 a3 a4 a5)
theorem k_new {idx ci Nf : Nat} {Cn : String} {T : u_T} (ty : Nat → FieldType) (fs : List Value) (hty : ∀ k, k < Nf → parseFieldDescriptor (T k).2.2.1 = some (ty k)) (hc : vwCl[ci]? = some (Cn, T, Nf)) (hin : ∀ w ∈ u_ws Cn T Nf, w ∈ cG) (hcl : Cond.classLink own idx Cn ∈ cG) (hins : Cond.instantiable Cn Nf ∈ cG) (hini : Cond.initialized Cn ∈ cG) (hfl : fs.length = Nf) (hfs : ∀ (g : gG) (j : Nat), j < Nf → defaultValue (ty j) = vp_V (fs.map (rn g)) j) (hd : decode cc pc = .ok (.new idx, 3)) : okA SC M (cc, own, nL, mr, ini) pc (o_new ci fs (pc + 3)) := by
  refine ⟨m_new _ _ _, ?_⟩
  rintro p l e R s m args below meth c Q g n0 z0 N Z F Rt C L S h ho H locs cells slots ls a1 a2 a3 a4 a5
  have hKn := C.2.1.1.1 ci _ hc
  have hz := ho.1
  rw [List.length_append, sz_app] at hz
  have hz2 : sz [(.inr (.inr (ci, fs)) : pC)] = Nf := by simp [sz, csz, hfl]
  have hR := C.2.2.2.1
  simp only [List.length_singleton, hz2] at hz
  refine W.newcK C.1.1 C.1.2.1 C.1.2.2.2.1 (C.1.2.2.2.2 _ hcl) (C.1.2.2.2.2 _ hins) (C.1.2.2.2.2 _ hini) rfl hd (by omega) (by omega) hKn.2.1 rfl fun H1 kC hkC e1 z1 o1 => ?_
  have hw : wR g (h ++ [.inr (.inr (ci, fs))]) H1 := a1.push z1 o1 ⟨_, hc, (u_born ty C.1.2.2.2.2 hin hKn hkC e1 hty).to (hfs g)⟩
  have hk := ho.2 H1 locs (cells + 1) (slots + Nf) ls hw ⟨Nat.le_trans a2.1 (by omega), fun x h1 h2 => (o1 x (Nat.lt_of_lt_of_le h1 a2.1)).trans (a2.2.1 x h1 h2), a2.2.2⟩ a3 (by rw [List.length_append]; simp; omega) (by rw [sz_app, hz2]; omega)
  rw [a1.1]
  exact hk
theorem k_newa (ha : Cond.arrayClass .int ∈ cG) (hd : decode cc pc = .ok (.newarray .int, 2)) : okA SC M (cc, own, nL, mr, ini) pc (o_newa (pc + 2)) := by
  refine ⟨m_newa _, ?_⟩
  rintro p l e R s m args below meth c Q g n0 z0 N Z F Rt C L S h ⟨n, S', rfl, hn, hn2, ho⟩ H locs cells slots ls a1 a2 a3 a4 a5
  have hz := ho.1
  rw [List.length_append, sz_app] at hz
  have hz2 : sz [(.inl (List.replicate n.toNatClampNeg 0) : pC)] = n.toNatClampNeg := by simp [sz, csz]
  have hR := C.2.2.2.1
  simp only [List.length_singleton, hz2] at hz
  refine va_newaK (atype := .int) C.1.1 C.1.2.1 (C.1.2.2.2.2 _ ha) rfl hd rfl hn rfl (by show _ * 4 ≤ _; omega) (by omega) (by omega) rfl fun H1 cA e1 z1 o1 hAr hNm => ?_
  have hcA : cA = g.2.2.2.1 := Option.some.inj (hNm.symm.trans (C.2.1.1.2 0 _ rfl).2)
  subst hcA
  have hw : wR g (h ++ [.inl (List.replicate n.toNatClampNeg 0)]) H1 := a1.push z1 o1 (by
    show H1[H.size]? = some (vp_cell _ (_, Sum.inl _))
    rw [e1, vp_cell_i, List.length_replicate]
    congr 2
    funext q
    by_cases hq : q < n.toNatClampNeg <;> simp [hq, defaultValue, newarray.typeOf])
  have hk := ho.2 H1 locs (cells + 1) (slots + n.toNatClampNeg) ls hw ⟨Nat.le_trans a2.1 (by omega), fun x h1 h2 => (o1 x (Nat.lt_of_lt_of_le h1 a2.1)).trans (a2.2.1 x h1 h2), a2.2.2⟩ a3 (by rw [List.length_append]; simp; omega) (by rw [sz_app, hz2]; omega)
  rw [a1.1]
  exact hk
theorem k_anew {idx t : Nat} {Cn : String} (t0 : Nat) (ht : ∀ g : gG, (tyl g)[t0]? = some (g.2.2.2.2.1 t, .object Cn)) (hao : ∀ (g : gG) (U : State), cxK g U → va_AO Cn U) (hcl : Cond.classLink own idx Cn ∈ cG) (hd : decode cc pc = .ok (.anewarray idx, 3)) : okA SC M (cc, own, nL, mr, ini) pc (o_anew t (pc + 3)) := by
  refine ⟨m_anew _ _, ?_⟩
  rintro p l e R s m args below meth c Q g n0 z0 N Z F Rt C L S h ⟨n, S', rfl, hn, hn2, ho⟩ H locs cells slots ls a1 a2 a3 a4 a5
  have hz := ho.1
  rw [List.length_append, sz_app] at hz
  have hz2 : sz [(.inr (.inl (t, List.replicate n.toNatClampNeg none)) : pC)] = n.toNatClampNeg := by simp [sz, csz]
  have hR := C.2.2.2.1
  simp only [List.length_singleton, hz2] at hz
  refine W.anew C.1.1 C.1.2.1 C.1.2.2.2.1 (C.1.2.2.2.2 _ hcl) (va_AO.use (hao g s C.2.1)) rfl hd rfl hn (by omega) (by omega) (by omega) fun cA kA comp f1 f2 f3 f4 => ?_
  obtain ⟨kA2, comp2, -, -, -, f5⟩ := (C.2.1.1.2 t0 _ (ht g)).2
  have hcA : cA = g.2.2.2.2.1 t := Option.some.inj (f1.symm.trans f5)
  subst hcA
  generalize hH1 : H.push ({ cls := g.2.2.2.2.1 t, slots := Array.replicate n.toNatClampNeg .null, vm := .none } : Cell) = H1
  have z1 : H1.size = H.size + 1 := by rw [← hH1, Array.size_push]
  have e1 : H1[H.size]? = some (arrV (g.2.2.2.2.1 t) n.toNatClampNeg (fun _ => .null)) := by rw [← hH1, Array.getElem?_push_size, ← arrV_new]
  have o1 : ∀ q : Nat, q < H.size → H1[q]? = H[q]? := fun q hq => by rw [← hH1, Array.getElem?_push, if_neg (Nat.ne_of_lt hq)]
  have hw : wR g (h ++ [.inr (.inl (t, List.replicate n.toNatClampNeg none))]) H1 := a1.push z1 o1 (by
    show H1[H.size]? = some (vp_cell _ (_, Sum.inr (Sum.inr (Sum.inr (Sum.inr _)))))
    rw [e1, vp_cell_q]
    show _ = some (arrV _ (List.replicate n.toNatClampNeg none).length _)
    rw [List.length_replicate]
    congr 2
    funext q
    by_cases hq : q < n.toNatClampNeg <;> simp [hq, va_rf])
  have hk := ho.2 H1 locs (cells + 1) (slots + n.toNatClampNeg) ls hw ⟨Nat.le_trans a2.1 (by omega), fun x h1 h2 => (o1 x (Nat.lt_of_lt_of_le h1 a2.1)).trans (a2.2.1 x h1 h2), a2.2.2⟩ a3 (by rw [List.length_append]; simp; omega) (by rw [sz_app, hz2]; omega)
  rw [a1.1]
  exact hk
theorem k_obj {idx : Nat} (h1 : Cond.methodLink own idx objectInit ∈ cG) (h2 : Cond.instanceMethod objectInit ∈ cG) (h3 : Cond.code objectInit ⟨#[0xb1]⟩ 1 none ∈ cG) (hd : decode cc pc = .ok (.invokespecial idx, 3)) : okA SC M (cc, own, nL, mr, ini) pc (o_obj (pc + 3)) := by
  refine ⟨m_obj _, ?_⟩
  rintro p l e R s m args below meth c Q g n0 z0 N Z F Rt C L S h ⟨k, S', rfl, hs, ho⟩ H locs cells slots ls a1 a2 a3 a4 a5
  have hR := C.2.2.2.1
  have hs' : ((S'.map (rn g)).map fun v => v.category).sum ≤ 8 := by
    rw [List.map_map]
    have : ((fun v => v.category) ∘ rn g) = fun v : Value => v.category := funext fun v => rn_cat g v
    rw [this]; exact hs
  exact W.objInit C.1.1 C.1.2.1 C.1.2.2.2.1 (C.1.2.2.2.2 _ h1) (C.1.2.2.2.2 _ h2) (C.1.2.2.2.2 _ h3) rfl (by rw [C.1.2.2.1]; exact a3.1) rfl hd hR.2.2.2.1 (by show 2 * 0 + _ + 12 ≤ _; omega) (ho.2 H locs cells slots ls a1 a2 a3 a4 a5)
end SH
