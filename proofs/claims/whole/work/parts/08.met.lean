def noS (_ : Nat) (_ : Nat → Int32) : Prop := False
theorem k_fail {SC : Nat → (Nat → Int32) → Prop} {M : mI} {si : sI} {pc : Nat} : okA SC M si pc o_fail := ⟨m_fail, fun _ _ _ _ _ _ _ _ _ _ _ _ _ _ _ _ _ _ _ _ _ _ h => False.elim h⟩
theorem s_run {SC : Nat → (Nat → Int32) → Prop} {M : mI} {p : Program} {l : Launch} {e : Env} {R : Room} {s : State} {m : MethodId} {args : Array Value} {below : List Frame} {meth : Method} {c : Code} {Q : State → Prop} {g : gG} {n0 z0 N Z : Nat} {F : pF} {Rt : pR} {si : sI} {T : Nat → pO}
    (hT : ∀ pc, okA SC M si pc (T pc)) (C : cx SC M p l e R s m args below meth c Q g n0 z0 N Z F Rt si) {pc : Nat} {L : pL} {S : List Value} {h : pH} (hr : rRun T F Rt pc L S h) : wst p l e R s m args below meth c Q g si.2.2.1 n0 z0 N Z pc L S h :=
  hr _ (fun pc L S h hh => ⟨(hT pc).1.2 F Rt N Z (fun y as h r h1 q => (C.2.2.2.2.2.1 y as h r h1 q).1) (fun r h q => (C.2.2.2.2.2.2 r h q).1) L S h ((hT pc).1.1 F Rt _ _ L S h (fun _ _ _ _ q => q.1) hh), (hT pc).2 p l e R s m args below meth c Q g n0 z0 N Z F Rt C L S h hh⟩)
theorem s_call {T : Nat → Nat → pO} {ml : Nat → Nat} {M : mI} (hT : ∀ y pc, okA noS M (M y).2 pc (T y pc)) (hml : ∀ y, ml y = (M y).2.2.2.1) (hpn : ∀ y, plainName (M y).1.cls = true) (hini : ∀ y, (M y).2.2.2.2.2 = true → (M y).1.name = "<init>") (hown : ∀ y, (M y).2.2.1 = (M y).1.cls) :
    ∀ (d y : Nat) (as : List Value) (h : pH) (r : Option Value) (h1 : pH), rCall T ml d y as h r h1 → (h.length ≤ h1.length ∧ sz h ≤ sz h1) ∧ ∀ (l : Launch) (g : gG), Met l (M y).1 (mW M y) ({ frames := d, cells := h1.length - h.length, slots := sz h1 - sz h, locals := 64 * d } : Room) (va_Pc (as.map (rn g)) (cPre g h)) (cPost g r h1) (h1.length - h.length) (sz h1 - sz h) (nA g) := by
  intro d
  induction d with
  | zero => intro y as h r h1 hc; exact False.elim hc
  | succ d ih =>
    intro y as h r h1 ⟨hlen, hrun⟩
    have hle : h.length ≤ h1.length ∧ sz h ≤ sz h1 := hrun (fun _ _ _ h => h.length ≤ h1.length ∧ sz h ≤ sz h1) (fun pc L S h hh => (hT y pc).1.2 _ _ _ _ (fun y as h r h1 q => (ih y as h r h1 q).1) (fun r2 h2 q => by rw [q.2]; exact ⟨Nat.le_refl _, Nat.le_refl _⟩) L S h hh)
    refine ⟨hle, fun l g => ?_⟩
    refine Met.ofW (cc := (M y).2.1) (maxL := (M y).2.2.2.1) (ret := (M y).2.2.2.2.1) (hpn y) rfl ?_
    intro p e s m args below meth c s₁ B hm0 hv
    obtain ⟨rfl, q1, q2, q3⟩ := hv
    have hts := atoms_spec (ws := mW M y) B.pre
    have Cx : cx noS M p l e (headSpec (mW M y) ({ frames := d + 1, cells := h1.length - h.length, slots := sz h1 - sz h, locals := 64 * (d + 1) } : Room)).room s m (as.map (rn g)).toArray below meth c (MQ below (cPost g r h1) (as.map (rn g)).toArray s (h1.length - h.length) (sz h1 - sz h) (nA g)) g h.length (sz h) h1.length (sz h1) (rCall T ml d) (fun r1 h2 => r1 = r ∧ h2 = h1) (M y).2 := by
      refine ⟨⟨B.exec, B.bytes, hm0, ?_, fun w hw => hts w (List.mem_cons_of_mem _ hw)⟩, q2, ⟨q3, fun _ _ z => False.elim z⟩, ⟨by rw [q1.1]; exact Nat.le_add_right _ _, ?_, ?_, ?_, ?_⟩, fun z => ?_, fun y2 as2 h2 r2 h3 q => ?_, ?_⟩
      · rw [hown y]; exact findClass_of_methodNamed B.named
      · show _ ≤ h1.length - h.length + h.length; omega
      · show _ ≤ sz h1 - sz h + sz h; omega
      · show 1 ≤ d + 1; omega
      · show 32 ≤ 64 * (d + 1); omega
      · rw [(name_of_methodNamed B.named B.method).1]; exact hini y z
      · obtain ⟨z1, z2⟩ := ih y2 as2 h2 r2 h3 q
        exact ⟨z1, _, rfl, rfl, Nat.le_refl _, by show 64 + 64 * d ≤ 64 * (d + 1); omega, z2 l g⟩
      · rintro r2 h2 ⟨rfl, rfl⟩
        refine ⟨⟨Nat.le_refl _, Nat.le_refl _⟩, fun pc ins H locs cells slots ls a1 a2 a4 a5 hd hk => ?_⟩
        have c1 : cells = h2.length - h.length := by omega
        have c2 : slots = sz h2 - sz h := by omega
        subst c1; subst c2
        have hq : ∀ t : State, t.heap = H → s.WarmedH t.vm → cPost g r2 h2 (as.map (rn g)).toArray s (.returned (r2.map (rn g))) t := fun t ht hW => ⟨rfl, by rw [ht]; exact a1, a2.F ht⟩
        have hf : ∀ q ∈ locs, nA g q.base := a2.2.2
        have hlk := B.notSynchronized
        rcases hk with ⟨x, ty, rfl, rfl, h3, h4⟩ | ⟨x, rfl, rfl, h3⟩ | ⟨rfl, rfl, h3⟩ | ⟨v, n, rfl, hv, rfl, h3⟩
        · exact W.zret B.exec B.bytes (B.returns.trans h3) h4 hq hf hd hlk
        · exact W.lret B.exec B.bytes (B.returns.trans h3) hq hf hd hlk
        · exact W.vret B.exec B.bytes (B.returns.trans h3) hq hf hd hlk
        · refine W.aret B.exec B.bytes (B.returns.trans h3) (Or.inl ⟨n, rfl⟩) ?_ hq hf hd hlk
          rcases hv with rfl | ⟨k, rfl⟩
          · exact Or.inl rfl
          · exact Or.inr ⟨_, rfl⟩
    have key := s_run (hT y) Cx hrun
    rw [lg_entry_eq]
    rw [hml y] at hlen key
    exact key.2 s.heap [] 0 0 _ q1 va_S.rf (ent_lvh g as _ hlen) (Nat.zero_add _) (Nat.zero_add _)
