/-! the claim's start: what the tables and the Statement say is what the pure machine stands on -/
theorem k_cls {args : Array Value} {s : State} (hts : ∀ w ∈ lw_tbl, w.before args s = true) : ∃ D : va_G, ∀ (k : Nat) (q : vw_C), vwCl[k]? = some q → u_Kn s q.1 q.2.1 q.2.2 (D.1 k) (D.2 k) := by
  have hg : ∀ w ∈ cG, w.before args s = true := fun w hw => hts w (List.mem_filter.mp hw).1
  obtain ⟨c0, i0, K0⟩ := u_known (C := RX0) (T := TX0) (N := 2) (n := 2) hg inX0G (hg _ w_208)
  obtain ⟨c1, i1, K1⟩ := u_known (C := RX1) (T := TX1) (N := 7) (n := 7) hg inX1G (hg _ w_176)
  obtain ⟨c2, i2, K2⟩ := u_known (C := RX2) (T := TX2) (N := 4) (n := 4) hg inX2G (hg _ w_74)
  obtain ⟨c3, i3, K3⟩ := u_known (C := RX3) (T := TX3) (N := 5) (n := 5) hg inX3G (hg _ w_150)
  obtain ⟨c4, i4, K4⟩ := u_known (C := RX4) (T := TX4) (N := 2) (n := 2) hg inX4G (hg _ w_59)
  obtain ⟨c5, i5, K5⟩ := u_known (C := RX5) (T := TX5) (N := 2) (n := 2) hg inX5G (hg _ w_80)
  obtain ⟨c6, i6, K6⟩ := u_known (C := RX6) (T := TX6) (N := 6) (n := 6) hg inX6G (hg _ w_96)
  obtain ⟨c7, i7, K7⟩ := u_known (C := RX7) (T := TX7) (N := 12) (n := 12) hg inX7G (hg _ w_51)
  obtain ⟨c8, i8, K8⟩ := u_known (C := RX8) (T := TX8) (N := 26) (n := 26) hg inX8G (hg _ w_611)
  refine ⟨(fun k => match k with | 0 => c0 | 1 => c1 | 2 => c2 | 3 => c3 | 4 => c4 | 5 => c5 | 6 => c6 | 7 => c7 | _ => c8, fun k => match k with | 0 => i0 | 1 => i1 | 2 => i2 | 3 => i3 | 4 => i4 | 5 => i5 | 6 => i6 | 7 => i7 | _ => i8), ?_⟩
  intro k q hq
  match k, hq with
  | 0, hq => cases hq; exact K0
  | 1, hq => cases hq; exact K1
  | 2, hq => cases hq; exact K2
  | 3, hq => cases hq; exact K3
  | 4, hq => cases hq; exact K4
  | 5, hq => cases hq; exact K5
  | 6, hq => cases hq; exact K6
  | 7, hq => cases hq; exact K7
  | 8, hq => cases hq; exact K8
  | k + 9, hq => simp [vwCl] at hq
theorem k_over {args : Array Value} {s : State} {C : String} (h : (Cond.arrayOver (.object C)).before args s = true) : ∃ cA : ClassId, ArrOfT s cA (.object C) ∧ va_RA s cA (.object C) := by
  obtain ⟨comp, cA, kA, h1, h2, h3, h4, h5⟩ := Cond.arrayOver_spec h
  exact ⟨cA, fun N z => ⟨(fun k h => by cases h), kA, h3, comp, h4⟩, kA, comp, h3, h4, h1, h5⟩
theorem k_ints {args : Array Value} {s : State} (h : (Cond.arrayClass .int).before args s = true) : ∃ cA : ClassId, ArrOfT s cA .int ∧ va_RA s cA .int := by
  obtain ⟨cA, kA, comp, h1, h2, h3⟩ := Cond.arrayClass_spec h
  exact ⟨cA, fun N z => ⟨(fun k h => by cases h), kA, h2, comp, h3⟩, h1⟩
theorem k_nests : ∀ q ∈ nests, Cond.methodLinkNest q.1 q.2.1 q.2.2.1 q.2.2.2 ∈ lw_tbl := List.forall_mem_cons.mpr ⟨w_60, List.forall_mem_cons.mpr ⟨w_81, List.forall_mem_cons.mpr ⟨w_97, List.forall_mem_cons.mpr ⟨w_148, List.forall_mem_cons.mpr ⟨w_157, List.forall_mem_cons.mpr ⟨w_182, List.forall_mem_cons.mpr ⟨w_209, List.forall_mem_cons.mpr ⟨w_335, List.forall_mem_cons.mpr ⟨w_409, List.forall_mem_cons.mpr ⟨w_437, List.forall_mem_cons.mpr ⟨w_487, List.forall_mem_cons.mpr ⟨w_510, List.forall_mem_cons.mpr ⟨w_529, fun _ h => absurd h List.not_mem_nil⟩⟩⟩⟩⟩⟩⟩⟩⟩⟩⟩⟩⟩
theorem k_wts {b : Nat} {s : State} {A : Nat → Prop} (hts : ∀ w ∈ lw_tbl, w.before #[Value.ref b] s = true) (hgv : (Jvm.Cond.and given_1 narrow_1).before #[Value.ref b] s = true) (hA : ∀ a : Nat, a < s.heap.size → ¬ A a) : ∃ t : Nat, va_Z "DuneMaps" "WEIGHTS" "[I" (.ref t) A s s.heap ∧ va_T .int t 5 (fun j => .int (wts j)) A s s.heap := by
  have hs := flat_of_before _ hgv
  have e0 : (Cond.arrayOf (.static "DuneMaps" "WEIGHTS" "[I") .int).before #[Value.ref b] s = true := hs _ (by decide +kernel)
  have e1 : (Cond.eq (.length (.static "DuneMaps" "WEIGHTS" "[I")) (.int 5)).before #[Value.ref b] s = true := hs _ (by decide +kernel)
  have f0 : (Cond.eq (.elem (.static "DuneMaps" "WEIGHTS" "[I") (.int 0)) (.int 1)).before #[Value.ref b] s = true := hs _ (by decide +kernel)
  have f1 : (Cond.eq (.elem (.static "DuneMaps" "WEIGHTS" "[I") (.int 1)) (.int 2)).before #[Value.ref b] s = true := hs _ (by decide +kernel)
  have f2 : (Cond.eq (.elem (.static "DuneMaps" "WEIGHTS" "[I") (.int 2)) (.int 0)).before #[Value.ref b] s = true := hs _ (by decide +kernel)
  have f3 : (Cond.eq (.elem (.static "DuneMaps" "WEIGHTS" "[I") (.int 3)) (.int 1)).before #[Value.ref b] s = true := hs _ (by decide +kernel)
  have f4 : (Cond.eq (.elem (.static "DuneMaps" "WEIGHTS" "[I") (.int 4)) (.int 4)).before #[Value.ref b] s = true := hs _ (by decide +kernel)
  obtain ⟨t, ht, hT⟩ := va_Tof (N := 5) (f := fun j => .int (wts j)) (by decide) e0 (va_eqt e1) (fun j hj => match j, hj with
    | 0, _ => va_eqt f0
    | 1, _ => va_eqt f1
    | 2, _ => va_eqt f2
    | 3, _ => va_eqt f3
    | 4, _ => va_eqt f4) hA
  exact ⟨t, va_Zref (hts _ w_400) (hts _ (List.mem_filter.mp w_39).1) ht hA, hT⟩
theorem whole_start {p : Program} {e : Env} {s : State} {m : MethodId} {below : List Frame} {meth : Method} {c : Code} (l : Launch) {b L : Nat} {xs : Nat → Int32} (hL : L ≤ 320) (C0 : lw_At p s m meth c b L xs) : W p l e room_1 s m #[Value.ref b] below meth c s.heap [] 0 0 (lw_Z below #[Value.ref b] s) (entryFrame m ([Value.ref b] : List Value).toArray 4) := by
  obtain ⟨hx, hb, hr, hml, hown, hts, hX, hbl, hlocks, hgv⟩ := id C0
  have hg : ∀ w ∈ cG, w.before #[Value.ref b] s = true := fun w hw => hts w (List.mem_filter.mp hw).1
  obtain ⟨D, hD⟩ := k_cls hts
  obtain ⟨cI, a1, a2⟩ := k_ints (hg _ w_72)
  obtain ⟨cS, b1, b2⟩ := k_over (hts _ w_156)
  obtain ⟨cW, d1, d2⟩ := k_over (hts _ w_95)
  obtain ⟨tw, z1, z2⟩ := k_wts (A := fun q => s.heap.size ≤ q) hts hgv (fun a ha => Nat.not_le.mpr ha)
  obtain ⟨hF, y1, y2, y3⟩ := la_all L xs hL
  have hgd : ∃ g : gG, g = (s.heap.size, tw, b, cI, (fun t => if t = 0 then cS else cW), D) := ⟨_, rfl⟩
  obtain ⟨g, hgg⟩ := hgd
  have g1 : g.1 = s.heap.size := by rw [hgg]
  have g3 : g.2.2.1 = b := by rw [hgg]
  have kK : cxK g s := by
    rw [hgg]
    refine ⟨⟨hD, fun k q hq => ?_⟩, fun q hq => va_Nw.of rfl (hts _ (k_nests q hq)), va_AO.of (hts _ w_156), va_AO.of (hts _ w_95)⟩
    match k, hq with
    | 0, hq => cases hq; exact ⟨a1, a2⟩
    | 1, hq => cases hq; exact ⟨b1, b2⟩
    | 2, hq => cases hq; exact ⟨d1, d2⟩
    | k + 3, hq => simp [tyl] at hq
  have kZ : cxZ g s s.heap := by
    rw [hgg]
    exact ⟨z1, z2⟩
  have Cx : cx (SCL L xs) mM p l e room_1 s m #[Value.ref b] below meth c (lw_Z below #[Value.ref b] s) g 0 0 79 3160 (rCall TT mL 20) (fun r1 h1 => r1 = some (.int 1) ∧ h1 = hF) (code, "DuneMapsLaw", 4, some .boolean, false) := by
    refine ⟨⟨hx, hb, hml, hown, hg⟩, kK, ⟨kZ, ?_⟩, ⟨by rw [g1]; exact Nat.le_refl _, by decide, by decide, by decide, by decide⟩, (fun z => by cases z), ?_, ?_⟩
    · rintro n' xs' ⟨rfl, rfl⟩
      rw [g3, g1]
      exact ⟨hX, hbl⟩
    · intro y as h r h1 q
      obtain ⟨q1, q2⟩ := Cl_met (d := 20) q
      exact ⟨q1, _, rfl, rfl, show 20 + 1 ≤ 2048 by decide, show 64 + 64 * 20 ≤ 84000 by decide, q2 l g⟩
    · rintro r h ⟨rfl, rfl⟩
      refine ⟨⟨by omega, by omega⟩, fun pc ins H locs cells slots ls w1 w2 w3 w4 hd hk => ?_⟩
      rcases hk with ⟨x, ty, hx1, rfl, -, -⟩ | ⟨x, hx1, -⟩ | ⟨hx1, -⟩ | ⟨v, n, hx1, hv, -⟩
      · refine va_forget (fun q hq => by have := w2.2.2 q hq; rw [← g1]; exact this) ?_
        exact W.widen (k := 624741) (n := 7228024) (by omega) (by omega) (lw_ret hx hb hr hlocks hd)
      · cases hx1
      · cases hx1
      · cases hx1
        rcases hv with hv | ⟨k, hv⟩ <;> cases hv
  have key := s_run (tl_ok L xs) Cx y1
  have en := ent_lvh g [.float 1] 4 (by decide)
  have ev : ([Value.float 1] : List Value).map (rn g) = [.ref b] := by rw [← g3]; rfl
  rw [ev] at en
  rw [lg_entry_eq]
  exact key.2 s.heap [] 0 0 _ ⟨by rw [g1]; rfl, fun k c hk => by simp at hk⟩ va_S.rf en rfl rfl
