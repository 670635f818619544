/-! BOTH SIDES: one call on the class, the same on the reference -/
def ivT (s : stT) (N : Nat) : Prop := iv s ∧ s.2.2.2.2.2.2.2.2 ≤ N
def StpB (h : pH) (N y7 y8 : Nat) (as : List Value) : Prop := ∃ h1 h2 v s', Cl 20 y7 (.ref 0 :: as) h (some (.int v)) h1 ∧ Cl 20 y8 (.ref 66 :: as) h1 (some (.int v)) h2 ∧ (∃ fs, h1[66]? = some (.inr (.inr (8, fs)))) ∧ XS h2 s' ∧ MS h2 s' ∧ ivT s' (N + 1) ∧ (h.length = 79 → h2.length = 79)
theorem len_of {h h1 : pH} (a : h1[79]? = h[79]?) (le : h.length ≤ h1.length) (e : h.length = 79) : h1.length = 79 := by
  have e2 : h[79]? = none := List.getElem?_eq_none (by omega)
  rw [e2] at a
  have := List.getElem?_eq_none_iff.mp a
  omega
theorem MS.o66 {h : pH} {s : stT} (m : MS h s) : ∃ fs, h[66]? = some (.inr (.inr (8, fs))) := by
  obtain ⟨wm, sn, kd, hh, rs, ms, th, wh, od, bo, krs, kms, a, b⟩ := m
  exact ⟨_, a.g0⟩
theorem stp_of {h : pH} {s : stT} {N y7 y8 : Nat} {as : List Value} {q : stT × Int32} (m : MS h s) (a : ∃ h', Cl 20 y7 (.ref 0 :: as) h (some (.int q.2)) h' ∧ XS h' q.1 ∧ Up h h') (b : ∀ h1, MS h1 s → ∃ h', Cl 20 y8 (.ref 66 :: as) h1 (some (.int q.2)) h' ∧ MS h' q.1 ∧ Dn h1 h') (i : ivT q.1 (N + 1)) : StpB h N y7 y8 as := by
  obtain ⟨h1, a1, a2, a3⟩ := a
  obtain ⟨h2, b1, b2, b3⟩ := b h1 (m.up a3)
  exact ⟨h1, h2, q.2, q.1, a1, b1, (m.up a3).o66, a2.dn b3, b2, i, fun e => len_of (b3 79 (by omega)) (Cl_met b1).1.1 (len_of (a3 79 (by omega)) (Cl_met a1).1.1 e)⟩
theorem ivT.le {s : stT} {N : Nat} (i : ivT s N) : ivT s (N + 1) := ⟨i.1, Nat.le_succ_of_le i.2⟩
theorem whl_fdg {cs : List Int32} {n : Nat} (h : whl cs n 0 = true) : fdg cs 8 0 = 8 := by
  have e' : n = 9 ∧ flt cs n 0 = 9 := by simpa [whl] using h
  obtain ⟨rfl, q2⟩ := e'
  rw [flt_fdg] at q2
  by_cases q : (0 : Int32) = 0 ∧ fdg cs (min 9 8) 0 = 8 ∧ 8 < 9 ∧ (hx cs 8 = 62 ∨ hx cs 8 = 60)
  · exact q.2.1
  · rw [if_neg q] at q2
    have := (fdg_le cs (min 9 8) 0).2
    omega
section Z71
variable {h : pH} {s : stT} {N : Nat}
theorem z_letter (x : XS h s) (m : MS h s) (i : ivT s N) (c : Int32) : StpB h N 53 89 [.int c] := stp_of m (x_letter 18 x c) (fun _ m1 => m_letter 18 m1 x.st c) (by
  unfold q_letter
  split
  · exact i.le
  · split <;> exact i.le)
theorem z_blank (x : XS h s) (m : MS h s) (i : ivT s N) : StpB h N 54 90 [] := stp_of m (x_blank 19 x) (fun _ m1 => m_blank 19 m1 x.st) i.le
theorem z_fault (x : XS h s) (m : MS h s) (i : ivT s N) (c : Int32) : StpB h N 55 92 [.int c] := stp_of m (x_fault 17 x c) (fun _ m1 => m_fault 17 m1 x.st c) (by
  unfold q_fault
  split <;> exact i.le)
theorem z_dunes (x : XS h s) (m : MS h s) (i : ivT s N) (hN : N < 2 ^ 31) : StpB h N 56 94 [] := stp_of m (x_dunes 16 x) (fun _ m1 => m_dunes 17 m1 x.st (Nat.lt_of_le_of_lt i.2 hN)) (by
  unfold q_dunes
  by_cases q : whl s.1 s.2.1 0 = true
  · rw [if_pos q]
    exact ⟨⟨okH_rdh (whl_fdg q), i.1.2⟩, Nat.succ_le_succ i.2⟩
  · rw [if_neg q]
    exact i.le)
theorem z_cell (x : XS h s) (m : MS h s) (i : ivT s N) (c w : Int32) : StpB h N 57 101 [.int c, .int w] := stp_of m (x_cell 17 x c w) (fun _ m1 => m_cell 17 m1 x.st c w) i.le
theorem z_wind (x : XS h s) (m : MS h s) (i : ivT s N) (b : Bool) : StpB h N 58 102 [.int (b2i b)] := stp_of m (x_wind 18 x b) (fun _ m1 => m_wind 19 m1 x.st b) (by
  unfold q_wind
  split <;> exact i.le)
theorem z_night (x : XS h s) (m : MS h s) (i : ivT s N) : StpB h N 59 106 [] := stp_of m (x_night 16 x) (fun _ m1 => m_night 16 m1 x.st (i.1.1.ng1 _).1) (by
  unfold q_night
  split
  · exact ⟨⟨(i.1.1.ng1 _).2, i.1.2⟩, i.le.2⟩
  · exact i.le)
theorem z_walker (x : XS h s) (m : MS h s) (i : ivT s N) (k c : Int32) : StpB h N 60 111 [.int k, .int c] := stp_of m (x_walker 17 x k c) (fun _ m1 => m_walker 17 m1 x.st k c) (by
  unfold q_walker
  split
  · split
    · split <;> exact i.le
    · exact i.le
  · exact i.le)
theorem z_about (x : XS h s) (m : MS h s) (i : ivT s N) (k w : Int32) : StpB h N 61 115 [.int k, .int w] := stp_of m (x_about 17 x k w) (fun _ m1 => m_about 16 m1 x.st k w) i.le
theorem z_as (x : XS h s) (m : MS h s) (i : ivT s N) (k w : Int32) : StpB h N 62 116 [.int k, .int w] := stp_of m (x_as 18 x k w) (fun _ m1 => mm_as 17 m1 x.st k w) i.le
theorem z_step (x : XS h s) (m : MS h s) (i : ivT s N) (k w : Int32) : StpB h N 63 118 [.int k, .int w] := stp_of m (x_step 16 x k w) (fun _ m1 => m_step 16 m1 x.st k w) (by
  unfold q_step
  have l5 := x.st.2.2.1.2.2
  rcases ix_or k s.2.2.1.2.2.2.1 (by omega) with ⟨j, hj, rfl⟩ | hc
  · rw [ixT hj (by omega), nI_clamp (show j < 2 ^ 31 by omega), if_pos rfl]
    split
    · exact ⟨⟨i.1.1.tr1 _ (bes_lt _ _) (x.st.2.2.1.2.1 j (by omega)).1, i.1.2⟩, i.le.2⟩
    · exact i.le
  · rw [ixF hc]
    exact i.le)
theorem z_map (x : XS h s) (m : MS h s) (i : ivT s N) (k w l : Int32) : StpB h N 64 119 [.int k, .int w, .int l] := stp_of m (x_map 17 x k w l) (fun _ m1 => m_map 17 m1 x.st k w l) (by
  unfold q_map
  split
  · split <;> exact i.le
  · exact i.le)
theorem z_go (x : XS h s) (m : MS h s) (i : ivT s N) (k : Int32) : StpB h N 65 120 [.int k] := stp_of m (x_go 15 x k) (fun _ m1 => m_go 16 m1 x.st k) (by
  unfold q_go
  have l5 := x.st.2.2.1.2.2
  rcases ix_or k s.2.2.1.2.2.2.1 (by omega) with ⟨j, hj, rfl⟩ | hc
  · rw [ixT hj (by omega), nI_clamp (show j < 2 ^ 31 by omega), if_pos rfl]
    split
    · exact ⟨⟨okH.go1 (x.st.2.2.1.2.1 j (by omega)).1 _ _ _ i.1.1, i.1.2⟩, i.le.2⟩
    · exact i.le
  · rw [ixF hc]
    exact i.le)
theorem z_order (x : XS h s) (m : MS h s) (i : ivT s N) (k : Int32) : StpB h N 66 126 [.int k] := stp_of m (x_order 10 x k) (fun _ m1 => m_order 14 m1 x.st k) i.le
theorem z_feet (x : XS h s) (m : MS h s) (i : ivT s N) (k c g w : Int32) : StpB h N 67 129 [.int k, .int c, .int g, .int w] := stp_of m (x_feet 7 x k c g w) (fun _ m1 => m_feet 15 m1 x.st k c g w) i.le
theorem z_was (x : XS h s) (m : MS h s) (i : ivT s N) : StpB h N 68 130 [] := stp_of m (x_was 16 x) (fun _ m1 => m_was 17 m1 x.st) (by
  unfold q_was
  split <;> exact i.le)
theorem z_who (x : XS h s) (m : MS h s) (i : ivT s N) (k : Int32) : StpB h N 69 133 [.int k] := stp_of m (x_who 15 x k) (fun _ m1 => m_who 16 m1 x.st k) i.le
theorem z_moons (x : XS h s) (m : MS h s) (i : ivT s N) (k c w : Int32) : StpB h N 70 135 [.int k, .int c, .int w] := stp_of m (x_moons 16 x k c w) (fun _ m1 => m_moons 16 m1 x.st i.1.1 k c w) i.le
theorem z_image (x : XS h s) (m : MS h s) (i : ivT s N) : StpB h N 71 136 [] := stp_of m (x_image 16 x) (fun _ m1 => m_image 18 m1 x.st) (by
  unfold q_image
  split
  · exact ⟨⟨i.1.1, i.1.1⟩, i.le.2⟩
  · exact i.le)
theorem z_restore (x : XS h s) (m : MS h s) (i : ivT s N) (hN : N < 2 ^ 31) : StpB h N 72 137 [] := stp_of m (x_restore 16 x) (fun _ m1 => m_restore 18 m1 x.st (Nat.lt_of_le_of_lt i.2 hN)) (by
  unfold q_restore
  split
  · exact ⟨⟨i.1.2, i.1.2⟩, i.le.2⟩
  · exact i.le)
theorem z_count (x : XS h s) (m : MS h s) (i : ivT s N) (k : Int32) : StpB h N 73 140 [.int k] := stp_of m (x_count 16 x k) (fun _ m1 => m_count 14 m1 x.st k) i.le
theorem z_digest (x : XS h s) (m : MS h s) (i : ivT s N) : ∃ h1 h2 v, Cl 20 74 [.ref 0] h (some (.long v)) h1 ∧ Cl 20 143 [.ref 66] h1 (some (.long v)) h2 ∧ (∃ fs, h1[66]? = some (.inr (.inr (8, fs)))) ∧ XS h2 s ∧ MS h2 s ∧ ivT s (N + 1) ∧ (h.length = 79 → h2.length = 79) := by
  obtain ⟨h1, a1, a2, a3⟩ := x_digest 9 x
  obtain ⟨h2, b1, b2, b3⟩ := m_digest 13 (m.up a3) x.st
  exact ⟨h1, h2, _, a1, b1, (m.up a3).o66, a2.dn b3, b2, i.le, fun e => len_of (b3 79 (by omega)) (Cl_met b1).1.1 (len_of (a3 79 (by omega)) (Cl_met a1).1.1 e)⟩
end Z71
