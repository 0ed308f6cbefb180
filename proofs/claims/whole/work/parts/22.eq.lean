def ph_all : Bool := (List.range 6).all fun k => (List.range 6).all fun a => a == k || ((List.range 6).all fun b => b == k || b == a || ((List.range 6).all fun c => c == k || c == a || c == b || ((List.range 6).all fun d => d == k || d == a || d == b || d == c || ((List.range 6).all fun e => e == k || e == a || e == b || e == c || e == d || ((List.range 6).all fun f => f == k || f == a || f == b || f == c || f == d || f == e || (false))))))
theorem ph_ok : ph_all = true := by decide +kernel
theorem ph_step {v : Nat} {F : Nat → Bool} (h : (List.range 6).all F = true) (hv : v < 6) : F v = true := List.all_eq_true.mp h v (List.mem_range.mpr hv)
theorem ph_seq (k : Nat) (s : Nat → Nat) (hk : k < 6) (hs : ∀ i, i ≤ 5 → s i < 6 ∧ ¬ s i = k) : ∃ a b, a < b ∧ b ≤ 5 ∧ s a = s b := by
  have h0 := ph_step ph_ok hk
  have h1 := ph_step h0 (hs 0 (by omega)).1
  have n0 := (hs 0 (by omega)).2
  have n1 := (hs 1 (by omega)).2
  have n2 := (hs 2 (by omega)).2
  have n3 := (hs 3 (by omega)).2
  have n4 := (hs 4 (by omega)).2
  have n5 := (hs 5 (by omega)).2
  simp only [beq_iff_eq, Bool.or_eq_true, n0, false_or] at h1
  have h2 := ph_step h1 (hs 1 (by omega)).1
  simp only [beq_iff_eq, Bool.or_eq_true, n1, false_or] at h2
  rcases h2 with q | h2
  · exact ⟨0, 1, by omega, by omega, q.symm⟩
  have h3 := ph_step h2 (hs 2 (by omega)).1
  simp only [beq_iff_eq, Bool.or_eq_true, n2, false_or] at h3
  rcases h3 with (q | q) | h3
  · exact ⟨0, 2, by omega, by omega, q.symm⟩
  · exact ⟨1, 2, by omega, by omega, q.symm⟩
  have h4 := ph_step h3 (hs 3 (by omega)).1
  simp only [beq_iff_eq, Bool.or_eq_true, n3, false_or] at h4
  rcases h4 with ((q | q) | q) | h4
  · exact ⟨0, 3, by omega, by omega, q.symm⟩
  · exact ⟨1, 3, by omega, by omega, q.symm⟩
  · exact ⟨2, 3, by omega, by omega, q.symm⟩
  have h5 := ph_step h4 (hs 4 (by omega)).1
  simp only [beq_iff_eq, Bool.or_eq_true, n4, false_or] at h5
  rcases h5 with (((q | q) | q) | q) | h5
  · exact ⟨0, 4, by omega, by omega, q.symm⟩
  · exact ⟨1, 4, by omega, by omega, q.symm⟩
  · exact ⟨2, 4, by omega, by omega, q.symm⟩
  · exact ⟨3, 4, by omega, by omega, q.symm⟩
  have h6 := ph_step h5 (hs 5 (by omega)).1
  simp only [beq_iff_eq, Bool.or_eq_true, n5, false_or] at h6
  rcases h6 with ((((q | q) | q) | q) | q) | h6
  · exact ⟨0, 5, by omega, by omega, q.symm⟩
  · exact ⟨1, 5, by omega, by omega, q.symm⟩
  · exact ⟨2, 5, by omega, by omega, q.symm⟩
  · exact ⟨3, 5, by omega, by omega, q.symm⟩
  · exact ⟨4, 5, by omega, by omega, q.symm⟩
  · cases h6
/-- the way of waits from c, n steps on -/
def f_chain (N : hm_M) (c : Nat) : Nat → Nat
  | 0 => c
  | n + 1 => (f_wayof N (f_chain N c n)).toNatClampNeg
theorem f_chain_shift (N : hm_M) (c : Nat) : ∀ n, f_chain N (f_wayof N c).toNatClampNeg n = f_chain N c (n + 1) := by
  intro n
  induction n with
  | zero => rfl
  | succ n ih => simp only [f_chain] at ih ⊢; rw [ih]
/-- a ring that is found late has gone through n parts that are none of it -/
theorem f_ring_some {N : hm_M} (hN : IvC N) {k : Nat} (hk : k < 6) : ∀ (n c w v : Nat), c < 6 → f_ring N (nI k) (n + 1) c w = some v → f_ring N (nI k) n c w = some v ∨
    ((∀ i, i < n → f_chain N c (i + 1) < 6 ∧ ¬ f_chain N c (i + 1) = k) ∧ f_chain N c (n + 1) = k) := by
  intro n
  induction n with
  | zero =>
    intro c w v hc h
    right
    refine ⟨fun i hi => absurd hi (Nat.not_lt_zero i), ?_⟩
    rw [f_ring] at h
    by_cases q : f_wayof N c = -1
    · rw [if_pos q] at h; cases h
    · rw [if_neg q] at h
      by_cases z : f_wayof N c = nI k
      · show (f_wayof N c).toNatClampNeg = k
        rw [z]; exact nI_clamp (by omega)
      · rw [if_neg z, f_ring] at h; cases h
  | succ n ih =>
    intro c w v hc h
    rw [f_ring] at h ⊢
    by_cases q : f_wayof N c = -1
    · rw [if_pos q] at h; cases h
    · rw [if_neg q] at h ⊢
      by_cases z : f_wayof N c = nI k
      · rw [if_pos z] at h ⊢; exact Or.inl h
      · rw [if_neg z] at h ⊢
        have hv := hN.wayIn hc q
        rcases ih _ _ v (vp_nn hv) h with y | ⟨y1, y2⟩
        · exact Or.inl y
        · right
          refine ⟨fun i hi => ?_, by rw [← f_chain_shift]; exact y2⟩
          cases i with
          | zero =>
            refine ⟨vp_nn hv, fun e => z ?_⟩
            obtain ⟨j, hj, ej⟩ := vp_in_of hv (by decide)
            have e' : (f_wayof N c).toNatClampNeg = k := e
            rw [ej, nI_clamp (by omega)] at e'
            rw [ej, e']
          | succ i => rw [← f_chain_shift]; exact y1 i (by omega)
theorem f_ring_67 {N : hm_M} (hN : IvC N) {k : Nat} (hk : k < 6) : f_ring N (nI k) 7 k k = f_ring N (nI k) 6 k k := by
  have mono : ∀ (n c w v : Nat), f_ring N (nI k) n c w = some v → f_ring N (nI k) (n + 1) c w = some v := by
    intro n
    induction n with
    | zero => intro c w v h; rw [f_ring] at h; cases h
    | succ n ih =>
      intro c w v h
      rw [f_ring] at h ⊢
      by_cases q : f_wayof N c = -1
      · rw [if_pos q] at h; cases h
      · rw [if_neg q] at h ⊢
        by_cases z : f_wayof N c = nI k
        · rw [if_pos z] at h ⊢; exact h
        · rw [if_neg z] at h ⊢; exact ih _ _ _ h
  cases h6 : f_ring N (nI k) 6 k k with
  | some v => exact mono _ _ _ _ h6
  | none =>
    cases h7 : f_ring N (nI k) 7 k k with
    | none => rfl
    | some v =>
      exfalso
      rcases f_ring_some hN hk 6 k k v hk h7 with y | ⟨y1, y2⟩
      · rw [h6] at y; cases y
      · obtain ⟨a, b, hab, hb, e⟩ := ph_seq k (fun i => f_chain N k (i + 1)) hk (fun i hi => y1 i (by omega))
        have sh : ∀ t, f_chain N k (a + 1 + t) = f_chain N k (b + 1 + t) := by
          intro t
          induction t with
          | zero => exact e
          | succ t ih => show (f_wayof N (f_chain N k (a + 1 + t))).toNatClampNeg = (f_wayof N (f_chain N k (b + 1 + t))).toNatClampNeg; rw [ih]
        have z := sh (6 - b)
        rw [show b + 1 + (6 - b) = 6 + 1 by omega, y2] at z
        have w := (y1 (a + (6 - b)) (by omega)).2
        rw [show a + (6 - b) + 1 = a + 1 + (6 - b) by omega] at w
        exact w z
theorem ab_brk {M : hm_M} (h : Iv2 M) {k : Nat} (hkp : (k : Int) < (M 20 0 3).toInt) (hw : ¬ M 27 0 k = -1) : ab (g_brk M k) = f_brk (ab M) k := by
  have hk := h.lt hkp
  have e0 : M 22 0 (M 27 0 k).toNatClampNeg = g_next M k := by unfold g_next; rw [if_neg hw]
  have hr := ring_eq h hk 6 k k hkp hk
  rw [f_ring_67 h.C hk] at hr
  unfold g_brk f_brk
  rw [e0, (ab_at hk).2.2.2.2.2, ← hr]
  have hw6 : ∀ (n w : Nat) (x : Int32), w < 6 → (x = -1 ∨ vp_in x 6) → (g_ringL M k n w x).1 < 6 := by
    intro n
    induction n with
    | zero => intro w x hw _; exact hw
    | succ n ih =>
      intro w x hw hx
      rw [g_ringL]
      by_cases q : x = -1
      · rw [if_pos q]; exact hw
      · rw [if_neg q]
        by_cases z : x = nI k
        · rw [if_pos z]; exact hw
        · rw [if_neg z]
          have hx6 := vp_nn (hx.resolve_left q)
          exact ih _ _ (g_step2_lt hx6 hw) (h.m.nextIn hx6)
  have h6 := hw6 6 k (g_next M k) hk (h.m.nextIn hk)
  unfold g_brkO g_opt
  by_cases q : (g_ringL M k 6 k (g_next M k)).2 = nI k
  · rw [if_pos q, if_pos q, ab_20_22, ab_undo h6 h.C]
    show hm_up (f_undo (ab M) _ 0) 0 0 8 (M 20 0 22 + 1) = hm_up (f_undo (ab M) _ 0) 0 0 8 (f_undo (ab M) _ 0 0 0 8 + 1)
    have e8 : ∀ w, f_undo (ab M) w 0 0 0 8 = M 20 0 22 := fun w => by
      unfold f_undo
      rw [hm_up_fam (by decide), hm_up_fam (by decide), hm_up_fam (by decide), f_free_ne _ _ _ _ 0 (by decide), f_tbL_ne _ _ (by decide) (by decide), (ab_20 M).2.2.1]
    rw [e8]
  · rw [if_neg q, if_neg q]; rfl
theorem g_ringL_lt {M : hm_M} (h : Iv2 M) {k : Nat} (hk : k < 6) : ∀ (n w : Nat) (c : Nat), (w : Int) < (M 20 0 3).toInt → (c : Int) < (M 20 0 3).toInt → ((g_ringL M k n w (g_next M c)).1 : Int) < (M 20 0 3).toInt := by
  intro n
  induction n with
  | zero => intro w c hw _; exact hw
  | succ n ih =>
    intro w c hw hc
    rw [g_ringL]
    by_cases q : g_next M c = -1
    · rw [if_pos q]; exact hw
    · rw [if_neg q]
      by_cases z : g_next M c = nI k
      · rw [if_pos z]; exact hw
      · rw [if_neg z]
        have hn := (h.nextLt hc q).1
        refine ih _ _ ?_ hn
        unfold g_step2
        split
        · exact hn
        · split
          · split
            · exact hw
            · exact hn
          · exact hw
theorem Iv2.up20 {M : hm_M} (h : Iv2 M) {j : Nat} {x : Int32} (hj : j = 0 ∨ j = 22 ∨ j = 16) : Iv2 (hm_up M 20 0 j x) := by
  obtain ⟨⟨c1, c2, c3⟩, g1, g2, g3, g4⟩ := h
  have e3 : hm_up M 20 0 j x 20 0 3 = M 20 0 3 := by simp [hm_up_at]; omega
  have e21 : hm_up M 20 0 j x 20 0 21 = M 20 0 21 := by simp [hm_up_at]; omega
  have hf : ∀ f, ¬ f = 20 → hm_up M 20 0 j x f = M f := fun f hf => hm_up_fam hf
  refine ⟨⟨?_, by rw [hf 27 (by decide)]; exact c2, by rw [e21]; exact c3⟩, by rw [e3, hf 24 (by decide)]; exact g1, by rw [e3, hf 22 (by decide)]; exact g2, by rw [hf 24 (by decide), hf 25 (by decide), hf 26 (by decide)]; exact g3, by rw [e3, hf 24 (by decide), hf 27 (by decide), hf 30 (by decide), hf 26 (by decide)]; exact g4⟩
  rcases hj with rfl | rfl | rfl
  · rw [ab_20_0]; exact c1
  · rw [ab_20_22]; exact c1.up0 (by decide) (by decide)
  · rw [ab_20_16]; exact c1.up0 (by decide) (by decide)
theorem Iv2.brk {M : hm_M} (h : Iv2 M) {k : Nat} (hkp : (k : Int) < (M 20 0 3).toInt) (hw : ¬ M 27 0 k = -1) : Iv2 (g_brk M k) := by
  have hk := h.lt hkp
  have e0 : M 22 0 (M 27 0 k).toNatClampNeg = g_next M k := by unfold g_next; rw [if_neg hw]
  unfold g_brk g_brkO
  rw [e0]
  split
  · exact (h.undo (g_ringL_lt h hk 6 k k hkp hkp) (by decide) (by decide)).up20 (by omega)
  · exact h
