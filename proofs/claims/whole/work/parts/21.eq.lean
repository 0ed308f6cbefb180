/-- what holds between the reference's arrays, beyond their ranges -/
def Iv2 (M : hm_M) : Prop := IvM M ∧ (∀ c : Nat, c < 6 → (M 20 0 3).toInt ≤ c → M 24 0 c = 0) ∧ (∀ j, j < 8 → M 22 0 j = -1 ∨ (M 22 0 j).toInt < (M 20 0 3).toInt) ∧ (∀ c, c < 6 → M 24 0 c = 2 → (M 26 0 c).toInt < (M 25 0 c).toInt) ∧
  ∀ c : Nat, c < 6 → (c : Int) < (M 20 0 3).toInt → (M 24 0 c = 1 → M 27 0 c = M 30 0 (10 * c + (M 26 0 c).toNatClampNeg)) ∧ (¬ M 24 0 c = 1 → M 27 0 c = -1)
theorem Iv2.m {M : hm_M} (h : Iv2 M) : IvM M := h.1
theorem Iv2.C {M : hm_M} (h : Iv2 M) : IvC (ab M) := h.1.C
theorem Iv2.mk {M M' : hm_M} (h : Iv2 M) (k : Nat) (hk : k < 6) (hkp : (k : Int) < (M 20 0 3).toInt) (hm : IvM M') (h3 : M' 20 0 3 = M 20 0 3) (h22 : ∀ j, j < 8 → M' 22 0 j = M 22 0 j ∨ M' 22 0 j = -1 ∨ M' 22 0 j = nI k) (h24 : ∀ c, ¬ c = k → M' 24 0 c = M 24 0 c) (h25 : M' 25 = M 25) (h26 : ∀ c, ¬ c = k → M' 26 0 c = M 26 0 c) (h27 : ∀ c, ¬ c = k → M' 27 0 c = M 27 0 c) (h30 : M' 30 = M 30)
    (hs2 : M' 24 0 k = 2 → (M' 26 0 k).toInt < (M 25 0 k).toInt) (hw1 : M' 24 0 k = 1 → M' 27 0 k = M 30 0 (10 * k + (M' 26 0 k).toNatClampNeg)) (hw2 : ¬ M' 24 0 k = 1 → M' 27 0 k = -1) : Iv2 M' := by
  obtain ⟨-, g1, g2, g3, g4⟩ := h
  refine ⟨hm, fun c hc hp => ?_, fun j hj => ?_, fun c hc => ?_, fun c hc hp => ?_⟩
  · rw [h3] at hp
    rw [h24 c (by omega)]
    exact g1 c hc hp
  · rw [h3]
    rcases h22 j hj with q | q | q
    · rw [q]; exact g2 j hj
    · exact Or.inl q
    · right; rw [q, nI_toInt (by omega)]; exact hkp
  · rw [h25]
    by_cases q : c = k
    · subst q; exact hs2
    · rw [h24 c q, h26 c q]; exact g3 c hc
  · rw [h3] at hp
    rw [h30]
    by_cases q : c = k
    · subst q; exact ⟨hw1, hw2⟩
    · rw [h24 c q, h26 c q, h27 c q]; exact g4 c hc hp
theorem ab_20 (M : hm_M) : ab M 0 0 5 = M 20 0 3 ∧ ab M 0 0 7 = M 20 0 21 ∧ ab M 0 0 8 = M 20 0 22 ∧ ab M 0 0 9 = M 20 0 16 ∧ ab M 4 0 4 = M 20 0 15 := by simp [ab]
theorem Iv2.lt {M : hm_M} (h : Iv2 M) {k : Nat} (hkp : (k : Int) < (M 20 0 3).toInt) : k < 6 := by
  have := h.C.pc
  rw [(ab_20 M).1] at this
  omega
theorem g_undo_f (M : hm_M) (k : Nat) (st : Int32) (f : Nat) (h1 : ¬ f = 21) (h2 : ¬ f = 22) (h3 : ¬ f = 24) (h4 : ¬ f = 26) (h5 : ¬ f = 27) (h6 : ¬ f = 28) (h7 : ¬ f = 34) : g_undo M k st f = M f := by
  unfold g_undo
  rw [hm_up_fam h6, hm_up_fam h3, hm_up_fam h5, hm_up_fam h4, g_rel_ne _ _ _ _ f h2, g_tbL_ne _ _ h1 h7]
theorem g_rel_22 (q : Int32) : ∀ (n i : Nat) (M : hm_M) (j : Nat), g_rel q n i M 22 0 j = M 22 0 j ∨ g_rel q n i M 22 0 j = -1 := by
  intro n
  induction n with
  | zero => intro i M j; exact Or.inl rfl
  | succ n ih =>
    intro i M j
    simp only [g_rel]
    rcases ih (i + 1) (if M 22 0 i = q then hm_up M 22 0 i (-1) else M) j with z | z
    · rw [z]
      split
      · by_cases e : j = i
        · right; simp [hm_up_at, e]
        · left; simp [hm_up_at, e]
      · exact Or.inl rfl
    · exact Or.inr z
theorem IvM.undo {M : hm_M} (h : IvM M) {k : Nat} (hk : k < 6) {st : Int32} (h1 : st ≠ 1) : IvM (g_undo M k st) := by
  refine h.mk (by rw [ab_undo hk h.C]; exact h.C.undo hk h1) (fun c hc => ?_) ?_
  · by_cases q : c = k
    · subst q; right; left; simp [g_undo, hm_up_at]
    · left
      simp only [g_undo, hm_up_at]
      simp [q, g_rel_ne _ _ _ _ 27 (by decide : ¬ (27 = 22)), g_tbL_ne _ 27 (by decide) (by decide)]
  · exact g_undo_20
theorem Iv2.undo {M : hm_M} (h : Iv2 M) {k : Nat} (hkp : (k : Int) < (M 20 0 3).toInt) {st : Int32} (h1 : st ≠ 1) (h2 : st ≠ 2) : Iv2 (g_undo M k st) := by
  have hk := h.lt hkp
  have e24 : g_undo M k st 24 0 k = st := by simp [g_undo, hm_up_at]
  refine h.mk k hk hkp (h.m.undo hk h1) g_undo_20 (fun j _ => ?_) (fun c q => ?_) (g_undo_f M k st 25 (by decide) (by decide) (by decide) (by decide) (by decide) (by decide) (by decide)) (fun c q => ?_) (fun c q => ?_) (g_undo_f M k st 30 (by decide) (by decide) (by decide) (by decide) (by decide) (by decide) (by decide)) (fun q => absurd (e24.symm.trans q) h2) (fun q => absurd (e24.symm.trans q) h1) (fun _ => by simp [g_undo, hm_up_at])
  · have e : g_undo M k st 22 0 j = g_rel (nI k) 8 0 (g_tbL k (M 26 0 k).toNatClampNeg M) 22 0 j := by simp [g_undo, hm_up_at]
    rw [e]
    rcases g_rel_22 (nI k) 8 0 (g_tbL k (M 26 0 k).toNatClampNeg M) j with z | z
    · left; rw [z, g_tbL_ne _ 22 (by decide) (by decide)]
    · right; left; exact z
  · simp only [g_undo, hm_up_at]
    simp [q, g_rel_ne _ _ _ _ 24 (by decide : ¬ (24 = 22)), g_tbL_ne _ 24 (by decide) (by decide)]
  · simp only [g_undo, hm_up_at]
    simp [q, g_rel_ne _ _ _ _ 26 (by decide : ¬ (26 = 22)), g_tbL_ne _ 26 (by decide) (by decide)]
  · simp only [g_undo, hm_up_at]
    simp [q, g_rel_ne _ _ _ _ 27 (by decide : ¬ (27 = 22)), g_tbL_ne _ 27 (by decide) (by decide)]
/-- the ring, walked by both -/
theorem Iv2.await {M : hm_M} (h : Iv2 M) {c : Nat} (hc : (c : Int) < (M 20 0 3).toInt) : f_await (ab M) c = M 27 0 c := by
  have h6 := h.lt hc
  obtain ⟨w1, w2⟩ := h.2.2.2.2 c h6 hc
  obtain ⟨e3, e4, e2, -⟩ := ab_at (M := M) h6
  unfold f_await
  rw [e2, e3, e4]
  by_cases q : M 24 0 c = 1
  · have z := h.C.wait h6 (by rw [e2]; exact q)
    rw [e3, e4] at z
    have hat := h.C.at h6
    rw [e3, e4] at hat
    have hlt : (M 26 0 c).toNatClampNeg < 10 := by rw [nn_eq]; omega
    have hn : ¬ M 25 0 c ≤ M 26 0 c := fun y => by have := Int32.le_iff_toInt_le.mp y; omega
    have e12 : ab M 12 c (M 26 0 c).toNatClampNeg = M 30 0 (10 * c + (M 26 0 c).toNatClampNeg) := by simp [ab, h6, hlt]
    rw [if_pos q, if_neg hn, e12, w1 q]
  · rw [if_neg q, w2 q]
theorem Iv2.next {M : hm_M} (h : Iv2 M) {c : Nat} (hc : (c : Int) < (M 20 0 3).toInt) : f_wayof (ab M) c = g_next M c := by
  unfold f_wayof g_next
  rw [h.await hc, ab_hold]
theorem Iv2.nextLt {M : hm_M} (h : Iv2 M) {c : Nat} (hc : (c : Int) < (M 20 0 3).toInt) (hn : ¬ g_next M c = -1) : ((g_next M c).toNatClampNeg : Int) < (M 20 0 3).toInt ∧ g_next M c = nI (g_next M c).toNatClampNeg := by
  have h6 := h.lt hc
  have hv := (h.m.nextIn h6).resolve_left hn
  obtain ⟨j, hj, ej⟩ := vp_in_of hv (by decide)
  have e : (g_next M c).toNatClampNeg = j := by rw [ej]; exact nI_clamp (by omega)
  refine ⟨?_, by rw [e]; exact ej⟩
  have hn2 := hn
  unfold g_next at hn2
  by_cases q : M 27 0 c = -1
  · simp [q] at hn2
  · rw [if_neg q] at hn2
    have hw : (M 27 0 c).toNatClampNeg < 8 := by
      rcases h.m.wr h6 with z | z
      · exact absurd z q
      · rw [nn_eq]; omega
    rcases h.2.2.1 _ hw with z | z
    · exact absurd z hn2
    · have e2 : g_next M c = M 22 0 (M 27 0 c).toNatClampNeg := by unfold g_next; rw [if_neg q]
      rw [← e2, ej, nI_toInt (by omega)] at z
      rw [e]; exact z
theorem g_yields {M : hm_M} {x w : Nat} (hx : x < 6) (hw : w < 6) : (if f_yields (ab M) x w = 0 then w else x) = g_step2 M x w := by
  unfold f_yields g_step2
  rw [(ab_at hx).2.2.2.2.1, (ab_at hw).2.2.2.2.1, (ab_at hx).2.2.2.2.2, (ab_at hw).2.2.2.2.2]
  by_cases a : M 23 0 x < M 23 0 w
  · simp [a]
  · by_cases b : M 23 0 x = M 23 0 w
    · by_cases c : nI x ≤ nI w
      · simp [b, c]
      · simp [b, c]
    · simp [a, b]
def g_opt (k : Nat) (r : Nat × Int32) : Option Nat := if r.2 = nI k then some r.1 else none
theorem ring_eq {M : hm_M} (h : Iv2 M) {k : Nat} (hk : k < 6) : ∀ (n c w : Nat), (c : Int) < (M 20 0 3).toInt → w < 6 → g_opt k (g_ringL M k n w (g_next M c)) = f_ring (ab M) (nI k) (n + 1) c w := by
  intro n
  induction n with
  | zero =>
    intro c w hc hw
    simp only [g_ringL, f_ring, g_opt, h.next hc]
    by_cases q : g_next M c = -1
    · have : ¬ g_next M c = nI k := fun z => nI_m1 (k := k) (by omega) (q.symm.trans z)
      simp only [if_pos q]
      exact if_neg this
    · simp only [if_neg q]
      rfl
  | succ n ih =>
    intro c w hc hw
    rw [g_ringL, f_ring, h.next hc]
    by_cases q : g_next M c = -1
    · have : ¬ g_next M c = nI k := fun z => nI_m1 (k := k) (by omega) (q.symm.trans z)
      rw [if_pos q, if_pos q, g_opt, if_neg this]
    · rw [if_neg q, if_neg q]
      by_cases z : g_next M c = nI k
      · rw [if_pos z, if_pos z, g_opt, if_pos z]
      · rw [if_neg z, if_neg z]
        obtain ⟨b1, b2⟩ := h.nextLt hc q
        have b6 := h.lt b1
        rw [g_yields b6 hw]
        exact ih _ _ b1 (g_step2_lt b6 hw)
