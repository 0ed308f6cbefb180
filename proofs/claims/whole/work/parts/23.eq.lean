theorem hm_up_up {M : hm_M} {f k j : Nat} {x y : Int32} : hm_up (hm_up M f k j x) f k j y = hm_up M f k j y := by
  funext f' k' j'
  simp only [hm_up_at]
  split <;> rfl
theorem hm_up_com {M : hm_M} {f k j f' k' j' : Nat} {x y : Int32} (h : ¬ f = f') : hm_up (hm_up M f k j x) f' k' j' y = hm_up (hm_up M f' k' j' y) f k j x := by
  funext a b c
  simp only [hm_up_at]
  by_cases q : a = f
  · have : ¬ a = f' := fun z => h (q.symm.trans z)
    simp [this]
  · simp [q]
theorem ab_takesR {M : hm_M} {k : Nat} (hk : k < 6) (a : Int32) : f_getsR (ab M) k a = g_takesR M k a := by
  unfold f_getsR g_takesR
  rw [ab_hold, (ab_at hk).2.2.2.2.2]
theorem vp_ne {a : Int32} {n : Nat} (h : vp_in a n) : ¬ a = -1 := fun q => by
  have := (vp_rng h).1
  rw [q] at this
  exact absurd this (by decide)
theorem Iv2.tk {M : hm_M} (h : Iv2 M) {k : Nat} (hkp : (k : Int) < (M 20 0 3).toInt) {a : Int32} (ha : vp_in a 8) (hw : (M 26 0 k).toInt < (M 25 0 k).toInt ∧ M 29 0 (10 * k + (M 26 0 k).toNatClampNeg) ≠ 1) (haa : a = M 30 0 (10 * k + (M 26 0 k).toNatClampNeg)) : Iv2 (hm_up (hm_up M 24 0 k 1) 27 0 k a) := by
  have hk := h.lt hkp
  have e24 : hm_up (hm_up M 24 0 k 1) 27 0 k a 24 0 k = 1 := by simp [hm_up_at]
  have e26 : hm_up (hm_up M 24 0 k 1) 27 0 k a 26 = M 26 := by rw [hm_up_fam (by decide), hm_up_fam (by decide)]
  refine h.mk k hk hkp (h.m.tk hk ha hw) (by simp [hm_up_at]) (fun j _ => Or.inl (by simp [hm_up_at])) (fun c q => by simp [hm_up_at, q]) (by rw [hm_up_fam (by decide), hm_up_fam (by decide)]) (fun c q => by rw [e26]) (fun c q => by simp [hm_up_at, q]) (by rw [hm_up_fam (by decide), hm_up_fam (by decide)]) (fun q => absurd (e24.symm.trans q) (by decide)) (fun _ => ?_) (fun q => absurd e24 q)
  rw [e26, ← haa]
  simp [hm_up_at]
theorem ab_takes {M : hm_M} (h : Iv2 M) {k : Nat} (hkp : (k : Int) < (M 20 0 3).toInt) {a : Int32} (ha : vp_in a 8) (hw : (M 26 0 k).toInt < (M 25 0 k).toInt ∧ M 29 0 (10 * k + (M 26 0 k).toNatClampNeg) ≠ 1) (haa : a = M 30 0 (10 * k + (M 26 0 k).toNatClampNeg)) : ab (g_takesM M k a) = f_getsM (ab M) k a := by
  have hk := h.lt hkp
  unfold g_takesM f_getsM
  rw [ab_takesR hk]
  split
  · rw [ab_brk (h.tk hkp ha hw haa) (by simpa [hm_up_at] using hkp) (by have := vp_ne ha; simpa [hm_up_at] using this), ab_27, ab_24 _ hk]
  · rw [ab_27, ab_22, (ab_at hk).2.2.2.2.2]
def f_sdB (N : hm_M) (k : Nat) : hm_M := hm_up (f_sdA N k) 10 k 2 0
theorem ab_steps (M : hm_M) (h0 : 0 ≤ (M 20 0 21).toInt) (h1 : (M 20 0 21).toInt < 1000000) : ab (hm_up M 20 0 21 (M 20 0 21 + 1)) = hm_up (if 400 ≤ M 20 0 21 then ab M else hm_up (ab M) 0 0 6 (M 20 0 21 + 1)) 0 0 7 (M 20 0 21 + 1) := by
  have hi := inc_toInt h0 h1
  have key : (if 400 ≤ M 20 0 21 + 1 then (400 : Int32) else M 20 0 21 + 1) = if 400 ≤ M 20 0 21 then 400 else M 20 0 21 + 1 := by
    by_cases q : (400 : Int32) ≤ M 20 0 21
    · have q1 := Int32.le_iff_toInt_le.mp q
      have : (400 : Int32) ≤ M 20 0 21 + 1 := Int32.le_iff_toInt_le.mpr (by rw [hi]; omega)
      rw [if_pos q, if_pos this]
    · rw [if_neg q]
      by_cases z : (400 : Int32) ≤ M 20 0 21 + 1
      · rw [if_pos z]
        have z1 := Int32.le_iff_toInt_le.mp z
        have q1 := Int32.lt_iff_toInt_lt.mp (Int32.not_le.mp q)
        apply Int32.toInt_inj.mp
        rw [hi] at z1 ⊢
        omega
      · rw [if_neg z]
  clear hi h0 h1
  obtain ⟨x, hx⟩ : ∃ x, x = M 20 0 21 + 1 := ⟨_, rfl⟩
  rw [← hx] at key ⊢
  clear hx
  by_cases q : (400 : Int32) ≤ M 20 0 21
  · rw [if_pos q] at key ⊢
    funext f k j
    rw [hm_up_at]
    by_cases g : f = 0
    · subst g
      by_cases kk : k = 0
      · subst kk
        by_cases j7 : j = 7
        · subst j7; simp [ab, hm_up_at]
        · by_cases j6 : j = 6
          · subst j6; simp [ab, hm_up_at, key, q]
          · simp only [ab, hm_up_at]
            simp only [j7, and_false, true_and, if_false, if_true]
            split <;> simp_all
      · simp [ab, kk]
    · have : ¬ (f = 0 ∧ k = 0 ∧ j = 7) := fun z => g z.1
      rw [if_neg this]
      simp only [ab]
      split <;> (try split) <;> (try split) <;> first | rfl | (exact absurd rfl g) | simp_all [hm_up_at]
  · rw [if_neg q] at key ⊢
    funext f k j
    rw [hm_up_at]
    by_cases g : f = 0
    · subst g
      by_cases kk : k = 0
      · subst kk
        by_cases j7 : j = 7
        · subst j7; simp [ab, hm_up_at]
        · by_cases j6 : j = 6
          · subst j6; simp [ab, hm_up_at, key]
          · simp only [ab, hm_up_at]
            simp only [j7, j6, and_false, true_and, if_false, if_true]
            split <;> simp_all
      · simp [ab, kk, hm_up_at]
    · have : ¬ (f = 0 ∧ k = 0 ∧ j = 7) := fun z => g z.1
      have t6 : ¬ (f = 0 ∧ k = 0 ∧ j = 6) := fun z => g z.1
      rw [if_neg this, hm_up_at, if_neg t6]
      simp only [ab]
      split <;> (try split) <;> (try split) <;> first | rfl | (exact absurd rfl g) | simp_all [hm_up_at]
theorem ab_wd {M : hm_M} {k : Nat} (hk : k < 6) (h0 : 0 ≤ (M 20 0 21).toInt) (h1 : (M 20 0 21).toInt < 1000000) : ab (g_wd M k) = f_sdB (ab M) k := by
  obtain ⟨e3, -, -, -, -, e0⟩ := ab_at (M := M) hk
  obtain ⟨-, e7, -⟩ := ab_20 M
  have e6 : ab M 0 0 6 = if 400 ≤ M 20 0 21 then 400 else M 20 0 21 := by simp [ab]
  unfold g_wd f_sdB f_sdA f_sdL
  rw [ab_24 _ hk, ab_26 _ hk, e3, e7, e6, e0]
  by_cases q : (400 : Int32) ≤ M 20 0 21
  · simp only [if_pos q]
    rw [ab_steps M h0 h1, if_pos q, if_pos (by decide : (400 : Int32) ≤ 400)]
  · simp only [if_neg q]
    have e21 : hm_up M 38 0 (M 20 0 21).toNatClampNeg (100 * nI k + M 26 0 k) 20 0 21 = M 20 0 21 := by simp [hm_up_at]
    have := ab_steps (hm_up M 38 0 (M 20 0 21).toNatClampNeg (100 * nI k + M 26 0 k)) (by rw [e21]; exact h0) (by rw [e21]; exact h1)
    rw [e21, if_neg q, ab_38] at this
    rw [this]
theorem ab_end {Z : hm_M} {k : Nat} (hk : k < 6) (h0 : 0 ≤ (Z 20 0 21).toInt) (h1 : (Z 20 0 21).toInt < 1000000) : ab (g_end (g_wd Z k) k) = f_sd (ab Z) k := by
  obtain ⟨e3, e4, -, -, -, e0⟩ := ab_at (M := Z) hk
  have w24 : g_wd Z k 24 0 k = 0 := by simp [g_wd, hm_up_at]
  have w25 : g_wd Z k 25 0 k = Z 25 0 k := by unfold g_wd; rw [hm_up_fam (by decide), hm_up_fam (by decide), hm_up_fam (by decide)]; split; rfl; rw [hm_up_fam (by decide)]
  have w26 : g_wd Z k 26 0 k = Z 26 0 k + 1 := by simp [g_wd, hm_up_at]
  unfold g_end f_sd
  rw [if_pos w24, w25, w26, e3, e4]
  by_cases q : Z 25 0 k ≤ Z 26 0 k + 1
  · rw [if_pos q, if_pos q, ab_rel, ab_24 _ hk, ab_wd hk h0 h1]
    unfold f_sdB f_fin
    rw [hm_up_up]
    have : f_sdA (ab Z) k 10 k 0 = nI k := by
      have z : f_sdA (ab Z) k 10 k 0 = f_sdL (ab Z) k 10 k 0 := by simp [f_sdA, hm_up_at]
      rw [z, f_sdL_ne _ _ _ (by decide) (by decide), e0]
    rw [this]
  · rw [if_neg q, if_neg q, ab_wd hk h0 h1]; rfl
theorem g_end_no {X : hm_M} {k : Nat} (h : ¬ X 24 0 k = 0) : g_end X k = X := by unfold g_end; rw [if_neg h]
theorem find_eq (M : hm_M) (q : Int32) : ∀ n i, (f_first (ab M) q n i = -1 ∧ g_find M q n i = i + n) ∨ (i ≤ g_find M q n i ∧ g_find M q n i < i + n ∧ f_first (ab M) q n i = nI (g_find M q n i)) := by
  intro n
  induction n with
  | zero => intro i; exact Or.inl ⟨rfl, rfl⟩
  | succ n ih =>
    intro i
    have e8 : ab M 8 0 i = M 36 0 i := by simp [ab]
    have e6 : ab M 6 0 i = M 34 0 i := by simp [ab]
    simp only [f_first, g_find, e8, e6]
    by_cases a : M 34 0 i = 0
    · by_cases b : M 36 0 i = q
      · right; rw [if_pos b, if_pos a, if_pos a, if_pos b]; exact ⟨Nat.le_refl _, by omega, rfl⟩
      · simp only [if_pos a, if_neg b]
        rcases ih (i + 1) with ⟨z1, z2⟩ | ⟨z1, z2, z3⟩
        · exact Or.inl ⟨z1, by omega⟩
        · exact Or.inr ⟨by omega, by omega, z3⟩
    · have e : (if M 36 0 i = q then f_first (ab M) q n (i + 1) else f_first (ab M) q n (i + 1)) = f_first (ab M) q n (i + 1) := by split <;> rfl
      simp only [if_neg a, e]
      rcases ih (i + 1) with ⟨z1, z2⟩ | ⟨z1, z2, z3⟩
      · exact Or.inl ⟨z1, by omega⟩
      · exact Or.inr ⟨by omega, by omega, z3⟩
theorem ab_send {M : hm_M} (h : IvM M) {k : Nat} (hk : k < 6) (hlt : (M 26 0 k).toNatClampNeg < 10) (h1 : (M 20 0 21).toInt < 1000000) : ab (g_end (g_send M k (g_ix M k)) k) = f_send (ab M) k := by
  obtain ⟨e3, e4, -, -, -, e0⟩ := ab_at (M := M) hk
  obtain ⟨-, -, -, e9, e15⟩ := ab_20 M
  have hs := h.C.sent
  rw [e15] at hs
  unfold g_send f_send
  by_cases q : M 20 0 15 = 60
  · have h4 : g_undo M k 4 24 0 k = 4 := by simp [g_undo, hm_up_at]
    have h4' : ¬ g_undo M k 4 24 0 k = 0 := by rw [h4]; decide
    rw [if_pos q, e15, if_neg (by rw [q]; decide), g_end_no h4', ab_undo hk h.C]
  · have q2 : M 20 0 15 < 60 := by
      apply Int32.lt_iff_toInt_lt.mpr
      have : (M 20 0 15).toInt ≠ 60 := fun z => q (Int32.toInt_inj.mp (z.trans (by decide)))
      show _ < (60 : Int)
      omega
    rw [if_neg q, ab_end hk (by simpa [hm_up_at] using h.st) (by simpa [hm_up_at] using h1)]
    unfold g_ix
    rw [ab_33 _ hk hlt, ab_34, ab_37, ab_36, ab_35, ab_20_15, e15, if_pos q2, e3]
    unfold f_add
    have e12 : ab M 12 k (M 26 0 k).toNatClampNeg = M 30 0 (10 * k + (M 26 0 k).toNatClampNeg) := by simp [ab, hk, hlt]
    have e13 : ab M 13 k (M 26 0 k).toNatClampNeg = M 31 0 (10 * k + (M 26 0 k).toNatClampNeg) := by simp [ab, hk, hlt]
    rw [e12, e13, e15, e9, e0]
theorem ab_hear {M : hm_M} (h : IvM M) {k : Nat} (hk : k < 6) (hlt : (M 26 0 k).toNatClampNeg < 10) (h1 : (M 20 0 21).toInt < 1000000) (a : Int32) (haa : a = M 30 0 (g_ix M k)) :
    ab (g_end (g_hear (hm_up (hm_up M 22 0 a.toNatClampNeg (nI k)) 27 0 k (-1)) k (g_ix M k)) k) = f_hearM (ab M) k a (f_first (ab M) (ab M 10 k 0) (ab M 4 0 4).toNatClampNeg 1) := by
  obtain ⟨e3, e4, -, -, -, e0⟩ := ab_at (M := M) hk
  obtain ⟨-, -, -, e9, e15⟩ := ab_20 M
  have hs := h.C.sent
  rw [e15] at hs
  obtain ⟨M1, hM1⟩ : ∃ z, z = hm_up (hm_up M 22 0 a.toNatClampNeg (nI k)) 27 0 k (-1) := ⟨_, rfl⟩
  have f15 : M1 20 0 15 = M 20 0 15 := by rw [hM1]; simp [hm_up_at]
  have f21 : M1 20 0 21 = M 20 0 21 := by rw [hM1]; simp [hm_up_at]
  have f30 : M1 30 = M 30 := by rw [hM1, hm_up_fam (by decide), hm_up_fam (by decide)]
  have f37 : M1 37 = M 37 := by rw [hM1, hm_up_fam (by decide), hm_up_fam (by decide)]
  have fv : M1 21 = M 21 := by rw [hM1, hm_up_fam (by decide), hm_up_fam (by decide)]
  have f26 : M1 26 = M 26 := by rw [hM1, hm_up_fam (by decide), hm_up_fam (by decide)]
  have fab : ab M1 = hm_up (ab M) 2 0 a.toNatClampNeg (nI k) := by rw [hM1, ab_27, ab_22]
  have ff := find_eq M1 (nI k) (M 20 0 15).toNatClampNeg 1
  rw [fab, f_first_up2] at ff
  rw [← hM1, e0, e15]
  unfold g_hear f_hearM
  rw [f15]
  obtain ⟨r, hr⟩ : ∃ z, z = g_find M1 (nI k) (M 20 0 15).toNatClampNeg 1 := ⟨_, rfl⟩
  rw [← hr] at ff ⊢
  unfold g_hearM
  rw [f15, f30, f37, fv, ← haa, e0]
  rcases ff with ⟨z1, z2⟩ | ⟨z1, z2, z3⟩
  · have h4 : hm_up M1 24 0 k 2 24 0 k = 2 := by simp [hm_up_at]
    have h4' : ¬ hm_up M1 24 0 k 2 24 0 k = 0 := by rw [h4]; decide
    rw [if_pos (by omega), if_pos z1, g_end_no h4', ab_24 _ hk, fab]
  · have hb : (M 20 0 15).toNatClampNeg ≤ 60 := by rw [nn_eq]; omega
    have er : (nI r).toNatClampNeg = r := nI_clamp (by omega)
    rw [if_neg (by omega), z3, if_neg (fun y => nI_m1 (k := r) (by omega) y.symm), ab_end hk (by simpa [hm_up_at, f21] using h.st) (by simpa [hm_up_at, f21] using h1), er]
    unfold g_ix
    rw [ab_33 _ hk hlt, ab_21, ab_34, fab, e3]
    have e1 : ab M 1 0 a.toNatClampNeg = M 21 0 a.toNatClampNeg := by simp [ab]
    have e9' : ab M 9 0 r = M 37 0 r := by simp [ab]
    rw [e1, e9', hm_up_com (by decide : ¬ (1 = 15))]
