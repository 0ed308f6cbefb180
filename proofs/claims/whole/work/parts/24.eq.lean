/-- what the reference leaves as it is, and that no state of it is negative -/
def Kq (A M : hm_M) : Prop := (∀ f, f ≤ 15 ∨ 39 < f → M f = A f) ∧ ((∀ c, c < 6 → 0 ≤ (A 24 0 c).toInt) → ∀ c, c < 6 → 0 ≤ (M 24 0 c).toInt)
theorem Kq.rf {M : hm_M} : Kq M M := ⟨fun _ _ => rfl, fun h => h⟩
theorem Kq.tr {A B C : hm_M} (h : Kq A B) (g : Kq B C) : Kq A C := ⟨fun f hf => (g.1 f hf).trans (h.1 f hf), fun q => g.2 (h.2 q)⟩
theorem Kq.up {A M : hm_M} (h : Kq A M) {f k j : Nat} {x : Int32} (h1 : ¬ f = 24) (h2 : 15 < f) (h3 : f ≤ 39) : Kq A (hm_up M f k j x) :=
  h.tr ⟨fun g hg => hm_up_fam (by omega), fun q c hc => by rw [hm_up_fam (by omega)]; exact q c hc⟩
theorem Kq.up24 {A M : hm_M} (h : Kq A M) {k : Nat} {x : Int32} (hx : 0 ≤ x.toInt) : Kq A (hm_up M 24 0 k x) :=
  h.tr ⟨fun g hg => hm_up_fam (by omega), fun q c hc => by
    by_cases e : c = k
    · subst e; simpa [hm_up_at] using hx
    · simpa [hm_up_at, e] using q c hc⟩
theorem Kq.rel {A M : hm_M} (h : Kq A M) (q : Int32) (n i : Nat) : Kq A (g_rel q n i M) :=
  h.tr ⟨fun f hf => g_rel_ne _ _ _ _ f (by omega), fun q c hc => by rw [g_rel_ne _ _ _ _ 24 (by decide)]; exact q c hc⟩
theorem Kq.tbL {A M : hm_M} (h : Kq A M) (k n : Nat) : Kq A (g_tbL k n M) :=
  h.tr ⟨fun f hf => g_tbL_ne _ f (by omega) (by omega) _ _, fun q c hc => by rw [g_tbL_ne _ 24 (by decide) (by decide)]; exact q c hc⟩
theorem Kq.undo {A M : hm_M} (h : Kq A M) (k : Nat) {st : Int32} (hs : 0 ≤ st.toInt) : Kq A (g_undo M k st) :=
  (((((h.tbL k _).rel _ 8 0).up (by decide) (by decide) (by decide)).up (by decide) (by decide) (by decide)).up24 hs).up (by decide) (by decide) (by decide)
theorem Kq.brk {A M : hm_M} (h : Kq A M) (k : Nat) : Kq A (g_brk M k) := by
  unfold g_brk g_brkO
  split
  · exact (h.undo _ (by decide)).up (by decide) (by decide) (by decide)
  · exact h
theorem Kq.takes {A M : hm_M} (h : Kq A M) (k : Nat) (a : Int32) : Kq A (g_takesM M k a) := by
  unfold g_takesM
  split
  · exact ((h.up24 (by decide)).up (by decide) (by decide) (by decide)).brk k
  · exact (h.up (by decide) (by decide) (by decide)).up (by decide) (by decide) (by decide)
theorem Kq.wd {A M : hm_M} (h : Kq A M) (k : Nat) : Kq A (g_wd M k) := by
  unfold g_wd
  refine Kq.up24 (Kq.up (Kq.up ?_ (by decide) (by decide) (by decide)) (by decide) (by decide) (by decide)) (by decide)
  split
  · exact h
  · exact h.up (by decide) (by decide) (by decide)
theorem Kq.send {A M : hm_M} (h : Kq A M) (k x : Nat) : Kq A (g_send M k x) := by
  unfold g_send
  split
  · exact h.undo _ (by decide)
  · exact Kq.wd (((((((h.up (by decide) (by decide) (by decide)).up (by decide) (by decide) (by decide)).up (by decide) (by decide) (by decide)).up (by decide) (by decide) (by decide)).up (by decide) (by decide) (by decide)).up (by decide) (by decide) (by decide))) k
theorem Kq.hear {A M : hm_M} (h : Kq A M) (k x : Nat) : Kq A (g_hear M k x) := by
  unfold g_hear g_hearM
  split
  · exact h.up24 (by decide)
  · exact Kq.wd (((h.up (by decide) (by decide) (by decide)).up (by decide) (by decide) (by decide)).up (by decide) (by decide) (by decide)) k
theorem Kq.endd {A M : hm_M} (h : Kq A M) (k : Nat) : Kq A (g_end M k) := by
  unfold g_end
  split
  · split
    · exact (h.up24 (by decide)).rel _ 8 0
    · exact h
  · exact h
theorem Kq.tri {A M : hm_M} (h : Kq A M) (k : Nat) : Kq A (g_try M k) := by
  unfold g_try
  split
  · split
    · exact h.send k _
    · split
      · exact h.takes k _
      · split
        · exact Kq.wd (((h.up (by decide) (by decide) (by decide)).up (by decide) (by decide) (by decide)).up (by decide) (by decide) (by decide)) k
        · exact Kq.hear ((h.up (by decide) (by decide) (by decide)).up (by decide) (by decide) (by decide)) k _
  · exact (h.up (by decide) (by decide) (by decide)).undo _ (by decide)
theorem Kq.have {A M : hm_M} (h : Kq A M) (k : Nat) : Kq A (g_have M k) := by
  unfold g_have
  refine Kq.endd ?_ k
  split
  · exact h
  · exact h.tri k
theorem g_rel22 {M : hm_M} {k : Nat} (j : Nat) : g_rel (nI k) 8 0 (hm_up M 24 0 k 3) 22 0 j = M 22 0 j ∨ g_rel (nI k) 8 0 (hm_up M 24 0 k 3) 22 0 j = -1 ∨ g_rel (nI k) 8 0 (hm_up M 24 0 k 3) 22 0 j = nI k := by
  rcases g_rel_22 (nI k) 8 0 (hm_up M 24 0 k 3) j with z | z
  · left; rw [z]; simp [hm_up_at]
  · right; left; exact z
theorem Iv2.fin {M : hm_M} (h : Iv2 M) {k : Nat} (hkp : (k : Int) < (M 20 0 3).toInt) (h0 : M 24 0 k = 0) : Iv2 (g_rel (nI k) 8 0 (hm_up M 24 0 k 3)) := by
  have hk := h.lt hkp
  have ef : ∀ f, ¬ f = 22 → ¬ f = 24 → g_rel (nI k) 8 0 (hm_up M 24 0 k 3) f = M f := fun f a b => by rw [g_rel_ne _ _ _ _ f a, hm_up_fam b]
  have e24 : g_rel (nI k) 8 0 (hm_up M 24 0 k 3) 24 0 k = 3 := by rw [g_rel_ne _ _ _ _ 24 (by decide)]; simp [hm_up_at]
  have hw := (h.2.2.2.2 k hk hkp).2 (by rw [h0]; decide)
  refine h.mk k hk hkp ?_ (by rw [ef 20 (by decide) (by decide)]) (fun j _ => g_rel22 j) (fun c q => by rw [g_rel_ne _ _ _ _ 24 (by decide)]; simp [hm_up_at, q]) (ef 25 (by decide) (by decide)) (fun c q => by rw [ef 26 (by decide) (by decide)]) (fun c q => by rw [ef 27 (by decide) (by decide)]) (ef 30 (by decide) (by decide)) (fun q => absurd (e24.symm.trans q) (by decide)) (fun q => absurd (e24.symm.trans q) (by decide)) (fun _ => by rw [ef 27 (by decide) (by decide)]; exact hw)
  refine h.m.mk ?_ (fun c hc => Or.inl (by rw [ef 27 (by decide) (by decide)])) (by rw [ef 20 (by decide) (by decide)])
  rw [ab_rel, ab_24 _ hk]
  have := h.C.fin hk
  unfold f_fin at this
  rw [(ab_at hk).2.2.2.2.2] at this
  exact this
theorem Iv2.endd {M : hm_M} (h : Iv2 M) {k : Nat} (hkp : (k : Int) < (M 20 0 3).toInt) : Iv2 (g_end M k) := by
  unfold g_end
  split
  · split
    · exact h.fin hkp (by assumption)
    · exact h
  · exact h
theorem g_end_20 {M : hm_M} {k : Nat} : g_end M k 20 = M 20 := by
  unfold g_end
  split
  · split
    · rw [g_rel_ne _ _ _ _ 20 (by decide), hm_up_fam (by decide)]
    · rfl
  · rfl
theorem g_wd_f {Z : hm_M} {k : Nat} (f : Nat) (h1 : ¬ f = 20) (h2 : ¬ f = 24) (h3 : ¬ f = 26) (h4 : ¬ f = 38) : g_wd Z k f = Z f := by
  unfold g_wd
  rw [hm_up_fam h2, hm_up_fam h3, hm_up_fam h1]
  split
  · rfl
  · rw [hm_up_fam h4]
theorem g_wd_20 {Z : hm_M} {k j : Nat} (h : ¬ j = 21) : g_wd Z k 20 0 j = Z 20 0 j := by
  unfold g_wd
  rw [hm_up_fam (by decide), hm_up_fam (by decide)]
  simp only [hm_up_at, h, and_false, if_false]
  split
  · rfl
  · rw [hm_up_fam (by decide)]
theorem g_wd_21 {Z : hm_M} {k : Nat} : g_wd Z k 20 0 21 = Z 20 0 21 + 1 := by
  unfold g_wd
  rw [hm_up_fam (by decide), hm_up_fam (by decide)]
  simp [hm_up_at]
theorem Iv2.wd {M Z : hm_M} (h : Iv2 M) {k : Nat} (hkp : (k : Int) < (M 20 0 3).toInt) (hl : (M 26 0 k).toInt < (M 25 0 k).toInt) (h1 : (M 20 0 21).toInt < 1000000) (hC : IvC (ab Z)) (z3 : Z 20 0 3 = M 20 0 3) (z21 : Z 20 0 21 = M 20 0 21) (z22 : ∀ j, j < 8 → Z 22 0 j = M 22 0 j ∨ Z 22 0 j = nI k) (z24 : Z 24 = M 24) (z25 : Z 25 = M 25) (z26 : Z 26 = M 26) (z27 : ∀ c, ¬ c = k → Z 27 0 c = M 27 0 c) (zk : Z 27 0 k = -1) (z30 : Z 30 = M 30) :
    Iv2 (g_wd Z k) ∧ (g_wd Z k 20 0 21).toInt = (M 20 0 21).toInt + 1 := by
  have hk := h.lt hkp
  have w24 : g_wd Z k 24 0 k = 0 := by simp [g_wd, hm_up_at]
  have hst : (g_wd Z k 20 0 21).toInt = (M 20 0 21).toInt + 1 := by rw [g_wd_21, z21, inc_toInt h.m.st h1]
  refine ⟨h.mk k hk hkp ⟨?_, fun c hc => ?_, by rw [hst]; have := h.m.st; omega⟩ (by rw [g_wd_20 (by decide), z3]) (fun j hj => ?_) (fun c q => ?_) (by rw [g_wd_f 25 (by decide) (by decide) (by decide) (by decide), z25]) (fun c q => ?_) (fun c q => by rw [g_wd_f 27 (by decide) (by decide) (by decide) (by decide), z27 c q]) (by rw [g_wd_f 30 (by decide) (by decide) (by decide) (by decide), z30]) (fun q => absurd (w24.symm.trans q) (by decide)) (fun q => absurd (w24.symm.trans q) (by decide)) (fun _ => by rw [g_wd_f 27 (by decide) (by decide) (by decide) (by decide), zk]), hst⟩
  · rw [ab_wd hk (by rw [z21]; exact h.m.st) (by rw [z21]; exact h1)]
    exact hC.sdV hk (by rw [(ab_at hk).1, (ab_at hk).2.1, z25, z26]; exact hl) (by decide)
  · rw [g_wd_f 27 (by decide) (by decide) (by decide) (by decide)]
    by_cases q : c = k
    · subst q; exact Or.inl zk
    · rw [z27 c q]; exact h.m.wr hc
  · rw [g_wd_f 22 (by decide) (by decide) (by decide) (by decide)]
    rcases z22 j hj with z | z
    · exact Or.inl z
    · exact Or.inr (Or.inr z)
  · have : g_wd Z k 24 0 c = Z 24 0 c := by
      unfold g_wd
      simp only [hm_up_at, q, and_false, if_false]
      simp
      split
      · rfl
      · rw [hm_up_fam (by decide)]
    rw [this, z24]
  · have : g_wd Z k 26 0 c = Z 26 0 c := by
      unfold g_wd
      simp only [hm_up_at, q, and_false, if_false]
      simp
      split
      · rfl
      · rw [hm_up_fam (by decide)]
    rw [this, z26]
theorem g_brk_20 {M : hm_M} {k j : Nat} (h : ¬ j = 22) : g_brk M k 20 0 j = M 20 0 j := by
  unfold g_brk g_brkO
  split
  · simp only [hm_up_at, h, and_false, if_false]; exact g_undo_20
  · rfl
/-- a part that found its place held is at no end -/
theorem end_takes {M : hm_M} (h : Iv2 M) {k : Nat} (hkp : (k : Int) < (M 20 0 3).toInt) (hl : (M 26 0 k).toInt < (M 25 0 k).toInt) {a : Int32} (hr : g_takesR M k a = 0) : g_end (g_takesM M k a) k = g_takesM M k a := by
  have hk := h.lt hkp
  have hat := h.C.at hk
  rw [(ab_at hk).1, (ab_at hk).2.1] at hat
  unfold g_takesM
  rw [if_pos hr]
  obtain ⟨X, hX⟩ : ∃ X, X = hm_up (hm_up M 24 0 k 1) 27 0 k a := ⟨_, rfl⟩
  have x24 : X 24 0 k = 1 := by rw [hX]; simp [hm_up_at]
  have x25 : X 25 0 k = M 25 0 k := by rw [hX]; simp [hm_up_at]
  rw [← hX]
  unfold g_brk g_brkO
  split
  · by_cases q : (g_ringL X k 6 k (X 22 0 (X 27 0 k).toNatClampNeg)).1 = k
    · rw [q]
      unfold g_end
      have e25 : hm_up (g_undo X k 0) 20 0 22 (X 20 0 22 + 1) 25 0 k = M 25 0 k := by
        rw [hm_up_fam (by decide), g_undo_f _ _ _ 25 (by decide) (by decide) (by decide) (by decide) (by decide) (by decide) (by decide), x25]
      have e26 : hm_up (g_undo X k 0) 20 0 22 (X 20 0 22 + 1) 26 0 k = 0 := by
        rw [hm_up_fam (by decide)]; simp [g_undo, hm_up_at]
      rw [e25, e26]
      have : ¬ M 25 0 k ≤ 0 := fun z => by
        have z1 := Int32.le_iff_toInt_le.mp z
        have z2 : (0 : Int32).toInt = 0 := rfl
        omega
      rw [if_neg this]
      split <;> rfl
    · refine g_end_no ?_
      rw [hm_up_fam (by decide)]
      have : g_undo X (g_ringL X k 6 k (X 22 0 (X 27 0 k).toNatClampNeg)).1 0 24 0 k = X 24 0 k := by
        have q' : ¬ k = (g_ringL X k 6 k (X 22 0 (X 27 0 k).toNatClampNeg)).1 := fun z => q z.symm
        unfold g_undo
        rw [hm_up_fam (by decide)]
        simp only [hm_up_at, q', and_false, if_false]
        simp [g_rel_ne _ _ _ _ 24 (by decide : ¬ (24 = 22)), g_tbL_ne _ 24 (by decide) (by decide)]
      rw [this, x24]
      decide
  · exact g_end_no (by rw [x24]; decide)
set_option maxHeartbeats 1000000 in
theorem have_eq {M : hm_M} (h : Iv2 M) {k : Nat} (hkp : (k : Int) < (M 20 0 3).toInt) (hs : M 24 0 k = 0 ∨ M 24 0 k = 1 ∨ M 24 0 k = 2) (h1 : (M 20 0 21).toInt < 1000000) :
    ab (g_have M k) = f_turn (ab M) k ∧ Iv2 (g_have M k) ∧ (g_have M k 20 0 21).toInt ≤ (M 20 0 21).toInt + 1 ∧ g_have M k 20 0 3 = M 20 0 3 := by
  have hk := h.lt hkp
  obtain ⟨e3, e4, e2, -, -, e0⟩ := ab_at (M := M) hk
  have hat := h.C.at hk
  rw [e3, e4] at hat
  unfold g_have f_turn
  rw [e3, e4]
  by_cases q : M 25 0 k ≤ M 26 0 k
  · have q1 := Int32.le_iff_toInt_le.mp q
    have h0 : M 24 0 k = 0 := by
      rcases hs with z | z | z
      · exact z
      · have := h.C.wait hk (by rw [e2]; exact z)
        rw [e3, e4] at this
        omega
      · have := h.2.2.2.1 k hk z
        omega
    rw [if_pos q, if_neg (Int32.not_lt.mpr q)]
    refine ⟨?_, h.endd hkp, by rw [g_end_20]; omega, by rw [g_end_20]⟩
    unfold g_end f_fin
    rw [if_pos h0, if_pos q, ab_rel, ab_24 _ hk, e0]
  · have q' := Int32.not_le.mp q
    have hl := Int32.lt_iff_toInt_lt.mp q'
    have hlt : (M 26 0 k).toNatClampNeg < 10 := by rw [nn_eq]; omega
    have e14 : ab M 14 k (M 26 0 k).toNatClampNeg = M 32 0 (g_ix M k) := by simp [ab, hk, hlt, g_ix]
    have e11 : ab M 11 k (M 26 0 k).toNatClampNeg = M 29 0 (g_ix M k) := by simp [ab, hk, hlt, g_ix]
    have e12 : ab M 12 k (M 26 0 k).toNatClampNeg = M 30 0 (g_ix M k) := by simp [ab, hk, hlt, g_ix]
    have e13 : ab M 13 k (M 26 0 k).toNatClampNeg = M 31 0 (g_ix M k) := by simp [ab, hk, hlt, g_ix]
    rw [if_neg q, if_pos q', e14, e11]
    unfold g_try
    by_cases f : M 32 0 (g_ix M k) = 0
    · rw [if_pos f, if_pos f]
      by_cases s : M 29 0 (g_ix M k) = 1
      · rw [if_pos s, if_neg (by rw [s]; decide), if_pos s]
        refine ⟨ab_send h.m hk hlt h1, ?_⟩
        have n1 : ¬ M 24 0 k = 1 := fun z => by
          have := (h.C.wait hk (by rw [e2]; exact z)).2
          rw [e3, e11] at this
          exact this s
        have hw := (h.2.2.2.2 k hk hkp).2 n1
        unfold g_send
        by_cases full : M 20 0 15 = 60
        · rw [if_pos full]
          have u := h.undo hkp (st := 4) (by decide) (by decide)
          refine ⟨u.endd (by rw [g_undo_20]; exact hkp), ?_, ?_⟩
          · rw [g_end_20, g_undo_20]; omega
          · rw [g_end_20, g_undo_20]
        · rw [if_neg full]
          have q2 : M 20 0 15 < 60 := by
            have hs := h.C.sent
            rw [(ab_20 M).2.2.2.2] at hs
            apply Int32.lt_iff_toInt_lt.mpr
            have : (M 20 0 15).toInt ≠ 60 := fun z => full (Int32.toInt_inj.mp (z.trans (by decide)))
            show _ < (60 : Int)
            omega
          have hC : IvC (ab (hm_up (hm_up (hm_up (hm_up (hm_up (hm_up M 20 0 15 (M 20 0 15 + 1)) 35 0 (M 20 0 15 + 1).toNatClampNeg (nI k)) 36 0 (M 20 0 15 + 1).toNatClampNeg (M 30 0 (g_ix M k))) 37 0 (M 20 0 15 + 1).toNatClampNeg (M 31 0 (g_ix M k))) 34 0 (M 20 0 15 + 1).toNatClampNeg (if M 20 0 16 = 0 then 0 else 2)) 33 0 (g_ix M k) (M 20 0 15 + 1))) := by
            conv => arg 1; arg 1; unfold g_ix
            rw [ab_33 _ hk hlt, ab_34, ab_37, ab_36, ab_35, ab_20_15]
            have z := h.C.addM (by rw [(ab_20 M).2.2.2.2]; exact q2) (nI k) (M 30 0 (10 * k + (M 26 0 k).toNatClampNeg)) (M 31 0 (10 * k + (M 26 0 k).toNatClampNeg)) (M 20 0 16)
            unfold f_add at z
            rw [(ab_20 M).2.2.2.2] at z
            refine IvC.up15 z ?_
            have hs := h.C.sent
            rw [(ab_20 M).2.2.2.2] at hs
            have q3 := Int32.lt_iff_toInt_lt.mp q2
            have q4 : (60 : Int32).toInt = 60 := rfl
            rw [inc_toInt hs.1 (by omega)]
            omega
          obtain ⟨w1, w2⟩ := h.wd hkp hl h1 hC (by simp [hm_up_at]) (by simp [hm_up_at]) (fun j _ => Or.inl (by simp [hm_up_at])) (by iterate 6 rw [hm_up_fam (by decide)]) (by iterate 6 rw [hm_up_fam (by decide)]) (by iterate 6 rw [hm_up_fam (by decide)]) (fun c _ => by simp [hm_up_at]) (by simpa [hm_up_at] using hw) (by iterate 6 rw [hm_up_fam (by decide)])
          refine ⟨w1.endd (by rw [g_wd_20 (by decide)]; simpa [hm_up_at] using hkp), by rw [g_end_20, w2]; omega, ?_⟩
          rw [g_end_20, g_wd_20 (by decide)]
          simp [hm_up_at]
      · have ha : vp_in (M 30 0 (g_ix M k)) 8 := by
          have z := h.C.a (i := (M 26 0 k).toNatClampNeg) hk (by rw [e4, nn_eq]; omega) (by rw [e11]; exact s)
          rw [e12] at z
          exact z
        have hw : (M 26 0 k).toInt < (M 25 0 k).toInt ∧ M 29 0 (10 * k + (M 26 0 k).toNatClampNeg) ≠ 1 := ⟨hl, s⟩
        have hT : ∀ N, (N = f_chg (ab M) k ∨ N = f_hear (ab M) k) → g_takesR M k (M 30 0 (g_ix M k)) = 0 → N = f_getsM (ab M) k (M 30 0 (g_ix M k)) := by
          intro N hN hr
          rcases hN with z | z
          · rw [z]; unfold f_chg; rw [e3, e12, ab_takesR hk, if_pos hr]
          · rw [z]; unfold f_hear; rw [e3, e12, ab_takesR hk, if_pos hr]
        rw [if_neg s]
        by_cases hr : g_takesR M k (M 30 0 (g_ix M k)) = 0
        · rw [if_pos hr, end_takes h hkp hl hr]
          have hI : Iv2 (g_takesM M k (M 30 0 (g_ix M k))) := by
            unfold g_takesM
            rw [if_pos hr]
            exact (h.tk hkp ha hw rfl).brk (by simpa [hm_up_at] using hkp) (by have := vp_ne ha; simpa [hm_up_at] using this)
          have h20 : ∀ j, ¬ j = 22 → g_takesM M k (M 30 0 (g_ix M k)) 20 0 j = M 20 0 j := fun j hj => by
            unfold g_takesM
            rw [if_pos hr, g_brk_20 hj]
            simp [hm_up_at]
          refine ⟨?_, hI, by rw [h20 21 (by decide)]; omega, h20 3 (by decide)⟩
          rw [ab_takes h hkp ha hw rfl]
          by_cases z0 : M 29 0 (g_ix M k) = 0
          · rw [if_pos z0]; exact (hT _ (Or.inl rfl) hr).symm
          · rw [if_neg z0, if_neg s]; exact (hT _ (Or.inr rfl) hr).symm
        · rw [if_neg hr]
          have numIn := h.C.numIn hk
          rw [e0] at numIn
          by_cases z0 : M 29 0 (g_ix M k) = 0
          · rw [if_pos z0, if_pos z0]
            constructor
            · rw [ab_end hk (by simpa [hm_up_at] using h.m.st) (by simpa [hm_up_at] using h1), ab_21, ab_27, ab_22]
              unfold f_chg
              have e1 : ab M 1 0 (M 30 0 (g_ix M k)).toNatClampNeg = M 21 0 (M 30 0 (g_ix M k)).toNatClampNeg := by simp [ab]
              rw [e3, e12, ab_takesR hk, if_neg hr, e0, e13, e1]
            · have hC : IvC (ab (hm_up (hm_up (hm_up M 22 0 (M 30 0 (g_ix M k)).toNatClampNeg (nI k)) 27 0 k (-1)) 21 0 (M 30 0 (g_ix M k)).toNatClampNeg (M 21 0 (M 30 0 (g_ix M k)).toNatClampNeg + M 31 0 (g_ix M k)))) := by
                rw [ab_21, ab_27, ab_22]
                exact (h.C.up2 numIn).up1
              obtain ⟨w1, w2⟩ := h.wd hkp hl h1 hC (by simp [hm_up_at]) (by simp [hm_up_at]) (fun j _ => by
                by_cases y : j = (M 30 0 (g_ix M k)).toNatClampNeg
                · right; simp [hm_up_at, y]
                · left; simp [hm_up_at, y]) (by iterate 3 rw [hm_up_fam (by decide)]) (by iterate 3 rw [hm_up_fam (by decide)]) (by iterate 3 rw [hm_up_fam (by decide)]) (fun c y => by simp [hm_up_at, y]) (by simp [hm_up_at]) (by iterate 3 rw [hm_up_fam (by decide)])
              refine ⟨w1.endd (by rw [g_wd_20 (by decide)]; simpa [hm_up_at] using hkp), by rw [g_end_20, w2]; omega, ?_⟩
              rw [g_end_20, g_wd_20 (by decide)]
              simp [hm_up_at]
          · rw [if_neg z0, if_neg z0, if_neg s]
            constructor
            · rw [ab_hear h.m hk hlt h1 _ rfl]
              unfold f_hear
              rw [e3, e12, ab_takesR hk, if_neg hr]
            · obtain ⟨a, hae⟩ : ∃ a, a = M 30 0 (g_ix M k) := ⟨_, rfl⟩
              rw [← hae] at ha hr ⊢
              obtain ⟨M1, hM1⟩ : ∃ z, z = hm_up (hm_up M 22 0 a.toNatClampNeg (nI k)) 27 0 k (-1) := ⟨_, rfl⟩
              have f20 : M1 20 = M 20 := by rw [hM1, hm_up_fam (by decide), hm_up_fam (by decide)]
              have fm : ∀ f, ¬ f = 22 → ¬ f = 27 → M1 f = M f := fun f y1 y2 => by rw [hM1, hm_up_fam y2, hm_up_fam y1]
              have f22 : ∀ j, M1 22 0 j = M 22 0 j ∨ M1 22 0 j = nI k := fun j => by
                rw [hM1]
                by_cases y : j = a.toNatClampNeg
                · right; simp [hm_up_at, y]
                · left; simp [hm_up_at, y]
              have f27 : ∀ c, ¬ c = k → M1 27 0 c = M 27 0 c := fun c y => by rw [hM1]; simp [hm_up_at, y]
              have fk : M1 27 0 k = -1 := by rw [hM1]; simp [hm_up_at]
              have fC : IvC (ab M1) := by rw [hM1, ab_27, ab_22]; exact h.C.up2 numIn
              rw [← hM1]
              unfold g_hear g_hearM
              obtain ⟨r, hrr⟩ : ∃ r, r = g_find M1 (nI k) (M1 20 0 15).toNatClampNeg 1 := ⟨_, rfl⟩
              have ff := find_eq M1 (nI k) (M1 20 0 15).toNatClampNeg 1
              rw [← hrr] at ff ⊢
              by_cases late : (M1 20 0 15).toNatClampNeg < r
              · rw [if_pos late]
                have x24 : hm_up M1 24 0 k 2 24 0 k = 2 := by simp [hm_up_at]
                have hI : Iv2 (hm_up M1 24 0 k 2) := by
                  refine h.mk k hk hkp ⟨?_, fun c hc => ?_, ?_⟩ (by rw [hm_up_fam (by decide), f20]) (fun j _ => ?_) (fun c y => ?_) (by rw [hm_up_fam (by decide), fm 25 (by decide) (by decide)]) (fun c y => by rw [hm_up_fam (by decide), fm 26 (by decide) (by decide)]) (fun c y => by rw [hm_up_fam (by decide), f27 c y]) (by rw [hm_up_fam (by decide), fm 30 (by decide) (by decide)]) (fun _ => by rw [hm_up_fam (by decide), fm 26 (by decide) (by decide)]; exact hl) (fun y => absurd (x24.symm.trans y) (by decide)) (fun _ => by rw [hm_up_fam (by decide), fk])
                  · rw [ab_24 _ hk]; exact fC.st hk (fun y => absurd y (by decide))
                  · rw [hm_up_fam (by decide)]
                    by_cases y : c = k
                    · subst y; exact Or.inl fk
                    · rw [f27 c y]; exact h.m.wr hc
                  · rw [hm_up_fam (by decide), f20]; exact h.m.st
                  · rw [hm_up_fam (by decide)]
                    rcases f22 j with y | y
                    · exact Or.inl y
                    · exact Or.inr (Or.inr y)
                  · have : hm_up M1 24 0 k 2 24 0 c = M1 24 0 c := by simp [hm_up_at, y]
                    rw [this, fm 24 (by decide) (by decide)]
                rw [g_end_no (by rw [x24]; decide)]
                refine ⟨hI, ?_, ?_⟩
                · rw [hm_up_fam (by decide), f20]; omega
                · rw [hm_up_fam (by decide), f20]
              · rw [if_neg late]
                have hb : 1 ≤ r ∧ r ≤ 60 := by
                  have hs := h.C.sent
                  rw [(ab_20 M).2.2.2.2] at hs
                  have : (M1 20 0 15).toNatClampNeg ≤ 60 := by rw [f20, nn_eq]; omega
                  rcases ff with ⟨y1, y2⟩ | ⟨y1, y2, -⟩ <;> omega
                have hC : IvC (ab (hm_up (hm_up (hm_up M1 34 0 r 1) 21 0 (M1 30 0 (g_ix M k)).toNatClampNeg (M1 21 0 (M1 30 0 (g_ix M k)).toNatClampNeg + M1 37 0 r)) 33 0 (g_ix M k) (nI r))) := by
                  have : ab (hm_up (hm_up (hm_up M1 34 0 r 1) 21 0 (M1 30 0 (g_ix M k)).toNatClampNeg (M1 21 0 (M1 30 0 (g_ix M k)).toNatClampNeg + M1 37 0 r)) 33 0 (g_ix M k) (nI r)) = hm_up (ab (hm_up (hm_up M1 34 0 r 1) 21 0 (M1 30 0 (g_ix M k)).toNatClampNeg (M1 21 0 (M1 30 0 (g_ix M k)).toNatClampNeg + M1 37 0 r))) 15 k (M 26 0 k).toNatClampNeg (nI r) := ab_33 _ hk hlt _
                  rw [this, ab_21, ab_34]
                  refine IvC.up15 fC.up6.up1 ?_
                  rw [nI_toInt (by omega)]
                  omega
                have zf : ∀ f, ¬ f = 34 → ¬ f = 21 → ¬ f = 33 → (hm_up (hm_up (hm_up M1 34 0 r 1) 21 0 (M1 30 0 (g_ix M k)).toNatClampNeg (M1 21 0 (M1 30 0 (g_ix M k)).toNatClampNeg + M1 37 0 r)) 33 0 (g_ix M k) (nI r)) f = M1 f := fun f y1 y2 y3 => by rw [hm_up_fam y3, hm_up_fam y2, hm_up_fam y1]
                obtain ⟨w1, w2⟩ := h.wd hkp hl h1 hC (by simp [hm_up_at, f20]) (by simp [hm_up_at, f20]) (fun j _ => by rw [zf 22 (by decide) (by decide) (by decide)]; exact f22 j) (by rw [zf 24 (by decide) (by decide) (by decide)]; exact fm 24 (by decide) (by decide)) (by rw [zf 25 (by decide) (by decide) (by decide)]; exact fm 25 (by decide) (by decide)) (by rw [zf 26 (by decide) (by decide) (by decide)]; exact fm 26 (by decide) (by decide)) (fun c y => by rw [zf 27 (by decide) (by decide) (by decide)]; exact f27 c y) (by rw [zf 27 (by decide) (by decide) (by decide)]; exact fk) (by rw [zf 30 (by decide) (by decide) (by decide)]; exact fm 30 (by decide) (by decide))
                refine ⟨w1.endd (by rw [g_wd_20 (by decide)]; simpa [hm_up_at, f20] using hkp), by rw [g_end_20, w2]; omega, ?_⟩
                rw [g_end_20, g_wd_20 (by decide)]
                simp [hm_up_at, f20]
    · rw [if_neg f, if_neg f]
      have h32 : Iv2 (hm_up M 32 0 (g_ix M k) 0) := by
        have a14 : ab (hm_up M 32 0 (g_ix M k) 0) = hm_up (ab M) 14 k (M 26 0 k).toNatClampNeg 0 := ab_32 _ hk hlt _
        obtain ⟨⟨c1, c2, c3⟩, g1, g2, g3, g4⟩ := h
        have hf : ∀ f, ¬ f = 32 → hm_up M 32 0 (g_ix M k) 0 f = M f := fun f hf => hm_up_fam hf
        refine ⟨⟨by rw [a14]; exact c1.up14, by rw [hf 27 (by decide)]; exact c2, by rw [hf 20 (by decide)]; exact c3⟩, by rw [hf 20 (by decide), hf 24 (by decide)]; exact g1, by rw [hf 20 (by decide), hf 22 (by decide)]; exact g2, by rw [hf 24 (by decide), hf 25 (by decide), hf 26 (by decide)]; exact g3, by rw [hf 20 (by decide), hf 24 (by decide), hf 27 (by decide), hf 30 (by decide), hf 26 (by decide)]; exact g4⟩
      have u := h32.undo (k := k) (by rw [hm_up_fam (by decide)]; exact hkp) (st := 4) (by decide) (by decide)
      have u4 : g_undo (hm_up M 32 0 (g_ix M k) 0) k 4 24 0 k = 4 := by simp [g_undo, hm_up_at]
      have u4' : ¬ g_undo (hm_up M 32 0 (g_ix M k) 0) k 4 24 0 k = 0 := by rw [u4]; decide
      rw [g_end_no u4']
      refine ⟨?_, u, ?_, ?_⟩
      · rw [ab_undo hk h32.C]
        congr 1
        exact ab_32 _ hk hlt _
      · rw [g_undo_20, hm_up_fam (by decide)]; omega
      · rw [g_undo_20, hm_up_fam (by decide)]
