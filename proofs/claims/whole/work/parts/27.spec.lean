def n_A (e : String) : Int32 := if e = "java/lang/IllegalArgumentException" then 1 else 2
def n_B (e : String) : Int32 := if e = "java/util/NoSuchElementException" then 1 else if e = "java/lang/IllegalArgumentException" then 2 else if e = "java/lang/IllegalStateException" then 3 else 4
def n_C (e : String) : Int32 := if e = "java/util/NoSuchElementException" then 1 else 2
def n_D (e : String) : Int32 := if e = "java/util/NoSuchElementException" then 1 else 2
def n_E (_ : String) : Int32 := 1
/-- the reference's answer beside the class's -/
def Sp (r : hr_T) (nm : String → Int32) (b : Int) (M : hm_M) (v : Int32) (M' : hm_M) : Prop :=
  Jv b M' ∧ Kq M M' ∧ match r with
    | .inl (o, N) => M' 20 0 0 = 0 ∧ ab M' = N ∧ ∀ w, o = some (.int w) → v = w
    | .inr e => M' 20 0 0 = nm e ∧ ab M' = ab M
theorem Sp.no {b : Int} {M : hm_M} (h : Jv b M) {nm : String → Int32} {e : String} {v x : Int32} (hx : x = nm e) : Sp (.inr e) nm (b + 300) M v (hm_up M 20 0 0 x) :=
  ⟨h.up0.le (by omega), Kq.rf.up (by decide) (by decide) (by decide), by rw [← hx]; simp [hm_up_at], ab_20_0 _ _⟩
theorem Sp.rd {b : Int} {M : hm_M} (h : Jv b M) {nm : String → Int32} {v w : Int32} (hw : v = w) : Sp (.inl (some (.int w), ab M)) nm (b + 300) M v (hm_up M 20 0 0 0) :=
  ⟨h.up0.le (by omega), Kq.rf.up (by decide) (by decide) (by decide), by simp [hm_up_at], ab_20_0 _ _, fun x hx => by cases hx; exact hw⟩
theorem Kq.c0 {M : hm_M} {x : Int32} : Kq M (hm_up M 20 0 0 x) := Kq.rf.up (by decide) (by decide) (by decide)
theorem lt_toInt {x y : Int32} : x < y ↔ x.toInt < y.toInt := Int32.lt_iff_toInt_lt
theorem le_toInt {x y : Int32} : x ≤ y ↔ x.toInt ≤ y.toInt := Int32.le_iff_toInt_le
theorem in_iff {v lo hi : Int32} : g_in v lo hi = 0 ↔ (v.toInt < lo.toInt ∨ hi.toInt < v.toInt) := by
  constructor
  · exact in_no
  · intro h
    unfold g_in
    rcases h with q | q
    · rw [if_pos (lt_toInt.mpr q)]
    · rw [if_pos (lt_toInt.mpr q)]; split <;> rfl
theorem isPart_eq {b : Int} {M : hm_M} (h : Jv b M) (q : Int32) : (f_isPart (ab M) q = 0) ↔ (g_in q 0 (M 20 0 3 - 1) = 0) := by
  rw [in_iff, dec_toInt h.pc.1]
  unfold f_isPart
  rw [(ab_20 M).1]
  have z0 : (0 : Int32).toInt = 0 := rfl
  by_cases q0 : q < 0
  · have := lt_toInt.mp q0
    simp only [if_pos q0, true_iff]; omega
  · by_cases q1 : M 20 0 3 ≤ q
    · have := le_toInt.mp q1
      simp only [if_neg q0, if_pos q1, true_iff]; omega
    · have a0 := le_toInt.mp (Int32.not_lt.mp q0)
      have a1 := lt_toInt.mp (Int32.not_le.mp q1)
      simp only [if_neg q0, if_neg q1]
      constructor
      · intro z; exact absurd z (by decide)
      · intro z; omega
theorem isMsg_eq {M : hm_M} (x : Int32) : (f_isMsg (ab M) x = 0) ↔ (g_in x 1 (M 20 0 15) = 0) := by
  rw [in_iff]
  unfold f_isMsg
  rw [(ab_20 M).2.2.2.2]
  by_cases q0 : x < 1
  · have := lt_toInt.mp q0
    simp only [if_pos q0, true_iff]; omega
  · have a0 := le_toInt.mp (Int32.not_lt.mp q0)
    by_cases q1 : x ≤ M 20 0 15
    · have := le_toInt.mp q1
      simp only [if_neg q0, if_pos q1]
      constructor
      · intro z; exact absurd z (by decide)
      · intro z; omega
    · have a1 := lt_toInt.mp (Int32.not_le.mp q1)
      simp only [if_neg q0, if_neg q1, true_iff]; omega
theorem isPlace_eq (x : Int32) : (f_isPlace x = 0) ↔ (g_in x 0 7 = 0) := by
  rw [in_iff]
  unfold f_isPlace
  have z0 : (0 : Int32).toInt = 0 := rfl
  have z7 : (7 : Int32).toInt = 7 := rfl
  have z8 : (8 : Int32).toInt = 8 := rfl
  by_cases q0 : x < 0
  · have := lt_toInt.mp q0
    simp only [if_pos q0, true_iff]; omega
  · have a0 := le_toInt.mp (Int32.not_lt.mp q0)
    by_cases q1 : 8 ≤ x
    · have := le_toInt.mp q1
      simp only [if_neg q0, if_pos q1, true_iff]; omega
    · have a1 := lt_toInt.mp (Int32.not_le.mp q1)
      simp only [if_neg q0, if_neg q1]
      constructor
      · intro z; exact absurd z (by decide)
      · intro z; omega
theorem isAmount_eq (x : Int32) : (f_isAmount x = 0) ↔ (g_in x (-99) 99 = 0) := by
  unfold f_isAmount g_in
  exact Iff.rfl
theorem isStep_eq {b : Int} {M : hm_M} (h : Jv b M) (kd a c : Int32) : (f_isStep (ab M) kd a c = 0) ↔ (g_isStep M kd a c = 0) := by
  have hp := isPart_eq h a
  have hl := isPlace_eq a
  have hm := isAmount_eq c
  unfold f_isStep g_isStep
  by_cases k0 : kd = 0
  · subst k0
    rw [show g_in 0 0 2 = 1 from by decide]
    by_cases u : g_in c (-99) 99 = 0
    · have := hm.mpr u
      simp [u, this]
    · have nu : ¬ f_isAmount c = 0 := fun z => u (hm.mp z)
      simp [u, nu]
      by_cases v : f_isPlace a = 0
      · simp [v, hl.mp v]
      · have : ¬ g_in a 0 7 = 0 := fun z => v (hl.mpr z)
        simp [v, this]
  · by_cases k1 : kd = 1
    · subst k1
      rw [show g_in 1 0 2 = 1 from by decide]
      by_cases u : g_in c (-99) 99 = 0
      · have := hm.mpr u
        simp [u, this]
      · have nu : ¬ f_isAmount c = 0 := fun z => u (hm.mp z)
        simp [u, nu]
        by_cases v : f_isPart (ab M) a = 0
        · simp [v, hp.mp v]
        · have : ¬ g_in a 0 (M 20 0 3 - 1) = 0 := fun z => v (hp.mpr z)
          simp [v, this]
    · by_cases k2 : kd = 2
      · subst k2
        rw [show g_in 2 0 2 = 1 from by decide]
        by_cases w : c = 0
        · subst w
          rw [show g_in 0 (-99) 99 = 1 from by decide]
          simp
          by_cases v : f_isPlace a = 0
          · simp [v, hl.mp v]
          · have : ¬ g_in a 0 7 = 0 := fun z => v (hl.mpr z)
            simp [v, this]
        · simp [w]
      · have : g_in kd 0 2 = 0 := by
          rw [in_iff]
          have a0 := lv_neT k0 (a := 0) (by decide)
          have a1 := lv_neT k1 (a := 1) (by decide)
          have a2 := lv_neT k2 (a := 2) (by decide)
          have z0 : (0 : Int32).toInt = 0 := rfl
          have z2 : (2 : Int32).toInt = 2 := rfl
          omega
        simp [k0, k1, k2, this]
/-- part -/
theorem IvC.newPart {N : hm_M} (h : IvC N) (h6 : N 0 0 5 < 6) (n : Nat) (x : Int32) : IvC (hm_up (hm_up N 10 n 1 x) 0 0 5 (N 0 0 5 + 1)) := by
  have hp := h.pc
  have q := lt_toInt.mp h6
  have z6 : (6 : Int32).toInt = 6 := rfl
  have hi := inc_toInt hp.1 (by omega)
  have e10 : ∀ k j, ¬ j = 1 → hm_up (hm_up N 10 n 1 x) 0 0 5 (N 0 0 5 + 1) 10 k j = N 10 k j := fun k j hj => by simp [hm_up_at, hj]
  obtain ⟨a1, a2, a3, a4, a5, a6, a7, a8, a9⟩ := h
  refine ⟨?_, ?_, ?_, fun k hk => ?_, fun k hk => ?_, fun k i hk hi' hn => ?_, fun k i hk => ?_, fun j hj => ?_, fun k hk h1 => ?_⟩
  · rw [show hm_up (hm_up N 10 n 1 x) 0 0 5 (N 0 0 5 + 1) 0 0 5 = N 0 0 5 + 1 by simp [hm_up_at], hi]; omega
  · rw [show hm_up (hm_up N 10 n 1 x) 0 0 5 (N 0 0 5 + 1) 0 0 6 = N 0 0 6 by simp [hm_up_at]]; exact a2
  · rw [show hm_up (hm_up N 10 n 1 x) 0 0 5 (N 0 0 5 + 1) 4 0 4 = N 4 0 4 by simp [hm_up_at]]; exact a3
  · rw [e10 k 0 (by decide)]; exact a4 k hk
  · rw [e10 k 3 (by decide), e10 k 4 (by decide)]; exact a5 k hk
  · rw [e10 k 4 (by decide)] at hi'
    rw [hm_up_fam (by decide), hm_up_fam (by decide)] at hn ⊢
    exact a6 k i hk hi' hn
  · rw [hm_up_fam (by decide), hm_up_fam (by decide)]; exact a7 k i hk
  · rw [hm_up_fam (by decide), hm_up_fam (by decide)]; exact a8 j hj
  · rw [e10 k 2 (by decide)] at h1
    rw [e10 k 3 (by decide), e10 k 4 (by decide), show hm_up (hm_up N 10 n 1 x) 0 0 5 (N 0 0 5 + 1) 11 = N 11 by rw [hm_up_fam (by decide), hm_up_fam (by decide)]]
    exact a9 k hk h1
theorem m_part {b : Int} {M : hm_M} (h : Jv b M) (x : Int32) : Sp (r_part (ab M) x) n_A (b + 300) M (h_part M x).1 (h_part M x).2 := by
  have hp := h.pc
  have z0 : (0 : Int32).toInt = 0 := rfl
  have z9 : (9 : Int32).toInt = 9 := rfl
  have z6 : (6 : Int32).toInt = 6 := rfl
  unfold r_part h_part
  rw [(ab_20 M).1]
  by_cases q0 : x < 0
  · rw [if_pos q0, if_pos (in_iff.mpr (Or.inl (lt_toInt.mp q0)))]
    exact Sp.no h (by decide)
  · rw [if_neg q0]
    by_cases q9 : x ≤ 9
    · have ni : ¬ g_in x 0 9 = 0 := fun z => by
        have a0 := le_toInt.mp (Int32.not_lt.mp q0)
        have a9 := le_toInt.mp q9
        rcases in_iff.mp z with y | y <;> omega
      rw [if_pos q9, if_neg ni]
      by_cases q6 : M 20 0 3 < 6
      · have l6 := lt_toInt.mp q6
        have n6 : ¬ M 20 0 3 = 6 := fun z => by rw [z] at l6; omega
        rw [if_pos q6, if_neg n6]
        obtain ⟨n, hn, en⟩ := pc_nI (b := 6) hp.1 hp.2 (by decide)
        have ec : (M 20 0 3).toNatClampNeg = n := by rw [en]; exact nI_clamp (by omega)
        have ei : (M 20 0 3).toInt = n := by rw [en, nI_toInt (by omega)]
        have hi := inc_toInt hp.1 (by omega)
        have n6' : n < 6 := by omega
        rw [ec]
        have ea : ab (hm_up (hm_up (hm_up (hm_up M 20 0 0 0) 23 0 n x) 27 0 n (-1)) 20 0 3 (M 20 0 3 + 1)) = hm_up (hm_up (ab M) 10 n 1 x) 0 0 5 (M 20 0 3 + 1) := by rw [ab_20_3, ab_27, ab_23 _ n6', ab_20_0]
        have hC : IvC (hm_up (hm_up (ab M) 10 n 1 x) 0 0 5 (M 20 0 3 + 1)) := by
          have := h.1.C.newPart (by rw [(ab_20 M).1]; exact q6) n x
          rw [(ab_20 M).1] at this
          exact this
        have e3 : (hm_up (hm_up (hm_up (hm_up M 20 0 0 0) 23 0 n x) 27 0 n (-1)) 20 0 3 (M 20 0 3 + 1)) 20 0 3 = M 20 0 3 + 1 := by simp [hm_up_at]
        have e21 : (hm_up (hm_up (hm_up (hm_up M 20 0 0 0) 23 0 n x) 27 0 n (-1)) 20 0 3 (M 20 0 3 + 1)) 20 0 21 = M 20 0 21 := by simp [hm_up_at]
        have ef : ∀ f, ¬ f = 20 → ¬ f = 23 → ¬ f = 27 → (hm_up (hm_up (hm_up (hm_up M 20 0 0 0) 23 0 n x) 27 0 n (-1)) 20 0 3 (M 20 0 3 + 1)) f = M f := fun f y1 y2 y3 => by rw [hm_up_fam y1, hm_up_fam y3, hm_up_fam y2, hm_up_fam y1]
        have e27 : ∀ c, ¬ c = n → (hm_up (hm_up (hm_up (hm_up M 20 0 0 0) 23 0 n x) 27 0 n (-1)) 20 0 3 (M 20 0 3 + 1)) 27 0 c = M 27 0 c := fun c y => by simp [hm_up_at, y]
        have e27n : (hm_up (hm_up (hm_up (hm_up M 20 0 0 0) 23 0 n x) 27 0 n (-1)) 20 0 3 (M 20 0 3 + 1)) 27 0 n = -1 := by simp [hm_up_at]
        obtain ⟨⟨⟨c1, c2, c3⟩, g1, g2, g3, g4⟩, hst, hsb⟩ := h
        dsimp only
        refine ⟨⟨⟨⟨by rw [ea]; exact hC, fun c hc => ?_, by rw [e21]; exact c3⟩, fun c hc hp' => ?_, fun j hj => ?_, ?_, fun c hc hp' => ?_⟩, by rw [ef 24 (by decide) (by decide) (by decide)]; exact hst, by rw [e21]; omega⟩, ((Kq.c0.up (by decide) (by decide) (by decide)).up (by decide) (by decide) (by decide)).up (by decide) (by decide) (by decide), by simp [hm_up_at], ea, fun w hw => by cases hw; rfl⟩
        · by_cases y : c = n
          · subst y; exact Or.inl e27n
          · rw [e27 c y]; exact c2 c hc
        · rw [e3, hi] at hp'
          rw [ef 24 (by decide) (by decide) (by decide)]
          exact g1 c hc (by omega)
        · rw [e3, hi, ef 22 (by decide) (by decide) (by decide)]
          rcases g2 j hj with y | y
          · exact Or.inl y
          · exact Or.inr (by omega)
        · rw [ef 24 (by decide) (by decide) (by decide), ef 25 (by decide) (by decide) (by decide), ef 26 (by decide) (by decide) (by decide)]; exact g3
        · rw [e3, hi] at hp'
          rw [ef 24 (by decide) (by decide) (by decide), ef 26 (by decide) (by decide) (by decide), ef 30 (by decide) (by decide) (by decide)]
          by_cases y : c = n
          · subst y
            rw [e27n]
            have := g1 c hc (by omega)
            rw [this]
            exact ⟨fun z => absurd z (by decide), fun _ => rfl⟩
          · rw [e27 c y]; exact g4 c hc (by omega)
      · have l6 := le_toInt.mp (Int32.not_lt.mp q6)
        have e6 : M 20 0 3 = 6 := Int32.toInt_inj.mp (by omega)
        rw [if_neg q6, if_pos e6]
        exact Sp.no h (by decide)
    · rw [if_neg q9, if_pos (in_iff.mpr (Or.inr (lt_toInt.mp (Int32.not_le.mp q9))))]
      exact Sp.no h (by decide)
/-- step -/
theorem IvC.append {N : hm_M} (h : IvC N) {k : Nat} (hk : k < 6) (h10 : N 10 k 4 < 10) (h0 : N 10 k 2 = 0) {kd a c : Int32} (ha : kd ≠ 1 → 0 ≤ a.toInt ∧ a.toInt < 8) : IvC (f_append N k kd a c) := by
  have hat := h.at hk
  have q := lt_toInt.mp h10
  have z10 : (10 : Int32).toInt = 10 := rfl
  have hi := inc_toInt (x := N 10 k 4) (by omega) (by omega)
  obtain ⟨n, hn⟩ : ∃ n, n = (N 10 k 4).toNatClampNeg := ⟨_, rfl⟩
  have hn' : (n : Int) = (N 10 k 4).toInt := by rw [hn, nn_eq]; omega
  unfold f_append
  rw [← hn]
  have e10 : ∀ c' j, ¬ (c' = k ∧ j = 4) → hm_up (hm_up (hm_up (hm_up N 11 k n kd) 12 k n a) 13 k n c) 10 k 4 (N 10 k 4 + 1) 10 c' j = N 10 c' j := fun c' j hj => by simp [hm_up_at, hj]
  have e4 : hm_up (hm_up (hm_up (hm_up N 11 k n kd) 12 k n a) 13 k n c) 10 k 4 (N 10 k 4 + 1) 10 k 4 = N 10 k 4 + 1 := by simp [hm_up_at]
  have ef : ∀ f, ¬ f = 10 → ¬ f = 11 → ¬ f = 12 → ¬ f = 13 → hm_up (hm_up (hm_up (hm_up N 11 k n kd) 12 k n a) 13 k n c) 10 k 4 (N 10 k 4 + 1) f = N f := fun f y1 y2 y3 y4 => by rw [hm_up_fam y1, hm_up_fam y4, hm_up_fam y3, hm_up_fam y2]
  have e11 : ∀ c' i, hm_up (hm_up (hm_up (hm_up N 11 k n kd) 12 k n a) 13 k n c) 10 k 4 (N 10 k 4 + 1) 11 c' i = if c' = k ∧ i = n then kd else N 11 c' i := fun c' i => by simp [hm_up_at]
  have e12 : ∀ c' i, hm_up (hm_up (hm_up (hm_up N 11 k n kd) 12 k n a) 13 k n c) 10 k 4 (N 10 k 4 + 1) 12 c' i = if c' = k ∧ i = n then a else N 12 c' i := fun c' i => by simp [hm_up_at]
  obtain ⟨a1, a2, a3, a4, a5, a6, a7, a8, a9⟩ := h
  refine ⟨by rw [ef 0 (by decide) (by decide) (by decide) (by decide)]; exact a1, by rw [ef 0 (by decide) (by decide) (by decide) (by decide)]; exact a2, by rw [ef 4 (by decide) (by decide) (by decide) (by decide)]; exact a3, fun c' hc => ?_, fun c' hc => ?_, fun c' i hc hi' hne => ?_, by rw [ef 15 (by decide) (by decide) (by decide) (by decide)]; exact a7, by rw [ef 2 (by decide) (by decide) (by decide) (by decide)]; exact a8, fun c' hc h1 => ?_⟩
  · rw [e10 c' 0 (by omega)]; exact a4 c' hc
  · rw [e10 c' 3 (by omega)]
    by_cases y : c' = k
    · subst y; rw [e4, hi]; have := a5 c' hc; omega
    · rw [e10 c' 4 (by omega)]; exact a5 c' hc
  · rw [e11] at hne
    rw [e12]
    by_cases y : c' = k ∧ i = n
    · rw [if_pos y] at hne ⊢; exact ha hne
    · rw [if_neg y] at hne ⊢
      refine a6 c' i hc ?_ hne
      by_cases z : c' = k
      · subst z
        rw [e4, hi] at hi'
        have : ¬ i = n := fun w => y ⟨rfl, w⟩
        omega
      · rw [e10 c' 4 (by omega)] at hi'; exact hi'
  · rw [e10 c' 2 (by omega)] at h1
    have y : ¬ c' = k := fun z => by rw [z, h0] at h1; exact absurd h1 (by decide)
    rw [e10 c' 3 (by omega), e10 c' 4 (by omega), e11, if_neg (fun z => y z.1)]
    exact a9 c' hc h1
theorem isStep_a {b : Int} {M : hm_M} (h : Jv b M) {kd a c : Int32} (hs : ¬ g_isStep M kd a c = 0) (h1 : kd ≠ 1) : 0 ≤ a.toInt ∧ a.toInt < 8 := by
  have hl : ¬ g_in a 0 7 = 0 := fun z => by
    unfold g_isStep at hs
    by_cases u : g_in kd 0 2 = 0
    · simp [u] at hs
    · by_cases v : g_in c (-99) 99 = 0
      · simp [u, v] at hs
      · simp [u, v, h1, z] at hs
  have := in_rng hl
  have z0 : (0 : Int32).toInt = 0 := rfl
  have z7 : (7 : Int32).toInt = 7 := rfl
  omega
theorem m_step {b : Int} {M : hm_M} (h : Jv b M) {k : Nat} (hkp : (k : Int) < (M 20 0 3).toInt) (hp : ¬ g_in (nI k) 0 (M 20 0 3 - 1) = 0) (kd a c : Int32) : Sp (r_step (ab M) (nI k) kd a c) n_B (b + 300) M (h_step M k kd a c).1 (h_step M k kd a c).2 := by
  have hk := h.1.lt hkp
  obtain ⟨e3, e4, e2, -, -, e0⟩ := ab_at (M := M) hk
  have hat := h.1.C.at hk
  rw [e3, e4] at hat
  have ek : (nI k).toNatClampNeg = k := nI_clamp (by omega)
  unfold r_step h_step
  rw [ek, e3, e4, e2, if_neg (fun z => hp ((isPart_eq h _).mp z))]
  by_cases qs : g_isStep M kd a c = 0
  · rw [if_pos qs, if_pos ((isStep_eq h _ _ _).mpr qs)]
    exact Sp.no h (by decide)
  · rw [if_neg qs, if_neg (fun z => qs ((isStep_eq h _ _ _).mp z))]
    by_cases q26 : M 26 0 k = 0
    · rw [if_pos q26, if_pos q26]
      by_cases q24 : M 24 0 k = 0
      · rw [if_pos q24, if_pos q24]
        have z10 : (10 : Int32).toInt = 10 := rfl
        by_cases q25 : M 25 0 k < 10
        · have l10 := lt_toInt.mp q25
          have n10 : ¬ M 25 0 k = 10 := fun z => by rw [z] at l10; omega
          rw [if_pos q25, if_neg n10]
          have hlt : (M 25 0 k).toNatClampNeg < 10 := by rw [nn_eq]; omega
          have ea : ab (h_stepM M k kd a c) = f_append (ab M) k kd a c := by
            unfold h_stepM f_append
            rw [ab_25 _ hk, ab_31 _ hk hlt, ab_30 _ hk hlt, ab_29 _ hk hlt, ab_20_0, e4]
          have hC : IvC (ab (h_stepM M k kd a c)) := by
            rw [ea]
            exact h.1.C.append hk (by rw [e4]; exact q25) (by rw [e2]; exact q24) (fun y => isStep_a h qs y)
          have ef : ∀ f, ¬ f = 20 → ¬ f = 25 → ¬ f = 29 → ¬ f = 30 → ¬ f = 31 → h_stepM M k kd a c f = M f := fun f y1 y2 y3 y4 y5 => by unfold h_stepM; rw [hm_up_fam y2, hm_up_fam y5, hm_up_fam y4, hm_up_fam y3, hm_up_fam y1]
          have e203 : h_stepM M k kd a c 20 0 3 = M 20 0 3 := by simp [h_stepM, hm_up_at]
          have e2021 : h_stepM M k kd a c 20 0 21 = M 20 0 21 := by simp [h_stepM, hm_up_at]
          have e25 : ∀ c', ¬ c' = k → h_stepM M k kd a c 25 0 c' = M 25 0 c' := fun c' y => by simp [h_stepM, hm_up_at, y]
          have e30 : ∀ i, ¬ i = 10 * k + (M 25 0 k).toNatClampNeg → h_stepM M k kd a c 30 0 i = M 30 0 i := fun i y => by simp [h_stepM, hm_up_at, y]
          have hCM := h.1.C
          obtain ⟨⟨⟨c1, c2, c3⟩, g1, g2, g3, g4⟩, hst, hsb⟩ := h
          dsimp only
          refine ⟨⟨⟨⟨hC, by rw [ef 27 (by decide) (by decide) (by decide) (by decide) (by decide)]; exact c2, by rw [e2021]; exact c3⟩, by rw [e203, ef 24 (by decide) (by decide) (by decide) (by decide) (by decide)]; exact g1, by rw [e203, ef 22 (by decide) (by decide) (by decide) (by decide) (by decide)]; exact g2, fun c' hc hs2 => ?_, fun c' hc hp' => ?_⟩, by rw [ef 24 (by decide) (by decide) (by decide) (by decide) (by decide)]; exact hst, by rw [e2021]; omega⟩, (((Kq.c0.up (by decide) (by decide) (by decide)).up (by decide) (by decide) (by decide)).up (by decide) (by decide) (by decide)).up (by decide) (by decide) (by decide), by simp [h_stepM, hm_up_at], ea, fun w hw => by cases hw; rfl⟩
          · rw [ef 24 (by decide) (by decide) (by decide) (by decide) (by decide)] at hs2
            have y : ¬ c' = k := fun z => by rw [z, q24] at hs2; exact absurd hs2 (by decide)
            rw [ef 26 (by decide) (by decide) (by decide) (by decide) (by decide), e25 c' y]
            exact g3 c' hc hs2
          · rw [e203] at hp'
            rw [ef 24 (by decide) (by decide) (by decide) (by decide) (by decide), ef 26 (by decide) (by decide) (by decide) (by decide) (by decide), ef 27 (by decide) (by decide) (by decide) (by decide) (by decide)]
            obtain ⟨w1, w2⟩ := g4 c' hc hp'
            refine ⟨fun z => ?_, w2⟩
            have y : ¬ c' = k := fun y => by rw [y, q24] at z; exact absurd z (by decide)
            have hw := hCM.wait hc (by rw [(ab_at hc).2.2.1]; exact z)
            have hat2 := hCM.at hc
            rw [(ab_at hc).1, (ab_at hc).2.1] at hw hat2
            have hl2 : (M 26 0 c').toNatClampNeg < 10 := by rw [nn_eq]; omega
            rw [e30 _ (by omega)]
            exact w1 z
        · have l10 := le_toInt.mp (Int32.not_lt.mp q25)
          have e10 : M 25 0 k = 10 := Int32.toInt_inj.mp (by omega)
          rw [if_neg q25, if_pos e10]
          exact Sp.no h (by decide)
      · rw [if_neg q24, if_neg q24]
        exact Sp.no h (by decide)
    · rw [if_neg q26, if_neg q26]
      exact Sp.no h (by decide)
/-- one array that the invariant does not speak of -/
theorem Jv.upN {b : Int} {M : hm_M} (h : Jv b M) {f i : Nat} {x : Int32} (hC : IvC (ab (hm_up M f 0 i x))) (h1 : ¬ f = 20) (h2 : ¬ f = 22) (h3 : ¬ f = 24) (h4 : ¬ f = 25) (h5 : ¬ f = 26) (h6 : ¬ f = 27) (h7 : ¬ f = 30) : Jv b (hm_up M f 0 i x) := by
  have hf : ∀ g, ¬ g = f → hm_up M f 0 i x g = M g := fun g hg => hm_up_fam hg
  obtain ⟨⟨⟨c1, c2, c3⟩, g1, g2, g3, g4⟩, hst, hsb⟩ := h
  exact ⟨⟨⟨hC, by rw [hf 27 (by omega)]; exact c2, by rw [hf 20 (by omega)]; exact c3⟩, by rw [hf 20 (by omega), hf 24 (by omega)]; exact g1, by rw [hf 20 (by omega), hf 22 (by omega)]; exact g2, by rw [hf 24 (by omega), hf 25 (by omega), hf 26 (by omega)]; exact g3, by rw [hf 20 (by omega), hf 24 (by omega), hf 27 (by omega), hf 30 (by omega), hf 26 (by omega)]; exact g4⟩, by rw [hf 24 (by omega)]; exact hst, by rw [hf 20 (by omega)]; exact hsb⟩
theorem m_fails {b : Int} {M : hm_M} (h : Jv b M) {k : Nat} (hkp : (k : Int) < (M 20 0 3).toInt) (hp : ¬ g_in (nI k) 0 (M 20 0 3 - 1) = 0) (i on : Int32) : Sp (r_fails (ab M) (nI k) i on) n_C (b + 300) M 0 (h_fails M k i on) := by
  have hk := h.1.lt hkp
  obtain ⟨e3, e4, e2, -, -, e0⟩ := ab_at (M := M) hk
  have hat := h.1.C.at hk
  rw [e3, e4] at hat
  have ek : (nI k).toNatClampNeg = k := nI_clamp (by omega)
  have z0 : (0 : Int32).toInt = 0 := rfl
  have hd := dec_toInt (x := M 25 0 k) (by omega)
  unfold r_fails h_fails
  rw [ek, e4, if_neg (fun z => hp ((isPart_eq h _).mp z))]
  by_cases q0 : i < 0
  · rw [if_pos q0, if_pos (in_iff.mpr (Or.inl (lt_toInt.mp q0)))]
    exact Sp.no h (by decide)
  · have a0 := le_toInt.mp (Int32.not_lt.mp q0)
    rw [if_neg q0]
    by_cases q1 : i < M 25 0 k
    · have a1 := lt_toInt.mp q1
      have ni : ¬ g_in i 0 (M 25 0 k - 1) = 0 := fun z => by rcases in_iff.mp z with y | y <;> omega
      rw [if_pos q1, if_neg ni]
      have hlt : i.toNatClampNeg < 10 := by rw [nn_eq]; omega
      have ea : ab (hm_up (hm_up M 20 0 0 0) 32 0 (10 * k + i.toNatClampNeg) on) = hm_up (ab M) 14 k i.toNatClampNeg on := by rw [ab_32 _ hk hlt, ab_20_0]
      exact ⟨(h.up0.upN (by rw [ea]; exact h.1.C.up14) (by decide) (by decide) (by decide) (by decide) (by decide) (by decide) (by decide)).le (by omega), Kq.c0.up (by decide) (by decide) (by decide), by simp [hm_up_at], ea, fun w hw => by cases hw⟩
    · have a1 := le_toInt.mp (Int32.not_lt.mp q1)
      rw [if_neg q1, if_pos (in_iff.mpr (Or.inr (by omega)))]
      exact Sp.no h (by decide)
theorem m_losing {b : Int} {M : hm_M} (h : Jv b M) (on : Int32) : Sp (r_losing (ab M) on) n_C (b + 300) M 0 (h_losing M on) := by
  unfold r_losing h_losing
  refine ⟨⟨h.up0.1.up20 (by omega), ?_, ?_⟩, Kq.c0.up (by decide) (by decide) (by decide), by simp [hm_up_at], by rw [ab_20_16, ab_20_0], fun w hw => by cases hw⟩
  · rw [hm_up_fam (by decide), hm_up_fam (by decide)]; exact h.2.1
  · have := h.2.2
    simp [hm_up_at]; omega
theorem g_hear_20 {M : hm_M} {k x j : Nat} (h1 : ¬ j = 21) : g_hear M k x 20 0 j = M 20 0 j := by
  unfold g_hear g_hearM
  split
  · rw [hm_up_fam (by decide)]
  · rw [g_wd_20 h1, hm_up_fam (by decide), hm_up_fam (by decide), hm_up_fam (by decide)]
theorem g_have_20 {M : hm_M} {k j : Nat} (h0 : ¬ j = 15) (h1 : ¬ j = 21) (h2 : ¬ j = 22) : g_have M k 20 0 j = M 20 0 j := by
  unfold g_have
  rw [g_end_20]
  split
  · rfl
  · unfold g_try
    split
    · split
      · unfold g_send
        split
        · exact g_undo_20
        · rw [g_wd_20 h1]
          simp [hm_up_at, h0]
      · split
        · unfold g_takesM
          split
          · rw [g_brk_20 h2, hm_up_fam (by decide), hm_up_fam (by decide)]
          · rename_i p1 p2
            exact absurd p1 p2
        · split
          · rw [g_wd_20 h1, hm_up_fam (by decide), hm_up_fam (by decide), hm_up_fam (by decide)]
          · rw [g_hear_20 h1, hm_up_fam (by decide), hm_up_fam (by decide)]
    · rw [g_undo_20, hm_up_fam (by decide)]
theorem m_turn {b : Int} {M : hm_M} (h : Jv b M) (hb : b < 900000) {k : Nat} (hkp : (k : Int) < (M 20 0 3).toInt) (hp : ¬ g_in (nI k) 0 (M 20 0 3 - 1) = 0) : Sp (r_turn (ab M) (nI k)) n_D (b + 300) M (h_turn M k).1 (h_turn M k).2 := by
  have hk := h.1.lt hkp
  have ek : (nI k).toNatClampNeg = k := nI_clamp (by omega)
  unfold r_turn h_turn
  rw [ek, if_neg (fun z => hp ((isPart_eq h _).mp z))]
  by_cases q : M 24 0 k ≤ 2
  · rw [if_pos q, if_neg (fun z => (may_le h hk).mp z q)]
    obtain ⟨j1, j2, j3⟩ := (h.up0 (x := 0)).have (k := k) (by simpa [hm_up_at] using hkp) (by simpa [hm_up_at] using q) (by omega)
    rw [ab_20_0] at j3
    refine ⟨j1.le (by omega), Kq.c0.have k, ?_, j3, fun w hw => ?_⟩
    · dsimp only
      rw [g_have_20 (by decide) (by decide) (by decide)]
      simp [hm_up_at]
    · cases hw
      rw [← j3, (ab_at hk).2.2.1]
  · rw [if_neg q, if_pos ((may_le h hk).mpr q)]
    exact Sp.no h (by decide)
theorem m_again {b : Int} {M : hm_M} (h : Jv b M) (x : Int32) : Sp (r_again (ab M) x) n_D (b + 300) M (h_again M x).1 (h_again M x).2 := by
  unfold r_again h_again
  have e6 : ab M 6 0 x.toNatClampNeg = M 34 0 x.toNatClampNeg := by simp [ab]
  have e8 : ab M 8 0 x.toNatClampNeg = M 36 0 x.toNatClampNeg := by simp [ab]
  rw [e6, e8]
  by_cases hp : g_in x 1 (M 20 0 15) = 0
  · rw [if_pos hp, if_pos ((isMsg_eq x).mpr hp)]
    exact Sp.no h (by decide)
  · rw [if_neg hp, if_neg (fun z => hp ((isMsg_eq x).mp z))]
    by_cases q : M 34 0 x.toNatClampNeg = 2
    · rw [if_pos q, if_pos q]
      have ea : ab (hm_up (hm_up M 20 0 0 0) 34 0 x.toNatClampNeg 0) = hm_up (ab M) 6 0 x.toNatClampNeg 0 := by rw [ab_34, ab_20_0]
      exact ⟨(h.up0.upN (by rw [ea]; exact h.1.C.up6) (by decide) (by decide) (by decide) (by decide) (by decide) (by decide) (by decide)).le (by omega), Kq.c0.up (by decide) (by decide) (by decide), by simp [hm_up_at], ea, fun w hw => by cases hw; rfl⟩
    · rw [if_neg q, if_neg q]
      exact Sp.no h (by decide)
theorem undo_sp {b : Int} {M : hm_M} (h : Jv b M) {k : Nat} (hkp : (k : Int) < (M 20 0 3).toInt) {nm : String → Int32} {v : Int32} : Sp (.inl (some (.int v), f_undo (ab M) k 0)) nm (b + 300) M v (g_undo (hm_up M 20 0 0 0) k 0) := by
  have hk := h.1.lt hkp
  refine ⟨(h.up0.undo (k := k) (by simpa [hm_up_at] using hkp) (by decide) (by decide) (by decide)).le (by omega), Kq.c0.undo k (by decide), by rw [g_undo_20]; simp [hm_up_at], ?_, fun w hw => by cases hw; rfl⟩
  rw [ab_undo hk (by rw [ab_20_0]; exact h.1.C), ab_20_0]
theorem m_interrupt {b : Int} {M : hm_M} (h : Jv b M) {k : Nat} (hkp : (k : Int) < (M 20 0 3).toInt) (hp : ¬ g_in (nI k) 0 (M 20 0 3 - 1) = 0) : Sp (r_interrupt (ab M) (nI k)) n_D (b + 300) M (h_interrupt M k).1 (h_interrupt M k).2 := by
  have hk := h.1.lt hkp
  obtain ⟨e3, e4, e2, -, -, e0⟩ := ab_at (M := M) hk
  have ek : (nI k).toNatClampNeg = k := nI_clamp (by omega)
  unfold r_interrupt h_interrupt
  rw [ek, e2, e3, if_neg (fun z => hp ((isPart_eq h _).mp z))]
  by_cases q1 : M 24 0 k = 1
  · rw [if_pos q1, if_pos q1]; exact undo_sp h hkp
  · rw [if_neg q1, if_neg q1]
    by_cases q2 : M 24 0 k = 2
    · rw [if_pos q2, if_pos q2]; exact undo_sp h hkp
    · rw [if_neg q2, if_neg q2]; exact Sp.no h (by decide)
theorem IvC.restart {N : hm_M} (h : IvC N) {k : Nat} (hk : k < 6) : IvC (f_restart N k) := by
  have hat := h.at hk
  refine h.part k (by simp [f_restart, hm_up_at]) (by simp [f_restart, hm_up_at]) (by simp [f_restart, hm_up_at]) (fun k' j q => by simp [f_restart, hm_up_at, q]) (by simp [f_restart, hm_up_at]) (by simp [f_restart, hm_up_at]) (by unfold f_restart; rw [hm_up_fam (by decide), hm_up_fam (by decide)]) (by unfold f_restart; rw [hm_up_fam (by decide), hm_up_fam (by decide)]) (by unfold f_restart; rw [hm_up_fam (by decide), hm_up_fam (by decide)]) (by unfold f_restart; rw [hm_up_fam (by decide), hm_up_fam (by decide)]) ?_ ?_
  · have e3 : f_restart N k 10 k 3 = 0 := by simp [f_restart, hm_up_at]
    rw [e3]
    exact ⟨by decide, by have z : (0 : Int32).toInt = 0 := rfl; omega⟩
  · intro q
    have e2 : f_restart N k 10 k 2 = 0 := by simp [f_restart, hm_up_at]
    rw [e2] at q
    exact absurd q (by decide)
theorem restart_sp {b : Int} {M : hm_M} (h : Jv b M) {k : Nat} (hkp : (k : Int) < (M 20 0 3).toInt) (hn : ¬ M 24 0 k = 1) {nm : String → Int32} : Sp (.inl (none, f_restart (ab M) k)) nm (b + 300) M 0 (hm_up (hm_up (hm_up M 20 0 0 0) 24 0 k 0) 26 0 k 0) := by
  have hk := h.1.lt hkp
  have ea : ab (hm_up (hm_up (hm_up M 20 0 0 0) 24 0 k 0) 26 0 k 0) = f_restart (ab M) k := by unfold f_restart; rw [ab_26 _ hk, ab_24 _ hk, ab_20_0]
  have ef : ∀ f, ¬ f = 20 → ¬ f = 24 → ¬ f = 26 → hm_up (hm_up (hm_up M 20 0 0 0) 24 0 k 0) 26 0 k 0 f = M f := fun f y1 y2 y3 => by rw [hm_up_fam y3, hm_up_fam y2, hm_up_fam y1]
  have e24 : hm_up (hm_up (hm_up M 20 0 0 0) 24 0 k 0) 26 0 k 0 24 0 k = 0 := by simp [hm_up_at]
  have e21 : hm_up (hm_up (hm_up M 20 0 0 0) 24 0 k 0) 26 0 k 0 20 0 21 = M 20 0 21 := by simp [hm_up_at]
  have hw := (h.1.2.2.2.2 k hk hkp).2 hn
  have K : Kq M (hm_up (hm_up (hm_up M 20 0 0 0) 24 0 k 0) 26 0 k 0) := (Kq.c0.up24 (by decide)).up (by decide) (by decide) (by decide)
  refine ⟨⟨?_, K.2 h.2.1, by rw [e21]; have := h.2.2; omega⟩, K, by simp [hm_up_at], ea, fun w hw => by cases hw⟩
  refine h.1.mk k hk hkp ⟨by rw [ea]; exact h.1.C.restart hk, by rw [ef 27 (by decide) (by decide) (by decide)]; exact h.1.m.2.1, by rw [e21]; exact h.1.m.st⟩ (by simp [hm_up_at]) (fun j _ => Or.inl (by rw [ef 22 (by decide) (by decide) (by decide)])) (fun c y => by simp [hm_up_at, y]) (ef 25 (by decide) (by decide) (by decide)) (fun c y => by simp [hm_up_at, y]) (fun c y => by rw [ef 27 (by decide) (by decide) (by decide)]) (ef 30 (by decide) (by decide) (by decide)) (fun q => absurd (e24.symm.trans q) (by decide)) (fun q => absurd (e24.symm.trans q) (by decide)) (fun _ => by rw [ef 27 (by decide) (by decide) (by decide)]; exact hw)
theorem m_restart {b : Int} {M : hm_M} (h : Jv b M) {k : Nat} (hkp : (k : Int) < (M 20 0 3).toInt) (hp : ¬ g_in (nI k) 0 (M 20 0 3 - 1) = 0) : Sp (r_restart (ab M) (nI k)) n_D (b + 300) M 0 (h_restart M k) := by
  have hk := h.1.lt hkp
  have ek : (nI k).toNatClampNeg = k := nI_clamp (by omega)
  unfold r_restart h_restart
  rw [ek, (ab_at hk).2.2.1, if_neg (fun z => hp ((isPart_eq h _).mp z))]
  by_cases q1 : M 24 0 k = 3
  · rw [if_pos q1, if_pos q1]; exact restart_sp h hkp (by rw [q1]; decide)
  · rw [if_neg q1, if_neg q1]
    by_cases q2 : M 24 0 k = 4
    · rw [if_pos q2, if_pos q2]; exact restart_sp h hkp (by rw [q2]; decide)
    · rw [if_neg q2, if_neg q2]; exact Sp.no h (by decide)
theorem g_closeM_20 {j : Nat} : ∀ (n i : Nat) (M : hm_M), g_closeM n i M 20 0 j = M 20 0 j := by
  intro n
  induction n with
  | zero => intro i M; rfl
  | succ n ih => intro i M; simp only [g_closeM]; rw [ih]; split; rfl; split; rfl; exact g_undo_20
theorem m_close {b : Int} {M : hm_M} (h : Jv b M) : Sp (.inl (some (.int (f_closeN (ab M 0 0 5).toNatClampNeg 0 (ab M) 0)), f_closeM (ab M 0 0 5).toNatClampNeg 0 (ab M))) n_A (b + 300) M (h_close M).1 (h_close M).2 := by
  unfold h_close
  rw [(ab_20 M).1]
  have hp := h.pc
  obtain ⟨j1, j2, j3⟩ := Jv.close (M 20 0 3).toNatClampNeg 0 b (hm_up M 20 0 0 0) 0 h.up0 (by rw [show hm_up M 20 0 0 0 20 0 3 = M 20 0 3 by simp [hm_up_at], nn_eq]; omega)
  rw [ab_20_0] at j2 j3
  exact ⟨j1.le (by omega), Kq.c0.close _ _, by dsimp only; rw [g_closeM_20]; simp [hm_up_at], j2, fun w hw => by cases hw; exact j3⟩
theorem g_runL_20 {j : Nat} (h0 : ¬ j = 15) (h1 : ¬ j = 21) (h2 : ¬ j = 22) : ∀ (n : Nat) (M : hm_M), g_runL n M 20 0 j = M 20 0 j := by
  have hr : ∀ (n i : Nat) (M : hm_M), g_round n i M 20 0 j = M 20 0 j := by
    intro n
    induction n with
    | zero => intro i M; rfl
    | succ n ih => intro i M; simp only [g_round]; rw [ih]; split; exact g_have_20 h0 h1 h2; rfl
  intro n
  induction n with
  | zero => intro M; rfl
  | succ n ih => intro M; simp only [g_runL]; rw [ih, hr]
theorem m_run {b : Int} {M : hm_M} (h : Jv b M) (hb : b < 900000) (x : Int32) : Sp (r_run (ab M) x) n_E (b + 300) M (h_run M x).1 (h_run M x).2 := by
  have z0 : (0 : Int32).toInt = 0 := rfl
  have z50 : (50 : Int32).toInt = 50 := rfl
  unfold r_run h_run
  rw [(ab_20 M).2.1]
  by_cases q0 : x < 0
  · rw [if_pos q0, if_pos (in_iff.mpr (Or.inl (lt_toInt.mp q0)))]
    exact Sp.no h (by decide)
  · have a0 := le_toInt.mp (Int32.not_lt.mp q0)
    rw [if_neg q0]
    by_cases q9 : x ≤ 50
    · have a9 := le_toInt.mp q9
      have ni : ¬ g_in x 0 50 = 0 := fun z => by rcases in_iff.mp z with y | y <;> omega
      rw [if_pos q9, if_neg ni]
      obtain ⟨j1, j2, j3⟩ := Jv.runL x.toNatClampNeg b (hm_up M 20 0 0 0) h.up0 (by rw [nn_eq]; omega)
      rw [ab_20_0] at j3
      refine ⟨j1.le (by rw [nn_eq]; omega), Kq.c0.runL _, by dsimp only; rw [g_runL_20 (by decide) (by decide) (by decide)]; simp [hm_up_at], j3, fun w hw => ?_⟩
      cases hw
      rw [← j3, (ab_20 _).2.1]
    · rw [if_neg q9, if_pos (in_iff.mpr (Or.inr (lt_toInt.mp (Int32.not_le.mp q9))))]
      exact Sp.no h (by decide)
theorem m_log {b : Int} {M : hm_M} (h : Jv b M) (x : Int32) : Sp (r_log (ab M) x) n_E (b + 300) M (h_log M x).1 (h_log M x).2 := by
  have z0 : (0 : Int32).toInt = 0 := rfl
  have z4 : (400 : Int32).toInt = 400 := rfl
  have e6 : ab M 0 0 6 = if 400 ≤ M 20 0 21 then 400 else M 20 0 21 := by simp [ab]
  have e5 : ab M 5 0 x.toNatClampNeg = M 38 0 x.toNatClampNeg := by simp [ab]
  unfold r_log h_log
  rw [e6, e5]
  obtain ⟨y, hy⟩ : ∃ y, y = if 400 ≤ M 20 0 21 then (400 : Int32) else M 20 0 21 := ⟨_, rfl⟩
  have y0 : 0 ≤ y.toInt := by
    rw [hy]; split
    · decide
    · exact h.1.m.st
  rw [← hy]
  have hd := dec_toInt y0
  by_cases q0 : x < 0
  · rw [if_pos q0, if_pos (in_iff.mpr (Or.inl (lt_toInt.mp q0)))]
    exact Sp.no h (by decide)
  · have a0 := le_toInt.mp (Int32.not_lt.mp q0)
    rw [if_neg q0]
    by_cases q9 : x < y
    · have a9 := lt_toInt.mp q9
      have ni : ¬ g_in x 0 (y - 1) = 0 := fun z => by rcases in_iff.mp z with y | y <;> omega
      rw [if_pos q9, if_neg ni]
      exact Sp.rd h rfl
    · have a9 := le_toInt.mp (Int32.not_lt.mp q9)
      rw [if_neg q9, if_pos (in_iff.mpr (Or.inr (by omega)))]
      exact Sp.no h (by decide)
theorem m_place {b : Int} {M : hm_M} (h : Jv b M) (x w : Int32) : Sp (r_place (ab M) x w) n_E (b + 300) M (h_place M x w).1 (h_place M x w).2 := by
  have z0 : (0 : Int32).toInt = 0 := rfl
  have z1 : (1 : Int32).toInt = 1 := rfl
  have e1 : ab M 1 0 x.toNatClampNeg = M 21 0 x.toNatClampNeg := by simp [ab]
  unfold r_place h_place
  rw [e1, ab_hold]
  by_cases hp : g_in x 0 7 = 0
  · rw [if_pos hp, if_pos ((isPlace_eq x).mpr hp)]
    exact Sp.no h (by decide)
  · rw [if_neg hp, if_neg (fun z => hp ((isPlace_eq x).mp z))]
    by_cases q0 : w < 0
    · rw [if_pos q0, if_pos (in_iff.mpr (Or.inl (lt_toInt.mp q0)))]
      exact Sp.no h (by decide)
    · have a0 := le_toInt.mp (Int32.not_lt.mp q0)
      rw [if_neg q0]
      by_cases q9 : w ≤ 1
      · have a9 := le_toInt.mp q9
        have ni : ¬ g_in w 0 1 = 0 := fun z => by rcases in_iff.mp z with y | y <;> omega
        rw [if_pos q9, if_neg ni]
        exact Sp.rd h rfl
      · rw [if_neg q9, if_pos (in_iff.mpr (Or.inr (lt_toInt.mp (Int32.not_le.mp q9))))]
        exact Sp.no h (by decide)
theorem m_message {b : Int} {M : hm_M} (h : Jv b M) (x w : Int32) : Sp (r_message (ab M) x w) n_C (b + 300) M (h_message M x w).1 (h_message M x w).2 := by
  have e6 : ab M 6 0 x.toNatClampNeg = M 34 0 x.toNatClampNeg := by simp [ab]
  have e7 : ab M 7 0 x.toNatClampNeg = M 35 0 x.toNatClampNeg := by simp [ab]
  have e8 : ab M 8 0 x.toNatClampNeg = M 36 0 x.toNatClampNeg := by simp [ab]
  have e9 : ab M 9 0 x.toNatClampNeg = M 37 0 x.toNatClampNeg := by simp [ab]
  unfold r_message h_message
  rw [e6, e7, e8, e9]
  by_cases hp : g_in x 1 (M 20 0 15) = 0
  · rw [if_pos hp, if_pos ((isMsg_eq x).mpr hp)]
    exact Sp.no h (by decide)
  · rw [if_neg hp, if_neg (fun z => hp ((isMsg_eq x).mp z))]
    by_cases w0 : w = 0
    · subst w0; simp only [gi_03]; exact Sp.rd h rfl
    · rw [if_neg w0]
      by_cases w1 : w = 1
      · subst w1; simp only [gi_13]; exact Sp.rd h rfl
      · rw [if_neg w1]
        by_cases w2 : w = 2
        · subst w2; simp only [gi_23]; exact Sp.rd h rfl
        · rw [if_neg w2]
          by_cases w3 : w = 3
          · subst w3; simp only [show g_in 3 0 3 = 1 from by decide]; exact Sp.rd h rfl
          · rw [if_neg w3]
            have a := sw_out4 w0 w1 w2 w3
            have z0 : (0 : Int32).toInt = 0 := rfl
            have z3 : (3 : Int32).toInt = 3 := rfl
            rw [if_pos (in_iff.mpr (by omega))]
            exact Sp.no h (by decide)
theorem m_told {b : Int} {M : hm_M} (h : Jv b M) {k : Nat} (hkp : (k : Int) < (M 20 0 3).toInt) (hp : ¬ g_in (nI k) 0 (M 20 0 3 - 1) = 0) (w : Int32) : Sp (r_told (ab M) (nI k) w) n_C (b + 300) M (h_told M k w).1 (h_told M k w).2 := by
  have hk := h.1.lt hkp
  obtain ⟨e3, e4, e2, e5, e1, e0⟩ := ab_at (M := M) hk
  have ek : (nI k).toNatClampNeg = k := nI_clamp (by omega)
  have ew := h.1.await hkp
  unfold r_told h_told
  rw [ek, e3, e4, e2, e5, e1, e0, ew, if_neg (fun z => hp ((isPart_eq h _).mp z))]
  by_cases w0 : w = 0
  · subst w0; simp only [gi_06]; exact Sp.rd h rfl
  · rw [if_neg w0]
    by_cases w1 : w = 1
    · subst w1; simp only [gi_16]; exact Sp.rd h rfl
    · rw [if_neg w1]
      by_cases w2 : w = 2
      · subst w2; simp only [gi_26]; exact Sp.rd h rfl
      · rw [if_neg w2]
        by_cases w3 : w = 3
        · subst w3; simp only [gi_36]; exact Sp.rd h rfl
        · rw [if_neg w3]
          by_cases w4 : w = 4
          · subst w4; simp only [gi_46]; exact Sp.rd h rfl
          · rw [if_neg w4]
            by_cases w5 : w = 5
            · subst w5; simp only [gi_56]; exact Sp.rd h rfl
            · rw [if_neg w5]
              by_cases w6 : w = 6
              · subst w6; simp only [gi_66]; exact Sp.rd h rfl
              · rw [if_neg w6]
                have a := sw_out7 w0 w1 w2 w3 w4 w5 w6
                have z0 : (0 : Int32).toInt = 0 := rfl
                have z6 : (6 : Int32).toInt = 6 := rfl
                rw [if_pos (in_iff.mpr (by omega))]
                exact Sp.no h (by decide)
theorem m_count {b : Int} {M : hm_M} (h : Jv b M) (w : Int32) : Sp (.inl (some (.int (f_count (ab M) w)), ab M)) n_A (b + 300) M (h_count M w).1 (h_count M w).2 := Sp.rd h rfl
theorem m_none {b : Int} {M : hm_M} (h : Jv b M) {q : Int32} (hp : g_in q 0 (M 20 0 3 - 1) = 0) : f_isPart (ab M) q = 0 := (isPart_eq h q).mpr hp
