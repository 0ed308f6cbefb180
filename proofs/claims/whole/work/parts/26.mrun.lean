/-- what holds of the reference between calls; b bounds the steps done -/
def Jv (b : Int) (M : hm_M) : Prop := Iv2 M ∧ (∀ c, c < 6 → 0 ≤ (M 24 0 c).toInt) ∧ (M 20 0 21).toInt ≤ b
theorem Jv.m {b : Int} {M : hm_M} (h : Jv b M) : IvM M := h.1.m
theorem Jv.up0 {b : Int} {M : hm_M} (h : Jv b M) {x : Int32} : Jv b (hm_up M 20 0 0 x) := ⟨h.1.up20 (Or.inl rfl), fun c hc => by rw [hm_up_fam (by decide)]; exact h.2.1 c hc, by have := h.2.2; simpa [hm_up_at] using this⟩
theorem Jv.le {a b : Int} {M : hm_M} (h : Jv a M) (hab : a ≤ b) : Jv b M := ⟨h.1, h.2.1, Int.le_trans h.2.2 hab⟩
theorem st_le2 {x : Int32} (h0 : 0 ≤ x.toInt) : (x ≤ 2) ↔ (x = 0 ∨ x = 1 ∨ x = 2) := by
  constructor
  · intro h
    have h1 := Int32.le_iff_toInt_le.mp h
    have z2 : (2 : Int32).toInt = 2 := rfl
    obtain ⟨j, hj, e⟩ := pc_nI (x := x) (b := 2) h0 (by omega) (by decide)
    have : j = 0 ∨ j = 1 ∨ j = 2 := by omega
    rcases this with q | q | q <;> subst q <;> rw [e]
    · exact Or.inl rfl
    · exact Or.inr (Or.inl rfl)
    · exact Or.inr (Or.inr rfl)
  · intro h
    rcases h with q | q | q <;> rw [q] <;> decide
theorem may_le {b : Int} {M : hm_M} (h : Jv b M) {k : Nat} (hk : k < 6) : (f_may (ab M) k = 0) ↔ ¬ M 24 0 k ≤ 2 := by
  rw [st_le2 (h.2.1 k hk)]
  unfold f_may
  rw [(ab_at hk).2.2.1]
  by_cases q0 : M 24 0 k = 0
  · simp [q0]
  · by_cases q1 : M 24 0 k = 1
    · simp [q1]
    · by_cases q2 : M 24 0 k = 2
      · simp [q2]
      · simp [q0, q1, q2]
theorem Jv.have {b : Int} {M : hm_M} (h : Jv b M) {k : Nat} (hkp : (k : Int) < (M 20 0 3).toInt) (h2 : M 24 0 k ≤ 2) (hb : b < 1000000) : Jv (b + 1) (g_have M k) ∧ g_have M k 20 0 3 = M 20 0 3 ∧ ab (g_have M k) = f_turn (ab M) k := by
  have hk := h.1.lt hkp
  obtain ⟨a1, a2, a3, a4⟩ := have_eq h.1 hkp ((st_le2 (h.2.1 k hk)).mp h2) (by have := h.2.2; omega)
  exact ⟨⟨a2, (Kq.rf.have k).2 h.2.1, by have := h.2.2; omega⟩, a4, a1⟩
def g_round : Nat → Nat → hm_M → hm_M
  | 0, _, M => M
  | n + 1, i, M => g_round n (i + 1) (if M 24 0 i ≤ 2 then g_have M i else M)
def g_runL : Nat → hm_M → hm_M
  | 0, M => M
  | n + 1, M => g_runL n (g_round (M 20 0 3).toNatClampNeg 0 M)
theorem Jv.round : ∀ (n i : Nat) (b : Int) (M : hm_M), Jv b M → (i + n : Int) ≤ (M 20 0 3).toInt → b + n ≤ 1000000 → Jv (b + n) (g_round n i M) ∧ g_round n i M 20 0 3 = M 20 0 3 ∧ ab (g_round n i M) = f_round n i (ab M) := by
  intro n
  induction n with
  | zero => intro i b M h _ _; exact ⟨h.le (by omega), rfl, rfl⟩
  | succ n ih =>
    intro i b M h hi hb
    have hk : i < 6 := h.1.lt (by omega)
    simp only [g_round, f_round]
    by_cases q : M 24 0 i ≤ 2
    · obtain ⟨j1, j2, j3⟩ := h.have (k := i) (by omega) q (by omega)
      have nm : ¬ f_may (ab M) i = 0 := fun z => (may_le h hk).mp z q
      rw [if_pos q, if_neg nm, ← j3]
      obtain ⟨r1, r2, r3⟩ := ih (i + 1) (b + 1) _ j1 (by rw [j2]; omega) (by omega)
      exact ⟨r1.le (by omega), r2.trans j2, r3⟩
    · rw [if_neg q, if_pos ((may_le h hk).mpr q)]
      obtain ⟨r1, r2, r3⟩ := ih (i + 1) b _ h (by omega) (by omega)
      exact ⟨r1.le (by omega), r2, r3⟩
theorem Jv.pc {b : Int} {M : hm_M} (h : Jv b M) : 0 ≤ (M 20 0 3).toInt ∧ (M 20 0 3).toInt ≤ 6 := by
  have := h.1.C.pc
  rw [(ab_20 M).1] at this
  exact this
theorem Jv.runL : ∀ (n : Nat) (b : Int) (M : hm_M), Jv b M → b + 6 * n ≤ 1000000 → Jv (b + 6 * n) (g_runL n M) ∧ g_runL n M 20 0 3 = M 20 0 3 ∧ ab (g_runL n M) = f_runL n (ab M) := by
  intro n
  induction n with
  | zero => intro b M h _; exact ⟨h.le (by omega), rfl, rfl⟩
  | succ n ih =>
    intro b M h hb
    have hp := h.pc
    simp only [g_runL, f_runL, (ab_20 M).1]
    obtain ⟨j1, j2, j3⟩ := Jv.round (M 20 0 3).toNatClampNeg 0 b M h (by rw [nn_eq]; omega) (by rw [nn_eq]; omega)
    rw [← j3]
    obtain ⟨r1, r2, r3⟩ := ih (b + 6) _ (j1.le (by rw [nn_eq]; omega)) (by omega)
    exact ⟨r1.le (by omega), r2.trans j2, r3⟩
theorem Kq.round : ∀ (n i : Nat) {A M : hm_M}, Kq A M → Kq A (g_round n i M) := by
  intro n
  induction n with
  | zero => intro i A M h; exact h
  | succ n ih => intro i A M h; simp only [g_round]; apply ih; split; exact h.have i; exact h
theorem Kq.runL : ∀ (n : Nat) {A M : hm_M}, Kq A M → Kq A (g_runL n M) := by
  intro n
  induction n with
  | zero => intro A M h; exact h
  | succ n ih => intro A M h; simp only [g_runL]; exact ih (h.round _ 0)
def g_closeM : Nat → Nat → hm_M → hm_M
  | 0, _, M => M
  | n + 1, i, M => g_closeM n (i + 1) (if M 24 0 i = 3 then M else if M 24 0 i = 5 then M else g_undo M i 5)
def g_closeN : Nat → Nat → hm_M → Int32 → Int32
  | 0, _, _, a => a
  | n + 1, i, M, a => g_closeN n (i + 1) (if M 24 0 i = 3 then M else if M 24 0 i = 5 then M else g_undo M i 5) (if M 24 0 i = 3 then a else if M 24 0 i = 5 then a else a + 1)
theorem Jv.undo {b : Int} {M : hm_M} (h : Jv b M) {k : Nat} (hkp : (k : Int) < (M 20 0 3).toInt) {st : Int32} (h1 : st ≠ 1) (h2 : st ≠ 2) (h0 : 0 ≤ st.toInt) : Jv b (g_undo M k st) := ⟨h.1.undo hkp h1 h2, (Kq.rf.undo k h0).2 h.2.1, by rw [g_undo_20]; exact h.2.2⟩
theorem Jv.close : ∀ (n i : Nat) (b : Int) (M : hm_M) (a : Int32), Jv b M → (i + n : Int) ≤ (M 20 0 3).toInt → Jv b (g_closeM n i M) ∧ ab (g_closeM n i M) = f_closeM n i (ab M) ∧ g_closeN n i M a = f_closeN n i (ab M) a := by
  intro n
  induction n with
  | zero => intro i b M a h _; exact ⟨h, rfl, rfl⟩
  | succ n ih =>
    intro i b M a h hi
    have hk : i < 6 := h.1.lt (by omega)
    simp only [g_closeM, f_closeM, g_closeN, f_closeN, (ab_at hk).2.2.1]
    by_cases q3 : M 24 0 i = 3
    · simp only [if_pos q3]; exact ih _ b M a h (by omega)
    · simp only [if_neg q3]
      by_cases q5 : M 24 0 i = 5
      · simp only [if_pos q5]; exact ih _ b M a h (by omega)
      · simp only [if_neg q5]
        rw [← ab_undo hk h.1.C]
        exact ih _ b _ _ (h.undo (k := i) (by omega) (by decide) (by decide) (by decide)) (by rw [g_undo_20]; omega)
theorem Kq.close : ∀ (n i : Nat) {A M : hm_M}, Kq A M → Kq A (g_closeM n i M) := by
  intro n
  induction n with
  | zero => intro i A M h; exact h
  | succ n ih => intro i A M h; simp only [g_closeM]; apply ih; split; exact h; split; exact h; exact h.undo _ (by decide)
def h_run (M : hm_M) (x : Int32) : Int32 × hm_M := if g_in x 0 50 = 0 then (0, hm_up M 20 0 0 1) else (g_runL x.toNatClampNeg (hm_up M 20 0 0 0) 20 0 21 - M 20 0 21, g_runL x.toNatClampNeg (hm_up M 20 0 0 0))
def h_close (M : hm_M) : Int32 × hm_M := (g_closeN (M 20 0 3).toNatClampNeg 0 (hm_up M 20 0 0 0) 0, g_closeM (M 20 0 3).toNatClampNeg 0 (hm_up M 20 0 0 0))
def h_told (M : hm_M) (k : Nat) (w : Int32) : Int32 × hm_M := if g_in w 0 6 = 0 then (0, hm_up M 20 0 0 2) else (if w = 0 then M 24 0 k else if w = 1 then M 23 0 k else if w = 2 then M 25 0 k else if w = 3 then M 26 0 k else if w = 4 then M 27 0 k else if w = 6 then M 28 0 k else f_held (ab M) (nI k) 8 0 0, hm_up M 20 0 0 0)
def h_count (M : hm_M) (w : Int32) : Int32 × hm_M := (f_count (ab M) w, hm_up M 20 0 0 0)
set_option maxHeartbeats 4000000 in
set_option maxRecDepth 100000 in
theorem c_M_run (l : Launch) (D : va_G) (ar : Nat → ClassId) (lay : Nat → Nat → Nat) (M : hm_M) (x : Int32) (b : Int) (hJ : Jv b M) (hb : b ≤ 900000) : Ct l D ar lay y_M_run rm_p true [.ref (lay 20 0), .int x] M (.inl (some (.int (h_run M x).1), (h_run M x).2)) := by
  refine Ct.of (cc := prog_5_method_21_code) (maxL := 5) (ret := (some .int)) (by decide) cd_M_run (Nat.le_of_ble_eq_true rfl) ?_
  intro p e s m below meth c E hr hlk hno hH
  obtain ⟨j, hj, ej⟩ := pc_nI (b := 6) hJ.pc.1 hJ.pc.2 (by decide)
  have inner : ∀ (n i : Nat) (b' : Int) (x4 x3 : Int32) (M' : hm_M), i + n = j → x4 = nI i → Jv b' M' → b' + n ≤ 1000000 → M' 20 0 3 = M 20 0 3 → (∀ z : Int32, AW p l e rm_p s m [(.ref (lay 20 0) : Value), (.int x : Value)].toArray below meth c D ar lay true 5 0 0 (MQX below (fun _ st o t => CQ D ar lay M s.heap.size true (.inl (some (.int (h_run M x).1), (h_run M x).2)) st o t) [(.ref (lay 20 0) : Value), (.int x : Value)].toArray s rm_p.cells rm_p.slots (hw_A lay true s.heap.size)) 75 [(4, .int z), (3, .int x3), (2, .int (M 20 0 21)), (0, .ref (lay 20 0)), (1, .int x)] [] (g_round n i M')) → AW p l e rm_p s m [(.ref (lay 20 0) : Value), (.int x : Value)].toArray below meth c D ar lay true 5 0 0 (MQX below (fun _ st o t => CQ D ar lay M s.heap.size true (.inl (some (.int (h_run M x).1), (h_run M x).2)) st o t) [(.ref (lay 20 0) : Value), (.int x : Value)].toArray s rm_p.cells rm_p.slots (hw_A lay true s.heap.size)) 43 [(4, .int x4), (3, .int x3), (2, .int (M 20 0 21)), (0, .ref (lay 20 0)), (1, .int x)] [] M' := by
    intro n
    induction n with
    | zero =>
      intro i b' x4 x3 M' hi hx hI' hb' h5 hk0
      refine a_iload (pc := 43) E d_M_run_43 rfl ?_
      refine a_aload_n (pc := 45) E d_M_run_45 rfl rfl ?_
      refine g_M_3 (pc := 46) E d_M_run_46 fl_M_69 ?_
      refine a_icmp_ge (tgt := 75) (pc := 49) E d_M_run_49 (by decide) (fun c_49 => ?_) (fun c_49 => ?_)
      · exact hk0 _
      · exact absurd (by rw [hx, h5, ej]; exact nI_le (by omega) (by omega)) c_49
    | succ n ih =>
      intro i b' x4 x3 M' hi hx hI' hb' h5 hk0
      subst hx
      have hin : vp_in (nI i) 6 := vp_in_nI (by omega) (by decide)
      have e0 : (nI i).toNatClampNeg = i := nI_clamp (by omega)
      have hkp : (i : Int) < (M' 20 0 3).toInt := by rw [h5, ej, nI_toInt (by omega)]; omega
      refine a_iload (pc := 43) E d_M_run_43 rfl ?_
      refine a_aload_n (pc := 45) E d_M_run_45 rfl rfl ?_
      refine g_M_3 (pc := 46) E d_M_run_46 fl_M_69 ?_
      refine a_icmp_ge (tgt := 75) (pc := 49) E d_M_run_49 (by decide) (fun c_49 => ?_) (fun c_49 => ?_)
      · exact absurd c_49 (by rw [h5, ej]; exact nI_ge (by omega) (by omega))
      · refine a_aload_n (pc := 52) E d_M_run_52 rfl rfl ?_
        refine g_M_5 (pc := 53) E d_M_run_53 fl_M_19 ?_
        refine a_iload (pc := 56) E d_M_run_56 rfl ?_
        refine r_24 (pc := 58) E d_M_run_58 hin ?_
        refine a_iconst (v := 2) (pc := 59) E d_M_run_59 (by decide) ?_
        refine a_icmp_gt (tgt := 69) (pc := 60) E d_M_run_60 (by decide) (fun c_60 => ?_) (fun c_60 => ?_)
        · rw [e0] at c_60
          have c_60' := Int32.not_le.mpr c_60
          have hIn := hI'.le (b := b' + 1) (by omega)
          have h5n := h5
          refine a_iinc (pc := 69) E d_M_run_69 rfl (by decide) ?_
          refine a_goto (tgt := 43) (pc := 72) E d_M_run_72 (by decide) ?_
          exact a_ls5 (ih (i + 1) _ _ x3 _ (by omega) (nI_1 i) hIn (by omega) h5n (fun z => by have h := hk0 z; simp only [g_round, c_60', if_true, if_false] at h; exact h)) rfl rfl rfl rfl rfl
        · rw [e0] at c_60
          have c_60' := Int32.not_lt.mp c_60
          have hh := hI'.have hkp c_60' (by omega)
          have hIn := hh.1
          have h5n := hh.2.1.trans h5
          refine a_aload_n (pc := 63) E d_M_run_63 rfl rfl ?_
          refine a_iload (pc := 64) E d_M_run_64 rfl ?_
          refine b_VZ (pc := 66) (n := 1) E (c_M_haveTurn l D ar lay _ i (by omega) hI'.m) ⟨by decide, by decide, ml_M_123, im_M_haveTurn, sl_M_haveTurn, ii_M, cd_M_haveTurn, ⟨by decide, by decide⟩, by decide +kernel⟩ rfl (by decide) rfl rfl (by decide) rfl (Nat.le_of_ble_eq_true rfl) d_M_run_66 (by decide) ?_
          refine a_iinc (pc := 69) E d_M_run_69 rfl (by decide) ?_
          refine a_goto (tgt := 43) (pc := 72) E d_M_run_72 (by decide) ?_
          exact a_ls5 (ih (i + 1) _ _ x3 _ (by omega) (nI_1 i) hIn (by omega) h5n (fun z => by have h := hk0 z; simp only [g_round, c_60', if_true, if_false] at h; exact h)) rfl rfl rfl rfl rfl
  have outer : ¬ g_in x 0 50 = 0 → ∀ (n i : Nat) (b' : Int) (x3 : Int32) (M' : hm_M), i + n = x.toNatClampNeg → x3 = nI i → Jv b' M' → b' + 6 * n ≤ 1000000 → M' 20 0 3 = M 20 0 3 → g_runL n M' = g_runL x.toNatClampNeg (hm_up M 20 0 0 0) → AW p l e rm_p s m [(.ref (lay 20 0) : Value), (.int x : Value)].toArray below meth c D ar lay true 5 0 0 (MQX below (fun _ st o t => CQ D ar lay M s.heap.size true (.inl (some (.int (h_run M x).1), (h_run M x).2)) st o t) [(.ref (lay 20 0) : Value), (.int x : Value)].toArray s rm_p.cells rm_p.slots (hw_A lay true s.heap.size)) 35 [(3, .int x3), (2, .int (M 20 0 21)), (0, .ref (lay 20 0)), (1, .int x)] [] M' := by
    intro hx0 n
    have hrg := in_rng hx0
    have z0 : (0 : Int32).toInt = 0 := rfl
    have z50 : (50 : Int32).toInt = 50 := rfl
    obtain ⟨jr, hjr, ejr⟩ := pc_nI (x := x) (b := 50) (by omega) (by omega) (by decide)
    have er : x.toNatClampNeg = jr := by rw [ejr]; exact nI_clamp (by omega)
    induction n with
    | zero =>
      intro i b' x3 M' hi hx hI' hb' h5 he
      refine a_iload_n (pc := 35) E d_M_run_35 rfl rfl ?_
      refine a_iload_n (pc := 36) E d_M_run_36 rfl rfl ?_
      refine a_icmp_ge (tgt := 81) (pc := 37) E d_M_run_37 (by decide) (fun c_37 => ?_) (fun c_37 => ?_)
      · refine a_aload_n (pc := 81) E d_M_run_81 rfl rfl ?_
        refine g_M_21 (pc := 82) E d_M_run_82 fl_M_104 ?_
        refine a_iload_n (pc := 85) E d_M_run_85 rfl rfl ?_
        refine a_isub (pc := 86) E d_M_run_86 ?_
        exact a_iret (pc := 87) E hr hlk rfl d_M_run_87 (by decide) (by decide) (by decide) (by have he : M' = g_runL x.toNatClampNeg (hm_up M 20 0 0 0) := he; rw [h_run, if_neg hx0, ← he])
      · exact absurd (by rw [hx, ejr]; exact nI_le (by omega) (by omega)) c_37
    | succ n ih =>
      intro i b' x3 M' hi hx hI' hb' h5 he
      refine a_iload_n (pc := 35) E d_M_run_35 rfl rfl ?_
      refine a_iload_n (pc := 36) E d_M_run_36 rfl rfl ?_
      refine a_icmp_ge (tgt := 81) (pc := 37) E d_M_run_37 (by decide) (fun c_37 => ?_) (fun c_37 => ?_)
      · exact absurd c_37 (by rw [hx, ejr]; exact nI_ge (by omega) (by omega))
      · refine a_iconst (v := 0) (pc := 40) E d_M_run_40 (by decide) ?_
        refine a_istore (pc := 41) E d_M_run_41 (by decide) ?_
        have hjr := Jv.round j 0 b' M' hI' (by rw [h5, ej, nI_toInt (by omega)]; omega) (by omega)
        refine a_ls5 (inner j 0 b' _ x3 M' (Nat.zero_add _) (by decide) hI' (by omega) h5 (fun z => ?_)) rfl rfl rfl rfl rfl
        refine a_iinc (pc := 75) E d_M_run_75 rfl (by decide) ?_
        refine a_goto (tgt := 35) (pc := 78) E d_M_run_78 (by decide) ?_
        exact a_ls4 (ih (i + 1) _ _ _ (by omega) (by rw [hx]; exact nI_1 i) hjr.1 (by omega) (hjr.2.1.trans h5) (by rw [← he]; simp only [g_runL]; rw [h5, ej, nI_clamp (by omega)])) rfl rfl rfl rfl
  refine a_aload_n (pc := 0) E d_M_run_0 rfl rfl ?_
  refine a_iload_n (pc := 1) E d_M_run_1 rfl rfl ?_
  refine a_iconst (v := 0) (pc := 2) E d_M_run_2 (by decide) ?_
  refine a_bipush (v := 50) (pc := 3) E d_M_run_3 (by decide) ?_
  refine b_SI (pc := 5) (n := 3) E (c_M_in l D ar lay _ _ _ _) ⟨by decide, by decide, ml_M_72, ss_M_in, ii_M, ⟨by decide, by decide⟩, by decide +kernel⟩ cd_M_in rfl (by decide) rfl (Nat.le_of_ble_eq_true rfl) d_M_run_5 (by decide) ?_
  refine a_if_eq (tgt := 15) (pc := 8) E d_M_run_8 (by decide) (fun c_8 => ?_) (fun c_8 => ?_)
  · refine a_iconst (v := 1) (pc := 15) E d_M_run_15 (by decide) ?_
    refine a_wr ?_
    refine p_M_0 (pc := 16) E d_M_run_16 fl_M_65 ?_
    refine a_aload_n (pc := 19) E d_M_run_19 rfl rfl ?_
    refine g_M_0 (pc := 20) E d_M_run_20 fl_M_65 ?_
    refine a_if_le (tgt := 28) (pc := 23) E d_M_run_23 (by decide) (fun c_23 => ?_) (fun c_23 => ?_)
    · exact absurd c_23 (by first | (simp [hm_up_at]; done) | (simp [hm_up_at]; decide) | (simp only [hm_up_at]; decide))
    · refine a_iconst (v := 0) (pc := 26) E d_M_run_26 (by decide) ?_
      exact a_iret (pc := 27) E hr hlk rfl d_M_run_27 (by decide) (by decide) (by decide) (by simp [h_run, c_8])
  · refine a_iconst (v := 0) (pc := 11) E d_M_run_11 (by decide) ?_
    refine a_goto (tgt := 16) (pc := 12) E d_M_run_12 (by decide) ?_
    refine a_wr ?_
    refine p_M_0 (pc := 16) E d_M_run_16 fl_M_65 ?_
    refine a_aload_n (pc := 19) E d_M_run_19 rfl rfl ?_
    refine g_M_0 (pc := 20) E d_M_run_20 fl_M_65 ?_
    refine a_if_le (tgt := 28) (pc := 23) E d_M_run_23 (by decide) (fun c_23 => ?_) (fun c_23 => ?_)
    · refine a_aload_n (pc := 28) E d_M_run_28 rfl rfl ?_
      refine g_M_21 (pc := 29) E d_M_run_29 fl_M_104 ?_
      refine a_istore_n (pc := 32) E d_M_run_32 rfl (by decide) ?_
      refine a_iconst (v := 0) (pc := 33) E d_M_run_33 (by decide) ?_
      refine a_istore_n (pc := 34) E d_M_run_34 rfl (by decide) ?_
      refine a_M (M' := hm_up M 20 0 0 0) rfl ?_
      refine a_wr ?_
      have hrg := in_rng c_8
      have z0 : (0 : Int32).toInt = 0 := rfl
      have z50 : (50 : Int32).toInt = 50 := rfl
      have e21 : hm_up M 20 0 0 0 20 0 21 = M 20 0 21 := by simp [hm_up_at]
      rw [e21]
      exact a_ls4 (outer c_8 x.toNatClampNeg 0 b _ (hm_up M 20 0 0 0) (Nat.zero_add _) (by decide) hJ.up0 (by rw [nn_eq]; omega) (by simp [hm_up_at]) rfl) rfl rfl rfl rfl
    · exact absurd c_23 (by first | (simp [hm_up_at]; done) | (simp [hm_up_at]; decide) | (simp only [hm_up_at]; decide))
set_option maxHeartbeats 4000000 in
set_option maxRecDepth 100000 in
theorem c_M_close (l : Launch) (D : va_G) (ar : Nat → ClassId) (lay : Nat → Nat → Nat) (M : hm_M) (b : Int) (hJ : Jv b M) : Ct l D ar lay y_M_close rm_p true [.ref (lay 20 0)] M (.inl (some (.int (h_close M).1), (h_close M).2)) := by
  refine Ct.of (cc := prog_5_method_25_code) (maxL := 3) (ret := (some .int)) (by decide) cd_M_close (Nat.le_of_ble_eq_true rfl) ?_
  intro p e s m below meth c E hr hlk hno hH
  obtain ⟨j, hj, ej⟩ := pc_nI (b := 6) hJ.pc.1 hJ.pc.2 (by decide)
  have loop : ∀ (n i : Nat) (x a : Int32) (M' : hm_M), i + n = j → x = nI i → Jv b M' → M' 20 0 3 = M 20 0 3 → g_closeN n i M' a = (h_close M).1 → g_closeM n i M' = (h_close M).2 → AW p l e rm_p s m [(.ref (lay 20 0) : Value)].toArray below meth c D ar lay true 3 0 0 (MQX below (fun _ st o t => CQ D ar lay M s.heap.size true (.inl (some (.int (h_close M).1), (h_close M).2)) st o t) [(.ref (lay 20 0) : Value)].toArray s rm_p.cells rm_p.slots (hw_A lay true s.heap.size)) 9 [(2, .int x), (1, .int a), (0, .ref (lay 20 0))] [] M' := by
    intro n
    induction n with
    | zero =>
      intro i x a M' hi hx hI' h5 he hM
      refine a_iload_n (pc := 9) E d_M_close_9 rfl rfl ?_
      refine a_aload_n (pc := 10) E d_M_close_10 rfl rfl ?_
      refine g_M_3 (pc := 11) E d_M_close_11 fl_M_69 ?_
      refine a_icmp_ge (tgt := 55) (pc := 14) E d_M_close_14 (by decide) (fun c_14 => ?_) (fun c_14 => ?_)
      · refine a_iload_n (pc := 55) E d_M_close_55 rfl rfl ?_
        exact a_iret (pc := 56) E hr hlk rfl d_M_close_56 (by decide) (by decide) (by decide) (by rw [← he, ← hM]; rfl)
      · exact absurd (by rw [hx, h5, ej]; exact nI_le (by omega) (by omega)) c_14
    | succ n ih =>
      intro i x a M' hi hx hI' h5 he hM
      subst hx
      have hin : vp_in (nI i) 6 := vp_in_nI (by omega) (by decide)
      have e0 : (nI i).toNatClampNeg = i := nI_clamp (by omega)
      have hkp : (i : Int) < (M' 20 0 3).toInt := by rw [h5, ej, nI_toInt (by omega)]; omega
      refine a_iload_n (pc := 9) E d_M_close_9 rfl rfl ?_
      refine a_aload_n (pc := 10) E d_M_close_10 rfl rfl ?_
      refine g_M_3 (pc := 11) E d_M_close_11 fl_M_69 ?_
      refine a_icmp_ge (tgt := 55) (pc := 14) E d_M_close_14 (by decide) (fun c_14 => ?_) (fun c_14 => ?_)
      · exact absurd c_14 (by rw [h5, ej]; exact nI_ge (by omega) (by omega))
      · refine a_aload_n (pc := 17) E d_M_close_17 rfl rfl ?_
        refine g_M_5 (pc := 18) E d_M_close_18 fl_M_19 ?_
        refine a_iload_n (pc := 21) E d_M_close_21 rfl rfl ?_
        refine r_24 (pc := 22) E d_M_close_22 hin ?_
        refine a_iconst (v := 3) (pc := 23) E d_M_close_23 (by decide) ?_
        refine a_icmp_eq (tgt := 49) (pc := 24) E d_M_close_24 (by decide) (fun c_24 => ?_) (fun c_24 => ?_)
        · rw [e0] at c_24
          have hIn := hI'
          have h5n := h5
          refine a_iinc (pc := 49) E d_M_close_49 rfl (by decide) ?_
          refine a_goto (tgt := 9) (pc := 52) E d_M_close_52 (by decide) ?_
          exact a_ls3 (ih (i + 1) _ _ _ (by omega) (nI_1 i) hIn h5n (by rw [← he]; simp [g_closeN, c_24]; try rfl) (by rw [← hM]; simp [g_closeM, c_24])) rfl rfl rfl
        · rw [e0] at c_24
          refine a_aload_n (pc := 27) E d_M_close_27 rfl rfl ?_
          refine g_M_5 (pc := 28) E d_M_close_28 fl_M_19 ?_
          refine a_iload_n (pc := 31) E d_M_close_31 rfl rfl ?_
          refine r_24 (pc := 32) E d_M_close_32 hin ?_
          refine a_iconst (v := 5) (pc := 33) E d_M_close_33 (by decide) ?_
          refine a_icmp_ne (tgt := 40) (pc := 34) E d_M_close_34 (by decide) (fun c_34 => ?_) (fun c_34 => ?_)
          · rw [e0] at c_34
            have hIn := hI'.undo hkp (st := 5) (by decide) (by decide) (by decide)
            have h5n := (g_undo_20 (M := M') (k := i) (st := 5) (j := 3)).trans h5
            refine a_aload_n (pc := 40) E d_M_close_40 rfl rfl ?_
            refine a_iload_n (pc := 41) E d_M_close_41 rfl rfl ?_
            refine a_iconst (v := 5) (pc := 42) E d_M_close_42 (by decide) ?_
            refine b_VZ (pc := 43) (n := 2) E (c_M_undo l D ar lay _ i 5 (by omega) hI'.1.C) ⟨by decide, by decide, ml_M_94, im_M_undo, sl_M_undo, ii_M, cd_M_undo, ⟨by decide, by decide⟩, by decide +kernel⟩ rfl (by decide) rfl rfl (by decide) rfl (Nat.le_of_ble_eq_true rfl) d_M_close_43 (by decide) ?_
            refine a_iinc (pc := 46) E d_M_close_46 rfl (by decide) ?_
            refine a_iinc (pc := 49) E d_M_close_49 rfl (by decide) ?_
            refine a_goto (tgt := 9) (pc := 52) E d_M_close_52 (by decide) ?_
            exact a_ls3 (ih (i + 1) _ _ _ (by omega) (nI_1 i) hIn h5n (by rw [← he]; simp [g_closeN, c_24, c_34]; try rfl) (by rw [← hM]; simp [g_closeM, c_24, c_34])) rfl rfl rfl
          · rw [e0] at c_34
            have hIn := hI'
            have h5n := h5
            refine a_goto (tgt := 49) (pc := 37) E d_M_close_37 (by decide) ?_
            refine a_iinc (pc := 49) E d_M_close_49 rfl (by decide) ?_
            refine a_goto (tgt := 9) (pc := 52) E d_M_close_52 (by decide) ?_
            exact a_ls3 (ih (i + 1) _ _ _ (by omega) (nI_1 i) hIn h5n (by rw [← he]; simp [g_closeN, c_24, c_34]; try rfl) (by rw [← hM]; simp [g_closeM, c_24, c_34])) rfl rfl rfl
  refine a_aload_n (pc := 0) E d_M_close_0 rfl rfl ?_
  refine a_iconst (v := 0) (pc := 1) E d_M_close_1 (by decide) ?_
  refine a_wr ?_
  refine p_M_0 (pc := 2) E d_M_close_2 fl_M_65 ?_
  refine a_iconst (v := 0) (pc := 5) E d_M_close_5 (by decide) ?_
  refine a_istore_n (pc := 6) E d_M_close_6 rfl (by decide) ?_
  refine a_iconst (v := 0) (pc := 7) E d_M_close_7 (by decide) ?_
  refine a_istore_n (pc := 8) E d_M_close_8 rfl (by decide) ?_
  exact a_ls3 (loop j 0 _ _ _ (Nat.zero_add _) (by decide) hJ.up0 (by simp [hm_up_at]) (by rw [h_close, ej, nI_clamp (by omega)]) (by rw [h_close, ej, nI_clamp (by omega)])) rfl rfl rfl
set_option maxHeartbeats 4000000 in
set_option maxRecDepth 100000 in
theorem c_M_told_no (l : Launch) (D : va_G) (ar : Nat → ClassId) (lay : Nat → Nat → Nat) (M : hm_M) (q w : Int32) (hp : g_in q 0 (M 20 0 3 - 1) = 0) : Ct l D ar lay y_M_told rm_p true [.ref (lay 20 0), .int q, .int w] M (.inl (some (.int 0), hm_up M 20 0 0 1)) := by
  refine Ct.of (cc := prog_5_method_29_code) (maxL := 5) (ret := (some .int)) (by decide) cd_M_told (Nat.le_of_ble_eq_true rfl) ?_
  intro p e s m below meth c E hr hlk hno hH
  refine a_aload_n (pc := 0) E d_M_told_0 rfl rfl ?_
  refine a_aload_n (pc := 1) E d_M_told_1 rfl rfl ?_
  refine a_iload_n (pc := 2) E d_M_told_2 rfl rfl ?_
  refine b_VI (pc := 3) (n := 1) E (c_M_isPart l D ar lay _ _) ⟨by decide, by decide, ml_M_79, im_M_isPart, sl_M_isPart, ii_M, cd_M_isPart, ⟨by decide, by decide⟩, by decide +kernel⟩ rfl (by decide) rfl rfl (by decide) rfl (Nat.le_of_ble_eq_true rfl) d_M_told_3 (by decide) ?_
  refine a_if_ne (tgt := 13) (pc := 6) E d_M_told_6 (by decide) (fun c_6 => ?_) (fun c_6 => ?_)
  · exact absurd hp c_6
  · refine a_iconst (v := 1) (pc := 9) E d_M_told_9 (by decide) ?_
    refine a_goto (tgt := 28) (pc := 10) E d_M_told_10 (by decide) ?_
    refine a_wr ?_
    refine p_M_0 (pc := 28) E d_M_told_28 fl_M_65 ?_
    refine a_aload_n (pc := 31) E d_M_told_31 rfl rfl ?_
    refine g_M_0 (pc := 32) E d_M_told_32 fl_M_65 ?_
    refine a_if_le (tgt := 40) (pc := 35) E d_M_told_35 (by decide) (fun c_35 => ?_) (fun c_35 => ?_)
    · exact absurd c_35 (by first | (simp [hm_up_at]; done) | (simp [hm_up_at]; decide) | (simp only [hm_up_at]; decide))
    · refine a_iconst (v := 0) (pc := 38) E d_M_told_38 (by decide) ?_
      exact a_iret (pc := 39) E hr hlk rfl d_M_told_39 (by decide) (by decide) (by decide) (by simp [hm_up_up])
set_option maxHeartbeats 4000000 in
set_option maxRecDepth 100000 in
theorem c_M_told_ok (l : Launch) (D : va_G) (ar : Nat → ClassId) (lay : Nat → Nat → Nat) (M : hm_M) (k : Nat) (w : Int32) (hk : k < 6) (hI : IvM M) (hp : ¬ g_in (nI k) 0 (M 20 0 3 - 1) = 0) : Ct l D ar lay y_M_told rm_p true [.ref (lay 20 0), .int (nI k), .int w] M (.inl (some (.int (h_told M k w).1), (h_told M k w).2)) := by
  refine Ct.of (cc := prog_5_method_29_code) (maxL := 5) (ret := (some .int)) (by decide) cd_M_told (Nat.le_of_ble_eq_true rfl) ?_
  intro p e s m below meth c E hr hlk hno hH
  have hkk : vp_in (nI k) 6 := vp_in_nI hk (by decide)
  have ek : (nI k).toNatClampNeg = k := nI_clamp (by omega)
  have loop : ∀ (n i : Nat) (x a : Int32), i + n = 8 → x = nI i → h_told M k w = (f_held (ab M) (nI k) n i a, hm_up M 20 0 0 0) → AW p l e rm_p s m [(.ref (lay 20 0) : Value), (.int (nI k) : Value), (.int w : Value)].toArray below meth c D ar lay true 5 0 0 (MQX below (fun _ st o t => CQ D ar lay M s.heap.size true (.inl (some (.int (h_told M k w).1), (h_told M k w).2)) st o t) [(.ref (lay 20 0) : Value), (.int (nI k) : Value), (.int w : Value)].toArray s rm_p.cells rm_p.slots (hw_A lay true s.heap.size)) 117 [(4, .int x), (3, .int a), (0, .ref (lay 20 0)), (1, .int (nI k)), (2, .int w)] [] (hm_up M 20 0 0 0) := by
    intro n
    induction n with
    | zero =>
      intro i x a hi hx he
      refine a_iload (pc := 117) E d_M_told_117 rfl ?_
      refine a_bipush (v := 8) (pc := 119) E d_M_told_119 (by decide) ?_
      refine a_icmp_ge (tgt := 149) (pc := 121) E d_M_told_121 (by decide) (fun c_121 => ?_) (fun c_121 => ?_)
      · refine a_iload_n (pc := 149) E d_M_told_149 rfl rfl ?_
        exact a_iret (pc := 150) E hr hlk rfl d_M_told_150 (by decide) (by decide) (by decide) (by rw [he]; rfl)
      · exact absurd (by rw [hx]; exact nI_le (a := 8) (b := i) (by omega) (by omega)) c_121
    | succ n ih =>
      intro i x a hi hx he
      have hin : vp_in x 8 := by rw [hx]; exact vp_in_nI (by omega) (by decide)
      have e0 : (nI i).toNatClampNeg = i := nI_clamp (by omega)
      have e2 : ab M 2 0 i = M 22 0 i := ab_hold i
      refine a_iload (pc := 117) E d_M_told_117 rfl ?_
      refine a_bipush (v := 8) (pc := 119) E d_M_told_119 (by decide) ?_
      refine a_icmp_ge (tgt := 149) (pc := 121) E d_M_told_121 (by decide) (fun c_121 => ?_) (fun c_121 => ?_)
      · exact absurd c_121 (by rw [hx]; exact nI_ge (a := i) (b := 8) (by omega) (by decide))
      · refine a_iload_n (pc := 124) E d_M_told_124 rfl rfl ?_
        refine a_aload_n (pc := 125) E d_M_told_125 rfl rfl ?_
        refine g_M_2 (pc := 126) E d_M_told_126 fl_M_13 ?_
        refine a_iload (pc := 129) E d_M_told_129 rfl ?_
        refine r_22 (pc := 131) E d_M_told_131 hin ?_
        refine a_iload_n (pc := 132) E d_M_told_132 rfl rfl ?_
        refine a_icmp_ne (tgt := 140) (pc := 133) E d_M_told_133 (by decide) (fun c_133 => ?_) (fun c_133 => ?_)
        · rw [hm_up_fam (by decide), hx, e0] at c_133
          refine a_iconst (v := 0) (pc := 140) E d_M_told_140 (by decide) ?_
          refine a_iadd (pc := 141) E d_M_told_141 ?_
          refine a_istore_n (pc := 142) E d_M_told_142 rfl (by decide) ?_
          refine a_iinc (pc := 143) E d_M_told_143 rfl (by decide) ?_
          refine a_goto (tgt := 117) (pc := 146) E d_M_told_146 (by decide) ?_
          exact a_ls5 (ih (i + 1) _ _ (by omega) (by rw [hx]; exact nI_1 i) (by rw [he]; simp [f_held, e2, c_133])) rfl rfl rfl rfl rfl
        · rw [hm_up_fam (by decide), hx, e0] at c_133
          refine a_iconst (v := 1) (pc := 136) E d_M_told_136 (by decide) ?_
          refine a_goto (tgt := 141) (pc := 137) E d_M_told_137 (by decide) ?_
          refine a_iadd (pc := 141) E d_M_told_141 ?_
          refine a_istore_n (pc := 142) E d_M_told_142 rfl (by decide) ?_
          refine a_iinc (pc := 143) E d_M_told_143 rfl (by decide) ?_
          refine a_goto (tgt := 117) (pc := 146) E d_M_told_146 (by decide) ?_
          exact a_ls5 (ih (i + 1) _ _ (by omega) (by rw [hx]; exact nI_1 i) (by rw [he]; simp [f_held, e2, c_133])) rfl rfl rfl rfl rfl
  refine a_aload_n (pc := 0) E d_M_told_0 rfl rfl ?_
  refine a_aload_n (pc := 1) E d_M_told_1 rfl rfl ?_
  refine a_iload_n (pc := 2) E d_M_told_2 rfl rfl ?_
  refine b_VI (pc := 3) (n := 1) E (c_M_isPart l D ar lay _ _) ⟨by decide, by decide, ml_M_79, im_M_isPart, sl_M_isPart, ii_M, cd_M_isPart, ⟨by decide, by decide⟩, by decide +kernel⟩ rfl (by decide) rfl rfl (by decide) rfl (Nat.le_of_ble_eq_true rfl) d_M_told_3 (by decide) ?_
  refine a_if_ne (tgt := 13) (pc := 6) E d_M_told_6 (by decide) (fun c_6 => ?_) (fun c_6 => ?_)
  · refine a_iload_n (pc := 13) E d_M_told_13 rfl rfl ?_
    refine a_iconst (v := 0) (pc := 14) E d_M_told_14 (by decide) ?_
    refine a_bipush (v := 6) (pc := 15) E d_M_told_15 (by decide) ?_
    refine b_SI (pc := 17) (n := 3) E (c_M_in l D ar lay _ _ _ _) ⟨by decide, by decide, ml_M_72, ss_M_in, ii_M, ⟨by decide, by decide⟩, by decide +kernel⟩ cd_M_in rfl (by decide) rfl (Nat.le_of_ble_eq_true rfl) d_M_told_17 (by decide) ?_
    refine a_if_ne (tgt := 27) (pc := 20) E d_M_told_20 (by decide) (fun c_20 => ?_) (fun c_20 => ?_)
    · refine a_iconst (v := 0) (pc := 27) E d_M_told_27 (by decide) ?_
      refine a_wr ?_
      refine p_M_0 (pc := 28) E d_M_told_28 fl_M_65 ?_
      refine a_aload_n (pc := 31) E d_M_told_31 rfl rfl ?_
      refine g_M_0 (pc := 32) E d_M_told_32 fl_M_65 ?_
      refine a_if_le (tgt := 40) (pc := 35) E d_M_told_35 (by decide) (fun c_35 => ?_) (fun c_35 => ?_)
      · refine a_iload_n (pc := 40) E d_M_told_40 rfl rfl ?_
        refine a_if_ne (tgt := 51) (pc := 41) E d_M_told_41 (by decide) (fun c_41 => ?_) (fun c_41 => ?_)
        · refine a_iload_n (pc := 51) E d_M_told_51 rfl rfl ?_
          refine a_iconst (v := 1) (pc := 52) E d_M_told_52 (by decide) ?_
          refine a_icmp_ne (tgt := 63) (pc := 53) E d_M_told_53 (by decide) (fun c_53 => ?_) (fun c_53 => ?_)
          · refine a_iload_n (pc := 63) E d_M_told_63 rfl rfl ?_
            refine a_iconst (v := 2) (pc := 64) E d_M_told_64 (by decide) ?_
            refine a_icmp_ne (tgt := 75) (pc := 65) E d_M_told_65 (by decide) (fun c_65 => ?_) (fun c_65 => ?_)
            · refine a_iload_n (pc := 75) E d_M_told_75 rfl rfl ?_
              refine a_iconst (v := 3) (pc := 76) E d_M_told_76 (by decide) ?_
              refine a_icmp_ne (tgt := 87) (pc := 77) E d_M_told_77 (by decide) (fun c_77 => ?_) (fun c_77 => ?_)
              · refine a_iload_n (pc := 87) E d_M_told_87 rfl rfl ?_
                refine a_iconst (v := 4) (pc := 88) E d_M_told_88 (by decide) ?_
                refine a_icmp_ne (tgt := 99) (pc := 89) E d_M_told_89 (by decide) (fun c_89 => ?_) (fun c_89 => ?_)
                · refine a_iload_n (pc := 99) E d_M_told_99 rfl rfl ?_
                  refine a_bipush (v := 6) (pc := 100) E d_M_told_100 (by decide) ?_
                  refine a_icmp_ne (tgt := 112) (pc := 102) E d_M_told_102 (by decide) (fun c_102 => ?_) (fun c_102 => ?_)
                  · refine a_iconst (v := 0) (pc := 112) E d_M_told_112 (by decide) ?_
                    refine a_istore_n (pc := 113) E d_M_told_113 rfl (by decide) ?_
                    refine a_iconst (v := 0) (pc := 114) E d_M_told_114 (by decide) ?_
                    refine a_istore (pc := 115) E d_M_told_115 (by decide) ?_
                    refine a_wr ?_
                    exact a_ls5 (loop 8 0 _ _ rfl (by decide) (by simp [h_told, c_20, c_41, c_53, c_65, c_77, c_89, c_102])) rfl rfl rfl rfl rfl
                  · refine a_aload_n (pc := 105) E d_M_told_105 rfl rfl ?_
                    refine g_M_9 (pc := 106) E d_M_told_106 fl_M_31 ?_
                    refine a_iload_n (pc := 109) E d_M_told_109 rfl rfl ?_
                    refine r_28 (pc := 110) E d_M_told_110 hkk ?_
                    exact a_iret (pc := 111) E hr hlk rfl d_M_told_111 (by decide) (by decide) (by decide) (by simp [h_told, hm_up_at, ek, gi_06, gi_16, gi_26, gi_36, gi_46, gi_66, c_6, c_20, c_41, c_53, c_65, c_77, c_89, c_102])
                · refine a_aload_n (pc := 92) E d_M_told_92 rfl rfl ?_
                  refine g_M_8 (pc := 93) E d_M_told_93 fl_M_28 ?_
                  refine a_iload_n (pc := 96) E d_M_told_96 rfl rfl ?_
                  refine r_27 (pc := 97) E d_M_told_97 hkk ?_
                  exact a_iret (pc := 98) E hr hlk rfl d_M_told_98 (by decide) (by decide) (by decide) (by simp [h_told, hm_up_at, ek, gi_06, gi_16, gi_26, gi_36, gi_46, gi_66, c_6, c_20, c_41, c_53, c_65, c_77, c_89])
              · refine a_aload_n (pc := 80) E d_M_told_80 rfl rfl ?_
                refine g_M_7 (pc := 81) E d_M_told_81 fl_M_25 ?_
                refine a_iload_n (pc := 84) E d_M_told_84 rfl rfl ?_
                refine r_26 (pc := 85) E d_M_told_85 hkk ?_
                exact a_iret (pc := 86) E hr hlk rfl d_M_told_86 (by decide) (by decide) (by decide) (by simp [h_told, hm_up_at, ek, gi_06, gi_16, gi_26, gi_36, gi_46, gi_66, c_6, c_20, c_41, c_53, c_65, c_77])
            · refine a_aload_n (pc := 68) E d_M_told_68 rfl rfl ?_
              refine g_M_6 (pc := 69) E d_M_told_69 fl_M_22 ?_
              refine a_iload_n (pc := 72) E d_M_told_72 rfl rfl ?_
              refine r_25 (pc := 73) E d_M_told_73 hkk ?_
              exact a_iret (pc := 74) E hr hlk rfl d_M_told_74 (by decide) (by decide) (by decide) (by simp [h_told, hm_up_at, ek, gi_06, gi_16, gi_26, gi_36, gi_46, gi_66, c_6, c_20, c_41, c_53, c_65])
          · refine a_aload_n (pc := 56) E d_M_told_56 rfl rfl ?_
            refine g_M_4 (pc := 57) E d_M_told_57 fl_M_16 ?_
            refine a_iload_n (pc := 60) E d_M_told_60 rfl rfl ?_
            refine r_23 (pc := 61) E d_M_told_61 hkk ?_
            exact a_iret (pc := 62) E hr hlk rfl d_M_told_62 (by decide) (by decide) (by decide) (by simp [h_told, hm_up_at, ek, gi_06, gi_16, gi_26, gi_36, gi_46, gi_66, c_6, c_20, c_41, c_53])
        · refine a_aload_n (pc := 44) E d_M_told_44 rfl rfl ?_
          refine g_M_5 (pc := 45) E d_M_told_45 fl_M_19 ?_
          refine a_iload_n (pc := 48) E d_M_told_48 rfl rfl ?_
          refine r_24 (pc := 49) E d_M_told_49 hkk ?_
          exact a_iret (pc := 50) E hr hlk rfl d_M_told_50 (by decide) (by decide) (by decide) (by simp [h_told, hm_up_at, ek, gi_06, gi_16, gi_26, gi_36, gi_46, gi_66, c_6, c_20, c_41])
      · exact absurd c_35 (by first | (simp [hm_up_at]; done) | (simp [hm_up_at]; decide) | (simp only [hm_up_at]; decide))
    · refine a_iconst (v := 2) (pc := 23) E d_M_told_23 (by decide) ?_
      refine a_goto (tgt := 28) (pc := 24) E d_M_told_24 (by decide) ?_
      refine a_wr ?_
      refine p_M_0 (pc := 28) E d_M_told_28 fl_M_65 ?_
      refine a_aload_n (pc := 31) E d_M_told_31 rfl rfl ?_
      refine g_M_0 (pc := 32) E d_M_told_32 fl_M_65 ?_
      refine a_if_le (tgt := 40) (pc := 35) E d_M_told_35 (by decide) (fun c_35 => ?_) (fun c_35 => ?_)
      · exact absurd c_35 (by first | (simp [hm_up_at]; done) | (simp [hm_up_at]; decide) | (simp only [hm_up_at]; decide))
      · refine a_iconst (v := 0) (pc := 38) E d_M_told_38 (by decide) ?_
        exact a_iret (pc := 39) E hr hlk rfl d_M_told_39 (by decide) (by decide) (by decide) (by simp [h_told, hm_up_at, ek, gi_06, gi_16, gi_26, gi_36, gi_46, gi_66, c_6, c_20])
  · exact absurd c_6 hp
set_option maxHeartbeats 4000000 in
set_option maxRecDepth 100000 in
theorem c_M_count (l : Launch) (D : va_G) (ar : Nat → ClassId) (lay : Nat → Nat → Nat) (M : hm_M) (w : Int32) (hI : IvM M) : Ct l D ar lay y_M_count rm_p true [.ref (lay 20 0), .int w] M (.inl (some (.int (h_count M w).1), (h_count M w).2)) := by
  refine Ct.of (cc := prog_5_method_30_code) (maxL := 4) (ret := (some .int)) (by decide) cd_M_count (Nat.le_of_ble_eq_true rfl) ?_
  intro p e s m below meth c E hr hlk hno hH
  have hs := hI.C.sent
  rw [(ab_20 M).2.2.2.2] at hs
  obtain ⟨j2, hj2, ej2⟩ := pc_nI (b := 60) hs.1 hs.2 (by decide)
  have hpc := hI.C.pc
  rw [(ab_20 M).1] at hpc
  obtain ⟨j1, hj1, ej1⟩ := pc_nI (b := 6) hpc.1 hpc.2 (by decide)
  have m15 : hm_up M 20 0 0 0 20 0 15 = nI j2 := by rw [← ej2]; simp [hm_up_at]
  have m3 : hm_up M 20 0 0 0 20 0 3 = nI j1 := by rw [← ej1]; simp [hm_up_at]
  have tail : ∀ (x a : Int32), (w = 4 ∨ w = 5 → f_count (ab M) w = a) → (¬ w = 4 → ¬ w = 5 → f_count (ab M) w = -1) → AW p l e rm_p s m [(.ref (lay 20 0) : Value), (.int w : Value)].toArray below meth c D ar lay true 4 0 0 (MQX below (fun _ st o t => CQ D ar lay M s.heap.size true (.inl (some (.int (h_count M w).1), (h_count M w).2)) st o t) [(.ref (lay 20 0) : Value), (.int w : Value)].toArray s rm_p.cells rm_p.slots (hw_A lay true s.heap.size)) 123 [(3, .int x), (2, .int a), (0, .ref (lay 20 0)), (1, .int w)] [] (hm_up M 20 0 0 0) := by
    intro x a h1 h2
    refine a_iload_n (pc := 123) E d_M_count_123 rfl rfl ?_
    refine a_iconst (v := 4) (pc := 124) E d_M_count_124 (by decide) ?_
    refine a_icmp_eq (tgt := 133) (pc := 125) E d_M_count_125 (by decide) (fun c_125 => ?_) (fun c_125 => ?_)
    · refine a_iload_n (pc := 133) E d_M_count_133 rfl rfl ?_
      refine a_goto (tgt := 138) (pc := 134) E d_M_count_134 (by decide) ?_
      exact a_iret (pc := 138) E hr hlk rfl d_M_count_138 (by decide) (by decide) (by decide) (by first | (rw [h_count, h1 (Or.inl c_125)]; done) | (rw [h_count, h1 (Or.inr c_130)]; done) | (rw [h_count, h2 c_125 c_130]))
    · refine a_iload_n (pc := 128) E d_M_count_128 rfl rfl ?_
      refine a_iconst (v := 5) (pc := 129) E d_M_count_129 (by decide) ?_
      refine a_icmp_ne (tgt := 137) (pc := 130) E d_M_count_130 (by decide) (fun c_130 => ?_) (fun c_130 => ?_)
      · refine a_iconst (v := (-1)) (pc := 137) E d_M_count_137 (by decide) ?_
        exact a_iret (pc := 138) E hr hlk rfl d_M_count_138 (by decide) (by decide) (by decide) (by first | (rw [h_count, h1 (Or.inl c_125)]; done) | (rw [h_count, h1 (Or.inr c_130)]; done) | (rw [h_count, h2 c_125 c_130]))
      · refine a_iload_n (pc := 133) E d_M_count_133 rfl rfl ?_
        refine a_goto (tgt := 138) (pc := 134) E d_M_count_134 (by decide) ?_
        exact a_iret (pc := 138) E hr hlk rfl d_M_count_138 (by decide) (by decide) (by decide) (by first | (rw [h_count, h1 (Or.inl c_125)]; done) | (rw [h_count, h1 (Or.inr c_130)]; done) | (rw [h_count, h2 c_125 c_130]))
  have pass : ∀ (x a : Int32), ¬ w = 5 → (w = 4 → f_count (ab M) w = a) → (¬ w = 4 → f_count (ab M) w = -1) → AW p l e rm_p s m [(.ref (lay 20 0) : Value), (.int w : Value)].toArray below meth c D ar lay true 4 0 0 (MQX below (fun _ st o t => CQ D ar lay M s.heap.size true (.inl (some (.int (h_count M w).1), (h_count M w).2)) st o t) [(.ref (lay 20 0) : Value), (.int w : Value)].toArray s rm_p.cells rm_p.slots (hw_A lay true s.heap.size)) 87 [(3, .int x), (2, .int a), (0, .ref (lay 20 0)), (1, .int w)] [] (hm_up M 20 0 0 0) := by
    intro x a n5 h1 h2
    refine a_iload_n (pc := 87) E d_M_count_87 rfl rfl ?_
    refine a_aload_n (pc := 88) E d_M_count_88 rfl rfl ?_
    refine g_M_15 (pc := 89) E d_M_count_89 fl_M_76 ?_
    refine a_icmp_gt (tgt := 123) (pc := 92) E d_M_count_92 (by decide) (fun c_92 => ?_) (fun c_92 => ?_)
    · exact tail x a (fun z => h1 (z.resolve_right n5)) (fun z _ => h2 z)
    · refine a_iload_n (pc := 95) E d_M_count_95 rfl rfl ?_
      refine a_iconst (v := 5) (pc := 96) E d_M_count_96 (by decide) ?_
      refine a_icmp_ne (tgt := 123) (pc := 97) E d_M_count_97 (by decide) (fun c_97 => ?_) (fun c_97 => ?_)
      · exact tail x a (fun z => h1 (z.resolve_right n5)) (fun z _ => h2 z)
      · exact absurd c_97 n5
  have way : w = 5 → ∀ (n i : Nat) (x a : Int32), i + n = j2 + 1 → x = nI i → f_count (ab M) w = f_way (ab M) n i a → AW p l e rm_p s m [(.ref (lay 20 0) : Value), (.int w : Value)].toArray below meth c D ar lay true 4 0 0 (MQX below (fun _ st o t => CQ D ar lay M s.heap.size true (.inl (some (.int (h_count M w).1), (h_count M w).2)) st o t) [(.ref (lay 20 0) : Value), (.int w : Value)].toArray s rm_p.cells rm_p.slots (hw_A lay true s.heap.size)) 87 [(3, .int x), (2, .int a), (0, .ref (lay 20 0)), (1, .int w)] [] (hm_up M 20 0 0 0) := by
    intro h5 n
    induction n with
    | zero =>
      intro i x a hi hx he
      refine a_iload_n (pc := 87) E d_M_count_87 rfl rfl ?_
      refine a_aload_n (pc := 88) E d_M_count_88 rfl rfl ?_
      refine g_M_15 (pc := 89) E d_M_count_89 fl_M_76 ?_
      refine a_icmp_gt (tgt := 123) (pc := 92) E d_M_count_92 (by decide) (fun c_92 => ?_) (fun c_92 => ?_)
      · exact tail x a (fun _ => he) (fun _ z => absurd h5 z)
      · exact absurd (by rw [hx, m15]; exact nI_lt (by omega) (by omega)) c_92
    | succ n ih =>
      intro i x a hi hx he
      have hin : vp_in x 61 := by rw [hx]; exact vp_in_nI (by omega) (by decide)
      have e0 : (nI i).toNatClampNeg = i := nI_clamp (by omega)
      have e2 : ab M 6 0 i = M 34 0 i := by simp [ab]
      refine a_iload_n (pc := 87) E d_M_count_87 rfl rfl ?_
      refine a_aload_n (pc := 88) E d_M_count_88 rfl rfl ?_
      refine g_M_15 (pc := 89) E d_M_count_89 fl_M_76 ?_
      refine a_icmp_gt (tgt := 123) (pc := 92) E d_M_count_92 (by decide) (fun c_92 => ?_) (fun c_92 => ?_)
      · exact absurd c_92 (by rw [hx, m15]; exact nI_nlt (by omega) (by omega))
      · refine a_iload_n (pc := 95) E d_M_count_95 rfl rfl ?_
        refine a_iconst (v := 5) (pc := 96) E d_M_count_96 (by decide) ?_
        refine a_icmp_ne (tgt := 123) (pc := 97) E d_M_count_97 (by decide) (fun c_97 => ?_) (fun c_97 => ?_)
        · exact absurd h5 c_97
        · refine a_iload_n (pc := 100) E d_M_count_100 rfl rfl ?_
          refine a_aload_n (pc := 101) E d_M_count_101 rfl rfl ?_
          refine g_M_17 (pc := 102) E d_M_count_102 fl_M_50 ?_
          refine a_iload_n (pc := 105) E d_M_count_105 rfl rfl ?_
          refine r_34 (pc := 106) E d_M_count_106 hin ?_
          refine a_if_ne (tgt := 114) (pc := 107) E d_M_count_107 (by decide) (fun c_107 => ?_) (fun c_107 => ?_)
          · rw [hm_up_fam (by decide), hx, e0] at c_107
            refine a_iconst (v := 0) (pc := 114) E d_M_count_114 (by decide) ?_
            refine a_iadd (pc := 115) E d_M_count_115 ?_
            refine a_istore_n (pc := 116) E d_M_count_116 rfl (by decide) ?_
            refine a_iinc (pc := 117) E d_M_count_117 rfl (by decide) ?_
            refine a_goto (tgt := 87) (pc := 120) E d_M_count_120 (by decide) ?_
            exact a_ls4 (ih (i + 1) _ _ (by omega) (by rw [hx]; exact nI_1 i) (by rw [he]; simp [f_way, e2, c_107])) rfl rfl rfl rfl
          · rw [hm_up_fam (by decide), hx, e0] at c_107
            refine a_iconst (v := 1) (pc := 110) E d_M_count_110 (by decide) ?_
            refine a_goto (tgt := 115) (pc := 111) E d_M_count_111 (by decide) ?_
            refine a_iadd (pc := 115) E d_M_count_115 ?_
            refine a_istore_n (pc := 116) E d_M_count_116 rfl (by decide) ?_
            refine a_iinc (pc := 117) E d_M_count_117 rfl (by decide) ?_
            refine a_goto (tgt := 87) (pc := 120) E d_M_count_120 (by decide) ?_
            exact a_ls4 (ih (i + 1) _ _ (by omega) (by rw [hx]; exact nI_1 i) (by rw [he]; simp [f_way, e2, c_107])) rfl rfl rfl rfl
  have done : w = 4 → ∀ (n i : Nat) (x a : Int32), i + n = j1 → x = nI i → f_count (ab M) w = f_done (ab M) n i a → AW p l e rm_p s m [(.ref (lay 20 0) : Value), (.int w : Value)].toArray below meth c D ar lay true 4 0 0 (MQX below (fun _ st o t => CQ D ar lay M s.heap.size true (.inl (some (.int (h_count M w).1), (h_count M w).2)) st o t) [(.ref (lay 20 0) : Value), (.int w : Value)].toArray s rm_p.cells rm_p.slots (hw_A lay true s.heap.size)) 48 [(3, .int x), (2, .int a), (0, .ref (lay 20 0)), (1, .int w)] [] (hm_up M 20 0 0 0) := by
    intro h4 n
    induction n with
    | zero =>
      intro i x a hi hx he
      refine a_iload_n (pc := 48) E d_M_count_48 rfl rfl ?_
      refine a_aload_n (pc := 49) E d_M_count_49 rfl rfl ?_
      refine g_M_3 (pc := 50) E d_M_count_50 fl_M_69 ?_
      refine a_icmp_ge (tgt := 85) (pc := 53) E d_M_count_53 (by decide) (fun c_53 => ?_) (fun c_53 => ?_)
      · refine a_iconst (v := 1) (pc := 85) E d_M_count_85 (by decide) ?_
        refine a_istore_n (pc := 86) E d_M_count_86 rfl (by decide) ?_
        exact a_ls4 (pass _ a (by rw [h4]; decide) (fun _ => he) (fun z => absurd h4 z)) rfl rfl rfl rfl
      · exact absurd (by rw [hx, m3]; exact nI_le (by omega) (by omega)) c_53
    | succ n ih =>
      intro i x a hi hx he
      have hin : vp_in x 6 := by rw [hx]; exact vp_in_nI (by omega) (by decide)
      have e0 : (nI i).toNatClampNeg = i := nI_clamp (by omega)
      have e2 : ab M 10 i 2 = M 24 0 i := (ab_at (by omega)).2.2.1
      refine a_iload_n (pc := 48) E d_M_count_48 rfl rfl ?_
      refine a_aload_n (pc := 49) E d_M_count_49 rfl rfl ?_
      refine g_M_3 (pc := 50) E d_M_count_50 fl_M_69 ?_
      refine a_icmp_ge (tgt := 85) (pc := 53) E d_M_count_53 (by decide) (fun c_53 => ?_) (fun c_53 => ?_)
      · exact absurd c_53 (by rw [hx, m3]; exact nI_ge (by omega) (by omega))
      · refine a_iload_n (pc := 56) E d_M_count_56 rfl rfl ?_
        refine a_iconst (v := 4) (pc := 57) E d_M_count_57 (by decide) ?_
        refine a_icmp_ne (tgt := 85) (pc := 58) E d_M_count_58 (by decide) (fun c_58 => ?_) (fun c_58 => ?_)
        · exact absurd h4 c_58
        · refine a_iload_n (pc := 61) E d_M_count_61 rfl rfl ?_
          refine a_aload_n (pc := 62) E d_M_count_62 rfl rfl ?_
          refine g_M_5 (pc := 63) E d_M_count_63 fl_M_19 ?_
          refine a_iload_n (pc := 66) E d_M_count_66 rfl rfl ?_
          refine r_24 (pc := 67) E d_M_count_67 hin ?_
          refine a_iconst (v := 3) (pc := 68) E d_M_count_68 (by decide) ?_
          refine a_icmp_ne (tgt := 76) (pc := 69) E d_M_count_69 (by decide) (fun c_69 => ?_) (fun c_69 => ?_)
          · rw [hm_up_fam (by decide), hx, e0] at c_69
            refine a_iconst (v := 0) (pc := 76) E d_M_count_76 (by decide) ?_
            refine a_iadd (pc := 77) E d_M_count_77 ?_
            refine a_istore_n (pc := 78) E d_M_count_78 rfl (by decide) ?_
            refine a_iinc (pc := 79) E d_M_count_79 rfl (by decide) ?_
            refine a_goto (tgt := 48) (pc := 82) E d_M_count_82 (by decide) ?_
            exact a_ls4 (ih (i + 1) _ _ (by omega) (by rw [hx]; exact nI_1 i) (by rw [he]; simp [f_done, e2, c_69])) rfl rfl rfl rfl
          · rw [hm_up_fam (by decide), hx, e0] at c_69
            refine a_iconst (v := 1) (pc := 72) E d_M_count_72 (by decide) ?_
            refine a_goto (tgt := 77) (pc := 73) E d_M_count_73 (by decide) ?_
            refine a_iadd (pc := 77) E d_M_count_77 ?_
            refine a_istore_n (pc := 78) E d_M_count_78 rfl (by decide) ?_
            refine a_iinc (pc := 79) E d_M_count_79 rfl (by decide) ?_
            refine a_goto (tgt := 48) (pc := 82) E d_M_count_82 (by decide) ?_
            exact a_ls4 (ih (i + 1) _ _ (by omega) (by rw [hx]; exact nI_1 i) (by rw [he]; simp [f_done, e2, c_69])) rfl rfl rfl rfl
  have skip : ¬ w = 0 → ¬ w = 1 → ¬ w = 2 → ¬ w = 3 → ¬ w = 4 → ∀ (x : Int32), AW p l e rm_p s m [(.ref (lay 20 0) : Value), (.int w : Value)].toArray below meth c D ar lay true 4 0 0 (MQX below (fun _ st o t => CQ D ar lay M s.heap.size true (.inl (some (.int (h_count M w).1), (h_count M w).2)) st o t) [(.ref (lay 20 0) : Value), (.int w : Value)].toArray s rm_p.cells rm_p.slots (hw_A lay true s.heap.size)) 48 [(3, .int x), (2, .int 0), (0, .ref (lay 20 0)), (1, .int w)] [] (hm_up M 20 0 0 0) := by
    intro n0 n1 n2 n3 n4 x
    refine a_iload_n (pc := 48) E d_M_count_48 rfl rfl ?_
    refine a_aload_n (pc := 49) E d_M_count_49 rfl rfl ?_
    refine g_M_3 (pc := 50) E d_M_count_50 fl_M_69 ?_
    refine a_icmp_ge (tgt := 85) (pc := 53) E d_M_count_53 (by decide) (fun c_53 => ?_) (fun c_53 => ?_)
    · refine a_iconst (v := 1) (pc := 85) E d_M_count_85 (by decide) ?_
      refine a_istore_n (pc := 86) E d_M_count_86 rfl (by decide) ?_
      by_cases h5 : w = 5
      · exact a_ls4 (way h5 j2 1 _ _ (by omega) (by decide) (by rw [f_count, if_neg n0, if_neg n1, if_neg n2, if_neg n3, if_neg n4, if_pos h5, (ab_20 M).2.2.2.2, ej2, nI_clamp (by omega)])) rfl rfl rfl rfl
      · exact a_ls4 (pass _ _ h5 (fun z => absurd z n4) (fun _ => by rw [f_count, if_neg n0, if_neg n1, if_neg n2, if_neg n3, if_neg n4, if_neg h5])) rfl rfl rfl rfl
    · refine a_iload_n (pc := 56) E d_M_count_56 rfl rfl ?_
      refine a_iconst (v := 4) (pc := 57) E d_M_count_57 (by decide) ?_
      refine a_icmp_ne (tgt := 85) (pc := 58) E d_M_count_58 (by decide) (fun c_58 => ?_) (fun c_58 => ?_)
      · refine a_iconst (v := 1) (pc := 85) E d_M_count_85 (by decide) ?_
        refine a_istore_n (pc := 86) E d_M_count_86 rfl (by decide) ?_
        by_cases h5 : w = 5
        · exact a_ls4 (way h5 j2 1 _ _ (by omega) (by decide) (by rw [f_count, if_neg n0, if_neg n1, if_neg n2, if_neg n3, if_neg n4, if_pos h5, (ab_20 M).2.2.2.2, ej2, nI_clamp (by omega)])) rfl rfl rfl rfl
        · exact a_ls4 (pass _ _ h5 (fun z => absurd z n4) (fun _ => by rw [f_count, if_neg n0, if_neg n1, if_neg n2, if_neg n3, if_neg n4, if_neg h5])) rfl rfl rfl rfl
      · exact absurd c_58 n4
  refine a_aload_n (pc := 0) E d_M_count_0 rfl rfl ?_
  refine a_iconst (v := 0) (pc := 1) E d_M_count_1 (by decide) ?_
  refine a_wr ?_
  refine p_M_0 (pc := 2) E d_M_count_2 fl_M_65 ?_
  refine a_iload_n (pc := 5) E d_M_count_5 rfl rfl ?_
  refine a_if_ne (tgt := 14) (pc := 6) E d_M_count_6 (by decide) (fun c_6 => ?_) (fun c_6 => ?_)
  · refine a_iload_n (pc := 14) E d_M_count_14 rfl rfl ?_
    refine a_iconst (v := 1) (pc := 15) E d_M_count_15 (by decide) ?_
    refine a_icmp_ne (tgt := 24) (pc := 16) E d_M_count_16 (by decide) (fun c_16 => ?_) (fun c_16 => ?_)
    · refine a_iload_n (pc := 24) E d_M_count_24 rfl rfl ?_
      refine a_iconst (v := 2) (pc := 25) E d_M_count_25 (by decide) ?_
      refine a_icmp_ne (tgt := 34) (pc := 26) E d_M_count_26 (by decide) (fun c_26 => ?_) (fun c_26 => ?_)
      · refine a_iload_n (pc := 34) E d_M_count_34 rfl rfl ?_
        refine a_iconst (v := 3) (pc := 35) E d_M_count_35 (by decide) ?_
        refine a_icmp_ne (tgt := 44) (pc := 36) E d_M_count_36 (by decide) (fun c_36 => ?_) (fun c_36 => ?_)
        · refine a_iconst (v := 0) (pc := 44) E d_M_count_44 (by decide) ?_
          refine a_istore_n (pc := 45) E d_M_count_45 rfl (by decide) ?_
          refine a_iconst (v := 0) (pc := 46) E d_M_count_46 (by decide) ?_
          refine a_istore_n (pc := 47) E d_M_count_47 rfl (by decide) ?_
          by_cases h4 : w = 4
          · exact a_ls4 (done h4 j1 0 _ _ (Nat.zero_add _) (by decide) (by rw [f_count, if_neg c_6, if_neg c_16, if_neg c_26, if_neg c_36, if_pos h4, (ab_20 M).1, ej1, nI_clamp (by omega)])) rfl rfl rfl rfl
          · exact a_ls4 (skip c_6 c_16 c_26 c_36 h4 _) rfl rfl rfl rfl
        · refine a_aload_n (pc := 39) E d_M_count_39 rfl rfl ?_
          refine g_M_22 (pc := 40) E d_M_count_40 fl_M_98 ?_
          exact a_iret (pc := 43) E hr hlk rfl d_M_count_43 (by decide) (by decide) (by decide) (by simp [h_count, f_count, (ab_20 M).1, (ab_20 M).2.1, (ab_20 M).2.2.1, (ab_20 M).2.2.2.2, hm_up_at, c_6, c_16, c_26, c_36])
      · refine a_aload_n (pc := 29) E d_M_count_29 rfl rfl ?_
        refine g_M_21 (pc := 30) E d_M_count_30 fl_M_104 ?_
        exact a_iret (pc := 33) E hr hlk rfl d_M_count_33 (by decide) (by decide) (by decide) (by simp [h_count, f_count, (ab_20 M).1, (ab_20 M).2.1, (ab_20 M).2.2.1, (ab_20 M).2.2.2.2, hm_up_at, c_6, c_16, c_26])
    · refine a_aload_n (pc := 19) E d_M_count_19 rfl rfl ?_
      refine g_M_15 (pc := 20) E d_M_count_20 fl_M_76 ?_
      exact a_iret (pc := 23) E hr hlk rfl d_M_count_23 (by decide) (by decide) (by decide) (by simp [h_count, f_count, (ab_20 M).1, (ab_20 M).2.1, (ab_20 M).2.2.1, (ab_20 M).2.2.2.2, hm_up_at, c_6, c_16])
  · refine a_aload_n (pc := 9) E d_M_count_9 rfl rfl ?_
    refine g_M_3 (pc := 10) E d_M_count_10 fl_M_69 ?_
    exact a_iret (pc := 13) E hr hlk rfl d_M_count_13 (by decide) (by decide) (by decide) (by simp [h_count, f_count, (ab_20 M).1, (ab_20 M).2.1, (ab_20 M).2.2.1, (ab_20 M).2.2.2.2, hm_up_at, c_6])
