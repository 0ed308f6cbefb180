theorem c_Q_add_ok (l : Launch) (D : va_G) (ar : Nat → ClassId) (lay : Nat → Nat → Nat) (M : hm_M) (fr tt vl ls : Int32) (hs : 0 ≤ (M 4 0 4).toInt) (h : M 4 0 4 < 60) : Ct l D ar lay y_Q_add rm_0 true [.ref (lay 4 0), .int fr, .int tt, .int vl, .int ls] M (.inl (some (.int (M 4 0 4 + 1)), f_add M fr tt vl ls)) := by
  have := c_Q_add l D ar lay M fr tt vl ls hs
  simpa only [if_pos h] using this
theorem c_Q_add_no (l : Launch) (D : va_G) (ar : Nat → ClassId) (lay : Nat → Nat → Nat) (M : hm_M) (fr tt vl ls : Int32) (hs : 0 ≤ (M 4 0 4).toInt) (h : ¬ M 4 0 4 < 60) : Ct l D ar lay y_Q_add rm_0 true [.ref (lay 4 0), .int fr, .int tt, .int vl, .int ls] M (.inl (some (.int (-1)), M)) := by
  have := c_Q_add l D ar lay M fr tt vl ls hs
  simpa only [if_neg h] using this
theorem f_gets_ok {M : hm_M} {k : Nat} {a : Int32} (h : ¬ f_getsR M k a = 0) : f_getsM M k a = hm_up M 2 0 a.toNatClampNeg (M 10 k 0) := by simp only [f_getsM, if_neg h]
def f_chg (M : hm_M) (k : Nat) : hm_M :=
  if f_getsR M k (M 12 k (M 10 k 3).toNatClampNeg) = 0 then f_getsM M k (M 12 k (M 10 k 3).toNatClampNeg)
  else f_sd (hm_up (hm_up M 2 0 (M 12 k (M 10 k 3).toNatClampNeg).toNatClampNeg (M 10 k 0)) 1 0 (M 12 k (M 10 k 3).toNatClampNeg).toNatClampNeg (M 1 0 (M 12 k (M 10 k 3).toNatClampNeg).toNatClampNeg + M 13 k (M 10 k 3).toNatClampNeg)) k
theorem IvC.up1 {M : hm_M} (h : IvC M) {j : Nat} {x : Int32} : IvC (hm_up M 1 0 j x) :=
  h.same (by simp [hm_up_at]) (by simp [hm_up_at]) (by simp [hm_up_at]) (fun k j _ _ => by simp [hm_up_at]) (hm_up_fam (by decide)) (hm_up_fam (by decide)) (hm_up_fam (by decide)) (hm_up_fam (by decide))
theorem IvC.up6 {M : hm_M} (h : IvC M) {j : Nat} {x : Int32} : IvC (hm_up M 6 0 j x) :=
  h.same (by simp [hm_up_at]) (by simp [hm_up_at]) (by simp [hm_up_at]) (fun k j _ _ => by simp [hm_up_at]) (hm_up_fam (by decide)) (hm_up_fam (by decide)) (hm_up_fam (by decide)) (hm_up_fam (by decide))
theorem IvC.up14 {M : hm_M} (h : IvC M) {k j : Nat} {x : Int32} : IvC (hm_up M 14 k j x) :=
  h.same (by simp [hm_up_at]) (by simp [hm_up_at]) (by simp [hm_up_at]) (fun k j _ _ => by simp [hm_up_at]) (hm_up_fam (by decide)) (hm_up_fam (by decide)) (hm_up_fam (by decide)) (hm_up_fam (by decide))
theorem IvC.up15 {M : hm_M} (h : IvC M) {k i : Nat} {x : Int32} (hx : 0 ≤ x.toInt ∧ x.toInt ≤ 60) : IvC (hm_up M 15 k i x) := by
  obtain ⟨g1, g2, g3, g4, g5, g6, g7, g8, g9⟩ := h
  refine ⟨by simpa [hm_up_at] using g1, by simpa [hm_up_at] using g2, by simpa [hm_up_at] using g3, by simpa [hm_up_at] using g4, by simpa [hm_up_at] using g5, by simpa [hm_up_at] using g6, fun k' i' hk' => ?_, by simpa [hm_up_at] using g8, by simpa [hm_up_at] using g9⟩
  by_cases q : k' = k ∧ i' = i
  · have e : hm_up M 15 k i x 15 k' i' = x := by simp [hm_up_at, q]
    rw [e]; exact hx
  · have e : hm_up M 15 k i x 15 k' i' = M 15 k' i' := by simp [hm_up_at]; intro a b; exact absurd ⟨a, b⟩ q
    rw [e]; exact g7 k' i' hk'
theorem IvC.addM {M : hm_M} (h : IvC M) (h60 : M 4 0 4 < 60) (fr tt vl ls : Int32) : IvC (f_add M fr tt vl ls) := by
  obtain ⟨g1, g2, g3, g4, g5, g6, g7, g8, g9⟩ := h
  have q := lt_n 60 (by decide) h60
  refine ⟨by simpa [f_add, hm_up_at] using g1, by simpa [f_add, hm_up_at] using g2, ?_, by simpa [f_add, hm_up_at] using g4, by simpa [f_add, hm_up_at] using g5, by simpa [f_add, hm_up_at] using g6, by simpa [f_add, hm_up_at] using g7, by simpa [f_add, hm_up_at] using g8, by simpa [f_add, hm_up_at] using g9⟩
  have e : f_add M fr tt vl ls 4 0 4 = M 4 0 4 + 1 := by simp [f_add, hm_up_at]
  rw [e, inc_toInt g3.1 (by omega)]
  omega
set_option maxHeartbeats 4000000 in
set_option maxRecDepth 100000 in
theorem c_H_tryChange (l : Launch) (D : va_G) (ar : Nat → ClassId) (lay : Nat → Nat → Nat) (M : hm_M) (k : Nat) (hk : k < 6) (hI : IvC M) (hw : (M 10 k 3).toInt < (M 10 k 4).toInt ∧ M 11 k (M 10 k 3).toNatClampNeg ≠ 1) : Ct l D ar lay y_H_tryChange rm_4 true [.ref (lay 0 0), .ref (lay 10 k)] M (.inl (none, f_chg M k)) := by
  refine Ct.of (cc := prog_1_method_24_code) (maxL := 3) (ret := none) (by decide) cd_H_tryChange (Nat.le_of_ble_eq_true rfl) ?_
  intro p e s m below meth c E hr hlk hno hH
  have hat : vp_in (M 10 k 3) 10 := ix_of (hI.at hk).1 (by have := hI.at hk; omega)
  have ha : vp_in (M 12 k (M 10 k 3).toNatClampNeg) 8 := hI.a hk (by rw [nn_eq]; have := hI.at hk; omega) hw.2
  refine a_aload_n (pc := 0) E d_H_tryChange_0 rfl rfl ?_
  refine g_P_7 (pc := 1) E (by assumption) d_H_tryChange_1 fl_H_198 ?_
  refine a_aload_n (pc := 4) E d_H_tryChange_4 rfl rfl ?_
  refine g_P_3 (pc := 5) E (by assumption) d_H_tryChange_5 fl_H_64 ?_
  refine r_12 (pc := 8) E (by assumption) d_H_tryChange_8 hat ?_
  refine a_istore_n (pc := 9) E d_H_tryChange_9 rfl (by decide) ?_
  refine a_aload_n (pc := 10) E d_H_tryChange_10 rfl rfl ?_
  refine a_aload_n (pc := 11) E d_H_tryChange_11 rfl rfl ?_
  refine a_iload_n (pc := 12) E d_H_tryChange_12 rfl rfl ?_
  refine a_wr ?_
  refine b_VI (pc := 13) (n := 2) E (c_H_getsPlace l D ar lay _ k _ hk hI ha hw) ⟨by decide, by decide, ml_H_201, im_H_getsPlace, sl_H_getsPlace, ii_H, cd_H_getsPlace, ⟨by decide, by decide⟩, by decide +kernel⟩ rfl (by decide) rfl rfl (by decide) rfl (Nat.le_of_ble_eq_true rfl) d_H_tryChange_13 (by decide) ?_
  refine a_if_eq (tgt := 42) (pc := 16) E d_H_tryChange_16 (by decide) (fun c_16 => ?_) (fun c_16 => ?_)
  · exact a_vret (pc := 42) E hr hlk d_H_tryChange_42 (by decide) (by decide) (by decide) (by simp [f_chg, hm_up_at, c_16])
  · rw [f_gets_ok c_16]
    refine a_aload_n (pc := 19) E d_H_tryChange_19 rfl rfl ?_
    refine g_H_0 (pc := 20) E d_H_tryChange_20 fl_H_9 ?_
    refine a_iload_n (pc := 23) E d_H_tryChange_23 rfl rfl ?_
    refine a_dup2 (pc := 24) E d_H_tryChange_24 rfl rfl ?_
    refine r_1 (pc := 25) E d_H_tryChange_25 ha ?_
    refine a_aload_n (pc := 26) E d_H_tryChange_26 rfl rfl ?_
    refine g_P_8 (pc := 27) E (by assumption) d_H_tryChange_27 fl_H_205 ?_
    refine a_aload_n (pc := 30) E d_H_tryChange_30 rfl rfl ?_
    refine g_P_3 (pc := 31) E (by assumption) d_H_tryChange_31 fl_H_64 ?_
    refine r_13 (pc := 34) E (by assumption) d_H_tryChange_34 (by simpa [hm_up_at] using hat) ?_
    refine a_iadd (pc := 35) E d_H_tryChange_35 ?_
    refine s_1 (pc := 36) E d_H_tryChange_36 ha ?_
    refine a_aload_n (pc := 37) E d_H_tryChange_37 rfl rfl ?_
    refine a_aload_n (pc := 38) E d_H_tryChange_38 rfl rfl ?_
    refine b_VZ (pc := 39) (n := 1) E (c_H_stepIsDone l D ar lay _ _ hk (IvC.up1 (hI.up2 (hI.numIn hk)))) ⟨by decide, by decide, ml_H_208, im_H_stepIsDone, sl_H_stepIsDone, ii_H, cd_H_stepIsDone, ⟨by decide, by decide⟩, by decide +kernel⟩ rfl (by decide) rfl rfl (by decide) rfl (Nat.le_of_ble_eq_true rfl) d_H_tryChange_39 (by decide) ?_
    exact a_vret (pc := 42) E hr hlk d_H_tryChange_42 (by decide) (by decide) (by decide) (by simp [f_chg, hm_up_at, c_16])
def f_send (M : hm_M) (k : Nat) : hm_M := if M 4 0 4 < 60 then f_sd (hm_up (f_add M (M 10 k 0) (M 12 k (M 10 k 3).toNatClampNeg) (M 13 k (M 10 k 3).toNatClampNeg) (M 0 0 9)) 15 k (M 10 k 3).toNatClampNeg (M 4 0 4 + 1)) k else f_undo M k 4
set_option maxHeartbeats 4000000 in
set_option maxRecDepth 100000 in
theorem c_H_trySend (l : Launch) (D : va_G) (ar : Nat → ClassId) (lay : Nat → Nat → Nat) (M : hm_M) (k : Nat) (hk : k < 6) (hI : IvC M) (hw : (M 10 k 3).toInt < (M 10 k 4).toInt) : Ct l D ar lay y_H_trySend rm_3 true [.ref (lay 0 0), .ref (lay 10 k)] M (.inl (none, f_send M k)) := by
  refine Ct.of (cc := prog_1_method_25_code) (maxL := 3) (ret := none) (by decide) cd_H_trySend (Nat.le_of_ble_eq_true rfl) ?_
  intro p e s m below meth c E hr hlk hno hH
  have hat : vp_in (M 10 k 3) 10 := ix_of (hI.at hk).1 (by have := hI.at hk; omega)
  by_cases h60 : M 4 0 4 < 60
  · have hs1 : 0 ≤ (M 4 0 4 + 1).toInt ∧ (M 4 0 4 + 1).toInt ≤ 60 := by
      have q := lt_n 60 (by decide) h60
      rw [inc_toInt hI.sent.1 (by omega)]; have := hI.sent; omega
    refine a_aload_n (pc := 0) E d_H_trySend_0 rfl rfl ?_
    refine g_H_3 (pc := 1) E d_H_trySend_1 fl_H_25 ?_
    refine a_aload_n (pc := 4) E d_H_trySend_4 rfl rfl ?_
    refine g_P_0 (pc := 5) E (by assumption) d_H_trySend_5 fl_H_211 ?_
    refine a_aload_n (pc := 8) E d_H_trySend_8 rfl rfl ?_
    refine g_P_7 (pc := 9) E (by assumption) d_H_trySend_9 fl_H_198 ?_
    refine a_aload_n (pc := 12) E d_H_trySend_12 rfl rfl ?_
    refine g_P_3 (pc := 13) E (by assumption) d_H_trySend_13 fl_H_64 ?_
    refine r_12 (pc := 16) E (by assumption) d_H_trySend_16 hat ?_
    refine a_aload_n (pc := 17) E d_H_trySend_17 rfl rfl ?_
    refine g_P_8 (pc := 18) E (by assumption) d_H_trySend_18 fl_H_205 ?_
    refine a_aload_n (pc := 21) E d_H_trySend_21 rfl rfl ?_
    refine g_P_3 (pc := 22) E (by assumption) d_H_trySend_22 fl_H_64 ?_
    refine r_13 (pc := 25) E (by assumption) d_H_trySend_25 hat ?_
    refine a_aload_n (pc := 26) E d_H_trySend_26 rfl rfl ?_
    refine g_H_9 (pc := 27) E d_H_trySend_27 fl_H_89 ?_
    refine a_wr ?_
    refine b_VI (pc := 30) (n := 4) E (c_Q_add_ok l D ar lay _ _ _ _ _ hI.sent.1 h60) ⟨by decide, by decide, ml_H_214, im_Q_add, sl_Q_add, ii_Q, cd_Q_add, ⟨by decide, by decide⟩, by decide +kernel⟩ rfl (by decide) rfl rfl (by decide) rfl (Nat.le_of_ble_eq_true rfl) d_H_trySend_30 (by decide) ?_
    refine a_istore_n (pc := 33) E d_H_trySend_33 rfl (by decide) ?_
    refine a_iload_n (pc := 34) E d_H_trySend_34 rfl rfl ?_
    refine a_iconst (v := (-1)) (pc := 35) E d_H_trySend_35 (by decide) ?_
    refine a_icmp_ne (tgt := 47) (pc := 36) E d_H_trySend_36 (by decide) (fun c_36 => ?_) (fun c_36 => ?_)
    · refine a_aload_n (pc := 47) E d_H_trySend_47 rfl rfl ?_
      refine g_P_10 (pc := 48) E (by assumption) d_H_trySend_48 fl_H_218 ?_
      refine a_aload_n (pc := 51) E d_H_trySend_51 rfl rfl ?_
      refine g_P_3 (pc := 52) E (by assumption) d_H_trySend_52 fl_H_64 ?_
      refine a_iload_n (pc := 55) E d_H_trySend_55 rfl rfl ?_
      refine s_15 (pc := 56) E (by assumption) d_H_trySend_56 (by simpa [f_add, hm_up_at] using hat) ?_
      refine a_aload_n (pc := 57) E d_H_trySend_57 rfl rfl ?_
      refine a_aload_n (pc := 58) E d_H_trySend_58 rfl rfl ?_
      refine b_VZ (pc := 59) (n := 1) E (c_H_stepIsDone l D ar lay _ _ hk (IvC.up15 (hI.addM h60 _ _ _ _) hs1)) ⟨by decide, by decide, ml_H_208, im_H_stepIsDone, sl_H_stepIsDone, ii_H, cd_H_stepIsDone, ⟨by decide, by decide⟩, by decide +kernel⟩ rfl (by decide) rfl rfl (by decide) rfl (Nat.le_of_ble_eq_true rfl) d_H_trySend_59 (by decide) ?_
      exact a_vret (pc := 62) E hr hlk d_H_trySend_62 (by decide) (by decide) (by decide) (by simp [f_send, f_add, hm_up_at, h60])
    · exact absurd c_36 (fun q => by rw [q] at hs1; exact absurd hs1.1 (by decide))
  · skip
    refine a_aload_n (pc := 0) E d_H_trySend_0 rfl rfl ?_
    refine g_H_3 (pc := 1) E d_H_trySend_1 fl_H_25 ?_
    refine a_aload_n (pc := 4) E d_H_trySend_4 rfl rfl ?_
    refine g_P_0 (pc := 5) E (by assumption) d_H_trySend_5 fl_H_211 ?_
    refine a_aload_n (pc := 8) E d_H_trySend_8 rfl rfl ?_
    refine g_P_7 (pc := 9) E (by assumption) d_H_trySend_9 fl_H_198 ?_
    refine a_aload_n (pc := 12) E d_H_trySend_12 rfl rfl ?_
    refine g_P_3 (pc := 13) E (by assumption) d_H_trySend_13 fl_H_64 ?_
    refine r_12 (pc := 16) E (by assumption) d_H_trySend_16 hat ?_
    refine a_aload_n (pc := 17) E d_H_trySend_17 rfl rfl ?_
    refine g_P_8 (pc := 18) E (by assumption) d_H_trySend_18 fl_H_205 ?_
    refine a_aload_n (pc := 21) E d_H_trySend_21 rfl rfl ?_
    refine g_P_3 (pc := 22) E (by assumption) d_H_trySend_22 fl_H_64 ?_
    refine r_13 (pc := 25) E (by assumption) d_H_trySend_25 hat ?_
    refine a_aload_n (pc := 26) E d_H_trySend_26 rfl rfl ?_
    refine g_H_9 (pc := 27) E d_H_trySend_27 fl_H_89 ?_
    refine a_wr ?_
    refine b_VI (pc := 30) (n := 4) E (c_Q_add_no l D ar lay _ _ _ _ _ hI.sent.1 h60) ⟨by decide, by decide, ml_H_214, im_Q_add, sl_Q_add, ii_Q, cd_Q_add, ⟨by decide, by decide⟩, by decide +kernel⟩ rfl (by decide) rfl rfl (by decide) rfl (Nat.le_of_ble_eq_true rfl) d_H_trySend_30 (by decide) ?_
    refine a_istore_n (pc := 33) E d_H_trySend_33 rfl (by decide) ?_
    refine a_iload_n (pc := 34) E d_H_trySend_34 rfl rfl ?_
    refine a_iconst (v := (-1)) (pc := 35) E d_H_trySend_35 (by decide) ?_
    refine a_icmp_ne (tgt := 47) (pc := 36) E d_H_trySend_36 (by decide) (fun c_36 => ?_) (fun c_36 => ?_)
    · exact absurd rfl c_36
    · refine a_aload_n (pc := 39) E d_H_trySend_39 rfl rfl ?_
      refine a_aload_n (pc := 40) E d_H_trySend_40 rfl rfl ?_
      refine a_iconst (v := 4) (pc := 41) E d_H_trySend_41 (by decide) ?_
      refine b_VI (pc := 42) (n := 2) E (c_H_undo l D ar lay _ _ 4 hk hI) ⟨by decide, by decide, ml_H_120, im_H_undo, sl_H_undo, ii_H, cd_H_undo, ⟨by decide, by decide⟩, by decide +kernel⟩ rfl (by decide) rfl rfl (by decide) rfl (Nat.le_of_ble_eq_true rfl) d_H_trySend_42 (by decide) ?_
      refine a_pop (pc := 45) E d_H_trySend_45 rfl ?_
      exact a_vret (pc := 46) E hr hlk d_H_trySend_46 (by decide) (by decide) (by decide) (by simp [f_send, h60])
def f_hearM (M : hm_M) (k : Nat) (a g : Int32) : hm_M :=
  if g = -1 then hm_up (hm_up M 2 0 a.toNatClampNeg (M 10 k 0)) 10 k 2 2
  else f_sd (hm_up (hm_up (hm_up (hm_up M 2 0 a.toNatClampNeg (M 10 k 0)) 6 0 g.toNatClampNeg 1) 15 k (M 10 k 3).toNatClampNeg g) 1 0 a.toNatClampNeg (M 1 0 a.toNatClampNeg + M 9 0 g.toNatClampNeg)) k
def f_hear (M : hm_M) (k : Nat) : hm_M :=
  if f_getsR M k (M 12 k (M 10 k 3).toNatClampNeg) = 0 then f_getsM M k (M 12 k (M 10 k 3).toNatClampNeg)
  else f_hearM M k (M 12 k (M 10 k 3).toNatClampNeg) (f_first M (M 10 k 0) (M 4 0 4).toNatClampNeg 1)
theorem f_first_up2 (M : hm_M) (q : Int32) {j : Nat} {x : Int32} : ∀ n i, f_first (hm_up M 2 0 j x) q n i = f_first M q n i := by
  intro n
  induction n with
  | zero => intro i; rfl
  | succ n ih => intro i; simp only [f_first, ih]; simp [hm_up_at]
theorem f_first_in (M : hm_M) (q : Int32) : ∀ n i, ¬ f_first M q n i = -1 → i + n ≤ 1000 → ∃ j, i ≤ j ∧ j < i + n ∧ f_first M q n i = nI j := by
  intro n
  induction n with
  | zero => intro i h; exact absurd rfl h
  | succ n ih =>
    intro i h hb
    simp only [f_first] at h ⊢
    by_cases h1 : M 8 0 i = q
    · by_cases h2 : M 6 0 i = 0
      · exact ⟨i, Nat.le_refl _, by omega, by simp [h1, h2]⟩
      · simp only [h1, h2, if_true, if_false] at h ⊢
        obtain ⟨j, a, b, e⟩ := ih (i + 1) h (by omega)
        exact ⟨j, by omega, by omega, e⟩
    · simp only [h1, if_false] at h ⊢
      obtain ⟨j, a, b, e⟩ := ih (i + 1) h (by omega)
      exact ⟨j, by omega, by omega, e⟩
theorem IvC.firstIn {M : hm_M} (h : IvC M) {q : Int32} (hn : ¬ f_first M q (M 4 0 4).toNatClampNeg 1 = -1) : 1 ≤ (f_first M q (M 4 0 4).toNatClampNeg 1).toInt ∧ (f_first M q (M 4 0 4).toNatClampNeg 1).toInt ≤ (M 4 0 4).toInt := by
  have hs := h.sent
  obtain ⟨j, a, b, e⟩ := f_first_in M q _ 1 hn (by rw [nn_eq]; omega)
  rw [nn_eq] at b
  rw [e, nI_toInt (by omega)]
  omega
set_option maxHeartbeats 4000000 in
set_option maxRecDepth 100000 in
theorem c_H_tryHear (l : Launch) (D : va_G) (ar : Nat → ClassId) (lay : Nat → Nat → Nat) (M : hm_M) (k : Nat) (hk : k < 6) (hI : IvC M) (hw : (M 10 k 3).toInt < (M 10 k 4).toInt ∧ M 11 k (M 10 k 3).toNatClampNeg ≠ 1) : Ct l D ar lay y_H_tryHear rm_4 true [.ref (lay 0 0), .ref (lay 10 k)] M (.inl (none, f_hear M k)) := by
  refine Ct.of (cc := prog_1_method_26_code) (maxL := 4) (ret := none) (by decide) cd_H_tryHear (Nat.le_of_ble_eq_true rfl) ?_
  intro p e s m below meth c E hr hlk hno hH
  have hat : vp_in (M 10 k 3) 10 := ix_of (hI.at hk).1 (by have := hI.at hk; omega)
  have ha : vp_in (M 12 k (M 10 k 3).toNatClampNeg) 8 := hI.a hk (by rw [nn_eq]; have := hI.at hk; omega) hw.2
  refine a_aload_n (pc := 0) E d_H_tryHear_0 rfl rfl ?_
  refine g_P_7 (pc := 1) E (by assumption) d_H_tryHear_1 fl_H_198 ?_
  refine a_aload_n (pc := 4) E d_H_tryHear_4 rfl rfl ?_
  refine g_P_3 (pc := 5) E (by assumption) d_H_tryHear_5 fl_H_64 ?_
  refine r_12 (pc := 8) E (by assumption) d_H_tryHear_8 hat ?_
  refine a_istore_n (pc := 9) E d_H_tryHear_9 rfl (by decide) ?_
  refine a_aload_n (pc := 10) E d_H_tryHear_10 rfl rfl ?_
  refine a_aload_n (pc := 11) E d_H_tryHear_11 rfl rfl ?_
  refine a_iload_n (pc := 12) E d_H_tryHear_12 rfl rfl ?_
  refine a_wr ?_
  refine b_VI (pc := 13) (n := 2) E (c_H_getsPlace l D ar lay _ k _ hk hI ha hw) ⟨by decide, by decide, ml_H_201, im_H_getsPlace, sl_H_getsPlace, ii_H, cd_H_getsPlace, ⟨by decide, by decide⟩, by decide +kernel⟩ rfl (by decide) rfl rfl (by decide) rfl (Nat.le_of_ble_eq_true rfl) d_H_tryHear_13 (by decide) ?_
  refine a_if_ne (tgt := 20) (pc := 16) E d_H_tryHear_16 (by decide) (fun c_16 => ?_) (fun c_16 => ?_)
  · rw [f_gets_ok c_16]
    refine a_aload_n (pc := 20) E d_H_tryHear_20 rfl rfl ?_
    refine g_H_3 (pc := 21) E d_H_tryHear_21 fl_H_25 ?_
    refine a_aload_n (pc := 24) E d_H_tryHear_24 rfl rfl ?_
    refine g_P_0 (pc := 25) E (by assumption) d_H_tryHear_25 fl_H_211 ?_
    refine b_VI (pc := 28) (n := 1) E (c_Q_firstOnItsWayTo l D ar lay _ _ (by simpa [hm_up_at] using hI.sent)) ⟨by decide, by decide, ml_H_221, im_Q_firstOnItsWayTo, sl_Q_firstOnItsWayTo, ii_Q, cd_Q_firstOnItsWayTo, ⟨by decide, by decide⟩, by decide +kernel⟩ rfl (by decide) rfl rfl (by decide) rfl (Nat.le_of_ble_eq_true rfl) d_H_tryHear_28 (by decide) ?_
    rw [hm_up_fam (by decide : ¬ (4 = 2)), hm_up_fam (by decide : ¬ (10 = 2)), f_first_up2]
    refine a_istore_n (pc := 31) E d_H_tryHear_31 rfl (by decide) ?_
    refine a_iload_n (pc := 32) E d_H_tryHear_32 rfl rfl ?_
    refine a_iconst (v := (-1)) (pc := 33) E d_H_tryHear_33 (by decide) ?_
    refine a_icmp_ne (tgt := 43) (pc := 34) E d_H_tryHear_34 (by decide) (fun c_34 => ?_) (fun c_34 => ?_)
    · have hg : vp_in (f_first M (M 10 k 0) (M 4 0 4).toNatClampNeg 1) 61 := ix_of (by have := hI.firstIn c_34; omega) (by have := hI.firstIn c_34; have := hI.sent; omega)
      refine a_aload_n (pc := 43) E d_H_tryHear_43 rfl rfl ?_
      refine g_H_3 (pc := 44) E d_H_tryHear_44 fl_H_25 ?_
      refine g_Q_0 (pc := 47) E d_H_tryHear_47 fl_H_111 ?_
      refine a_iload_n (pc := 50) E d_H_tryHear_50 rfl rfl ?_
      refine a_iconst (v := 1) (pc := 51) E d_H_tryHear_51 (by decide) ?_
      refine s_6 (pc := 52) E d_H_tryHear_52 hg ?_
      refine a_aload_n (pc := 53) E d_H_tryHear_53 rfl rfl ?_
      refine g_P_10 (pc := 54) E (by assumption) d_H_tryHear_54 fl_H_218 ?_
      refine a_aload_n (pc := 57) E d_H_tryHear_57 rfl rfl ?_
      refine g_P_3 (pc := 58) E (by assumption) d_H_tryHear_58 fl_H_64 ?_
      refine a_iload_n (pc := 61) E d_H_tryHear_61 rfl rfl ?_
      refine s_15 (pc := 62) E (by assumption) d_H_tryHear_62 (by simpa [hm_up_at] using hat) ?_
      refine a_aload_n (pc := 63) E d_H_tryHear_63 rfl rfl ?_
      refine g_H_0 (pc := 64) E d_H_tryHear_64 fl_H_9 ?_
      refine a_iload_n (pc := 67) E d_H_tryHear_67 rfl rfl ?_
      refine a_dup2 (pc := 68) E d_H_tryHear_68 rfl rfl ?_
      refine r_1 (pc := 69) E d_H_tryHear_69 ha ?_
      refine a_aload_n (pc := 70) E d_H_tryHear_70 rfl rfl ?_
      refine g_H_3 (pc := 71) E d_H_tryHear_71 fl_H_25 ?_
      refine g_Q_3 (pc := 74) E d_H_tryHear_74 fl_H_140 ?_
      refine a_iload_n (pc := 77) E d_H_tryHear_77 rfl rfl ?_
      refine r_9 (pc := 78) E d_H_tryHear_78 hg ?_
      refine a_iadd (pc := 79) E d_H_tryHear_79 ?_
      refine s_1 (pc := 80) E d_H_tryHear_80 ha ?_
      refine a_aload_n (pc := 81) E d_H_tryHear_81 rfl rfl ?_
      refine a_aload_n (pc := 82) E d_H_tryHear_82 rfl rfl ?_
      refine b_VZ (pc := 83) (n := 1) E (c_H_stepIsDone l D ar lay _ _ hk (IvC.up1 (IvC.up15 (IvC.up6 (hI.up2 (hI.numIn hk))) ⟨by have := hI.firstIn c_34; omega, by have := hI.firstIn c_34; have := hI.sent; omega⟩))) ⟨by decide, by decide, ml_H_208, im_H_stepIsDone, sl_H_stepIsDone, ii_H, cd_H_stepIsDone, ⟨by decide, by decide⟩, by decide +kernel⟩ rfl (by decide) rfl rfl (by decide) rfl (Nat.le_of_ble_eq_true rfl) d_H_tryHear_83 (by decide) ?_
      exact a_vret (pc := 86) E hr hlk d_H_tryHear_86 (by decide) (by decide) (by decide) (by simp [f_hear, f_hearM, hm_up_at, c_16, c_34])
    · refine a_aload_n (pc := 37) E d_H_tryHear_37 rfl rfl ?_
      refine a_iconst (v := 2) (pc := 38) E d_H_tryHear_38 (by decide) ?_
      refine p_P_2 (pc := 39) E (by assumption) d_H_tryHear_39 fl_H_67 ?_
      exact a_vret (pc := 42) E hr hlk d_H_tryHear_42 (by decide) (by decide) (by decide) (by simp [f_hear, f_hearM, hm_up_at, c_16, c_34])
  · exact a_vret (pc := 19) E hr hlk d_H_tryHear_19 (by decide) (by decide) (by decide) (by simp [f_hear, c_16])
def f_turn (M : hm_M) (k : Nat) : hm_M :=
  if M 10 k 3 < M 10 k 4 then
    (if M 14 k (M 10 k 3).toNatClampNeg = 0 then
      (if M 11 k (M 10 k 3).toNatClampNeg = 0 then f_chg M k else if M 11 k (M 10 k 3).toNatClampNeg = 1 then f_send M k else f_hear M k)
    else f_undo (hm_up M 14 k (M 10 k 3).toNatClampNeg 0) k 4)
  else f_fin M k
set_option maxHeartbeats 4000000 in
set_option maxRecDepth 100000 in
theorem c_H_takeTurn (l : Launch) (D : va_G) (ar : Nat → ClassId) (lay : Nat → Nat → Nat) (M : hm_M) (k : Nat) (hk : k < 6) (hI : IvC M) : Ct l D ar lay y_H_takeTurn rm_5 true [.ref (lay 0 0), .ref (lay 10 k)] M (.inl (none, f_turn M k)) := by
  refine Ct.of (cc := prog_1_method_23_code) (maxL := 2) (ret := none) (by decide) cd_H_takeTurn (Nat.le_of_ble_eq_true rfl) ?_
  intro p e s m below meth c E hr hlk hno hH
  refine a_aload_n (pc := 0) E d_H_takeTurn_0 rfl rfl ?_
  refine g_P_3 (pc := 1) E (by assumption) d_H_takeTurn_1 fl_H_64 ?_
  refine a_aload_n (pc := 4) E d_H_takeTurn_4 rfl rfl ?_
  refine g_P_4 (pc := 5) E (by assumption) d_H_takeTurn_5 fl_H_80 ?_
  refine a_icmp_lt (tgt := 17) (pc := 8) E d_H_takeTurn_8 (by decide) (fun c_8 => ?_) (fun c_8 => ?_)
  · have hlt := Int32.lt_iff_toInt_lt.mp c_8
    have hat : vp_in (M 10 k 3) 10 := ix_of (hI.at hk).1 (by have := hI.at hk; omega)
    refine a_aload_n (pc := 17) E d_H_takeTurn_17 rfl rfl ?_
    refine g_P_9 (pc := 18) E (by assumption) d_H_takeTurn_18 fl_H_85 ?_
    refine a_aload_n (pc := 21) E d_H_takeTurn_21 rfl rfl ?_
    refine g_P_3 (pc := 22) E (by assumption) d_H_takeTurn_22 fl_H_64 ?_
    refine r_14 (pc := 25) E (by assumption) d_H_takeTurn_25 hat ?_
    refine a_if_eq (tgt := 47) (pc := 26) E d_H_takeTurn_26 (by decide) (fun c_26 => ?_) (fun c_26 => ?_)
    · refine a_aload_n (pc := 47) E d_H_takeTurn_47 rfl rfl ?_
      refine g_P_6 (pc := 48) E (by assumption) d_H_takeTurn_48 fl_H_186 ?_
      refine a_aload_n (pc := 51) E d_H_takeTurn_51 rfl rfl ?_
      refine g_P_3 (pc := 52) E (by assumption) d_H_takeTurn_52 fl_H_64 ?_
      refine r_11 (pc := 55) E (by assumption) d_H_takeTurn_55 hat ?_
      by_cases c_56_0 : M 11 k (M 10 k 3).toNatClampNeg = 0
      · refine a_lookup (tgt := 84) (off := 28) (pc := 56) E d_H_takeTurn_56 (by decide) (by rw [c_56_0]; rfl) (by decide) ?_
        refine a_aload_n (pc := 84) E d_H_takeTurn_84 rfl rfl ?_
        refine a_aload_n (pc := 85) E d_H_takeTurn_85 rfl rfl ?_
        refine a_wr ?_
        refine b_VZ (pc := 86) (n := 1) E (c_H_tryChange l D ar lay _ _ hk hI ⟨hlt, by rw [c_56_0]; decide⟩) ⟨by decide, by decide, ml_H_189, im_H_tryChange, sl_H_tryChange, ii_H, cd_H_tryChange, ⟨by decide, by decide⟩, by decide +kernel⟩ rfl (by decide) rfl rfl (by decide) rfl (Nat.le_of_ble_eq_true rfl) d_H_takeTurn_86 (by decide) ?_
        refine a_goto (tgt := 105) (pc := 89) E d_H_takeTurn_89 (by decide) ?_
        exact a_vret (pc := 105) E hr hlk d_H_takeTurn_105 (by decide) (by decide) (by decide) (by simp [f_turn, c_8, c_26, c_56_0])
      by_cases c_56_1 : M 11 k (M 10 k 3).toNatClampNeg = 1
      · refine a_lookup (tgt := 92) (off := 36) (pc := 56) E d_H_takeTurn_56 (by decide) (by rw [c_56_1]; rfl) (by decide) ?_
        refine a_aload_n (pc := 92) E d_H_takeTurn_92 rfl rfl ?_
        refine a_aload_n (pc := 93) E d_H_takeTurn_93 rfl rfl ?_
        refine a_wr ?_
        refine b_VZ (pc := 94) (n := 1) E (c_H_trySend l D ar lay _ _ hk hI hlt) ⟨by decide, by decide, ml_H_192, im_H_trySend, sl_H_trySend, ii_H, cd_H_trySend, ⟨by decide, by decide⟩, by decide +kernel⟩ rfl (by decide) rfl rfl (by decide) rfl (Nat.le_of_ble_eq_true rfl) d_H_takeTurn_94 (by decide) ?_
        refine a_goto (tgt := 105) (pc := 97) E d_H_takeTurn_97 (by decide) ?_
        exact a_vret (pc := 105) E hr hlk d_H_takeTurn_105 (by decide) (by decide) (by decide) (by simp [f_turn, c_8, c_26, c_56_0, c_56_1])
      refine a_lookup (tgt := 100) (off := 44) (pc := 56) E d_H_takeTurn_56 (by decide) (sw_look2 c_56_0 c_56_1) (by decide) ?_
      refine a_aload_n (pc := 100) E d_H_takeTurn_100 rfl rfl ?_
      refine a_aload_n (pc := 101) E d_H_takeTurn_101 rfl rfl ?_
      refine a_wr ?_
      refine b_VZ (pc := 102) (n := 1) E (c_H_tryHear l D ar lay _ _ hk hI ⟨hlt, c_56_1⟩) ⟨by decide, by decide, ml_H_195, im_H_tryHear, sl_H_tryHear, ii_H, cd_H_tryHear, ⟨by decide, by decide⟩, by decide +kernel⟩ rfl (by decide) rfl rfl (by decide) rfl (Nat.le_of_ble_eq_true rfl) d_H_takeTurn_102 (by decide) ?_
      exact a_vret (pc := 105) E hr hlk d_H_takeTurn_105 (by decide) (by decide) (by decide) (by simp [f_turn, c_8, c_26, c_56_0, c_56_1])
    · refine a_aload_n (pc := 29) E d_H_takeTurn_29 rfl rfl ?_
      refine g_P_9 (pc := 30) E (by assumption) d_H_takeTurn_30 fl_H_85 ?_
      refine a_aload_n (pc := 33) E d_H_takeTurn_33 rfl rfl ?_
      refine g_P_3 (pc := 34) E (by assumption) d_H_takeTurn_34 fl_H_64 ?_
      refine a_iconst (v := 0) (pc := 37) E d_H_takeTurn_37 (by decide) ?_
      refine a_wr ?_
      refine s_14 (pc := 38) E (by assumption) d_H_takeTurn_38 hat rfl ?_
      refine a_aload_n (pc := 39) E d_H_takeTurn_39 rfl rfl ?_
      refine a_aload_n (pc := 40) E d_H_takeTurn_40 rfl rfl ?_
      refine a_iconst (v := 4) (pc := 41) E d_H_takeTurn_41 (by decide) ?_
      refine b_VI (pc := 42) (n := 2) E (c_H_undo l D ar lay _ _ 4 hk (hI.up14)) ⟨by decide, by decide, ml_H_120, im_H_undo, sl_H_undo, ii_H, cd_H_undo, ⟨by decide, by decide⟩, by decide +kernel⟩ rfl (by decide) rfl rfl (by decide) rfl (Nat.le_of_ble_eq_true rfl) d_H_takeTurn_42 (by decide) ?_
      refine a_pop (pc := 45) E d_H_takeTurn_45 rfl ?_
      exact a_vret (pc := 46) E hr hlk d_H_takeTurn_46 (by decide) (by decide) (by decide) (by simp [f_turn, c_8, c_26])
  · refine a_aload_n (pc := 11) E d_H_takeTurn_11 rfl rfl ?_
    refine a_aload_n (pc := 12) E d_H_takeTurn_12 rfl rfl ?_
    refine a_wr ?_
    refine b_VZ (pc := 13) (n := 1) E (c_H_finish l D ar lay _ _ hk) ⟨by decide, by decide, ml_H_183, im_H_finish, sl_H_finish, ii_H, cd_H_finish, ⟨by decide, by decide⟩, by decide +kernel⟩ rfl (by decide) rfl rfl (by decide) rfl (Nat.le_of_ble_eq_true rfl) d_H_takeTurn_13 (by decide) ?_
    exact a_vret (pc := 16) E hr hlk d_H_takeTurn_16 (by decide) (by decide) (by decide) (by simp [f_turn, c_8])
