theorem dec1 (x : Int32) : x + Int32.ofInt (-1) = x - 1 := by
  rw [Int32.sub_eq_add_neg]
  congr 1
theorem hm_up_fam {M : hm_M} {f k j f' : Nat} {x : Int32} (h : ¬ f' = f) : hm_up M f k j x f' = M f' := by
  funext k'
  simp [hm_up, hm_set, h]
theorem hm_set_fam {M : hm_M} {f k f' : Nat} {r : Nat → Int32} (h : ¬ f' = f) : hm_set M f k r f' = M f' := by
  funext k'
  simp [hm_set, h]
/-- the class's words stay where its own numbers stay -/
theorem IvC.same {M M' : hm_M} (h : IvC M) (h0 : M' 0 0 5 = M 0 0 5) (h1 : M' 0 0 6 = M 0 0 6) (h2 : M' 4 0 4 = M 4 0 4) (h3 : ∀ k j, j ≠ 1 → j ≠ 5 → M' 10 k j = M 10 k j) (h5 : M' 11 = M 11) (h6 : M' 12 = M 12) (h7 : M' 15 = M 15) (h8 : M' 2 = M 2) : IvC M' := by
  have e0 : ∀ k, M' 10 k 0 = M 10 k 0 := fun k => h3 k 0 (by decide) (by decide)
  have e2 : ∀ k, M' 10 k 2 = M 10 k 2 := fun k => h3 k 2 (by decide) (by decide)
  have e3 : ∀ k, M' 10 k 3 = M 10 k 3 := fun k => h3 k 3 (by decide) (by decide)
  have e4 : ∀ k, M' 10 k 4 = M 10 k 4 := fun k => h3 k 4 (by decide) (by decide)
  simp only [IvC, h0, h1, h2, h5, h6, h7, h8, e0, e2, e3, e4]
  exact h
/-- .. one part's state and place in its act turn -/
theorem IvC.part {M M' : hm_M} (h : IvC M) (k : Nat) (h0 : M' 0 0 5 = M 0 0 5) (h1 : M' 0 0 6 = M 0 0 6) (h2 : M' 4 0 4 = M 4 0 4) (h3 : ∀ k' j, ¬ k' = k → M' 10 k' j = M 10 k' j) (h4 : M' 10 k 0 = M 10 k 0) (hl : M' 10 k 4 = M 10 k 4) (h5 : M' 11 = M 11) (h6 : M' 12 = M 12) (h7 : M' 15 = M 15) (h8 : M' 2 = M 2) (ha : 0 ≤ (M' 10 k 3).toInt ∧ (M' 10 k 3).toInt ≤ (M 10 k 4).toInt) (hw : M' 10 k 2 = 1 → (M' 10 k 3).toInt < (M 10 k 4).toInt ∧ M 11 k (M' 10 k 3).toNatClampNeg ≠ 1) : IvC M' := by
  obtain ⟨g1, g2, g3, g4, g5, g6, g7, g8, g9⟩ := h
  refine ⟨by rw [h0]; exact g1, by rw [h1]; exact g2, by rw [h2]; exact g3, fun k' hk => ?_, fun k' hk => ?_, fun k' i hk => ?_, by rw [h7]; exact g7, by rw [h8]; exact g8, fun k' hk => ?_⟩
  · by_cases q : k' = k
    · subst q; rw [h4]; exact g4 k' hk
    · rw [h3 k' 0 q]; exact g4 k' hk
  · by_cases q : k' = k
    · subst q; rw [hl]; exact ⟨ha.1, ha.2, (g5 k' hk).2.2⟩
    · rw [h3 k' 3 q, h3 k' 4 q]; exact g5 k' hk
  · rw [h5, h6]
    by_cases q : k' = k
    · subst q; rw [hl]; exact g6 k' i hk
    · rw [h3 k' 4 q]; exact g6 k' i hk
  · rw [h5]
    by_cases q : k' = k
    · subst q; rw [hl]; exact hw
    · rw [h3 k' 2 q, h3 k' 3 q, h3 k' 4 q]; exact g9 k' hk
theorem IvC.up2 {M : hm_M} (h : IvC M) {j : Nat} {x : Int32} (hx : x = -1 ∨ (0 ≤ x.toInt ∧ x.toInt < 6)) : IvC (hm_up M 2 0 j x) := by
  obtain ⟨g1, g2, g3, g4, g5, g6, g7, g8, g9⟩ := h
  refine ⟨by simpa [hm_up_at] using g1, by simpa [hm_up_at] using g2, by simpa [hm_up_at] using g3, by simpa [hm_up_at] using g4, by simpa [hm_up_at] using g5, by simpa [hm_up_at] using g6, by simpa [hm_up_at] using g7, fun i hi => ?_, by simpa [hm_up_at] using g9⟩
  by_cases q : i = j
  · subst q; simpa [hm_up_at] using hx
  · simpa [hm_up_at, q] using g8 i hi
theorem f_free_ne (num : Int32) : ∀ (n i : Nat) (M : hm_M) (f : Nat), ¬ f = 2 → f_free num n i M f = M f := by
  intro n
  induction n with
  | zero => intro i M f _; rfl
  | succ n ih =>
    intro i M f hf
    simp only [f_free]
    rw [ih _ _ f hf]
    split
    · exact hm_up_fam hf
    · rfl
theorem IvC.free {num : Int32} : ∀ (n i : Nat) {M : hm_M}, IvC M → IvC (f_free num n i M) := by
  intro n
  induction n with
  | zero => intro i M h; exact h
  | succ n ih =>
    intro i M h
    simp only [f_free]
    apply ih
    split
    · exact h.up2 (Or.inl rfl)
    · exact h
theorem f_tb_ne (M : hm_M) (k i f : Nat) (h1 : ¬ f = 1) (h6 : ¬ f = 6) : f_tb M k i f = M f := by
  unfold f_tb
  split
  · exact hm_up_fam h1
  · split
    · split
      · exact hm_up_fam h6
      · rfl
    · rw [hm_up_fam h6, hm_up_fam h1]
theorem IvC.tb {M : hm_M} (h : IvC M) (k i : Nat) : IvC (f_tb M k i) := by
  have q : ∀ f, ¬ f = 1 → ¬ f = 6 → f_tb M k i f = M f := fun f => f_tb_ne M k i f
  exact h.same (by rw [q 0 (by decide) (by decide)]) (by rw [q 0 (by decide) (by decide)]) (by rw [q 4 (by decide) (by decide)]) (fun k' j _ _ => by rw [q 10 (by decide) (by decide)]) (q 11 (by decide) (by decide)) (q 12 (by decide) (by decide)) (q 15 (by decide) (by decide)) (q 2 (by decide) (by decide))
theorem f_tbL_ne (k f : Nat) (h1 : ¬ f = 1) (h6 : ¬ f = 6) : ∀ (n : Nat) (M : hm_M), f_tbL k n M f = M f := by
  intro n
  induction n with
  | zero => intro M; rfl
  | succ n ih => intro M; simp only [f_tbL]; rw [ih, f_tb_ne _ _ _ _ h1 h6]
theorem IvC.tbL (k : Nat) : ∀ (n : Nat) {M : hm_M}, IvC M → IvC (f_tbL k n M) := by
  intro n
  induction n with
  | zero => intro M h; exact h
  | succ n ih => intro M h; exact ih (h.tb k n)
def f_undo (M : hm_M) (k : Nat) (st : Int32) : hm_M := hm_up (hm_up (hm_up (f_free (M 10 k 0) 8 0 (f_tbL k (M 10 k 3).toNatClampNeg M)) 10 k 3 0) 10 k 5 (M 10 k 5 + 1)) 10 k 2 st
theorem IvC.undo {M : hm_M} (h : IvC M) {k : Nat} (hk : k < 6) {st : Int32} (hst : st ≠ 1) : IvC (f_undo M k st) := by
  have h2 : IvC (f_free (M 10 k 0) 8 0 (f_tbL k (M 10 k 3).toNatClampNeg M)) := (h.tbL k _).free 8 0
  have e4 : ∀ k' j, f_free (M 10 k 0) 8 0 (f_tbL k (M 10 k 3).toNatClampNeg M) 10 k' j = M 10 k' j := fun k' j => by rw [f_free_ne _ _ _ _ 10 (by decide), f_tbL_ne _ _ (by decide) (by decide)]
  refine h2.part k (by simp [f_undo, hm_up_at]) (by simp [f_undo, hm_up_at]) (by simp [f_undo, hm_up_at]) (fun k' j q => by simp [f_undo, hm_up_at, q]) (by simp [f_undo, hm_up_at]) (by simp [f_undo, hm_up_at]) ?_ ?_ ?_ ?_ ?_ ?_
  · unfold f_undo; rw [hm_up_fam (by decide), hm_up_fam (by decide), hm_up_fam (by decide)]
  · unfold f_undo; rw [hm_up_fam (by decide), hm_up_fam (by decide), hm_up_fam (by decide)]
  · unfold f_undo; rw [hm_up_fam (by decide), hm_up_fam (by decide), hm_up_fam (by decide)]
  · unfold f_undo; rw [hm_up_fam (by decide), hm_up_fam (by decide), hm_up_fam (by decide)]
  · have e3 : f_undo M k st 10 k 3 = 0 := by simp [f_undo, hm_up_at]
    rw [e3, e4]
    have := h.at hk
    exact ⟨by decide, by show (0 : Int) ≤ _; omega⟩
  · intro q
    have e2 : f_undo M k st 10 k 2 = st := by simp [f_undo, hm_up_at]
    exact absurd (e2.symm.trans q) hst
set_option maxHeartbeats 4000000 in
set_option maxRecDepth 100000 in
theorem c_H_undo (l : Launch) (D : va_G) (ar : Nat → ClassId) (lay : Nat → Nat → Nat) (M : hm_M) (k : Nat) (st0 : Int32) (hk : k < 6) (hI : IvC M) : Ct l D ar lay y_H_undo rm_1 true [.ref (lay 0 0), .ref (lay 10 k), .int st0] M (.inl (some (.int (M 10 k 3)), f_undo M k st0)) := by
  refine Ct.of (cc := prog_1_method_32_code) (maxL := 5) (ret := (some .int)) (by decide) cd_H_undo (Nat.le_of_ble_eq_true rfl) ?_
  intro p e s m below meth c E hr hlk hno hH
  have loop : ∀ (n : Nat) (x : Int32) (M' : hm_M), x = nI n - 1 → (n : Int) ≤ (M 10 k 3).toInt → IvC M' → M' 10 = M 10 → f_tbL k n M' = f_tbL k (M 10 k 3).toNatClampNeg M → AW p l e rm_1 s m [(.ref (lay 0 0) : Value), (.ref (lay 10 k) : Value), (.int st0 : Value)].toArray below meth c D ar lay true 5 0 0 (MQX below (fun _ st o t => CQ D ar lay M s.heap.size true (.inl (some (.int (M 10 k 3)), f_undo M k st0)) st o t) [(.ref (lay 0 0) : Value), (.ref (lay 10 k) : Value), (.int st0 : Value)].toArray s rm_1.cells rm_1.slots (hw_A lay true s.heap.size)) 10 [(4, .int x), (3, .int (M 10 k 3)), (0, .ref (lay 0 0)), (1, .ref (lay 10 k)), (2, .int st0)] [] M' := by
    intro n
    induction n with
    | zero =>
      intro x M' hx hn hI' h10 he
      have he : M' = f_tbL k (M 10 k 3).toNatClampNeg M := he
      refine a_iload (pc := 10) E d_H_undo_10 rfl ?_
      refine a_if_lt (tgt := 28) (pc := 12) E d_H_undo_12 (by decide) (fun c_12 => ?_) (fun c_12 => ?_)
      · refine a_aload_n (pc := 28) E d_H_undo_28 rfl rfl ?_
        refine a_aload_n (pc := 29) E d_H_undo_29 rfl rfl ?_
        refine b_VZ (pc := 30) (n := 1) E (c_H_freePlaces l D ar lay _ _ hk) ⟨by decide, by decide, ml_H_228, im_H_freePlaces, sl_H_freePlaces, ii_H, cd_H_freePlaces, ⟨by decide, by decide⟩, by decide +kernel⟩ rfl (by decide) rfl rfl (by decide) rfl (Nat.le_of_ble_eq_true rfl) d_H_undo_30 (by decide) ?_
        refine a_aload_n (pc := 33) E d_H_undo_33 rfl rfl ?_
        refine a_iconst (v := 0) (pc := 34) E d_H_undo_34 (by decide) ?_
        refine p_P_3 (pc := 35) E (by assumption) d_H_undo_35 fl_H_64 ?_
        refine a_aload_n (pc := 38) E d_H_undo_38 rfl rfl ?_
        refine a_dup (pc := 39) E d_H_undo_39 rfl ?_
        refine g_P_5 (pc := 40) E (by assumption) d_H_undo_40 fl_H_153 ?_
        refine a_iconst (v := 1) (pc := 43) E d_H_undo_43 (by decide) ?_
        refine a_iadd (pc := 44) E d_H_undo_44 ?_
        refine p_P_5 (pc := 45) E (by assumption) d_H_undo_45 fl_H_153 ?_
        refine a_aload_n (pc := 48) E d_H_undo_48 rfl rfl ?_
        refine a_iload_n (pc := 49) E d_H_undo_49 rfl rfl ?_
        refine p_P_2 (pc := 50) E (by assumption) d_H_undo_50 fl_H_67 ?_
        refine a_iload_n (pc := 53) E d_H_undo_53 rfl rfl ?_
        exact a_iret (pc := 54) E hr hlk rfl d_H_undo_54 (by decide) (by decide) (by decide) (by rw [f_undo, ← he]; simp only [hm_up_at, f_free_ne _ _ _ _ 10 (by decide : ¬ (10 = 2)), h10]; simp)
      · exact absurd (by rw [hx]; decide) c_12
    | succ n ih =>
      intro x M' hx hn hI' h10 he
      have hat := hI.at hk
      have hx2 : x = nI n := by rw [hx]; exact nI_pred n
      have e0 : x.toNatClampNeg = n := by rw [hx2]; exact nI_clamp (by omega)
      refine a_iload (pc := 10) E d_H_undo_10 rfl ?_
      refine a_if_lt (tgt := 28) (pc := 12) E d_H_undo_12 (by decide) (fun c_12 => ?_) (fun c_12 => ?_)
      · exact absurd c_12 (by rw [hx2]; exact nI_pos (by omega))
      · refine a_aload_n (pc := 15) E d_H_undo_15 rfl rfl ?_
        refine a_aload_n (pc := 16) E d_H_undo_16 rfl rfl ?_
        refine a_iload (pc := 17) E d_H_undo_17 rfl ?_
        refine b_VZ (pc := 19) (n := 2) E (c_H_takeBack l D ar lay _ k x hk (ix_of (by rw [hx2, nI_toInt (by omega)]; omega) (by rw [hx2, nI_toInt (by omega)]; omega)) (hI'.msg hk) (fun q => hI'.a hk (by rw [e0, h10]; omega) q)) ⟨by decide, by decide, ml_H_238, im_H_takeBack, sl_H_takeBack, ii_H, cd_H_takeBack, ⟨by decide, by decide⟩, by decide +kernel⟩ rfl (by decide) rfl rfl (by decide) rfl (Nat.le_of_ble_eq_true rfl) d_H_undo_19 (by decide) ?_
        refine a_iinc (pc := 22) E d_H_undo_22 rfl (by decide) ?_
        refine a_goto (tgt := 10) (pc := 25) E d_H_undo_25 (by decide) ?_
        exact a_ls5 (ih _ _ (by rw [hx2]; exact dec1 _) (by omega) (by rw [e0]; exact hI'.tb k n) (by rw [e0, f_tb_ne _ _ _ _ (by decide) (by decide), h10]) (by rw [e0]; exact he)) rfl rfl rfl rfl rfl
  refine a_aload_n (pc := 0) E d_H_undo_0 rfl rfl ?_
  refine g_P_3 (pc := 1) E (by assumption) d_H_undo_1 fl_H_64 ?_
  refine a_istore_n (pc := 4) E d_H_undo_4 rfl (by decide) ?_
  refine a_iload_n (pc := 5) E d_H_undo_5 rfl rfl ?_
  refine a_iconst (v := 1) (pc := 6) E d_H_undo_6 (by decide) ?_
  refine a_isub (pc := 7) E d_H_undo_7 ?_
  refine a_istore (pc := 8) E d_H_undo_8 (by decide) ?_
  refine a_wr ?_
  exact a_ls5 (loop (M 10 k 3).toNatClampNeg _ M (by obtain ⟨j, hj, ej⟩ := pc_nI (b := 10) (hI.at hk).1 (by have := hI.at hk; omega) (by decide); rw [ej, nI_clamp (by omega)]) (by rw [nn_eq]; have := hI.at hk; omega) hI rfl rfl) rfl rfl rfl rfl rfl
def f_fin (M : hm_M) (k : Nat) : hm_M := f_free (M 10 k 0) 8 0 (hm_up M 10 k 2 3)
theorem IvC.fin {M : hm_M} (h : IvC M) {k : Nat} (hk : k < 6) : IvC (f_fin M k) := by
  refine IvC.free 8 0 (h.part k (by simp [hm_up_at]) (by simp [hm_up_at]) (by simp [hm_up_at]) (fun k' j q => by simp [hm_up_at, q]) (by simp [hm_up_at]) (by simp [hm_up_at]) (hm_up_fam (by decide)) (hm_up_fam (by decide)) (hm_up_fam (by decide)) (hm_up_fam (by decide)) ?_ ?_)
  · have e3 : hm_up M 10 k 2 3 10 k 3 = M 10 k 3 := by simp [hm_up_at]
    rw [e3]; exact ⟨(h.at hk).1, (h.at hk).2.1⟩
  · intro q
    have e2 : hm_up M 10 k 2 3 10 k 2 = 3 := by simp [hm_up_at]
    exact absurd (e2.symm.trans q) (by decide)
set_option maxHeartbeats 4000000 in
set_option maxRecDepth 100000 in
theorem c_H_finish (l : Launch) (D : va_G) (ar : Nat → ClassId) (lay : Nat → Nat → Nat) (M : hm_M) (k : Nat) (hk : k < 6) : Ct l D ar lay y_H_finish rm_1 true [.ref (lay 0 0), .ref (lay 10 k)] M (.inl (none, f_fin M k)) := by
  refine Ct.of (cc := prog_1_method_29_code) (maxL := 2) (ret := none) (by decide) cd_H_finish (Nat.le_of_ble_eq_true rfl) ?_
  intro p e s m below meth c E hr hlk hno hH
  refine a_aload_n (pc := 0) E d_H_finish_0 rfl rfl ?_
  refine a_iconst (v := 3) (pc := 1) E d_H_finish_1 (by decide) ?_
  refine a_wr ?_
  refine p_P_2 (pc := 2) E (by assumption) d_H_finish_2 fl_H_67 ?_
  refine a_aload_n (pc := 5) E d_H_finish_5 rfl rfl ?_
  refine a_aload_n (pc := 6) E d_H_finish_6 rfl rfl ?_
  refine b_VZ (pc := 7) (n := 1) E (c_H_freePlaces l D ar lay _ _ hk) ⟨by decide, by decide, ml_H_228, im_H_freePlaces, sl_H_freePlaces, ii_H, cd_H_freePlaces, ⟨by decide, by decide⟩, by decide +kernel⟩ rfl (by decide) rfl rfl (by decide) rfl (Nat.le_of_ble_eq_true rfl) d_H_finish_7 (by decide) ?_
  exact a_vret (pc := 10) E hr hlk d_H_finish_10 (by decide) (by decide) (by decide) (by simp [f_fin, hm_up_at])
def f_wayof (M : hm_M) (k : Nat) : Int32 := if f_await M k = -1 then -1 else M 2 0 (f_await M k).toNatClampNeg
theorem IvC.awaitIn {M : hm_M} (h : IvC M) {k : Nat} (hk : k < 6) (hn : ¬ f_await M k = -1) : vp_in (f_await M k) 8 := by
  unfold f_await at hn ⊢
  by_cases h1 : M 10 k 2 = 1
  · by_cases h2 : M 10 k 4 ≤ M 10 k 3
    · simp [h1, h2] at hn
    · simp only [h1, h2, if_true, if_false]
      obtain ⟨q1, q2⟩ := h.wait hk h1
      exact h.a hk (by rw [nn_eq]; have := h.at hk; omega) q2
  · simp [h1] at hn
theorem vp_nn {x : Int32} {n : Nat} (h : vp_in x n) : x.toNatClampNeg < n := Nat.not_le.mp fun q => h (Or.inr q)
theorem IvC.wayIn {M : hm_M} (h : IvC M) {k : Nat} (hk : k < 6) (hn : ¬ f_wayof M k = -1) : vp_in (f_wayof M k) 6 := by
  unfold f_wayof at hn ⊢
  by_cases h1 : f_await M k = -1
  · simp [h1] at hn
  · simp only [h1, if_false] at hn ⊢
    rcases h.hold (vp_nn (h.awaitIn hk h1)) with q | q
    · exact absurd q hn
    · exact ix_of q.1 q.2
set_option maxHeartbeats 4000000 in
set_option maxRecDepth 100000 in
theorem c_H_partInTheWayOf (l : Launch) (D : va_G) (ar : Nat → ClassId) (lay : Nat → Nat → Nat) (M : hm_M) (k : Nat) (hk : k < 6) (hI : IvC M) : Ct l D ar lay y_H_partInTheWayOf rm_1 false [.ref (lay 0 0), .ref (lay 10 k)] M (.inl (some (.int (f_wayof M k)), M)) := by
  refine Ct.of (cc := prog_1_method_31_code) (maxL := 3) (ret := (some .int)) (by decide) cd_H_partInTheWayOf (Nat.le_of_ble_eq_true rfl) ?_
  intro p e s m below meth c E hr hlk hno hH
  refine a_aload_n (pc := 0) E d_H_partInTheWayOf_0 rfl rfl ?_
  refine b_VI (pc := 1) (n := 0) E (c_P_awaitedPlace l D ar lay _ _ hk (hI.at hk).1 (hI.at hk).2.2) ⟨by decide, by decide, ml_H_145, im_P_awaitedPlace, sl_P_awaitedPlace, ii_P, cd_P_awaitedPlace, ⟨by decide, by decide⟩, by decide +kernel⟩ rfl hk rfl rfl (by decide) rfl (Nat.le_of_ble_eq_true rfl) d_H_partInTheWayOf_1 (by decide) ?_
  refine a_istore_n (pc := 4) E d_H_partInTheWayOf_4 rfl (by decide) ?_
  refine a_iload_n (pc := 5) E d_H_partInTheWayOf_5 rfl rfl ?_
  refine a_iconst (v := (-1)) (pc := 6) E d_H_partInTheWayOf_6 (by decide) ?_
  refine a_icmp_ne (tgt := 14) (pc := 7) E d_H_partInTheWayOf_7 (by decide) (fun c_7 => ?_) (fun c_7 => ?_)
  · refine a_aload_n (pc := 14) E d_H_partInTheWayOf_14 rfl rfl ?_
    refine g_H_1 (pc := 15) E d_H_partInTheWayOf_15 fl_H_13 ?_
    refine a_iload_n (pc := 18) E d_H_partInTheWayOf_18 rfl rfl ?_
    refine r_2 (pc := 19) E d_H_partInTheWayOf_19 (hI.awaitIn hk c_7) ?_
    exact a_iret (pc := 20) E hr hlk rfl d_H_partInTheWayOf_20 (by decide) (by decide) (by decide) (by simp [f_wayof, c_7])
  · refine a_iconst (v := (-1)) (pc := 10) E d_H_partInTheWayOf_10 (by decide) ?_
    refine a_goto (tgt := 20) (pc := 11) E d_H_partInTheWayOf_11 (by decide) ?_
    exact a_iret (pc := 20) E hr hlk rfl d_H_partInTheWayOf_20 (by decide) (by decide) (by decide) (by simp [f_wayof, c_7])
