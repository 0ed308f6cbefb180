def h_part (M : hm_M) (x : Int32) : Int32 × hm_M := if g_in x 0 9 = 0 then (0, hm_up M 20 0 0 1) else if M 20 0 3 = 6 then (0, hm_up M 20 0 0 2) else (M 20 0 3 + 1 - 1, hm_up (hm_up (hm_up (hm_up M 20 0 0 0) 23 0 (M 20 0 3).toNatClampNeg x) 27 0 (M 20 0 3).toNatClampNeg (-1)) 20 0 3 (M 20 0 3 + 1))
def h_stepM (M : hm_M) (k : Nat) (kd a b : Int32) : hm_M := hm_up (hm_up (hm_up (hm_up (hm_up M 20 0 0 0) 29 0 (10 * k + (M 25 0 k).toNatClampNeg) kd) 30 0 (10 * k + (M 25 0 k).toNatClampNeg) a) 31 0 (10 * k + (M 25 0 k).toNatClampNeg) b) 25 0 k (M 25 0 k + 1)
def h_step (M : hm_M) (k : Nat) (kd a b : Int32) : Int32 × hm_M := if g_isStep M kd a b = 0 then (0, hm_up M 20 0 0 2) else if M 26 0 k = 0 then (if M 24 0 k = 0 then (if M 25 0 k = 10 then (0, hm_up M 20 0 0 4) else (M 25 0 k + 1, h_stepM M k kd a b)) else (0, hm_up M 20 0 0 3)) else (0, hm_up M 20 0 0 3)
def h_fails (M : hm_M) (k : Nat) (i on : Int32) : hm_M := if g_in i 0 (M 25 0 k - 1) = 0 then hm_up M 20 0 0 2 else hm_up (hm_up M 20 0 0 0) 32 0 (10 * k + i.toNatClampNeg) on
def h_losing (M : hm_M) (on : Int32) : hm_M := hm_up (hm_up M 20 0 0 0) 20 0 16 on
def h_turn (M : hm_M) (k : Nat) : Int32 × hm_M := if M 24 0 k ≤ 2 then (g_have (hm_up M 20 0 0 0) k 24 0 k, g_have (hm_up M 20 0 0 0) k) else (0, hm_up M 20 0 0 2)
def h_again (M : hm_M) (x : Int32) : Int32 × hm_M := if g_in x 1 (M 20 0 15) = 0 then (0, hm_up M 20 0 0 1) else if M 34 0 x.toNatClampNeg = 2 then (M 36 0 x.toNatClampNeg, hm_up (hm_up M 20 0 0 0) 34 0 x.toNatClampNeg 0) else (0, hm_up M 20 0 0 2)
def h_interrupt (M : hm_M) (k : Nat) : Int32 × hm_M := if M 24 0 k = 1 then (M 26 0 k, g_undo (hm_up M 20 0 0 0) k 0) else if M 24 0 k = 2 then (M 26 0 k, g_undo (hm_up M 20 0 0 0) k 0) else (0, hm_up M 20 0 0 2)
def h_restart (M : hm_M) (k : Nat) : hm_M := if M 24 0 k = 3 then hm_up (hm_up (hm_up M 20 0 0 0) 24 0 k 0) 26 0 k 0 else if M 24 0 k = 4 then hm_up (hm_up (hm_up M 20 0 0 0) 24 0 k 0) 26 0 k 0 else hm_up M 20 0 0 2
def h_log (M : hm_M) (x : Int32) : Int32 × hm_M := if g_in x 0 ((if 400 ≤ M 20 0 21 then 400 else M 20 0 21) - 1) = 0 then (0, hm_up M 20 0 0 1) else (M 38 0 x.toNatClampNeg, hm_up M 20 0 0 0)
def h_place (M : hm_M) (x w : Int32) : Int32 × hm_M := if g_in x 0 7 = 0 then (0, hm_up M 20 0 0 1) else if g_in w 0 1 = 0 then (0, hm_up M 20 0 0 1) else (if w = 0 then M 21 0 x.toNatClampNeg else M 22 0 x.toNatClampNeg, hm_up M 20 0 0 0)
def h_message (M : hm_M) (x w : Int32) : Int32 × hm_M := if g_in x 1 (M 20 0 15) = 0 then (0, hm_up M 20 0 0 1) else if g_in w 0 3 = 0 then (0, hm_up M 20 0 0 2) else (if w = 0 then M 34 0 x.toNatClampNeg else if w = 1 then M 35 0 x.toNatClampNeg else if w = 2 then M 36 0 x.toNatClampNeg else M 37 0 x.toNatClampNeg, hm_up M 20 0 0 0)
theorem gi_01 : g_in 0 0 1 = 1 := by decide
theorem gi_03 : g_in 0 0 3 = 1 := by decide
theorem gi_13 : g_in 1 0 3 = 1 := by decide
theorem gi_23 : g_in 2 0 3 = 1 := by decide
theorem gi_06 : g_in 0 0 6 = 1 := by decide
theorem gi_16 : g_in 1 0 6 = 1 := by decide
theorem gi_26 : g_in 2 0 6 = 1 := by decide
theorem gi_36 : g_in 3 0 6 = 1 := by decide
theorem gi_46 : g_in 4 0 6 = 1 := by decide
theorem gi_56 : g_in 5 0 6 = 1 := by decide
theorem gi_66 : g_in 6 0 6 = 1 := by decide
theorem in_rng {v lo hi : Int32} (h : ¬ g_in v lo hi = 0) : lo.toInt ≤ v.toInt ∧ v.toInt ≤ hi.toInt := by
  unfold g_in at h
  by_cases h1 : v < lo
  · simp [h1] at h
  · by_cases h2 : hi < v
    · simp [h1, h2] at h
    · exact ⟨Int32.le_iff_toInt_le.mp (Int32.not_lt.mp h1), Int32.le_iff_toInt_le.mp (Int32.not_lt.mp h2)⟩
theorem in_no {v lo hi : Int32} (h : g_in v lo hi = 0) : v.toInt < lo.toInt ∨ hi.toInt < v.toInt := by
  unfold g_in at h
  by_cases h1 : v < lo
  · exact Or.inl (Int32.lt_iff_toInt_lt.mp h1)
  · by_cases h2 : hi < v
    · exact Or.inr (Int32.lt_iff_toInt_lt.mp h2)
    · simp [h1, h2] at h
theorem dec_toInt {x : Int32} (h0 : 0 ≤ x.toInt) : (x - 1).toInt = x.toInt - 1 := by
  have hx : x.toInt < 2 ^ 31 := Int32.toInt_lt x
  obtain ⟨j, hj, e⟩ := pc_nI (x := x) (b := x.toInt.toNat) h0 (by omega) (by omega)
  rw [e]
  cases j with
  | zero => decide
  | succ n => rw [nI_pred, nI_toInt (by omega), nI_toInt (by omega)]; omega
theorem part_k {M : hm_M} (h : IvM M) {q : Int32} (hp : ¬ g_in q 0 (M 20 0 3 - 1) = 0) : ∃ k : Nat, k < 6 ∧ (k : Int) < (M 20 0 3).toInt ∧ q = nI k := by
  have hr := in_rng hp
  have hpc := h.C.pc
  rw [(ab_20 M).1] at hpc
  rw [dec_toInt hpc.1] at hr
  have z0 : (0 : Int32).toInt = 0 := rfl
  obtain ⟨k, hk, e⟩ := pc_nI (x := q) (b := 6) (by omega) (by omega) (by decide)
  have ek : q.toInt = k := by rw [e, nI_toInt (by omega)]
  exact ⟨k, by omega, by omega, e⟩
theorem msg_in {M : hm_M} (h : IvM M) {x : Int32} (hp : ¬ g_in x 1 (M 20 0 15) = 0) : vp_in x 61 := by
  have hr := in_rng hp
  have hs := h.C.sent
  rw [(ab_20 M).2.2.2.2] at hs
  have z1 : (1 : Int32).toInt = 1 := rfl
  exact ix_of (by omega) (by omega)
set_option maxHeartbeats 4000000 in
set_option maxRecDepth 100000 in
theorem c_M_part (l : Launch) (D : va_G) (ar : Nat → ClassId) (lay : Nat → Nat → Nat) (M : hm_M) (x : Int32) (hI : IvM M) : Ct l D ar lay y_M_part rm_p true [.ref (lay 20 0), .int x] M (.inl (some (.int (h_part M x).1), (h_part M x).2)) := by
  refine Ct.of (cc := prog_5_method_6_code) (maxL := 2) (ret := (some .int)) (by decide) cd_M_part (Nat.le_of_ble_eq_true rfl) ?_
  intro p e s m below meth c E hr hlk hno hH
  refine a_aload_n (pc := 0) E d_M_part_0 rfl rfl ?_
  refine a_iload_n (pc := 1) E d_M_part_1 rfl rfl ?_
  refine a_iconst (v := 0) (pc := 2) E d_M_part_2 (by decide) ?_
  refine a_bipush (v := 9) (pc := 3) E d_M_part_3 (by decide) ?_
  refine b_SI (pc := 5) (n := 3) E (c_M_in l D ar lay _ _ _ _) ⟨by decide, by decide, ml_M_72, ss_M_in, ii_M, ⟨by decide, by decide⟩, by decide +kernel⟩ cd_M_in rfl (by decide) rfl (Nat.le_of_ble_eq_true rfl) d_M_part_5 (by decide) ?_
  refine a_if_ne (tgt := 15) (pc := 8) E d_M_part_8 (by decide) (fun c_8 => ?_) (fun c_8 => ?_)
  · refine a_aload_n (pc := 15) E d_M_part_15 rfl rfl ?_
    refine g_M_3 (pc := 16) E d_M_part_16 fl_M_69 ?_
    refine a_bipush (v := 6) (pc := 19) E d_M_part_19 (by decide) ?_
    refine a_icmp_ne (tgt := 28) (pc := 21) E d_M_part_21 (by decide) (fun c_21 => ?_) (fun c_21 => ?_)
    · have hn : vp_in (M 20 0 3) 6 := by have z := hI.C.pc; rw [(ab_20 M).1] at z; have z2 : (M 20 0 3).toInt ≠ 6 := fun y => c_21 (Int32.toInt_inj.mp (y.trans (by decide))); exact ix_of z.1 (by omega)
      refine a_iconst (v := 0) (pc := 28) E d_M_part_28 (by decide) ?_
      refine a_wr ?_
      refine p_M_0 (pc := 29) E d_M_part_29 fl_M_65 ?_
      refine a_aload_n (pc := 32) E d_M_part_32 rfl rfl ?_
      refine g_M_0 (pc := 33) E d_M_part_33 fl_M_65 ?_
      refine a_if_le (tgt := 41) (pc := 36) E d_M_part_36 (by decide) (fun c_36 => ?_) (fun c_36 => ?_)
      · refine a_aload_n (pc := 41) E d_M_part_41 rfl rfl ?_
        refine g_M_4 (pc := 42) E d_M_part_42 fl_M_16 ?_
        refine a_aload_n (pc := 45) E d_M_part_45 rfl rfl ?_
        refine g_M_3 (pc := 46) E d_M_part_46 fl_M_69 ?_
        refine a_iload_n (pc := 49) E d_M_part_49 rfl rfl ?_
        refine s_23 (pc := 50) E d_M_part_50 hn ?_
        refine a_aload_n (pc := 51) E d_M_part_51 rfl rfl ?_
        refine g_M_8 (pc := 52) E d_M_part_52 fl_M_28 ?_
        refine a_aload_n (pc := 55) E d_M_part_55 rfl rfl ?_
        refine g_M_3 (pc := 56) E d_M_part_56 fl_M_69 ?_
        refine a_iconst (v := (-1)) (pc := 59) E d_M_part_59 (by decide) ?_
        refine s_27 (pc := 60) E d_M_part_60 hn ?_
        refine a_aload_n (pc := 61) E d_M_part_61 rfl rfl ?_
        refine a_dup (pc := 62) E d_M_part_62 rfl ?_
        refine g_M_3 (pc := 63) E d_M_part_63 fl_M_69 ?_
        refine a_iconst (v := 1) (pc := 66) E d_M_part_66 (by decide) ?_
        refine a_iadd (pc := 67) E d_M_part_67 ?_
        refine p_M_3 (pc := 68) E d_M_part_68 fl_M_69 ?_
        refine a_aload_n (pc := 71) E d_M_part_71 rfl rfl ?_
        refine g_M_3 (pc := 72) E d_M_part_72 fl_M_69 ?_
        refine a_iconst (v := 1) (pc := 75) E d_M_part_75 (by decide) ?_
        refine a_isub (pc := 76) E d_M_part_76 ?_
        exact a_iret (pc := 77) E hr hlk rfl d_M_part_77 (by decide) (by decide) (by decide) (by simp [h_part, hm_up_at, hm_up_up, c_8, c_21])
      · exact absurd c_36 (by first | (simp [hm_up_at]; done) | (simp [hm_up_at]; decide) | (simp only [hm_up_at]; decide))
    · refine a_iconst (v := 2) (pc := 24) E d_M_part_24 (by decide) ?_
      refine a_goto (tgt := 29) (pc := 25) E d_M_part_25 (by decide) ?_
      refine a_wr ?_
      refine p_M_0 (pc := 29) E d_M_part_29 fl_M_65 ?_
      refine a_aload_n (pc := 32) E d_M_part_32 rfl rfl ?_
      refine g_M_0 (pc := 33) E d_M_part_33 fl_M_65 ?_
      refine a_if_le (tgt := 41) (pc := 36) E d_M_part_36 (by decide) (fun c_36 => ?_) (fun c_36 => ?_)
      · exact absurd c_36 (by first | (simp [hm_up_at]; done) | (simp [hm_up_at]; decide) | (simp only [hm_up_at]; decide))
      · refine a_iconst (v := 0) (pc := 39) E d_M_part_39 (by decide) ?_
        exact a_iret (pc := 40) E hr hlk rfl d_M_part_40 (by decide) (by decide) (by decide) (by simp [h_part, hm_up_at, hm_up_up, c_8, c_21])
  · refine a_iconst (v := 1) (pc := 11) E d_M_part_11 (by decide) ?_
    refine a_goto (tgt := 29) (pc := 12) E d_M_part_12 (by decide) ?_
    refine a_wr ?_
    refine p_M_0 (pc := 29) E d_M_part_29 fl_M_65 ?_
    refine a_aload_n (pc := 32) E d_M_part_32 rfl rfl ?_
    refine g_M_0 (pc := 33) E d_M_part_33 fl_M_65 ?_
    refine a_if_le (tgt := 41) (pc := 36) E d_M_part_36 (by decide) (fun c_36 => ?_) (fun c_36 => ?_)
    · exact absurd c_36 (by first | (simp [hm_up_at]; done) | (simp [hm_up_at]; decide) | (simp only [hm_up_at]; decide))
    · refine a_iconst (v := 0) (pc := 39) E d_M_part_39 (by decide) ?_
      exact a_iret (pc := 40) E hr hlk rfl d_M_part_40 (by decide) (by decide) (by decide) (by simp [h_part, hm_up_at, hm_up_up, c_8])
set_option maxHeartbeats 4000000 in
set_option maxRecDepth 100000 in
theorem c_M_step_no (l : Launch) (D : va_G) (ar : Nat → ClassId) (lay : Nat → Nat → Nat) (M : hm_M) (q kd a b : Int32) (hp : g_in q 0 (M 20 0 3 - 1) = 0) : Ct l D ar lay y_M_step rm_p true [.ref (lay 20 0), .int q, .int kd, .int a, .int b] M (.inl (some (.int 0), hm_up M 20 0 0 1)) := by
  refine Ct.of (cc := prog_5_method_8_code) (maxL := 6) (ret := (some .int)) (by decide) cd_M_step (Nat.le_of_ble_eq_true rfl) ?_
  intro p e s m below meth c E hr hlk hno hH
  refine a_aload_n (pc := 0) E d_M_step_0 rfl rfl ?_
  refine a_aload_n (pc := 1) E d_M_step_1 rfl rfl ?_
  refine a_iload_n (pc := 2) E d_M_step_2 rfl rfl ?_
  refine b_VI (pc := 3) (n := 1) E (c_M_isPart l D ar lay _ _) ⟨by decide, by decide, ml_M_79, im_M_isPart, sl_M_isPart, ii_M, cd_M_isPart, ⟨by decide, by decide⟩, by decide +kernel⟩ rfl (by decide) rfl rfl (by decide) rfl (Nat.le_of_ble_eq_true rfl) d_M_step_3 (by decide) ?_
  refine a_if_ne (tgt := 13) (pc := 6) E d_M_step_6 (by decide) (fun c_6 => ?_) (fun c_6 => ?_)
  · exact absurd hp c_6
  · refine a_iconst (v := 1) (pc := 9) E d_M_step_9 (by decide) ?_
    refine a_goto (tgt := 29) (pc := 10) E d_M_step_10 (by decide) ?_
    refine a_wr ?_
    refine p_M_0 (pc := 29) E d_M_step_29 fl_M_65 ?_
    refine a_aload_n (pc := 32) E d_M_step_32 rfl rfl ?_
    refine g_M_0 (pc := 33) E d_M_step_33 fl_M_65 ?_
    refine a_if_ne (tgt := 81) (pc := 36) E d_M_step_36 (by decide) (fun c_36 => ?_) (fun c_36 => ?_)
    · refine a_aload_n (pc := 81) E d_M_step_81 rfl rfl ?_
      refine g_M_0 (pc := 82) E d_M_step_82 fl_M_65 ?_
      refine a_if_le (tgt := 90) (pc := 85) E d_M_step_85 (by decide) (fun c_85 => ?_) (fun c_85 => ?_)
      · exact absurd c_85 (by first | (simp [hm_up_at]; done) | (simp [hm_up_at]; decide) | (simp only [hm_up_at]; decide))
      · refine a_iconst (v := 0) (pc := 88) E d_M_step_88 (by decide) ?_
        exact a_iret (pc := 89) E hr hlk rfl d_M_step_89 (by decide) (by decide) (by decide) (by simp [hm_up_up])
    · exact absurd c_36 (by first | (simp [hm_up_at]; done) | (simp [hm_up_at]; decide) | (simp only [hm_up_at]; decide))
set_option maxHeartbeats 4000000 in
set_option maxRecDepth 100000 in
theorem c_M_step_ok (l : Launch) (D : va_G) (ar : Nat → ClassId) (lay : Nat → Nat → Nat) (M : hm_M) (k : Nat) (kd a b : Int32) (hk : k < 6) (hI : IvM M) (hp : ¬ g_in (nI k) 0 (M 20 0 3 - 1) = 0) : Ct l D ar lay y_M_step rm_p true [.ref (lay 20 0), .int (nI k), .int kd, .int a, .int b] M (.inl (some (.int (h_step M k kd a b).1), (h_step M k kd a b).2)) := by
  refine Ct.of (cc := prog_5_method_8_code) (maxL := 6) (ret := (some .int)) (by decide) cd_M_step (Nat.le_of_ble_eq_true rfl) ?_
  intro p e s m below meth c E hr hlk hno hH
  have hkk : vp_in (nI k) 6 := vp_in_nI hk (by decide)
  have ek : (nI k).toNatClampNeg = k := nI_clamp (by omega)
  have hat := hI.C.at hk
  rw [(ab_at hk).1, (ab_at hk).2.1] at hat
  have hix : (10 : Int32) * nI k + M 25 0 k = nI (10 * k + (M 25 0 k).toNatClampNeg) := by
    rw [← idx_eq]
    congr 1
    obtain ⟨j, hj, ej⟩ := pc_nI (b := 10) (by omega : 0 ≤ (M 25 0 k).toInt) (by omega) (by decide)
    rw [ej, nI_clamp (by omega)]
  have exx : (nI (10 * k + (M 25 0 k).toNatClampNeg)).toNatClampNeg = 10 * k + (M 25 0 k).toNatClampNeg := nI_clamp (by rw [nn_eq]; omega)
  have hin0 : ¬ M 25 0 k = 10 → vp_in (nI (10 * k + (M 25 0 k).toNatClampNeg)) 60 := fun q => by
    have q2 : (M 25 0 k).toInt ≠ 10 := fun y => q (Int32.toInt_inj.mp (y.trans (by decide)))
    exact vp_in_nI (by rw [nn_eq]; omega) (by decide)
  refine a_aload_n (pc := 0) E d_M_step_0 rfl rfl ?_
  refine a_aload_n (pc := 1) E d_M_step_1 rfl rfl ?_
  refine a_iload_n (pc := 2) E d_M_step_2 rfl rfl ?_
  refine b_VI (pc := 3) (n := 1) E (c_M_isPart l D ar lay _ _) ⟨by decide, by decide, ml_M_79, im_M_isPart, sl_M_isPart, ii_M, cd_M_isPart, ⟨by decide, by decide⟩, by decide +kernel⟩ rfl (by decide) rfl rfl (by decide) rfl (Nat.le_of_ble_eq_true rfl) d_M_step_3 (by decide) ?_
  refine a_if_ne (tgt := 13) (pc := 6) E d_M_step_6 (by decide) (fun c_6 => ?_) (fun c_6 => ?_)
  · refine a_aload_n (pc := 13) E d_M_step_13 rfl rfl ?_
    refine a_iload_n (pc := 14) E d_M_step_14 rfl rfl ?_
    refine a_iload_n (pc := 15) E d_M_step_15 rfl rfl ?_
    refine a_iload (pc := 16) E d_M_step_16 rfl ?_
    refine b_VI (pc := 18) (n := 3) E (c_M_isStep l D ar lay _ _ _ _) ⟨by decide, by decide, ml_M_83, im_M_isStep, sl_M_isStep, ii_M, cd_M_isStep, ⟨by decide, by decide⟩, by decide +kernel⟩ rfl (by decide) rfl rfl (by decide) rfl (Nat.le_of_ble_eq_true rfl) d_M_step_18 (by decide) ?_
    refine a_if_ne (tgt := 28) (pc := 21) E d_M_step_21 (by decide) (fun c_21 => ?_) (fun c_21 => ?_)
    · refine a_iconst (v := 0) (pc := 28) E d_M_step_28 (by decide) ?_
      refine a_wr ?_
      refine p_M_0 (pc := 29) E d_M_step_29 fl_M_65 ?_
      refine a_aload_n (pc := 32) E d_M_step_32 rfl rfl ?_
      refine g_M_0 (pc := 33) E d_M_step_33 fl_M_65 ?_
      refine a_if_ne (tgt := 81) (pc := 36) E d_M_step_36 (by decide) (fun c_36 => ?_) (fun c_36 => ?_)
      · exact absurd c_36 (by first | (simp [hm_up_at]; done) | (simp [hm_up_at]; decide) | (simp only [hm_up_at]; decide))
      · refine a_aload_n (pc := 39) E d_M_step_39 rfl rfl ?_
        refine a_aload_n (pc := 40) E d_M_step_40 rfl rfl ?_
        refine g_M_7 (pc := 41) E d_M_step_41 fl_M_25 ?_
        refine a_iload_n (pc := 44) E d_M_step_44 rfl rfl ?_
        refine r_26 (pc := 45) E d_M_step_45 hkk ?_
        refine a_if_ne (tgt := 58) (pc := 46) E d_M_step_46 (by decide) (fun c_46 => ?_) (fun c_46 => ?_)
        · simp [hm_up_at, ek] at c_46
          refine a_iconst (v := 3) (pc := 58) E d_M_step_58 (by decide) ?_
          refine a_goto (tgt := 78) (pc := 59) E d_M_step_59 (by decide) ?_
          refine p_M_0 (pc := 78) E d_M_step_78 fl_M_65 ?_
          refine a_aload_n (pc := 81) E d_M_step_81 rfl rfl ?_
          refine g_M_0 (pc := 82) E d_M_step_82 fl_M_65 ?_
          refine a_if_le (tgt := 90) (pc := 85) E d_M_step_85 (by decide) (fun c_85 => ?_) (fun c_85 => ?_)
          · exact absurd c_85 (by first | (simp [hm_up_at]; done) | (simp [hm_up_at]; decide) | (simp only [hm_up_at]; decide))
          · refine a_iconst (v := 0) (pc := 88) E d_M_step_88 (by decide) ?_
            exact a_iret (pc := 89) E hr hlk rfl d_M_step_89 (by decide) (by decide) (by decide) (by simp [h_step, h_stepM, hm_up_at, hm_up_up, ek, exx, c_6, c_21, c_46])
        · simp [hm_up_at, ek] at c_46
          refine a_aload_n (pc := 49) E d_M_step_49 rfl rfl ?_
          refine g_M_5 (pc := 50) E d_M_step_50 fl_M_19 ?_
          refine a_iload_n (pc := 53) E d_M_step_53 rfl rfl ?_
          refine r_24 (pc := 54) E d_M_step_54 hkk ?_
          refine a_if_eq (tgt := 62) (pc := 55) E d_M_step_55 (by decide) (fun c_55 => ?_) (fun c_55 => ?_)
          · simp [hm_up_at, ek] at c_55
            refine a_aload_n (pc := 62) E d_M_step_62 rfl rfl ?_
            refine g_M_6 (pc := 63) E d_M_step_63 fl_M_22 ?_
            refine a_iload_n (pc := 66) E d_M_step_66 rfl rfl ?_
            refine r_25 (pc := 67) E d_M_step_67 hkk ?_
            refine a_bipush (v := 10) (pc := 68) E d_M_step_68 (by decide) ?_
            refine a_icmp_ne (tgt := 77) (pc := 70) E d_M_step_70 (by decide) (fun c_70 => ?_) (fun c_70 => ?_)
            · simp [hm_up_at, ek] at c_70
              have hin := hin0 c_70
              refine a_iconst (v := 0) (pc := 77) E d_M_step_77 (by decide) ?_
              refine p_M_0 (pc := 78) E d_M_step_78 fl_M_65 ?_
              refine a_aload_n (pc := 81) E d_M_step_81 rfl rfl ?_
              refine g_M_0 (pc := 82) E d_M_step_82 fl_M_65 ?_
              refine a_if_le (tgt := 90) (pc := 85) E d_M_step_85 (by decide) (fun c_85 => ?_) (fun c_85 => ?_)
              · refine a_bipush (v := 10) (pc := 90) E d_M_step_90 (by decide) ?_
                refine a_iload_n (pc := 92) E d_M_step_92 rfl rfl ?_
                refine a_imul (pc := 93) E d_M_step_93 ?_
                refine a_aload_n (pc := 94) E d_M_step_94 rfl rfl ?_
                refine g_M_6 (pc := 95) E d_M_step_95 fl_M_22 ?_
                refine a_iload_n (pc := 98) E d_M_step_98 rfl rfl ?_
                refine r_25 (pc := 99) E d_M_step_99 hkk ?_
                refine a_iadd (pc := 100) E d_M_step_100 ?_
                simp only [hm_up_up, hm_up_at, ek]
                simp
                rw [hix]
                refine a_istore (pc := 101) E d_M_step_101 (by decide) ?_
                refine a_aload_n (pc := 103) E d_M_step_103 rfl rfl ?_
                refine g_M_10 (pc := 104) E d_M_step_104 fl_M_34 ?_
                refine a_iload (pc := 107) E d_M_step_107 rfl ?_
                refine a_iload_n (pc := 109) E d_M_step_109 rfl rfl ?_
                refine s_29 (pc := 110) E d_M_step_110 hin ?_
                refine a_aload_n (pc := 111) E d_M_step_111 rfl rfl ?_
                refine g_M_11 (pc := 112) E d_M_step_112 fl_M_37 ?_
                refine a_iload (pc := 115) E d_M_step_115 rfl ?_
                refine a_iload_n (pc := 117) E d_M_step_117 rfl rfl ?_
                refine s_30 (pc := 118) E d_M_step_118 hin ?_
                refine a_aload_n (pc := 119) E d_M_step_119 rfl rfl ?_
                refine g_M_12 (pc := 120) E d_M_step_120 fl_M_40 ?_
                refine a_iload (pc := 123) E d_M_step_123 rfl ?_
                refine a_iload (pc := 125) E d_M_step_125 rfl ?_
                refine s_31 (pc := 127) E d_M_step_127 hin ?_
                refine a_aload_n (pc := 128) E d_M_step_128 rfl rfl ?_
                refine g_M_6 (pc := 129) E d_M_step_129 fl_M_22 ?_
                refine a_iload_n (pc := 132) E d_M_step_132 rfl rfl ?_
                refine a_dup2 (pc := 133) E d_M_step_133 rfl rfl ?_
                refine r_25 (pc := 134) E d_M_step_134 hkk ?_
                refine a_iconst (v := 1) (pc := 135) E d_M_step_135 (by decide) ?_
                refine a_iadd (pc := 136) E d_M_step_136 ?_
                refine s_25 (pc := 137) E d_M_step_137 hkk ?_
                refine a_aload_n (pc := 138) E d_M_step_138 rfl rfl ?_
                refine g_M_6 (pc := 139) E d_M_step_139 fl_M_22 ?_
                refine a_iload_n (pc := 142) E d_M_step_142 rfl rfl ?_
                refine r_25 (pc := 143) E d_M_step_143 hkk ?_
                exact a_iret (pc := 144) E hr hlk rfl d_M_step_144 (by decide) (by decide) (by decide) (by simp [h_step, h_stepM, hm_up_at, hm_up_up, ek, exx, c_6, c_21, c_46, c_55, c_70])
              · exact absurd c_85 (by first | (simp [hm_up_at]; done) | (simp [hm_up_at]; decide) | (simp only [hm_up_at]; decide))
            · simp [hm_up_at, ek] at c_70
              refine a_iconst (v := 4) (pc := 73) E d_M_step_73 (by decide) ?_
              refine a_goto (tgt := 78) (pc := 74) E d_M_step_74 (by decide) ?_
              refine p_M_0 (pc := 78) E d_M_step_78 fl_M_65 ?_
              refine a_aload_n (pc := 81) E d_M_step_81 rfl rfl ?_
              refine g_M_0 (pc := 82) E d_M_step_82 fl_M_65 ?_
              refine a_if_le (tgt := 90) (pc := 85) E d_M_step_85 (by decide) (fun c_85 => ?_) (fun c_85 => ?_)
              · exact absurd c_85 (by first | (simp [hm_up_at]; done) | (simp [hm_up_at]; decide) | (simp only [hm_up_at]; decide))
              · refine a_iconst (v := 0) (pc := 88) E d_M_step_88 (by decide) ?_
                exact a_iret (pc := 89) E hr hlk rfl d_M_step_89 (by decide) (by decide) (by decide) (by simp [h_step, h_stepM, hm_up_at, hm_up_up, ek, exx, c_6, c_21, c_46, c_55, c_70])
          · simp [hm_up_at, ek] at c_55
            refine a_iconst (v := 3) (pc := 58) E d_M_step_58 (by decide) ?_
            refine a_goto (tgt := 78) (pc := 59) E d_M_step_59 (by decide) ?_
            refine p_M_0 (pc := 78) E d_M_step_78 fl_M_65 ?_
            refine a_aload_n (pc := 81) E d_M_step_81 rfl rfl ?_
            refine g_M_0 (pc := 82) E d_M_step_82 fl_M_65 ?_
            refine a_if_le (tgt := 90) (pc := 85) E d_M_step_85 (by decide) (fun c_85 => ?_) (fun c_85 => ?_)
            · exact absurd c_85 (by first | (simp [hm_up_at]; done) | (simp [hm_up_at]; decide) | (simp only [hm_up_at]; decide))
            · refine a_iconst (v := 0) (pc := 88) E d_M_step_88 (by decide) ?_
              exact a_iret (pc := 89) E hr hlk rfl d_M_step_89 (by decide) (by decide) (by decide) (by simp [h_step, h_stepM, hm_up_at, hm_up_up, ek, exx, c_6, c_21, c_46, c_55])
    · refine a_iconst (v := 2) (pc := 24) E d_M_step_24 (by decide) ?_
      refine a_goto (tgt := 29) (pc := 25) E d_M_step_25 (by decide) ?_
      refine a_wr ?_
      refine p_M_0 (pc := 29) E d_M_step_29 fl_M_65 ?_
      refine a_aload_n (pc := 32) E d_M_step_32 rfl rfl ?_
      refine g_M_0 (pc := 33) E d_M_step_33 fl_M_65 ?_
      refine a_if_ne (tgt := 81) (pc := 36) E d_M_step_36 (by decide) (fun c_36 => ?_) (fun c_36 => ?_)
      · refine a_aload_n (pc := 81) E d_M_step_81 rfl rfl ?_
        refine g_M_0 (pc := 82) E d_M_step_82 fl_M_65 ?_
        refine a_if_le (tgt := 90) (pc := 85) E d_M_step_85 (by decide) (fun c_85 => ?_) (fun c_85 => ?_)
        · exact absurd c_85 (by first | (simp [hm_up_at]; done) | (simp [hm_up_at]; decide) | (simp only [hm_up_at]; decide))
        · refine a_iconst (v := 0) (pc := 88) E d_M_step_88 (by decide) ?_
          exact a_iret (pc := 89) E hr hlk rfl d_M_step_89 (by decide) (by decide) (by decide) (by simp [h_step, h_stepM, hm_up_at, hm_up_up, ek, exx, c_6, c_21])
      · exact absurd c_36 (by first | (simp [hm_up_at]; done) | (simp [hm_up_at]; decide) | (simp only [hm_up_at]; decide))
  · exact absurd c_6 hp
set_option maxHeartbeats 4000000 in
set_option maxRecDepth 100000 in
theorem c_M_fails_no (l : Launch) (D : va_G) (ar : Nat → ClassId) (lay : Nat → Nat → Nat) (M : hm_M) (q i on : Int32) (hp : g_in q 0 (M 20 0 3 - 1) = 0) : Ct l D ar lay y_M_fails rm_p true [.ref (lay 20 0), .int q, .int i, .int on] M (.inl (none, hm_up M 20 0 0 1)) := by
  refine Ct.of (cc := prog_5_method_9_code) (maxL := 4) (ret := none) (by decide) cd_M_fails (Nat.le_of_ble_eq_true rfl) ?_
  intro p e s m below meth c E hr hlk hno hH
  refine a_aload_n (pc := 0) E d_M_fails_0 rfl rfl ?_
  refine a_aload_n (pc := 1) E d_M_fails_1 rfl rfl ?_
  refine a_iload_n (pc := 2) E d_M_fails_2 rfl rfl ?_
  refine b_VI (pc := 3) (n := 1) E (c_M_isPart l D ar lay _ _) ⟨by decide, by decide, ml_M_79, im_M_isPart, sl_M_isPart, ii_M, cd_M_isPart, ⟨by decide, by decide⟩, by decide +kernel⟩ rfl (by decide) rfl rfl (by decide) rfl (Nat.le_of_ble_eq_true rfl) d_M_fails_3 (by decide) ?_
  refine a_if_ne (tgt := 13) (pc := 6) E d_M_fails_6 (by decide) (fun c_6 => ?_) (fun c_6 => ?_)
  · exact absurd hp c_6
  · refine a_iconst (v := 1) (pc := 9) E d_M_fails_9 (by decide) ?_
    refine a_goto (tgt := 14) (pc := 10) E d_M_fails_10 (by decide) ?_
    refine a_wr ?_
    refine p_M_0 (pc := 14) E d_M_fails_14 fl_M_65 ?_
    refine a_aload_n (pc := 17) E d_M_fails_17 rfl rfl ?_
    refine g_M_0 (pc := 18) E d_M_fails_18 fl_M_65 ?_
    refine a_if_ne (tgt := 49) (pc := 21) E d_M_fails_21 (by decide) (fun c_21 => ?_) (fun c_21 => ?_)
    · refine a_aload_n (pc := 49) E d_M_fails_49 rfl rfl ?_
      refine g_M_0 (pc := 50) E d_M_fails_50 fl_M_65 ?_
      refine a_if_ne (tgt := 68) (pc := 53) E d_M_fails_53 (by decide) (fun c_53 => ?_) (fun c_53 => ?_)
      · exact a_vret (pc := 68) E hr hlk d_M_fails_68 (by decide) (by decide) (by decide) (by simp [hm_up_up])
      · exact absurd c_53 (by first | (simp [hm_up_at]; done) | (simp [hm_up_at]; decide) | (simp only [hm_up_at]; decide))
    · exact absurd c_21 (by first | (simp [hm_up_at]; done) | (simp [hm_up_at]; decide) | (simp only [hm_up_at]; decide))
set_option maxHeartbeats 4000000 in
set_option maxRecDepth 100000 in
theorem c_M_fails_ok (l : Launch) (D : va_G) (ar : Nat → ClassId) (lay : Nat → Nat → Nat) (M : hm_M) (k : Nat) (i on : Int32) (hk : k < 6) (hI : IvM M) (hp : ¬ g_in (nI k) 0 (M 20 0 3 - 1) = 0) (hon : narrow .boolean (.int on) = .int on) : Ct l D ar lay y_M_fails rm_p true [.ref (lay 20 0), .int (nI k), .int i, .int on] M (.inl (none, h_fails M k i on)) := by
  refine Ct.of (cc := prog_5_method_9_code) (maxL := 4) (ret := none) (by decide) cd_M_fails (Nat.le_of_ble_eq_true rfl) ?_
  intro p e s m below meth c E hr hlk hno hH
  have hkk : vp_in (nI k) 6 := vp_in_nI hk (by decide)
  have ek : (nI k).toNatClampNeg = k := nI_clamp (by omega)
  have hat := hI.C.at hk
  rw [(ab_at hk).1, (ab_at hk).2.1] at hat
  refine a_aload_n (pc := 0) E d_M_fails_0 rfl rfl ?_
  refine a_aload_n (pc := 1) E d_M_fails_1 rfl rfl ?_
  refine a_iload_n (pc := 2) E d_M_fails_2 rfl rfl ?_
  refine b_VI (pc := 3) (n := 1) E (c_M_isPart l D ar lay _ _) ⟨by decide, by decide, ml_M_79, im_M_isPart, sl_M_isPart, ii_M, cd_M_isPart, ⟨by decide, by decide⟩, by decide +kernel⟩ rfl (by decide) rfl rfl (by decide) rfl (Nat.le_of_ble_eq_true rfl) d_M_fails_3 (by decide) ?_
  refine a_if_ne (tgt := 13) (pc := 6) E d_M_fails_6 (by decide) (fun c_6 => ?_) (fun c_6 => ?_)
  · refine a_iconst (v := 0) (pc := 13) E d_M_fails_13 (by decide) ?_
    refine a_wr ?_
    refine p_M_0 (pc := 14) E d_M_fails_14 fl_M_65 ?_
    refine a_aload_n (pc := 17) E d_M_fails_17 rfl rfl ?_
    refine g_M_0 (pc := 18) E d_M_fails_18 fl_M_65 ?_
    refine a_if_ne (tgt := 49) (pc := 21) E d_M_fails_21 (by decide) (fun c_21 => ?_) (fun c_21 => ?_)
    · exact absurd c_21 (by first | (simp [hm_up_at]; done) | (simp [hm_up_at]; decide) | (simp only [hm_up_at]; decide))
    · refine a_aload_n (pc := 24) E d_M_fails_24 rfl rfl ?_
      refine a_iload_n (pc := 25) E d_M_fails_25 rfl rfl ?_
      refine a_iconst (v := 0) (pc := 26) E d_M_fails_26 (by decide) ?_
      refine a_aload_n (pc := 27) E d_M_fails_27 rfl rfl ?_
      refine g_M_6 (pc := 28) E d_M_fails_28 fl_M_22 ?_
      refine a_iload_n (pc := 31) E d_M_fails_31 rfl rfl ?_
      refine r_25 (pc := 32) E d_M_fails_32 hkk ?_
      refine a_iconst (v := 1) (pc := 33) E d_M_fails_33 (by decide) ?_
      refine a_isub (pc := 34) E d_M_fails_34 ?_
      refine b_SI (pc := 35) (n := 3) E (c_M_in l D ar lay _ _ _ _) ⟨by decide, by decide, ml_M_72, ss_M_in, ii_M, ⟨by decide, by decide⟩, by decide +kernel⟩ cd_M_in rfl (by decide) rfl (Nat.le_of_ble_eq_true rfl) d_M_fails_35 (by decide) ?_
      refine a_if_eq (tgt := 45) (pc := 38) E d_M_fails_38 (by decide) (fun c_38 => ?_) (fun c_38 => ?_)
      · simp [hm_up_at, ek] at c_38
        refine a_iconst (v := 2) (pc := 45) E d_M_fails_45 (by decide) ?_
        refine p_M_0 (pc := 46) E d_M_fails_46 fl_M_65 ?_
        refine a_aload_n (pc := 49) E d_M_fails_49 rfl rfl ?_
        refine g_M_0 (pc := 50) E d_M_fails_50 fl_M_65 ?_
        refine a_if_ne (tgt := 68) (pc := 53) E d_M_fails_53 (by decide) (fun c_53 => ?_) (fun c_53 => ?_)
        · exact a_vret (pc := 68) E hr hlk d_M_fails_68 (by decide) (by decide) (by decide) (by first | (rw [hidx]; simp [h_fails, hm_up_at, hm_up_up, ek, exx, e2, c_6, c_38]; done) | (simp [h_fails, hm_up_at, hm_up_up, ek, c_6, c_38]))
        · exact absurd c_53 (by first | (simp [hm_up_at]; done) | (simp [hm_up_at]; decide) | (simp only [hm_up_at]; decide))
      · simp [hm_up_at, ek] at c_38
        have hrg := in_rng c_38
        rw [dec_toInt (by omega)] at hrg
        have z0 : (0 : Int32).toInt = 0 := rfl
        obtain ⟨n, hn, en⟩ := pc_nI (x := i) (b := 9) (by omega) (by omega) (by decide)
        have e2 : i.toNatClampNeg = n := by rw [en]; exact nI_clamp (by omega)
        have hin : vp_in (nI (10 * k + n)) 60 := vp_in_nI (by omega) (by decide)
        have exx : (nI (10 * k + n)).toNatClampNeg = 10 * k + n := nI_clamp (by omega)
        have hidx : (10 : Int32) * nI k + i = nI (10 * k + n) := by rw [en, idx_eq]
        refine a_iconst (v := 0) (pc := 41) E d_M_fails_41 (by decide) ?_
        refine a_goto (tgt := 46) (pc := 42) E d_M_fails_42 (by decide) ?_
        refine p_M_0 (pc := 46) E d_M_fails_46 fl_M_65 ?_
        refine a_aload_n (pc := 49) E d_M_fails_49 rfl rfl ?_
        refine g_M_0 (pc := 50) E d_M_fails_50 fl_M_65 ?_
        refine a_if_ne (tgt := 68) (pc := 53) E d_M_fails_53 (by decide) (fun c_53 => ?_) (fun c_53 => ?_)
        · exact absurd c_53 (by first | (simp [hm_up_at]; done) | (simp [hm_up_at]; decide) | (simp only [hm_up_at]; decide))
        · refine a_aload_n (pc := 56) E d_M_fails_56 rfl rfl ?_
          refine g_M_13 (pc := 57) E d_M_fails_57 fl_M_43 ?_
          refine a_bipush (v := 10) (pc := 60) E d_M_fails_60 (by decide) ?_
          refine a_iload_n (pc := 62) E d_M_fails_62 rfl rfl ?_
          refine a_imul (pc := 63) E d_M_fails_63 ?_
          refine a_iload_n (pc := 64) E d_M_fails_64 rfl rfl ?_
          refine a_iadd (pc := 65) E d_M_fails_65 ?_
          refine a_iload_n (pc := 66) E d_M_fails_66 rfl rfl ?_
          refine s_32 (pc := 67) E d_M_fails_67 (by rw [hidx]; exact hin) hon ?_
          exact a_vret (pc := 68) E hr hlk d_M_fails_68 (by decide) (by decide) (by decide) (by first | (rw [hidx]; simp [h_fails, hm_up_at, hm_up_up, ek, exx, e2, c_6, c_38]; done) | (simp [h_fails, hm_up_at, hm_up_up, ek, c_6, c_38]))
  · exact absurd c_6 hp
set_option maxHeartbeats 4000000 in
set_option maxRecDepth 100000 in
theorem c_M_losing (l : Launch) (D : va_G) (ar : Nat → ClassId) (lay : Nat → Nat → Nat) (M : hm_M) (on : Int32) (hon : narrow .boolean (.int on) = .int on) (hon2 : fits .boolean (.int on) = true) : Ct l D ar lay y_M_losing rm_p true [.ref (lay 20 0), .int on] M (.inl (none, h_losing M on)) := by
  refine Ct.of (cc := prog_5_method_10_code) (maxL := 2) (ret := none) (by decide) cd_M_losing (Nat.le_of_ble_eq_true rfl) ?_
  intro p e s m below meth c E hr hlk hno hH
  refine a_aload_n (pc := 0) E d_M_losing_0 rfl rfl ?_
  refine a_iconst (v := 0) (pc := 1) E d_M_losing_1 (by decide) ?_
  refine a_wr ?_
  refine p_M_0 (pc := 2) E d_M_losing_2 fl_M_65 ?_
  refine a_aload_n (pc := 5) E d_M_losing_5 rfl rfl ?_
  refine a_iload_n (pc := 6) E d_M_losing_6 rfl rfl ?_
  refine p_M_16 (pc := 7) E d_M_losing_7 fl_M_86 hon hon2 ?_
  exact a_vret (pc := 10) E hr hlk d_M_losing_10 (by decide) (by decide) (by decide) rfl
theorem IvM.up0 {M : hm_M} (h : IvM M) {x : Int32} : IvM (hm_up M 20 0 0 x) := h.mk (by rw [ab_20_0]; exact h.C) (fun c _ => Or.inl (by rw [hm_up_fam (by decide)])) (by simp [hm_up_at])
set_option maxHeartbeats 4000000 in
set_option maxRecDepth 100000 in
theorem c_M_turn_no (l : Launch) (D : va_G) (ar : Nat → ClassId) (lay : Nat → Nat → Nat) (M : hm_M) (q : Int32) (hp : g_in q 0 (M 20 0 3 - 1) = 0) : Ct l D ar lay y_M_turn rm_p true [.ref (lay 20 0), .int q] M (.inl (some (.int 0), hm_up M 20 0 0 1)) := by
  refine Ct.of (cc := prog_5_method_20_code) (maxL := 2) (ret := (some .int)) (by decide) cd_M_turn (Nat.le_of_ble_eq_true rfl) ?_
  intro p e s m below meth c E hr hlk hno hH
  refine a_aload_n (pc := 0) E d_M_turn_0 rfl rfl ?_
  refine a_aload_n (pc := 1) E d_M_turn_1 rfl rfl ?_
  refine a_iload_n (pc := 2) E d_M_turn_2 rfl rfl ?_
  refine b_VI (pc := 3) (n := 1) E (c_M_isPart l D ar lay _ _) ⟨by decide, by decide, ml_M_79, im_M_isPart, sl_M_isPart, ii_M, cd_M_isPart, ⟨by decide, by decide⟩, by decide +kernel⟩ rfl (by decide) rfl rfl (by decide) rfl (Nat.le_of_ble_eq_true rfl) d_M_turn_3 (by decide) ?_
  refine a_if_ne (tgt := 13) (pc := 6) E d_M_turn_6 (by decide) (fun c_6 => ?_) (fun c_6 => ?_)
  · exact absurd hp c_6
  · refine a_iconst (v := 1) (pc := 9) E d_M_turn_9 (by decide) ?_
    refine a_goto (tgt := 14) (pc := 10) E d_M_turn_10 (by decide) ?_
    refine a_wr ?_
    refine p_M_0 (pc := 14) E d_M_turn_14 fl_M_65 ?_
    refine a_aload_n (pc := 17) E d_M_turn_17 rfl rfl ?_
    refine g_M_0 (pc := 18) E d_M_turn_18 fl_M_65 ?_
    refine a_if_ne (tgt := 43) (pc := 21) E d_M_turn_21 (by decide) (fun c_21 => ?_) (fun c_21 => ?_)
    · refine a_aload_n (pc := 43) E d_M_turn_43 rfl rfl ?_
      refine g_M_0 (pc := 44) E d_M_turn_44 fl_M_65 ?_
      refine a_if_le (tgt := 52) (pc := 47) E d_M_turn_47 (by decide) (fun c_47 => ?_) (fun c_47 => ?_)
      · exact absurd c_47 (by first | (simp [hm_up_at]; done) | (simp [hm_up_at]; decide) | (simp only [hm_up_at]; decide))
      · refine a_iconst (v := 0) (pc := 50) E d_M_turn_50 (by decide) ?_
        exact a_iret (pc := 51) E hr hlk rfl d_M_turn_51 (by decide) (by decide) (by decide) (by simp [hm_up_up])
    · exact absurd c_21 (by first | (simp [hm_up_at]; done) | (simp [hm_up_at]; decide) | (simp only [hm_up_at]; decide))
set_option maxHeartbeats 4000000 in
set_option maxRecDepth 100000 in
theorem c_M_turn_ok (l : Launch) (D : va_G) (ar : Nat → ClassId) (lay : Nat → Nat → Nat) (M : hm_M) (k : Nat) (hk : k < 6) (hI : IvM M) (hp : ¬ g_in (nI k) 0 (M 20 0 3 - 1) = 0) : Ct l D ar lay y_M_turn rm_p true [.ref (lay 20 0), .int (nI k)] M (.inl (some (.int (h_turn M k).1), (h_turn M k).2)) := by
  refine Ct.of (cc := prog_5_method_20_code) (maxL := 2) (ret := (some .int)) (by decide) cd_M_turn (Nat.le_of_ble_eq_true rfl) ?_
  intro p e s m below meth c E hr hlk hno hH
  have hkk : vp_in (nI k) 6 := vp_in_nI hk (by decide)
  have ek : (nI k).toNatClampNeg = k := nI_clamp (by omega)
  refine a_aload_n (pc := 0) E d_M_turn_0 rfl rfl ?_
  refine a_aload_n (pc := 1) E d_M_turn_1 rfl rfl ?_
  refine a_iload_n (pc := 2) E d_M_turn_2 rfl rfl ?_
  refine b_VI (pc := 3) (n := 1) E (c_M_isPart l D ar lay _ _) ⟨by decide, by decide, ml_M_79, im_M_isPart, sl_M_isPart, ii_M, cd_M_isPart, ⟨by decide, by decide⟩, by decide +kernel⟩ rfl (by decide) rfl rfl (by decide) rfl (Nat.le_of_ble_eq_true rfl) d_M_turn_3 (by decide) ?_
  refine a_if_ne (tgt := 13) (pc := 6) E d_M_turn_6 (by decide) (fun c_6 => ?_) (fun c_6 => ?_)
  · refine a_iconst (v := 0) (pc := 13) E d_M_turn_13 (by decide) ?_
    refine a_wr ?_
    refine p_M_0 (pc := 14) E d_M_turn_14 fl_M_65 ?_
    refine a_aload_n (pc := 17) E d_M_turn_17 rfl rfl ?_
    refine g_M_0 (pc := 18) E d_M_turn_18 fl_M_65 ?_
    refine a_if_ne (tgt := 43) (pc := 21) E d_M_turn_21 (by decide) (fun c_21 => ?_) (fun c_21 => ?_)
    · exact absurd c_21 (by first | (simp [hm_up_at]; done) | (simp [hm_up_at]; decide) | (simp only [hm_up_at]; decide))
    · refine a_aload_n (pc := 24) E d_M_turn_24 rfl rfl ?_
      refine a_aload_n (pc := 25) E d_M_turn_25 rfl rfl ?_
      refine g_M_5 (pc := 26) E d_M_turn_26 fl_M_19 ?_
      refine a_iload_n (pc := 29) E d_M_turn_29 rfl rfl ?_
      refine r_24 (pc := 30) E d_M_turn_30 hkk ?_
      refine a_iconst (v := 2) (pc := 31) E d_M_turn_31 (by decide) ?_
      refine a_icmp_le (tgt := 39) (pc := 32) E d_M_turn_32 (by decide) (fun c_32 => ?_) (fun c_32 => ?_)
      · rw [hm_up_fam (by decide), ek] at c_32
        refine a_iconst (v := 0) (pc := 39) E d_M_turn_39 (by decide) ?_
        refine p_M_0 (pc := 40) E d_M_turn_40 fl_M_65 ?_
        refine a_aload_n (pc := 43) E d_M_turn_43 rfl rfl ?_
        refine g_M_0 (pc := 44) E d_M_turn_44 fl_M_65 ?_
        refine a_if_le (tgt := 52) (pc := 47) E d_M_turn_47 (by decide) (fun c_47 => ?_) (fun c_47 => ?_)
        · refine a_aload_n (pc := 52) E d_M_turn_52 rfl rfl ?_
          refine a_iload_n (pc := 53) E d_M_turn_53 rfl rfl ?_
          refine b_VZ (pc := 54) (n := 1) E (c_M_haveTurn l D ar lay _ k hk (by simp only [hm_up_up]; exact hI.up0)) ⟨by decide, by decide, ml_M_123, im_M_haveTurn, sl_M_haveTurn, ii_M, cd_M_haveTurn, ⟨by decide, by decide⟩, by decide +kernel⟩ rfl (by decide) rfl rfl (by decide) rfl (Nat.le_of_ble_eq_true rfl) d_M_turn_54 (by decide) ?_
          refine a_aload_n (pc := 57) E d_M_turn_57 rfl rfl ?_
          refine g_M_5 (pc := 58) E d_M_turn_58 fl_M_19 ?_
          refine a_iload_n (pc := 61) E d_M_turn_61 rfl rfl ?_
          refine r_24 (pc := 62) E d_M_turn_62 hkk ?_
          exact a_iret (pc := 63) E hr hlk rfl d_M_turn_63 (by decide) (by decide) (by decide) (by simp [h_turn, hm_up_at, hm_up_up, ek, c_6, c_32])
        · exact absurd c_47 (by first | (simp [hm_up_at]; done) | (simp [hm_up_at]; decide) | (simp only [hm_up_at]; decide))
      · rw [hm_up_fam (by decide), ek] at c_32
        refine a_iconst (v := 2) (pc := 35) E d_M_turn_35 (by decide) ?_
        refine a_goto (tgt := 40) (pc := 36) E d_M_turn_36 (by decide) ?_
        refine p_M_0 (pc := 40) E d_M_turn_40 fl_M_65 ?_
        refine a_aload_n (pc := 43) E d_M_turn_43 rfl rfl ?_
        refine g_M_0 (pc := 44) E d_M_turn_44 fl_M_65 ?_
        refine a_if_le (tgt := 52) (pc := 47) E d_M_turn_47 (by decide) (fun c_47 => ?_) (fun c_47 => ?_)
        · exact absurd c_47 (by first | (simp [hm_up_at]; done) | (simp [hm_up_at]; decide) | (simp only [hm_up_at]; decide))
        · refine a_iconst (v := 0) (pc := 50) E d_M_turn_50 (by decide) ?_
          exact a_iret (pc := 51) E hr hlk rfl d_M_turn_51 (by decide) (by decide) (by decide) (by simp [h_turn, hm_up_at, hm_up_up, ek, c_6, c_32])
  · exact absurd c_6 hp
set_option maxHeartbeats 4000000 in
set_option maxRecDepth 100000 in
theorem c_M_again (l : Launch) (D : va_G) (ar : Nat → ClassId) (lay : Nat → Nat → Nat) (M : hm_M) (x : Int32) (hI : IvM M) : Ct l D ar lay y_M_again rm_p true [.ref (lay 20 0), .int x] M (.inl (some (.int (h_again M x).1), (h_again M x).2)) := by
  refine Ct.of (cc := prog_5_method_22_code) (maxL := 2) (ret := (some .int)) (by decide) cd_M_again (Nat.le_of_ble_eq_true rfl) ?_
  intro p e s m below meth c E hr hlk hno hH
  refine a_aload_n (pc := 0) E d_M_again_0 rfl rfl ?_
  refine a_aload_n (pc := 1) E d_M_again_1 rfl rfl ?_
  refine a_iload_n (pc := 2) E d_M_again_2 rfl rfl ?_
  refine b_VI (pc := 3) (n := 1) E (c_M_isMessage l D ar lay _ _) ⟨by decide, by decide, ml_M_126, im_M_isMessage, sl_M_isMessage, ii_M, cd_M_isMessage, ⟨by decide, by decide⟩, by decide +kernel⟩ rfl (by decide) rfl rfl (by decide) rfl (Nat.le_of_ble_eq_true rfl) d_M_again_3 (by decide) ?_
  refine a_if_ne (tgt := 13) (pc := 6) E d_M_again_6 (by decide) (fun c_6 => ?_) (fun c_6 => ?_)
  · refine a_iconst (v := 0) (pc := 13) E d_M_again_13 (by decide) ?_
    refine a_wr ?_
    refine p_M_0 (pc := 14) E d_M_again_14 fl_M_65 ?_
    refine a_aload_n (pc := 17) E d_M_again_17 rfl rfl ?_
    refine g_M_0 (pc := 18) E d_M_again_18 fl_M_65 ?_
    refine a_if_ne (tgt := 43) (pc := 21) E d_M_again_21 (by decide) (fun c_21 => ?_) (fun c_21 => ?_)
    · exact absurd c_21 (by first | (simp [hm_up_at]; done) | (simp [hm_up_at]; decide) | (simp only [hm_up_at]; decide))
    · refine a_aload_n (pc := 24) E d_M_again_24 rfl rfl ?_
      refine a_aload_n (pc := 25) E d_M_again_25 rfl rfl ?_
      refine g_M_17 (pc := 26) E d_M_again_26 fl_M_50 ?_
      refine a_iload_n (pc := 29) E d_M_again_29 rfl rfl ?_
      refine r_34 (pc := 30) E d_M_again_30 (msg_in hI c_6) ?_
      refine a_iconst (v := 2) (pc := 31) E d_M_again_31 (by decide) ?_
      refine a_icmp_eq (tgt := 39) (pc := 32) E d_M_again_32 (by decide) (fun c_32 => ?_) (fun c_32 => ?_)
      · simp [hm_up_at] at c_32
        refine a_iconst (v := 0) (pc := 39) E d_M_again_39 (by decide) ?_
        refine p_M_0 (pc := 40) E d_M_again_40 fl_M_65 ?_
        refine a_aload_n (pc := 43) E d_M_again_43 rfl rfl ?_
        refine g_M_0 (pc := 44) E d_M_again_44 fl_M_65 ?_
        refine a_if_le (tgt := 52) (pc := 47) E d_M_again_47 (by decide) (fun c_47 => ?_) (fun c_47 => ?_)
        · refine a_aload_n (pc := 52) E d_M_again_52 rfl rfl ?_
          refine g_M_17 (pc := 53) E d_M_again_53 fl_M_50 ?_
          refine a_iload_n (pc := 56) E d_M_again_56 rfl rfl ?_
          refine a_iconst (v := 0) (pc := 57) E d_M_again_57 (by decide) ?_
          refine s_34 (pc := 58) E d_M_again_58 (msg_in hI c_6) ?_
          refine a_aload_n (pc := 59) E d_M_again_59 rfl rfl ?_
          refine g_M_19 (pc := 60) E d_M_again_60 fl_M_56 ?_
          refine a_iload_n (pc := 63) E d_M_again_63 rfl rfl ?_
          refine r_36 (pc := 64) E d_M_again_64 (msg_in hI c_6) ?_
          exact a_iret (pc := 65) E hr hlk rfl d_M_again_65 (by decide) (by decide) (by decide) (by simp [h_again, hm_up_at, hm_up_up, c_6, c_32])
        · exact absurd c_47 (by first | (simp [hm_up_at]; done) | (simp [hm_up_at]; decide) | (simp only [hm_up_at]; decide))
      · simp [hm_up_at] at c_32
        refine a_iconst (v := 2) (pc := 35) E d_M_again_35 (by decide) ?_
        refine a_goto (tgt := 40) (pc := 36) E d_M_again_36 (by decide) ?_
        refine p_M_0 (pc := 40) E d_M_again_40 fl_M_65 ?_
        refine a_aload_n (pc := 43) E d_M_again_43 rfl rfl ?_
        refine g_M_0 (pc := 44) E d_M_again_44 fl_M_65 ?_
        refine a_if_le (tgt := 52) (pc := 47) E d_M_again_47 (by decide) (fun c_47 => ?_) (fun c_47 => ?_)
        · exact absurd c_47 (by first | (simp [hm_up_at]; done) | (simp [hm_up_at]; decide) | (simp only [hm_up_at]; decide))
        · refine a_iconst (v := 0) (pc := 50) E d_M_again_50 (by decide) ?_
          exact a_iret (pc := 51) E hr hlk rfl d_M_again_51 (by decide) (by decide) (by decide) (by simp [h_again, hm_up_at, hm_up_up, c_6, c_32])
  · refine a_iconst (v := 1) (pc := 9) E d_M_again_9 (by decide) ?_
    refine a_goto (tgt := 14) (pc := 10) E d_M_again_10 (by decide) ?_
    refine a_wr ?_
    refine p_M_0 (pc := 14) E d_M_again_14 fl_M_65 ?_
    refine a_aload_n (pc := 17) E d_M_again_17 rfl rfl ?_
    refine g_M_0 (pc := 18) E d_M_again_18 fl_M_65 ?_
    refine a_if_ne (tgt := 43) (pc := 21) E d_M_again_21 (by decide) (fun c_21 => ?_) (fun c_21 => ?_)
    · refine a_aload_n (pc := 43) E d_M_again_43 rfl rfl ?_
      refine g_M_0 (pc := 44) E d_M_again_44 fl_M_65 ?_
      refine a_if_le (tgt := 52) (pc := 47) E d_M_again_47 (by decide) (fun c_47 => ?_) (fun c_47 => ?_)
      · exact absurd c_47 (by first | (simp [hm_up_at]; done) | (simp [hm_up_at]; decide) | (simp only [hm_up_at]; decide))
      · refine a_iconst (v := 0) (pc := 50) E d_M_again_50 (by decide) ?_
        exact a_iret (pc := 51) E hr hlk rfl d_M_again_51 (by decide) (by decide) (by decide) (by simp [h_again, hm_up_at, hm_up_up, c_6])
    · exact absurd c_21 (by first | (simp [hm_up_at]; done) | (simp [hm_up_at]; decide) | (simp only [hm_up_at]; decide))
set_option maxHeartbeats 4000000 in
set_option maxRecDepth 100000 in
theorem c_M_interrupt_no (l : Launch) (D : va_G) (ar : Nat → ClassId) (lay : Nat → Nat → Nat) (M : hm_M) (q : Int32) (hp : g_in q 0 (M 20 0 3 - 1) = 0) : Ct l D ar lay y_M_interrupt rm_p true [.ref (lay 20 0), .int q] M (.inl (some (.int 0), hm_up M 20 0 0 1)) := by
  refine Ct.of (cc := prog_5_method_23_code) (maxL := 3) (ret := (some .int)) (by decide) cd_M_interrupt (Nat.le_of_ble_eq_true rfl) ?_
  intro p e s m below meth c E hr hlk hno hH
  refine a_aload_n (pc := 0) E d_M_interrupt_0 rfl rfl ?_
  refine a_aload_n (pc := 1) E d_M_interrupt_1 rfl rfl ?_
  refine a_iload_n (pc := 2) E d_M_interrupt_2 rfl rfl ?_
  refine b_VI (pc := 3) (n := 1) E (c_M_isPart l D ar lay _ _) ⟨by decide, by decide, ml_M_79, im_M_isPart, sl_M_isPart, ii_M, cd_M_isPart, ⟨by decide, by decide⟩, by decide +kernel⟩ rfl (by decide) rfl rfl (by decide) rfl (Nat.le_of_ble_eq_true rfl) d_M_interrupt_3 (by decide) ?_
  refine a_if_ne (tgt := 13) (pc := 6) E d_M_interrupt_6 (by decide) (fun c_6 => ?_) (fun c_6 => ?_)
  · exact absurd hp c_6
  · refine a_iconst (v := 1) (pc := 9) E d_M_interrupt_9 (by decide) ?_
    refine a_goto (tgt := 14) (pc := 10) E d_M_interrupt_10 (by decide) ?_
    refine a_wr ?_
    refine p_M_0 (pc := 14) E d_M_interrupt_14 fl_M_65 ?_
    refine a_aload_n (pc := 17) E d_M_interrupt_17 rfl rfl ?_
    refine g_M_0 (pc := 18) E d_M_interrupt_18 fl_M_65 ?_
    refine a_if_ne (tgt := 53) (pc := 21) E d_M_interrupt_21 (by decide) (fun c_21 => ?_) (fun c_21 => ?_)
    · refine a_aload_n (pc := 53) E d_M_interrupt_53 rfl rfl ?_
      refine g_M_0 (pc := 54) E d_M_interrupt_54 fl_M_65 ?_
      refine a_if_le (tgt := 62) (pc := 57) E d_M_interrupt_57 (by decide) (fun c_57 => ?_) (fun c_57 => ?_)
      · exact absurd c_57 (by first | (simp [hm_up_at]; done) | (simp [hm_up_at]; decide) | (simp only [hm_up_at]; decide))
      · refine a_iconst (v := 0) (pc := 60) E d_M_interrupt_60 (by decide) ?_
        exact a_iret (pc := 61) E hr hlk rfl d_M_interrupt_61 (by decide) (by decide) (by decide) (by simp [hm_up_up])
    · exact absurd c_21 (by first | (simp [hm_up_at]; done) | (simp [hm_up_at]; decide) | (simp only [hm_up_at]; decide))
set_option maxHeartbeats 4000000 in
set_option maxRecDepth 100000 in
theorem c_M_interrupt_ok (l : Launch) (D : va_G) (ar : Nat → ClassId) (lay : Nat → Nat → Nat) (M : hm_M) (k : Nat) (hk : k < 6) (hI : IvM M) (hp : ¬ g_in (nI k) 0 (M 20 0 3 - 1) = 0) : Ct l D ar lay y_M_interrupt rm_p true [.ref (lay 20 0), .int (nI k)] M (.inl (some (.int (h_interrupt M k).1), (h_interrupt M k).2)) := by
  refine Ct.of (cc := prog_5_method_23_code) (maxL := 3) (ret := (some .int)) (by decide) cd_M_interrupt (Nat.le_of_ble_eq_true rfl) ?_
  intro p e s m below meth c E hr hlk hno hH
  have hkk : vp_in (nI k) 6 := vp_in_nI hk (by decide)
  have ek : (nI k).toNatClampNeg = k := nI_clamp (by omega)
  refine a_aload_n (pc := 0) E d_M_interrupt_0 rfl rfl ?_
  refine a_aload_n (pc := 1) E d_M_interrupt_1 rfl rfl ?_
  refine a_iload_n (pc := 2) E d_M_interrupt_2 rfl rfl ?_
  refine b_VI (pc := 3) (n := 1) E (c_M_isPart l D ar lay _ _) ⟨by decide, by decide, ml_M_79, im_M_isPart, sl_M_isPart, ii_M, cd_M_isPart, ⟨by decide, by decide⟩, by decide +kernel⟩ rfl (by decide) rfl rfl (by decide) rfl (Nat.le_of_ble_eq_true rfl) d_M_interrupt_3 (by decide) ?_
  refine a_if_ne (tgt := 13) (pc := 6) E d_M_interrupt_6 (by decide) (fun c_6 => ?_) (fun c_6 => ?_)
  · refine a_iconst (v := 0) (pc := 13) E d_M_interrupt_13 (by decide) ?_
    refine a_wr ?_
    refine p_M_0 (pc := 14) E d_M_interrupt_14 fl_M_65 ?_
    refine a_aload_n (pc := 17) E d_M_interrupt_17 rfl rfl ?_
    refine g_M_0 (pc := 18) E d_M_interrupt_18 fl_M_65 ?_
    refine a_if_ne (tgt := 53) (pc := 21) E d_M_interrupt_21 (by decide) (fun c_21 => ?_) (fun c_21 => ?_)
    · exact absurd c_21 (by first | (simp [hm_up_at]; done) | (simp [hm_up_at]; decide) | (simp only [hm_up_at]; decide))
    · refine a_aload_n (pc := 24) E d_M_interrupt_24 rfl rfl ?_
      refine a_aload_n (pc := 25) E d_M_interrupt_25 rfl rfl ?_
      refine g_M_5 (pc := 26) E d_M_interrupt_26 fl_M_19 ?_
      refine a_iload_n (pc := 29) E d_M_interrupt_29 rfl rfl ?_
      refine r_24 (pc := 30) E d_M_interrupt_30 hkk ?_
      refine a_iconst (v := 1) (pc := 31) E d_M_interrupt_31 (by decide) ?_
      refine a_icmp_eq (tgt := 49) (pc := 32) E d_M_interrupt_32 (by decide) (fun c_32 => ?_) (fun c_32 => ?_)
      · simp [hm_up_at, ek] at c_32
        refine a_iconst (v := 0) (pc := 49) E d_M_interrupt_49 (by decide) ?_
        refine p_M_0 (pc := 50) E d_M_interrupt_50 fl_M_65 ?_
        refine a_aload_n (pc := 53) E d_M_interrupt_53 rfl rfl ?_
        refine g_M_0 (pc := 54) E d_M_interrupt_54 fl_M_65 ?_
        refine a_if_le (tgt := 62) (pc := 57) E d_M_interrupt_57 (by decide) (fun c_57 => ?_) (fun c_57 => ?_)
        · refine a_aload_n (pc := 62) E d_M_interrupt_62 rfl rfl ?_
          refine g_M_7 (pc := 63) E d_M_interrupt_63 fl_M_25 ?_
          refine a_iload_n (pc := 66) E d_M_interrupt_66 rfl rfl ?_
          refine r_26 (pc := 67) E d_M_interrupt_67 hkk ?_
          refine a_istore_n (pc := 68) E d_M_interrupt_68 rfl (by decide) ?_
          refine a_aload_n (pc := 69) E d_M_interrupt_69 rfl rfl ?_
          refine a_iload_n (pc := 70) E d_M_interrupt_70 rfl rfl ?_
          refine a_iconst (v := 0) (pc := 71) E d_M_interrupt_71 (by decide) ?_
          refine b_VZ (pc := 72) (n := 2) E (c_M_undo l D ar lay _ k 0 hk (by simp only [hm_up_up]; exact hI.up0.C)) ⟨by decide, by decide, ml_M_94, im_M_undo, sl_M_undo, ii_M, cd_M_undo, ⟨by decide, by decide⟩, by decide +kernel⟩ rfl (by decide) rfl rfl (by decide) rfl (Nat.le_of_ble_eq_true rfl) d_M_interrupt_72 (by decide) ?_
          refine a_iload_n (pc := 75) E d_M_interrupt_75 rfl rfl ?_
          exact a_iret (pc := 76) E hr hlk rfl d_M_interrupt_76 (by decide) (by decide) (by decide) (by simp [h_interrupt, hm_up_at, hm_up_up, ek, c_6, c_32])
        · exact absurd c_57 (by first | (simp [hm_up_at]; done) | (simp [hm_up_at]; decide) | (simp only [hm_up_at]; decide))
      · simp [hm_up_at, ek] at c_32
        refine a_aload_n (pc := 35) E d_M_interrupt_35 rfl rfl ?_
        refine g_M_5 (pc := 36) E d_M_interrupt_36 fl_M_19 ?_
        refine a_iload_n (pc := 39) E d_M_interrupt_39 rfl rfl ?_
        refine r_24 (pc := 40) E d_M_interrupt_40 hkk ?_
        refine a_iconst (v := 2) (pc := 41) E d_M_interrupt_41 (by decide) ?_
        refine a_icmp_eq (tgt := 49) (pc := 42) E d_M_interrupt_42 (by decide) (fun c_42 => ?_) (fun c_42 => ?_)
        · simp [hm_up_at, ek] at c_42
          refine a_iconst (v := 0) (pc := 49) E d_M_interrupt_49 (by decide) ?_
          refine p_M_0 (pc := 50) E d_M_interrupt_50 fl_M_65 ?_
          refine a_aload_n (pc := 53) E d_M_interrupt_53 rfl rfl ?_
          refine g_M_0 (pc := 54) E d_M_interrupt_54 fl_M_65 ?_
          refine a_if_le (tgt := 62) (pc := 57) E d_M_interrupt_57 (by decide) (fun c_57 => ?_) (fun c_57 => ?_)
          · refine a_aload_n (pc := 62) E d_M_interrupt_62 rfl rfl ?_
            refine g_M_7 (pc := 63) E d_M_interrupt_63 fl_M_25 ?_
            refine a_iload_n (pc := 66) E d_M_interrupt_66 rfl rfl ?_
            refine r_26 (pc := 67) E d_M_interrupt_67 hkk ?_
            refine a_istore_n (pc := 68) E d_M_interrupt_68 rfl (by decide) ?_
            refine a_aload_n (pc := 69) E d_M_interrupt_69 rfl rfl ?_
            refine a_iload_n (pc := 70) E d_M_interrupt_70 rfl rfl ?_
            refine a_iconst (v := 0) (pc := 71) E d_M_interrupt_71 (by decide) ?_
            refine b_VZ (pc := 72) (n := 2) E (c_M_undo l D ar lay _ k 0 hk (by simp only [hm_up_up]; exact hI.up0.C)) ⟨by decide, by decide, ml_M_94, im_M_undo, sl_M_undo, ii_M, cd_M_undo, ⟨by decide, by decide⟩, by decide +kernel⟩ rfl (by decide) rfl rfl (by decide) rfl (Nat.le_of_ble_eq_true rfl) d_M_interrupt_72 (by decide) ?_
            refine a_iload_n (pc := 75) E d_M_interrupt_75 rfl rfl ?_
            exact a_iret (pc := 76) E hr hlk rfl d_M_interrupt_76 (by decide) (by decide) (by decide) (by simp [h_interrupt, hm_up_at, hm_up_up, ek, c_6, c_32, c_42])
          · exact absurd c_57 (by first | (simp [hm_up_at]; done) | (simp [hm_up_at]; decide) | (simp only [hm_up_at]; decide))
        · simp [hm_up_at, ek] at c_42
          refine a_iconst (v := 2) (pc := 45) E d_M_interrupt_45 (by decide) ?_
          refine a_goto (tgt := 50) (pc := 46) E d_M_interrupt_46 (by decide) ?_
          refine p_M_0 (pc := 50) E d_M_interrupt_50 fl_M_65 ?_
          refine a_aload_n (pc := 53) E d_M_interrupt_53 rfl rfl ?_
          refine g_M_0 (pc := 54) E d_M_interrupt_54 fl_M_65 ?_
          refine a_if_le (tgt := 62) (pc := 57) E d_M_interrupt_57 (by decide) (fun c_57 => ?_) (fun c_57 => ?_)
          · exact absurd c_57 (by first | (simp [hm_up_at]; done) | (simp [hm_up_at]; decide) | (simp only [hm_up_at]; decide))
          · refine a_iconst (v := 0) (pc := 60) E d_M_interrupt_60 (by decide) ?_
            exact a_iret (pc := 61) E hr hlk rfl d_M_interrupt_61 (by decide) (by decide) (by decide) (by simp [h_interrupt, hm_up_at, hm_up_up, ek, c_6, c_32, c_42])
  · exact absurd c_6 hp
set_option maxHeartbeats 4000000 in
set_option maxRecDepth 100000 in
theorem c_M_restart_no (l : Launch) (D : va_G) (ar : Nat → ClassId) (lay : Nat → Nat → Nat) (M : hm_M) (q : Int32) (hp : g_in q 0 (M 20 0 3 - 1) = 0) : Ct l D ar lay y_M_restart rm_p true [.ref (lay 20 0), .int q] M (.inl (none, hm_up M 20 0 0 1)) := by
  refine Ct.of (cc := prog_5_method_24_code) (maxL := 2) (ret := none) (by decide) cd_M_restart (Nat.le_of_ble_eq_true rfl) ?_
  intro p e s m below meth c E hr hlk hno hH
  refine a_aload_n (pc := 0) E d_M_restart_0 rfl rfl ?_
  refine a_aload_n (pc := 1) E d_M_restart_1 rfl rfl ?_
  refine a_iload_n (pc := 2) E d_M_restart_2 rfl rfl ?_
  refine b_VI (pc := 3) (n := 1) E (c_M_isPart l D ar lay _ _) ⟨by decide, by decide, ml_M_79, im_M_isPart, sl_M_isPart, ii_M, cd_M_isPart, ⟨by decide, by decide⟩, by decide +kernel⟩ rfl (by decide) rfl rfl (by decide) rfl (Nat.le_of_ble_eq_true rfl) d_M_restart_3 (by decide) ?_
  refine a_if_ne (tgt := 13) (pc := 6) E d_M_restart_6 (by decide) (fun c_6 => ?_) (fun c_6 => ?_)
  · exact absurd hp c_6
  · refine a_iconst (v := 1) (pc := 9) E d_M_restart_9 (by decide) ?_
    refine a_goto (tgt := 14) (pc := 10) E d_M_restart_10 (by decide) ?_
    refine a_wr ?_
    refine p_M_0 (pc := 14) E d_M_restart_14 fl_M_65 ?_
    refine a_aload_n (pc := 17) E d_M_restart_17 rfl rfl ?_
    refine g_M_0 (pc := 18) E d_M_restart_18 fl_M_65 ?_
    refine a_if_ne (tgt := 53) (pc := 21) E d_M_restart_21 (by decide) (fun c_21 => ?_) (fun c_21 => ?_)
    · refine a_aload_n (pc := 53) E d_M_restart_53 rfl rfl ?_
      refine g_M_0 (pc := 54) E d_M_restart_54 fl_M_65 ?_
      refine a_if_le (tgt := 61) (pc := 57) E d_M_restart_57 (by decide) (fun c_57 => ?_) (fun c_57 => ?_)
      · exact absurd c_57 (by first | (simp [hm_up_at]; done) | (simp [hm_up_at]; decide) | (simp only [hm_up_at]; decide))
      · exact a_vret (pc := 60) E hr hlk d_M_restart_60 (by decide) (by decide) (by decide) (by simp [hm_up_up])
    · exact absurd c_21 (by first | (simp [hm_up_at]; done) | (simp [hm_up_at]; decide) | (simp only [hm_up_at]; decide))
set_option maxHeartbeats 4000000 in
set_option maxRecDepth 100000 in
theorem c_M_restart_ok (l : Launch) (D : va_G) (ar : Nat → ClassId) (lay : Nat → Nat → Nat) (M : hm_M) (k : Nat) (hk : k < 6) (hI : IvM M) (hp : ¬ g_in (nI k) 0 (M 20 0 3 - 1) = 0) : Ct l D ar lay y_M_restart rm_p true [.ref (lay 20 0), .int (nI k)] M (.inl (none, h_restart M k)) := by
  refine Ct.of (cc := prog_5_method_24_code) (maxL := 2) (ret := none) (by decide) cd_M_restart (Nat.le_of_ble_eq_true rfl) ?_
  intro p e s m below meth c E hr hlk hno hH
  have hkk : vp_in (nI k) 6 := vp_in_nI hk (by decide)
  have ek : (nI k).toNatClampNeg = k := nI_clamp (by omega)
  refine a_aload_n (pc := 0) E d_M_restart_0 rfl rfl ?_
  refine a_aload_n (pc := 1) E d_M_restart_1 rfl rfl ?_
  refine a_iload_n (pc := 2) E d_M_restart_2 rfl rfl ?_
  refine b_VI (pc := 3) (n := 1) E (c_M_isPart l D ar lay _ _) ⟨by decide, by decide, ml_M_79, im_M_isPart, sl_M_isPart, ii_M, cd_M_isPart, ⟨by decide, by decide⟩, by decide +kernel⟩ rfl (by decide) rfl rfl (by decide) rfl (Nat.le_of_ble_eq_true rfl) d_M_restart_3 (by decide) ?_
  refine a_if_ne (tgt := 13) (pc := 6) E d_M_restart_6 (by decide) (fun c_6 => ?_) (fun c_6 => ?_)
  · refine a_iconst (v := 0) (pc := 13) E d_M_restart_13 (by decide) ?_
    refine a_wr ?_
    refine p_M_0 (pc := 14) E d_M_restart_14 fl_M_65 ?_
    refine a_aload_n (pc := 17) E d_M_restart_17 rfl rfl ?_
    refine g_M_0 (pc := 18) E d_M_restart_18 fl_M_65 ?_
    refine a_if_ne (tgt := 53) (pc := 21) E d_M_restart_21 (by decide) (fun c_21 => ?_) (fun c_21 => ?_)
    · exact absurd c_21 (by first | (simp [hm_up_at]; done) | (simp [hm_up_at]; decide) | (simp only [hm_up_at]; decide))
    · refine a_aload_n (pc := 24) E d_M_restart_24 rfl rfl ?_
      refine a_aload_n (pc := 25) E d_M_restart_25 rfl rfl ?_
      refine g_M_5 (pc := 26) E d_M_restart_26 fl_M_19 ?_
      refine a_iload_n (pc := 29) E d_M_restart_29 rfl rfl ?_
      refine r_24 (pc := 30) E d_M_restart_30 hkk ?_
      refine a_iconst (v := 3) (pc := 31) E d_M_restart_31 (by decide) ?_
      refine a_icmp_eq (tgt := 49) (pc := 32) E d_M_restart_32 (by decide) (fun c_32 => ?_) (fun c_32 => ?_)
      · simp [hm_up_at, ek] at c_32
        refine a_iconst (v := 0) (pc := 49) E d_M_restart_49 (by decide) ?_
        refine p_M_0 (pc := 50) E d_M_restart_50 fl_M_65 ?_
        refine a_aload_n (pc := 53) E d_M_restart_53 rfl rfl ?_
        refine g_M_0 (pc := 54) E d_M_restart_54 fl_M_65 ?_
        refine a_if_le (tgt := 61) (pc := 57) E d_M_restart_57 (by decide) (fun c_57 => ?_) (fun c_57 => ?_)
        · refine a_aload_n (pc := 61) E d_M_restart_61 rfl rfl ?_
          refine g_M_5 (pc := 62) E d_M_restart_62 fl_M_19 ?_
          refine a_iload_n (pc := 65) E d_M_restart_65 rfl rfl ?_
          refine a_iconst (v := 0) (pc := 66) E d_M_restart_66 (by decide) ?_
          refine s_24 (pc := 67) E d_M_restart_67 hkk ?_
          refine a_aload_n (pc := 68) E d_M_restart_68 rfl rfl ?_
          refine g_M_7 (pc := 69) E d_M_restart_69 fl_M_25 ?_
          refine a_iload_n (pc := 72) E d_M_restart_72 rfl rfl ?_
          refine a_iconst (v := 0) (pc := 73) E d_M_restart_73 (by decide) ?_
          refine s_26 (pc := 74) E d_M_restart_74 hkk ?_
          exact a_vret (pc := 75) E hr hlk d_M_restart_75 (by decide) (by decide) (by decide) (by simp [h_restart, hm_up_at, hm_up_up, ek, c_6, c_32])
        · exact absurd c_57 (by first | (simp [hm_up_at]; done) | (simp [hm_up_at]; decide) | (simp only [hm_up_at]; decide))
      · simp [hm_up_at, ek] at c_32
        refine a_aload_n (pc := 35) E d_M_restart_35 rfl rfl ?_
        refine g_M_5 (pc := 36) E d_M_restart_36 fl_M_19 ?_
        refine a_iload_n (pc := 39) E d_M_restart_39 rfl rfl ?_
        refine r_24 (pc := 40) E d_M_restart_40 hkk ?_
        refine a_iconst (v := 4) (pc := 41) E d_M_restart_41 (by decide) ?_
        refine a_icmp_eq (tgt := 49) (pc := 42) E d_M_restart_42 (by decide) (fun c_42 => ?_) (fun c_42 => ?_)
        · simp [hm_up_at, ek] at c_42
          refine a_iconst (v := 0) (pc := 49) E d_M_restart_49 (by decide) ?_
          refine p_M_0 (pc := 50) E d_M_restart_50 fl_M_65 ?_
          refine a_aload_n (pc := 53) E d_M_restart_53 rfl rfl ?_
          refine g_M_0 (pc := 54) E d_M_restart_54 fl_M_65 ?_
          refine a_if_le (tgt := 61) (pc := 57) E d_M_restart_57 (by decide) (fun c_57 => ?_) (fun c_57 => ?_)
          · refine a_aload_n (pc := 61) E d_M_restart_61 rfl rfl ?_
            refine g_M_5 (pc := 62) E d_M_restart_62 fl_M_19 ?_
            refine a_iload_n (pc := 65) E d_M_restart_65 rfl rfl ?_
            refine a_iconst (v := 0) (pc := 66) E d_M_restart_66 (by decide) ?_
            refine s_24 (pc := 67) E d_M_restart_67 hkk ?_
            refine a_aload_n (pc := 68) E d_M_restart_68 rfl rfl ?_
            refine g_M_7 (pc := 69) E d_M_restart_69 fl_M_25 ?_
            refine a_iload_n (pc := 72) E d_M_restart_72 rfl rfl ?_
            refine a_iconst (v := 0) (pc := 73) E d_M_restart_73 (by decide) ?_
            refine s_26 (pc := 74) E d_M_restart_74 hkk ?_
            exact a_vret (pc := 75) E hr hlk d_M_restart_75 (by decide) (by decide) (by decide) (by simp [h_restart, hm_up_at, hm_up_up, ek, c_6, c_32, c_42])
          · exact absurd c_57 (by first | (simp [hm_up_at]; done) | (simp [hm_up_at]; decide) | (simp only [hm_up_at]; decide))
        · simp [hm_up_at, ek] at c_42
          refine a_iconst (v := 2) (pc := 45) E d_M_restart_45 (by decide) ?_
          refine a_goto (tgt := 50) (pc := 46) E d_M_restart_46 (by decide) ?_
          refine p_M_0 (pc := 50) E d_M_restart_50 fl_M_65 ?_
          refine a_aload_n (pc := 53) E d_M_restart_53 rfl rfl ?_
          refine g_M_0 (pc := 54) E d_M_restart_54 fl_M_65 ?_
          refine a_if_le (tgt := 61) (pc := 57) E d_M_restart_57 (by decide) (fun c_57 => ?_) (fun c_57 => ?_)
          · exact absurd c_57 (by first | (simp [hm_up_at]; done) | (simp [hm_up_at]; decide) | (simp only [hm_up_at]; decide))
          · exact a_vret (pc := 60) E hr hlk d_M_restart_60 (by decide) (by decide) (by decide) (by simp [h_restart, hm_up_at, hm_up_up, ek, c_6, c_32, c_42])
  · exact absurd c_6 hp
set_option maxHeartbeats 4000000 in
set_option maxRecDepth 100000 in
theorem c_M_log (l : Launch) (D : va_G) (ar : Nat → ClassId) (lay : Nat → Nat → Nat) (M : hm_M) (x : Int32) (hI : IvM M) : Ct l D ar lay y_M_log rm_p true [.ref (lay 20 0), .int x] M (.inl (some (.int (h_log M x).1), (h_log M x).2)) := by
  refine Ct.of (cc := prog_5_method_26_code) (maxL := 2) (ret := (some .int)) (by decide) cd_M_log (Nat.le_of_ble_eq_true rfl) ?_
  intro p e s m below meth c E hr hlk hno hH
  refine a_aload_n (pc := 0) E d_M_log_0 rfl rfl ?_
  refine a_iload_n (pc := 1) E d_M_log_1 rfl rfl ?_
  refine a_iconst (v := 0) (pc := 2) E d_M_log_2 (by decide) ?_
  refine a_aload_n (pc := 3) E d_M_log_3 rfl rfl ?_
  refine g_M_21 (pc := 4) E d_M_log_4 fl_M_104 ?_
  refine a_sipush (v := 400) (pc := 7) E d_M_log_7 (by decide) ?_
  refine a_icmp_ge (tgt := 20) (pc := 10) E d_M_log_10 (by decide) (fun c_10 => ?_) (fun c_10 => ?_)
  · refine a_sipush (v := 400) (pc := 20) E d_M_log_20 (by decide) ?_
    refine a_iconst (v := 1) (pc := 23) E d_M_log_23 (by decide) ?_
    refine a_isub (pc := 24) E d_M_log_24 ?_
    refine b_SI (pc := 25) (n := 3) E (c_M_in l D ar lay _ _ _ _) ⟨by decide, by decide, ml_M_72, ss_M_in, ii_M, ⟨by decide, by decide⟩, by decide +kernel⟩ cd_M_in rfl (by decide) rfl (Nat.le_of_ble_eq_true rfl) d_M_log_25 (by decide) ?_
    refine a_if_eq (tgt := 35) (pc := 28) E d_M_log_28 (by decide) (fun c_28 => ?_) (fun c_28 => ?_)
    · try simp only [show (400 : Int32) - 1 = 399 from rfl] at c_28
      refine a_iconst (v := 1) (pc := 35) E d_M_log_35 (by decide) ?_
      refine a_wr ?_
      refine p_M_0 (pc := 36) E d_M_log_36 fl_M_65 ?_
      refine a_aload_n (pc := 39) E d_M_log_39 rfl rfl ?_
      refine g_M_0 (pc := 40) E d_M_log_40 fl_M_65 ?_
      refine a_if_le (tgt := 50) (pc := 43) E d_M_log_43 (by decide) (fun c_43 => ?_) (fun c_43 => ?_)
      · exact absurd c_43 (by first | (simp [hm_up_at]; done) | (simp [hm_up_at]; decide) | (simp only [hm_up_at]; decide))
      · refine a_iconst (v := 0) (pc := 46) E d_M_log_46 (by decide) ?_
        refine a_goto (tgt := 56) (pc := 47) E d_M_log_47 (by decide) ?_
        exact a_iret (pc := 56) E hr hlk rfl d_M_log_56 (by decide) (by decide) (by decide) (by simp [h_log, hm_up_at, hm_up_up, c_10, c_28])
    · have hx : vp_in x 400 := by
        have hr := in_rng c_28
        rw [dec_toInt (by first | exact hI.st | decide)] at hr
        have z0 : (0 : Int32).toInt = 0 := rfl
        have z4 : (400 : Int32).toInt = 400 := rfl
        first | exact ix_of (by omega) (by omega) | (have q := Int32.lt_iff_toInt_lt.mp (Int32.not_le.mp c_10); exact ix_of (by omega) (by omega))
      try simp only [show (400 : Int32) - 1 = 399 from rfl] at c_28
      refine a_iconst (v := 0) (pc := 31) E d_M_log_31 (by decide) ?_
      refine a_goto (tgt := 36) (pc := 32) E d_M_log_32 (by decide) ?_
      refine a_wr ?_
      refine p_M_0 (pc := 36) E d_M_log_36 fl_M_65 ?_
      refine a_aload_n (pc := 39) E d_M_log_39 rfl rfl ?_
      refine g_M_0 (pc := 40) E d_M_log_40 fl_M_65 ?_
      refine a_if_le (tgt := 50) (pc := 43) E d_M_log_43 (by decide) (fun c_43 => ?_) (fun c_43 => ?_)
      · refine a_aload_n (pc := 50) E d_M_log_50 rfl rfl ?_
        refine g_M_23 (pc := 51) E d_M_log_51 fl_M_62 ?_
        refine a_iload_n (pc := 54) E d_M_log_54 rfl rfl ?_
        refine r_38 (pc := 55) E d_M_log_55 hx ?_
        exact a_iret (pc := 56) E hr hlk rfl d_M_log_56 (by decide) (by decide) (by decide) (by simp [h_log, hm_up_at, hm_up_up, c_10, c_28])
      · exact absurd c_43 (by first | (simp [hm_up_at]; done) | (simp [hm_up_at]; decide) | (simp only [hm_up_at]; decide))
  · refine a_aload_n (pc := 13) E d_M_log_13 rfl rfl ?_
    refine g_M_21 (pc := 14) E d_M_log_14 fl_M_104 ?_
    refine a_goto (tgt := 23) (pc := 17) E d_M_log_17 (by decide) ?_
    refine a_iconst (v := 1) (pc := 23) E d_M_log_23 (by decide) ?_
    refine a_isub (pc := 24) E d_M_log_24 ?_
    refine b_SI (pc := 25) (n := 3) E (c_M_in l D ar lay _ _ _ _) ⟨by decide, by decide, ml_M_72, ss_M_in, ii_M, ⟨by decide, by decide⟩, by decide +kernel⟩ cd_M_in rfl (by decide) rfl (Nat.le_of_ble_eq_true rfl) d_M_log_25 (by decide) ?_
    refine a_if_eq (tgt := 35) (pc := 28) E d_M_log_28 (by decide) (fun c_28 => ?_) (fun c_28 => ?_)
    · try simp only [show (400 : Int32) - 1 = 399 from rfl] at c_28
      refine a_iconst (v := 1) (pc := 35) E d_M_log_35 (by decide) ?_
      refine a_wr ?_
      refine p_M_0 (pc := 36) E d_M_log_36 fl_M_65 ?_
      refine a_aload_n (pc := 39) E d_M_log_39 rfl rfl ?_
      refine g_M_0 (pc := 40) E d_M_log_40 fl_M_65 ?_
      refine a_if_le (tgt := 50) (pc := 43) E d_M_log_43 (by decide) (fun c_43 => ?_) (fun c_43 => ?_)
      · exact absurd c_43 (by first | (simp [hm_up_at]; done) | (simp [hm_up_at]; decide) | (simp only [hm_up_at]; decide))
      · refine a_iconst (v := 0) (pc := 46) E d_M_log_46 (by decide) ?_
        refine a_goto (tgt := 56) (pc := 47) E d_M_log_47 (by decide) ?_
        exact a_iret (pc := 56) E hr hlk rfl d_M_log_56 (by decide) (by decide) (by decide) (by simp [h_log, hm_up_at, hm_up_up, c_10, c_28])
    · have hx : vp_in x 400 := by
        have hr := in_rng c_28
        rw [dec_toInt (by first | exact hI.st | decide)] at hr
        have z0 : (0 : Int32).toInt = 0 := rfl
        have z4 : (400 : Int32).toInt = 400 := rfl
        first | exact ix_of (by omega) (by omega) | (have q := Int32.lt_iff_toInt_lt.mp (Int32.not_le.mp c_10); exact ix_of (by omega) (by omega))
      try simp only [show (400 : Int32) - 1 = 399 from rfl] at c_28
      refine a_iconst (v := 0) (pc := 31) E d_M_log_31 (by decide) ?_
      refine a_goto (tgt := 36) (pc := 32) E d_M_log_32 (by decide) ?_
      refine a_wr ?_
      refine p_M_0 (pc := 36) E d_M_log_36 fl_M_65 ?_
      refine a_aload_n (pc := 39) E d_M_log_39 rfl rfl ?_
      refine g_M_0 (pc := 40) E d_M_log_40 fl_M_65 ?_
      refine a_if_le (tgt := 50) (pc := 43) E d_M_log_43 (by decide) (fun c_43 => ?_) (fun c_43 => ?_)
      · refine a_aload_n (pc := 50) E d_M_log_50 rfl rfl ?_
        refine g_M_23 (pc := 51) E d_M_log_51 fl_M_62 ?_
        refine a_iload_n (pc := 54) E d_M_log_54 rfl rfl ?_
        refine r_38 (pc := 55) E d_M_log_55 hx ?_
        exact a_iret (pc := 56) E hr hlk rfl d_M_log_56 (by decide) (by decide) (by decide) (by simp [h_log, hm_up_at, hm_up_up, c_10, c_28])
      · exact absurd c_43 (by first | (simp [hm_up_at]; done) | (simp [hm_up_at]; decide) | (simp only [hm_up_at]; decide))
set_option maxHeartbeats 4000000 in
set_option maxRecDepth 100000 in
theorem c_M_place (l : Launch) (D : va_G) (ar : Nat → ClassId) (lay : Nat → Nat → Nat) (M : hm_M) (x w : Int32) : Ct l D ar lay y_M_place rm_p true [.ref (lay 20 0), .int x, .int w] M (.inl (some (.int (h_place M x w).1), (h_place M x w).2)) := by
  refine Ct.of (cc := prog_5_method_27_code) (maxL := 3) (ret := (some .int)) (by decide) cd_M_place (Nat.le_of_ble_eq_true rfl) ?_
  intro p e s m below meth c E hr hlk hno hH
  refine a_aload_n (pc := 0) E d_M_place_0 rfl rfl ?_
  refine a_iload_n (pc := 1) E d_M_place_1 rfl rfl ?_
  refine a_iconst (v := 0) (pc := 2) E d_M_place_2 (by decide) ?_
  refine a_bipush (v := 7) (pc := 3) E d_M_place_3 (by decide) ?_
  refine b_SI (pc := 5) (n := 3) E (c_M_in l D ar lay _ _ _ _) ⟨by decide, by decide, ml_M_72, ss_M_in, ii_M, ⟨by decide, by decide⟩, by decide +kernel⟩ cd_M_in rfl (by decide) rfl (Nat.le_of_ble_eq_true rfl) d_M_place_5 (by decide) ?_
  refine a_if_eq (tgt := 20) (pc := 8) E d_M_place_8 (by decide) (fun c_8 => ?_) (fun c_8 => ?_)
  · refine a_iconst (v := 1) (pc := 20) E d_M_place_20 (by decide) ?_
    refine a_goto (tgt := 25) (pc := 21) E d_M_place_21 (by decide) ?_
    refine a_wr ?_
    refine p_M_0 (pc := 25) E d_M_place_25 fl_M_65 ?_
    refine a_aload_n (pc := 28) E d_M_place_28 rfl rfl ?_
    refine g_M_0 (pc := 29) E d_M_place_29 fl_M_65 ?_
    refine a_if_le (tgt := 37) (pc := 32) E d_M_place_32 (by decide) (fun c_32 => ?_) (fun c_32 => ?_)
    · exact absurd c_32 (by first | (simp [hm_up_at]; done) | (simp [hm_up_at]; decide) | (simp only [hm_up_at]; decide))
    · refine a_iconst (v := 0) (pc := 35) E d_M_place_35 (by decide) ?_
      exact a_iret (pc := 36) E hr hlk rfl d_M_place_36 (by decide) (by decide) (by decide) (by simp [h_place, hm_up_at, hm_up_up, gi_01, c_8])
  · have hx : vp_in x 8 := by
      have hr := in_rng c_8
      have z0 : (0 : Int32).toInt = 0 := rfl
      have z4 : (7 : Int32).toInt = 7 := rfl
      exact ix_of (by omega) (by omega)
    refine a_iload_n (pc := 11) E d_M_place_11 rfl rfl ?_
    refine a_iconst (v := 0) (pc := 12) E d_M_place_12 (by decide) ?_
    refine a_iconst (v := 1) (pc := 13) E d_M_place_13 (by decide) ?_
    refine b_SI (pc := 14) (n := 3) E (c_M_in l D ar lay _ _ _ _) ⟨by decide, by decide, ml_M_72, ss_M_in, ii_M, ⟨by decide, by decide⟩, by decide +kernel⟩ cd_M_in rfl (by decide) rfl (Nat.le_of_ble_eq_true rfl) d_M_place_14 (by decide) ?_
    refine a_if_ne (tgt := 24) (pc := 17) E d_M_place_17 (by decide) (fun c_17 => ?_) (fun c_17 => ?_)
    · refine a_iconst (v := 0) (pc := 24) E d_M_place_24 (by decide) ?_
      refine a_wr ?_
      refine p_M_0 (pc := 25) E d_M_place_25 fl_M_65 ?_
      refine a_aload_n (pc := 28) E d_M_place_28 rfl rfl ?_
      refine g_M_0 (pc := 29) E d_M_place_29 fl_M_65 ?_
      refine a_if_le (tgt := 37) (pc := 32) E d_M_place_32 (by decide) (fun c_32 => ?_) (fun c_32 => ?_)
      · refine a_iload_n (pc := 37) E d_M_place_37 rfl rfl ?_
        refine a_if_ne (tgt := 50) (pc := 38) E d_M_place_38 (by decide) (fun c_38 => ?_) (fun c_38 => ?_)
        · refine a_aload_n (pc := 50) E d_M_place_50 rfl rfl ?_
          refine g_M_2 (pc := 51) E d_M_place_51 fl_M_13 ?_
          refine a_iload_n (pc := 54) E d_M_place_54 rfl rfl ?_
          refine r_22 (pc := 55) E d_M_place_55 hx ?_
          exact a_iret (pc := 56) E hr hlk rfl d_M_place_56 (by decide) (by decide) (by decide) (by simp [h_place, hm_up_at, hm_up_up, gi_01, c_8, c_17, c_38])
        · refine a_aload_n (pc := 41) E d_M_place_41 rfl rfl ?_
          refine g_M_1 (pc := 42) E d_M_place_42 fl_M_7 ?_
          refine a_iload_n (pc := 45) E d_M_place_45 rfl rfl ?_
          refine r_21 (pc := 46) E d_M_place_46 hx ?_
          refine a_goto (tgt := 56) (pc := 47) E d_M_place_47 (by decide) ?_
          exact a_iret (pc := 56) E hr hlk rfl d_M_place_56 (by decide) (by decide) (by decide) (by simp [h_place, hm_up_at, hm_up_up, gi_01, c_8, c_17, c_38])
      · exact absurd c_32 (by first | (simp [hm_up_at]; done) | (simp [hm_up_at]; decide) | (simp only [hm_up_at]; decide))
    · refine a_iconst (v := 1) (pc := 20) E d_M_place_20 (by decide) ?_
      refine a_goto (tgt := 25) (pc := 21) E d_M_place_21 (by decide) ?_
      refine a_wr ?_
      refine p_M_0 (pc := 25) E d_M_place_25 fl_M_65 ?_
      refine a_aload_n (pc := 28) E d_M_place_28 rfl rfl ?_
      refine g_M_0 (pc := 29) E d_M_place_29 fl_M_65 ?_
      refine a_if_le (tgt := 37) (pc := 32) E d_M_place_32 (by decide) (fun c_32 => ?_) (fun c_32 => ?_)
      · exact absurd c_32 (by first | (simp [hm_up_at]; done) | (simp [hm_up_at]; decide) | (simp only [hm_up_at]; decide))
      · refine a_iconst (v := 0) (pc := 35) E d_M_place_35 (by decide) ?_
        exact a_iret (pc := 36) E hr hlk rfl d_M_place_36 (by decide) (by decide) (by decide) (by simp [h_place, hm_up_at, hm_up_up, gi_01, c_8, c_17])
set_option maxHeartbeats 4000000 in
set_option maxRecDepth 100000 in
theorem c_M_message (l : Launch) (D : va_G) (ar : Nat → ClassId) (lay : Nat → Nat → Nat) (M : hm_M) (x w : Int32) (hI : IvM M) : Ct l D ar lay y_M_message rm_p true [.ref (lay 20 0), .int x, .int w] M (.inl (some (.int (h_message M x w).1), (h_message M x w).2)) := by
  refine Ct.of (cc := prog_5_method_28_code) (maxL := 3) (ret := (some .int)) (by decide) cd_M_message (Nat.le_of_ble_eq_true rfl) ?_
  intro p e s m below meth c E hr hlk hno hH
  refine a_aload_n (pc := 0) E d_M_message_0 rfl rfl ?_
  refine a_aload_n (pc := 1) E d_M_message_1 rfl rfl ?_
  refine a_iload_n (pc := 2) E d_M_message_2 rfl rfl ?_
  refine b_VI (pc := 3) (n := 1) E (c_M_isMessage l D ar lay _ _) ⟨by decide, by decide, ml_M_126, im_M_isMessage, sl_M_isMessage, ii_M, cd_M_isMessage, ⟨by decide, by decide⟩, by decide +kernel⟩ rfl (by decide) rfl rfl (by decide) rfl (Nat.le_of_ble_eq_true rfl) d_M_message_3 (by decide) ?_
  refine a_if_ne (tgt := 13) (pc := 6) E d_M_message_6 (by decide) (fun c_6 => ?_) (fun c_6 => ?_)
  · refine a_iload_n (pc := 13) E d_M_message_13 rfl rfl ?_
    refine a_iconst (v := 0) (pc := 14) E d_M_message_14 (by decide) ?_
    refine a_iconst (v := 3) (pc := 15) E d_M_message_15 (by decide) ?_
    refine b_SI (pc := 16) (n := 3) E (c_M_in l D ar lay _ _ _ _) ⟨by decide, by decide, ml_M_72, ss_M_in, ii_M, ⟨by decide, by decide⟩, by decide +kernel⟩ cd_M_in rfl (by decide) rfl (Nat.le_of_ble_eq_true rfl) d_M_message_16 (by decide) ?_
    refine a_if_ne (tgt := 26) (pc := 19) E d_M_message_19 (by decide) (fun c_19 => ?_) (fun c_19 => ?_)
    · refine a_iconst (v := 0) (pc := 26) E d_M_message_26 (by decide) ?_
      refine a_wr ?_
      refine p_M_0 (pc := 27) E d_M_message_27 fl_M_65 ?_
      refine a_aload_n (pc := 30) E d_M_message_30 rfl rfl ?_
      refine g_M_0 (pc := 31) E d_M_message_31 fl_M_65 ?_
      refine a_if_le (tgt := 39) (pc := 34) E d_M_message_34 (by decide) (fun c_34 => ?_) (fun c_34 => ?_)
      · refine a_iload_n (pc := 39) E d_M_message_39 rfl rfl ?_
        refine a_if_ne (tgt := 52) (pc := 40) E d_M_message_40 (by decide) (fun c_40 => ?_) (fun c_40 => ?_)
        · refine a_iload_n (pc := 52) E d_M_message_52 rfl rfl ?_
          refine a_iconst (v := 1) (pc := 53) E d_M_message_53 (by decide) ?_
          refine a_icmp_ne (tgt := 66) (pc := 54) E d_M_message_54 (by decide) (fun c_54 => ?_) (fun c_54 => ?_)
          · refine a_iload_n (pc := 66) E d_M_message_66 rfl rfl ?_
            refine a_iconst (v := 2) (pc := 67) E d_M_message_67 (by decide) ?_
            refine a_icmp_ne (tgt := 80) (pc := 68) E d_M_message_68 (by decide) (fun c_68 => ?_) (fun c_68 => ?_)
            · refine a_aload_n (pc := 80) E d_M_message_80 rfl rfl ?_
              refine g_M_20 (pc := 81) E d_M_message_81 fl_M_59 ?_
              refine a_iload_n (pc := 84) E d_M_message_84 rfl rfl ?_
              refine r_37 (pc := 85) E d_M_message_85 (msg_in hI c_6) ?_
              exact a_iret (pc := 86) E hr hlk rfl d_M_message_86 (by decide) (by decide) (by decide) (by simp [h_message, hm_up_at, hm_up_up, gi_03, gi_13, gi_23, c_6, c_19, c_40, c_54, c_68])
            · refine a_aload_n (pc := 71) E d_M_message_71 rfl rfl ?_
              refine g_M_19 (pc := 72) E d_M_message_72 fl_M_56 ?_
              refine a_iload_n (pc := 75) E d_M_message_75 rfl rfl ?_
              refine r_36 (pc := 76) E d_M_message_76 (msg_in hI c_6) ?_
              refine a_goto (tgt := 86) (pc := 77) E d_M_message_77 (by decide) ?_
              exact a_iret (pc := 86) E hr hlk rfl d_M_message_86 (by decide) (by decide) (by decide) (by simp [h_message, hm_up_at, hm_up_up, gi_03, gi_13, gi_23, c_6, c_19, c_40, c_54, c_68])
          · refine a_aload_n (pc := 57) E d_M_message_57 rfl rfl ?_
            refine g_M_18 (pc := 58) E d_M_message_58 fl_M_53 ?_
            refine a_iload_n (pc := 61) E d_M_message_61 rfl rfl ?_
            refine r_35 (pc := 62) E d_M_message_62 (msg_in hI c_6) ?_
            refine a_goto (tgt := 86) (pc := 63) E d_M_message_63 (by decide) ?_
            exact a_iret (pc := 86) E hr hlk rfl d_M_message_86 (by decide) (by decide) (by decide) (by simp [h_message, hm_up_at, hm_up_up, gi_03, gi_13, gi_23, c_6, c_19, c_40, c_54])
        · refine a_aload_n (pc := 43) E d_M_message_43 rfl rfl ?_
          refine g_M_17 (pc := 44) E d_M_message_44 fl_M_50 ?_
          refine a_iload_n (pc := 47) E d_M_message_47 rfl rfl ?_
          refine r_34 (pc := 48) E d_M_message_48 (msg_in hI c_6) ?_
          refine a_goto (tgt := 86) (pc := 49) E d_M_message_49 (by decide) ?_
          exact a_iret (pc := 86) E hr hlk rfl d_M_message_86 (by decide) (by decide) (by decide) (by simp [h_message, hm_up_at, hm_up_up, gi_03, gi_13, gi_23, c_6, c_19, c_40])
      · exact absurd c_34 (by first | (simp [hm_up_at]; done) | (simp [hm_up_at]; decide) | (simp only [hm_up_at]; decide))
    · refine a_iconst (v := 2) (pc := 22) E d_M_message_22 (by decide) ?_
      refine a_goto (tgt := 27) (pc := 23) E d_M_message_23 (by decide) ?_
      refine a_wr ?_
      refine p_M_0 (pc := 27) E d_M_message_27 fl_M_65 ?_
      refine a_aload_n (pc := 30) E d_M_message_30 rfl rfl ?_
      refine g_M_0 (pc := 31) E d_M_message_31 fl_M_65 ?_
      refine a_if_le (tgt := 39) (pc := 34) E d_M_message_34 (by decide) (fun c_34 => ?_) (fun c_34 => ?_)
      · exact absurd c_34 (by first | (simp [hm_up_at]; done) | (simp [hm_up_at]; decide) | (simp only [hm_up_at]; decide))
      · refine a_iconst (v := 0) (pc := 37) E d_M_message_37 (by decide) ?_
        exact a_iret (pc := 38) E hr hlk rfl d_M_message_38 (by decide) (by decide) (by decide) (by simp [h_message, hm_up_at, hm_up_up, gi_03, gi_13, gi_23, c_6, c_19])
  · refine a_iconst (v := 1) (pc := 9) E d_M_message_9 (by decide) ?_
    refine a_goto (tgt := 27) (pc := 10) E d_M_message_10 (by decide) ?_
    refine a_wr ?_
    refine p_M_0 (pc := 27) E d_M_message_27 fl_M_65 ?_
    refine a_aload_n (pc := 30) E d_M_message_30 rfl rfl ?_
    refine g_M_0 (pc := 31) E d_M_message_31 fl_M_65 ?_
    refine a_if_le (tgt := 39) (pc := 34) E d_M_message_34 (by decide) (fun c_34 => ?_) (fun c_34 => ?_)
    · exact absurd c_34 (by first | (simp [hm_up_at]; done) | (simp [hm_up_at]; decide) | (simp only [hm_up_at]; decide))
    · refine a_iconst (v := 0) (pc := 37) E d_M_message_37 (by decide) ?_
      exact a_iret (pc := 38) E hr hlk rfl d_M_message_38 (by decide) (by decide) (by decide) (by simp [h_message, hm_up_at, hm_up_up, gi_03, gi_13, gi_23, c_6])
