def g_ix (M : hm_M) (k : Nat) : Nat := 10 * k + (M 26 0 k).toNatClampNeg
def g_try (M : hm_M) (k : Nat) : hm_M :=
  if M 32 0 (g_ix M k) = 0 then
    (if M 29 0 (g_ix M k) = 1 then g_send M k (g_ix M k)
     else if g_takesR M k (M 30 0 (g_ix M k)) = 0 then g_takesM M k (M 30 0 (g_ix M k))
     else if M 29 0 (g_ix M k) = 0 then g_wd (hm_up (hm_up (hm_up M 22 0 (M 30 0 (g_ix M k)).toNatClampNeg (nI k)) 27 0 k (-1)) 21 0 (M 30 0 (g_ix M k)).toNatClampNeg (M 21 0 (M 30 0 (g_ix M k)).toNatClampNeg + M 31 0 (g_ix M k))) k
     else g_hear (hm_up (hm_up M 22 0 (M 30 0 (g_ix M k)).toNatClampNeg (nI k)) 27 0 k (-1)) k (g_ix M k))
  else g_undo (hm_up M 32 0 (g_ix M k) 0) k 4
theorem g_takes_ok {M : hm_M} {k : Nat} {a : Int32} (h : ¬ g_takesR M k a = 0) : g_takesM M k a = hm_up (hm_up M 22 0 a.toNatClampNeg (nI k)) 27 0 k (-1) := by simp only [g_takesM, if_neg h]
theorem IvM.tk2 {M : hm_M} (h : IvM M) {k : Nat} (hk : k < 6) {j : Nat} : IvM (hm_up (hm_up M 22 0 j (nI k)) 27 0 k (-1)) := by
  refine h.mk ?_ (fun c hc => ?_) (by simp [hm_up_at])
  · rw [ab_27, ab_22]
    have := h.C.numIn hk
    rw [(ab_at hk).2.2.2.2.2] at this
    exact h.C.up2 this
  · by_cases q : c = k
    · subst q; right; left; simp [hm_up_at]
    · left; simp [hm_up_at, q]
set_option maxHeartbeats 4000000 in
set_option maxRecDepth 100000 in
theorem c_M_tryStep (l : Launch) (D : va_G) (ar : Nat → ClassId) (lay : Nat → Nat → Nat) (M : hm_M) (k : Nat) (hk : k < 6) (hI : IvM M) (hw : (M 26 0 k).toInt < (M 25 0 k).toInt) : Ct l D ar lay y_M_tryStep rm_4 true [.ref (lay 20 0), .int (nI k)] M (.inl (none, g_try M k)) := by
  refine Ct.of (cc := prog_5_method_18_code) (maxL := 3) (ret := none) (by decide) cd_M_tryStep (Nat.le_of_ble_eq_true rfl) ?_
  intro p e s m below meth c E hr hlk hno hH
  have hkk : vp_in (nI k) 6 := vp_in_nI hk (by decide)
  have ek : (nI k).toNatClampNeg = k := nI_clamp (by omega)
  have hat := hI.C.at hk
  rw [(ab_at hk).1, (ab_at hk).2.1] at hat
  have hlt : (M 26 0 k).toNatClampNeg < 10 := by rw [nn_eq]; omega
  have hx : g_ix M k < 60 := by unfold g_ix; omega
  have hxi : vp_in (nI (g_ix M k)) 60 := vp_in_nI hx (by decide)
  have ex : (nI (g_ix M k)).toNatClampNeg = g_ix M k := nI_clamp (by omega)
  have hix : (10 : Int32) * nI k + M 26 0 (nI k).toNatClampNeg = nI (g_ix M k) := by
    rw [ek, g_ix, ← idx_eq]
    congr 1
    obtain ⟨j, hj, ej⟩ := pc_nI (b := 10) hat.1 (by omega) (by decide)
    rw [ej, nI_clamp (by omega)]
  have ha : ¬ M 29 0 (g_ix M k) = 1 → vp_in (M 30 0 (g_ix M k)) 8 := fun q => by
    have z := hI.C.a (i := (M 26 0 k).toNatClampNeg) hk (by rw [(ab_at hk).2.1, nn_eq]; omega) (by simpa [ab, hk, hlt, g_ix] using q)
    simpa [ab, hk, hlt, g_ix] using z
  refine a_bipush (v := 10) (pc := 0) E d_M_tryStep_0 (by decide) ?_
  refine a_iload_n (pc := 2) E d_M_tryStep_2 rfl rfl ?_
  refine a_imul (pc := 3) E d_M_tryStep_3 ?_
  refine a_aload_n (pc := 4) E d_M_tryStep_4 rfl rfl ?_
  refine g_M_7 (pc := 5) E d_M_tryStep_5 fl_M_25 ?_
  refine a_iload_n (pc := 8) E d_M_tryStep_8 rfl rfl ?_
  refine r_26 (pc := 9) E d_M_tryStep_9 hkk ?_
  refine a_iadd (pc := 10) E d_M_tryStep_10 ?_
  rw [hix]
  refine a_istore_n (pc := 11) E d_M_tryStep_11 rfl (by decide) ?_
  refine a_aload_n (pc := 12) E d_M_tryStep_12 rfl rfl ?_
  refine g_M_13 (pc := 13) E d_M_tryStep_13 fl_M_43 ?_
  refine a_iload_n (pc := 16) E d_M_tryStep_16 rfl rfl ?_
  refine r_32 (pc := 17) E d_M_tryStep_17 hxi ?_
  refine a_if_eq (tgt := 37) (pc := 18) E d_M_tryStep_18 (by decide) (fun c_18 => ?_) (fun c_18 => ?_)
  · rw [ex] at c_18
    refine a_aload_n (pc := 37) E d_M_tryStep_37 rfl rfl ?_
    refine g_M_10 (pc := 38) E d_M_tryStep_38 fl_M_34 ?_
    refine a_iload_n (pc := 41) E d_M_tryStep_41 rfl rfl ?_
    refine r_29 (pc := 42) E d_M_tryStep_42 hxi ?_
    refine a_iconst (v := 1) (pc := 43) E d_M_tryStep_43 (by decide) ?_
    refine a_icmp_ne (tgt := 56) (pc := 44) E d_M_tryStep_44 (by decide) (fun c_44 => ?_) (fun c_44 => ?_)
    · refine a_aload_n (pc := 56) E d_M_tryStep_56 rfl rfl ?_
      refine a_iload_n (pc := 57) E d_M_tryStep_57 rfl rfl ?_
      refine a_aload_n (pc := 58) E d_M_tryStep_58 rfl rfl ?_
      refine g_M_11 (pc := 59) E d_M_tryStep_59 fl_M_37 ?_
      refine a_iload_n (pc := 62) E d_M_tryStep_62 rfl rfl ?_
      refine r_30 (pc := 63) E d_M_tryStep_63 hxi ?_
      refine a_wr ?_
      refine b_VI (pc := 64) (n := 2) E (c_M_takes l D ar lay _ k _ hk hI (by rw [ex]; exact ha (by rw [ex] at c_44; exact c_44)) ⟨hw, by rw [ex] at c_44; exact c_44⟩) ⟨by decide, by decide, ml_M_113, im_M_takes, sl_M_takes, ii_M, cd_M_takes, ⟨by decide, by decide⟩, by decide +kernel⟩ rfl (by decide) rfl rfl (by decide) rfl (Nat.le_of_ble_eq_true rfl) d_M_tryStep_64 (by decide) ?_
      refine a_if_eq (tgt := 113) (pc := 67) E d_M_tryStep_67 (by decide) (fun c_67 => ?_) (fun c_67 => ?_)
      · rw [ex] at c_67 c_44
        exact a_vret (pc := 113) E hr hlk d_M_tryStep_113 (by decide) (by decide) (by decide) (by simp [g_try, hm_up_at, ex, c_18, c_44, c_67])
      · rw [ex] at c_67 c_44
        rw [ex, g_takes_ok c_67]
        refine a_aload_n (pc := 70) E d_M_tryStep_70 rfl rfl ?_
        refine g_M_10 (pc := 71) E d_M_tryStep_71 fl_M_34 ?_
        refine a_iload_n (pc := 74) E d_M_tryStep_74 rfl rfl ?_
        refine r_29 (pc := 75) E d_M_tryStep_75 hxi ?_
        refine a_if_ne (tgt := 107) (pc := 76) E d_M_tryStep_76 (by decide) (fun c_76 => ?_) (fun c_76 => ?_)
        · simp [hm_up_at, ex] at c_76
          refine a_aload_n (pc := 107) E d_M_tryStep_107 rfl rfl ?_
          refine a_iload_n (pc := 108) E d_M_tryStep_108 rfl rfl ?_
          refine a_iload_n (pc := 109) E d_M_tryStep_109 rfl rfl ?_
          refine b_VZ (pc := 110) (n := 2) E (c_M_hear l D ar lay _ k _ hk hx (by simpa [hm_up_at] using ha c_44) (hI.tk2 hk)) ⟨by decide, by decide, ml_M_117, im_M_hear, sl_M_hear, ii_M, cd_M_hear, ⟨by decide, by decide⟩, by decide +kernel⟩ rfl (by decide) rfl rfl (by decide) rfl (Nat.le_of_ble_eq_true rfl) d_M_tryStep_110 (by decide) ?_
          exact a_vret (pc := 113) E hr hlk d_M_tryStep_113 (by decide) (by decide) (by decide) (by simp [g_try, hm_up_at, ex, c_18, c_44, c_67, c_76])
        · simp [hm_up_at, ex] at c_76
          refine a_aload_n (pc := 79) E d_M_tryStep_79 rfl rfl ?_
          refine g_M_1 (pc := 80) E d_M_tryStep_80 fl_M_7 ?_
          refine a_aload_n (pc := 83) E d_M_tryStep_83 rfl rfl ?_
          refine g_M_11 (pc := 84) E d_M_tryStep_84 fl_M_37 ?_
          refine a_iload_n (pc := 87) E d_M_tryStep_87 rfl rfl ?_
          refine r_30 (pc := 88) E d_M_tryStep_88 hxi ?_
          refine a_dup2 (pc := 89) E d_M_tryStep_89 rfl rfl ?_
          refine r_21 (pc := 90) E d_M_tryStep_90 (by simpa [hm_up_at, ex] using ha c_44) ?_
          refine a_aload_n (pc := 91) E d_M_tryStep_91 rfl rfl ?_
          refine g_M_12 (pc := 92) E d_M_tryStep_92 fl_M_40 ?_
          refine a_iload_n (pc := 95) E d_M_tryStep_95 rfl rfl ?_
          refine r_31 (pc := 96) E d_M_tryStep_96 hxi ?_
          refine a_iadd (pc := 97) E d_M_tryStep_97 ?_
          refine s_21 (pc := 98) E d_M_tryStep_98 (by simpa [hm_up_at, ex] using ha c_44) ?_
          refine a_aload_n (pc := 99) E d_M_tryStep_99 rfl rfl ?_
          refine a_iload_n (pc := 100) E d_M_tryStep_100 rfl rfl ?_
          refine b_VZ (pc := 101) (n := 1) E (c_M_wasDone l D ar lay _ k hk (by simpa [hm_up_at] using hI.st)) ⟨by decide, by decide, ml_M_107, im_M_wasDone, sl_M_wasDone, ii_M, cd_M_wasDone, ⟨by decide, by decide⟩, by decide +kernel⟩ rfl (by decide) rfl rfl (by decide) rfl (Nat.le_of_ble_eq_true rfl) d_M_tryStep_101 (by decide) ?_
          refine a_goto (tgt := 113) (pc := 104) E d_M_tryStep_104 (by decide) ?_
          exact a_vret (pc := 113) E hr hlk d_M_tryStep_113 (by decide) (by decide) (by decide) (by simp [g_try, hm_up_at, ex, c_18, c_44, c_67, c_76])
    · refine a_aload_n (pc := 47) E d_M_tryStep_47 rfl rfl ?_
      refine a_iload_n (pc := 48) E d_M_tryStep_48 rfl rfl ?_
      refine a_iload_n (pc := 49) E d_M_tryStep_49 rfl rfl ?_
      refine a_wr ?_
      refine b_VZ (pc := 50) (n := 2) E (c_M_send l D ar lay _ k _ hk hx hI) ⟨by decide, by decide, ml_M_110, im_M_send, sl_M_send, ii_M, cd_M_send, ⟨by decide, by decide⟩, by decide +kernel⟩ rfl (by decide) rfl rfl (by decide) rfl (Nat.le_of_ble_eq_true rfl) d_M_tryStep_50 (by decide) ?_
      refine a_goto (tgt := 113) (pc := 53) E d_M_tryStep_53 (by decide) ?_
      exact a_vret (pc := 113) E hr hlk d_M_tryStep_113 (by decide) (by decide) (by decide) (by rw [ex] at c_44; simp [g_try, hm_up_at, ex, c_18, c_44])
  · rw [ex] at c_18
    refine a_aload_n (pc := 21) E d_M_tryStep_21 rfl rfl ?_
    refine g_M_13 (pc := 22) E d_M_tryStep_22 fl_M_43 ?_
    refine a_iload_n (pc := 25) E d_M_tryStep_25 rfl rfl ?_
    refine a_iconst (v := 0) (pc := 26) E d_M_tryStep_26 (by decide) ?_
    refine a_wr ?_
    refine s_32 (pc := 27) E d_M_tryStep_27 hxi rfl ?_
    refine a_aload_n (pc := 28) E d_M_tryStep_28 rfl rfl ?_
    refine a_iload_n (pc := 29) E d_M_tryStep_29 rfl rfl ?_
    refine a_iconst (v := 4) (pc := 30) E d_M_tryStep_30 (by decide) ?_
    refine b_VZ (pc := 31) (n := 2) E (c_M_undo l D ar lay _ k 4 hk (by rw [ex, g_ix, ab_32 _ hk hlt]; exact hI.C.up14)) ⟨by decide, by decide, ml_M_94, im_M_undo, sl_M_undo, ii_M, cd_M_undo, ⟨by decide, by decide⟩, by decide +kernel⟩ rfl (by decide) rfl rfl (by decide) rfl (Nat.le_of_ble_eq_true rfl) d_M_tryStep_31 (by decide) ?_
    refine a_goto (tgt := 113) (pc := 34) E d_M_tryStep_34 (by decide) ?_
    exact a_vret (pc := 113) E hr hlk d_M_tryStep_113 (by decide) (by decide) (by decide) (by simp [g_try, hm_up_at, ex, c_18])
def g_end (M : hm_M) (k : Nat) : hm_M := if M 24 0 k = 0 then (if M 25 0 k ≤ M 26 0 k then g_rel (nI k) 8 0 (hm_up M 24 0 k 3) else M) else M
def g_have (M : hm_M) (k : Nat) : hm_M := g_end (if M 25 0 k ≤ M 26 0 k then M else g_try M k) k
set_option maxHeartbeats 4000000 in
set_option maxRecDepth 100000 in
theorem c_M_haveTurn (l : Launch) (D : va_G) (ar : Nat → ClassId) (lay : Nat → Nat → Nat) (M : hm_M) (k : Nat) (hk : k < 6) (hI : IvM M) : Ct l D ar lay y_M_haveTurn rm_5 true [.ref (lay 20 0), .int (nI k)] M (.inl (none, g_have M k)) := by
  refine Ct.of (cc := prog_5_method_19_code) (maxL := 2) (ret := none) (by decide) cd_M_haveTurn (Nat.le_of_ble_eq_true rfl) ?_
  intro p e s m below meth c E hr hlk hno hH
  have hkk : vp_in (nI k) 6 := vp_in_nI hk (by decide)
  have ek : (nI k).toNatClampNeg = k := nI_clamp (by omega)
  refine a_aload_n (pc := 0) E d_M_haveTurn_0 rfl rfl ?_
  refine g_M_7 (pc := 1) E d_M_haveTurn_1 fl_M_25 ?_
  refine a_iload_n (pc := 4) E d_M_haveTurn_4 rfl rfl ?_
  refine r_26 (pc := 5) E d_M_haveTurn_5 hkk ?_
  refine a_aload_n (pc := 6) E d_M_haveTurn_6 rfl rfl ?_
  refine g_M_6 (pc := 7) E d_M_haveTurn_7 fl_M_22 ?_
  refine a_iload_n (pc := 10) E d_M_haveTurn_10 rfl rfl ?_
  refine r_25 (pc := 11) E d_M_haveTurn_11 hkk ?_
  refine a_icmp_ge (tgt := 20) (pc := 12) E d_M_haveTurn_12 (by decide) (fun c_12 => ?_) (fun c_12 => ?_)
  · rw [ek] at c_12
    refine a_aload_n (pc := 20) E d_M_haveTurn_20 rfl rfl ?_
    refine g_M_5 (pc := 21) E d_M_haveTurn_21 fl_M_19 ?_
    refine a_iload_n (pc := 24) E d_M_haveTurn_24 rfl rfl ?_
    refine r_24 (pc := 25) E d_M_haveTurn_25 hkk ?_
    refine a_if_ne (tgt := 44) (pc := 26) E d_M_haveTurn_26 (by decide) (fun c_26 => ?_) (fun c_26 => ?_)
    · rw [ek] at c_26
      exact a_vret (pc := 44) E hr hlk d_M_haveTurn_44 (by decide) (by decide) (by decide) (by simp [g_have, g_end, ek, c_12, c_26])
    · rw [ek] at c_26
      refine a_aload_n (pc := 29) E d_M_haveTurn_29 rfl rfl ?_
      refine g_M_7 (pc := 30) E d_M_haveTurn_30 fl_M_25 ?_
      refine a_iload_n (pc := 33) E d_M_haveTurn_33 rfl rfl ?_
      refine r_26 (pc := 34) E d_M_haveTurn_34 hkk ?_
      refine a_aload_n (pc := 35) E d_M_haveTurn_35 rfl rfl ?_
      refine g_M_6 (pc := 36) E d_M_haveTurn_36 fl_M_22 ?_
      refine a_iload_n (pc := 39) E d_M_haveTurn_39 rfl rfl ?_
      refine r_25 (pc := 40) E d_M_haveTurn_40 hkk ?_
      refine a_icmp_ge (tgt := 45) (pc := 41) E d_M_haveTurn_41 (by decide) (fun c_41 => ?_) (fun c_41 => ?_)
      · rw [ek] at c_41
        refine a_aload_n (pc := 45) E d_M_haveTurn_45 rfl rfl ?_
        refine g_M_5 (pc := 46) E d_M_haveTurn_46 fl_M_19 ?_
        refine a_iload_n (pc := 49) E d_M_haveTurn_49 rfl rfl ?_
        refine a_iconst (v := 3) (pc := 50) E d_M_haveTurn_50 (by decide) ?_
        refine a_wr ?_
        refine s_24 (pc := 51) E d_M_haveTurn_51 hkk ?_
        refine a_aload_n (pc := 52) E d_M_haveTurn_52 rfl rfl ?_
        refine a_iload_n (pc := 53) E d_M_haveTurn_53 rfl rfl ?_
        refine b_VZ (pc := 54) (n := 1) E (c_M_release l D ar lay _ _) ⟨by decide, by decide, ml_M_90, im_M_release, sl_M_release, ii_M, cd_M_release, ⟨by decide, by decide⟩, by decide +kernel⟩ rfl (by decide) rfl rfl (by decide) rfl (Nat.le_of_ble_eq_true rfl) d_M_haveTurn_54 (by decide) ?_
        exact a_vret (pc := 57) E hr hlk d_M_haveTurn_57 (by decide) (by decide) (by decide) (by first | (simp [g_have, g_end, ek, c_12, c_26, c_41]; done) | exact absurd c_12 c_41)
      · rw [ek] at c_41
        exact a_vret (pc := 44) E hr hlk d_M_haveTurn_44 (by decide) (by decide) (by decide) (by first | (simp [g_have, g_end, ek, c_12, c_26, c_41]; done) | exact absurd c_12 c_41)
  · rw [ek] at c_12
    refine a_aload_n (pc := 15) E d_M_haveTurn_15 rfl rfl ?_
    refine a_iload_n (pc := 16) E d_M_haveTurn_16 rfl rfl ?_
    refine a_wr ?_
    refine b_VZ (pc := 17) (n := 1) E (c_M_tryStep l D ar lay _ k hk hI (by have := Int32.lt_iff_toInt_lt.mp (Int32.not_le.mp c_12); exact this)) ⟨by decide, by decide, ml_M_120, im_M_tryStep, sl_M_tryStep, ii_M, cd_M_tryStep, ⟨by decide, by decide⟩, by decide +kernel⟩ rfl (by decide) rfl rfl (by decide) rfl (Nat.le_of_ble_eq_true rfl) d_M_haveTurn_17 (by decide) ?_
    refine a_aload_n (pc := 20) E d_M_haveTurn_20 rfl rfl ?_
    refine g_M_5 (pc := 21) E d_M_haveTurn_21 fl_M_19 ?_
    refine a_iload_n (pc := 24) E d_M_haveTurn_24 rfl rfl ?_
    refine r_24 (pc := 25) E d_M_haveTurn_25 hkk ?_
    refine a_if_ne (tgt := 44) (pc := 26) E d_M_haveTurn_26 (by decide) (fun c_26 => ?_) (fun c_26 => ?_)
    · rw [ek] at c_26
      exact a_vret (pc := 44) E hr hlk d_M_haveTurn_44 (by decide) (by decide) (by decide) (by simp [g_have, g_end, ek, c_12, c_26])
    · rw [ek] at c_26
      refine a_aload_n (pc := 29) E d_M_haveTurn_29 rfl rfl ?_
      refine g_M_7 (pc := 30) E d_M_haveTurn_30 fl_M_25 ?_
      refine a_iload_n (pc := 33) E d_M_haveTurn_33 rfl rfl ?_
      refine r_26 (pc := 34) E d_M_haveTurn_34 hkk ?_
      refine a_aload_n (pc := 35) E d_M_haveTurn_35 rfl rfl ?_
      refine g_M_6 (pc := 36) E d_M_haveTurn_36 fl_M_22 ?_
      refine a_iload_n (pc := 39) E d_M_haveTurn_39 rfl rfl ?_
      refine r_25 (pc := 40) E d_M_haveTurn_40 hkk ?_
      refine a_icmp_ge (tgt := 45) (pc := 41) E d_M_haveTurn_41 (by decide) (fun c_41 => ?_) (fun c_41 => ?_)
      · rw [ek] at c_41
        refine a_aload_n (pc := 45) E d_M_haveTurn_45 rfl rfl ?_
        refine g_M_5 (pc := 46) E d_M_haveTurn_46 fl_M_19 ?_
        refine a_iload_n (pc := 49) E d_M_haveTurn_49 rfl rfl ?_
        refine a_iconst (v := 3) (pc := 50) E d_M_haveTurn_50 (by decide) ?_
        refine s_24 (pc := 51) E d_M_haveTurn_51 hkk ?_
        refine a_aload_n (pc := 52) E d_M_haveTurn_52 rfl rfl ?_
        refine a_iload_n (pc := 53) E d_M_haveTurn_53 rfl rfl ?_
        refine b_VZ (pc := 54) (n := 1) E (c_M_release l D ar lay _ _) ⟨by decide, by decide, ml_M_90, im_M_release, sl_M_release, ii_M, cd_M_release, ⟨by decide, by decide⟩, by decide +kernel⟩ rfl (by decide) rfl rfl (by decide) rfl (Nat.le_of_ble_eq_true rfl) d_M_haveTurn_54 (by decide) ?_
        exact a_vret (pc := 57) E hr hlk d_M_haveTurn_57 (by decide) (by decide) (by decide) (by first | (simp [g_have, g_end, ek, c_12, c_26, c_41]; done) | exact absurd c_12 c_41)
      · rw [ek] at c_41
        exact a_vret (pc := 44) E hr hlk d_M_haveTurn_44 (by decide) (by decide) (by decide) (by first | (simp [g_have, g_end, ek, c_12, c_26, c_41]; done) | exact absurd c_12 c_41)
