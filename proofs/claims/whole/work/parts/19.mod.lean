def g_takesR (M : hm_M) (k : Nat) (a : Int32) : Int32 := if M 22 0 a.toNatClampNeg = -1 then 1 else if M 22 0 a.toNatClampNeg = nI k then 1 else 0
def g_takesM (M : hm_M) (k : Nat) (a : Int32) : hm_M := if g_takesR M k a = 0 then g_brk (hm_up (hm_up M 24 0 k 1) 27 0 k a) k else hm_up (hm_up M 22 0 a.toNatClampNeg (nI k)) 27 0 k (-1)
theorem IvM.mk {M M' : hm_M} (h : IvM M) (hC : IvC (ab M')) (h27 : ∀ c, c < 6 → M' 27 0 c = M 27 0 c ∨ M' 27 0 c = -1 ∨ (0 ≤ (M' 27 0 c).toInt ∧ (M' 27 0 c).toInt < 8)) (hs : M' 20 0 21 = M 20 0 21) : IvM M' :=
  ⟨hC, fun c hc => by
    rcases h27 c hc with q | q
    · rw [q]; exact h.wr hc
    · exact q, by rw [hs]; exact h.st⟩
theorem vp_rng {x : Int32} {n : Nat} (h : vp_in x n) : 0 ≤ x.toInt ∧ x.toInt < n := vp_in_iff.mp h
theorem IvM.tk {M : hm_M} (h : IvM M) {k : Nat} (hk : k < 6) {a : Int32} (ha : vp_in a 8) (hw : (M 26 0 k).toInt < (M 25 0 k).toInt ∧ M 29 0 (10 * k + (M 26 0 k).toNatClampNeg) ≠ 1) : IvM (hm_up (hm_up M 24 0 k 1) 27 0 k a) := by
  have hat := h.C.at hk
  rw [(ab_at hk).1, (ab_at hk).2.1] at hat
  have hlt : (M 26 0 k).toNatClampNeg < 10 := by rw [nn_eq]; omega
  refine h.mk ?_ (fun c hc => ?_) (by simp [hm_up_at])
  · rw [ab_27, ab_24 _ hk]
    refine h.C.st hk (fun _ => ?_)
    rw [(ab_at hk).1, (ab_at hk).2.1]
    refine ⟨hw.1, ?_⟩
    have e : ab M 11 k (M 26 0 k).toNatClampNeg = M 29 0 (10 * k + (M 26 0 k).toNatClampNeg) := by simp [ab, hk, hlt]
    rw [e]; exact hw.2
  · by_cases q : c = k
    · subst q; right; right
      have e : hm_up (hm_up M 24 0 c 1) 27 0 c a 27 0 c = a := by simp [hm_up_at]
      rw [e]; exact vp_rng ha
    · left; simp [hm_up_at, q]
set_option maxHeartbeats 4000000 in
set_option maxRecDepth 100000 in
theorem c_M_takes (l : Launch) (D : va_G) (ar : Nat → ClassId) (lay : Nat → Nat → Nat) (M : hm_M) (k : Nat) (a : Int32) (hk : k < 6) (hI : IvM M) (ha : vp_in a 8) (hw : (M 26 0 k).toInt < (M 25 0 k).toInt ∧ M 29 0 (10 * k + (M 26 0 k).toNatClampNeg) ≠ 1) : Ct l D ar lay y_M_takes rm_3 true [.ref (lay 20 0), .int (nI k), .int a] M (.inl (some (.int (g_takesR M k a)), g_takesM M k a)) := by
  refine Ct.of (cc := prog_5_method_14_code) (maxL := 3) (ret := (some .boolean)) (by decide) cd_M_takes (Nat.le_of_ble_eq_true rfl) ?_
  intro p e s m below meth c E hr hlk hno hH
  have hkk : vp_in (nI k) 6 := vp_in_nI hk (by decide)
  have ek : (nI k).toNatClampNeg = k := nI_clamp (by omega)
  refine a_aload_n (pc := 0) E d_M_takes_0 rfl rfl ?_
  refine g_M_2 (pc := 1) E d_M_takes_1 fl_M_13 ?_
  refine a_iload_n (pc := 4) E d_M_takes_4 rfl rfl ?_
  refine r_22 (pc := 5) E d_M_takes_5 ha ?_
  refine a_iconst (v := (-1)) (pc := 6) E d_M_takes_6 (by decide) ?_
  refine a_icmp_eq (tgt := 20) (pc := 7) E d_M_takes_7 (by decide) (fun c_7 => ?_) (fun c_7 => ?_)
  · refine a_aload_n (pc := 20) E d_M_takes_20 rfl rfl ?_
    refine g_M_2 (pc := 21) E d_M_takes_21 fl_M_13 ?_
    refine a_iload_n (pc := 24) E d_M_takes_24 rfl rfl ?_
    refine a_iload_n (pc := 25) E d_M_takes_25 rfl rfl ?_
    refine a_wr ?_
    refine s_22 (pc := 26) E d_M_takes_26 ha ?_
    refine a_aload_n (pc := 27) E d_M_takes_27 rfl rfl ?_
    refine g_M_8 (pc := 28) E d_M_takes_28 fl_M_28 ?_
    refine a_iload_n (pc := 31) E d_M_takes_31 rfl rfl ?_
    refine a_iconst (v := (-1)) (pc := 32) E d_M_takes_32 (by decide) ?_
    refine s_27 (pc := 33) E d_M_takes_33 hkk ?_
    refine a_iconst (v := 1) (pc := 34) E d_M_takes_34 (by decide) ?_
    exact a_iret (pc := 35) E hr hlk rfl d_M_takes_35 (by decide) (by decide) (by decide) (by simp [g_takesM, g_takesR, hm_up_at, ek, c_7])
  · refine a_aload_n (pc := 10) E d_M_takes_10 rfl rfl ?_
    refine g_M_2 (pc := 11) E d_M_takes_11 fl_M_13 ?_
    refine a_iload_n (pc := 14) E d_M_takes_14 rfl rfl ?_
    refine r_22 (pc := 15) E d_M_takes_15 ha ?_
    refine a_iload_n (pc := 16) E d_M_takes_16 rfl rfl ?_
    refine a_icmp_ne (tgt := 36) (pc := 17) E d_M_takes_17 (by decide) (fun c_17 => ?_) (fun c_17 => ?_)
    · refine a_aload_n (pc := 36) E d_M_takes_36 rfl rfl ?_
      refine g_M_5 (pc := 37) E d_M_takes_37 fl_M_19 ?_
      refine a_iload_n (pc := 40) E d_M_takes_40 rfl rfl ?_
      refine a_iconst (v := 1) (pc := 41) E d_M_takes_41 (by decide) ?_
      refine a_wr ?_
      refine s_24 (pc := 42) E d_M_takes_42 hkk ?_
      refine a_aload_n (pc := 43) E d_M_takes_43 rfl rfl ?_
      refine g_M_8 (pc := 44) E d_M_takes_44 fl_M_28 ?_
      refine a_iload_n (pc := 47) E d_M_takes_47 rfl rfl ?_
      refine a_iload_n (pc := 48) E d_M_takes_48 rfl rfl ?_
      refine s_27 (pc := 49) E d_M_takes_49 hkk ?_
      refine a_aload_n (pc := 50) E d_M_takes_50 rfl rfl ?_
      refine a_iload_n (pc := 51) E d_M_takes_51 rfl rfl ?_
      refine b_VZ (pc := 52) (n := 1) E (c_M_breakRing l D ar lay _ k hk (by rw [ek]; exact hI.tk hk ha hw) (by rw [ek]; simpa [hm_up_at] using ha)) ⟨by decide, by decide, ml_M_101, im_M_breakRing, sl_M_breakRing, ii_M, cd_M_breakRing, ⟨by decide, by decide⟩, by decide +kernel⟩ rfl (by decide) rfl rfl (by decide) rfl (Nat.le_of_ble_eq_true rfl) d_M_takes_52 (by decide) ?_
      refine a_iconst (v := 0) (pc := 55) E d_M_takes_55 (by decide) ?_
      exact a_iret (pc := 56) E hr hlk rfl d_M_takes_56 (by decide) (by decide) (by decide) (by simp [g_takesM, g_takesR, hm_up_at, ek, c_7, c_17])
    · refine a_aload_n (pc := 20) E d_M_takes_20 rfl rfl ?_
      refine g_M_2 (pc := 21) E d_M_takes_21 fl_M_13 ?_
      refine a_iload_n (pc := 24) E d_M_takes_24 rfl rfl ?_
      refine a_iload_n (pc := 25) E d_M_takes_25 rfl rfl ?_
      refine a_wr ?_
      refine s_22 (pc := 26) E d_M_takes_26 ha ?_
      refine a_aload_n (pc := 27) E d_M_takes_27 rfl rfl ?_
      refine g_M_8 (pc := 28) E d_M_takes_28 fl_M_28 ?_
      refine a_iload_n (pc := 31) E d_M_takes_31 rfl rfl ?_
      refine a_iconst (v := (-1)) (pc := 32) E d_M_takes_32 (by decide) ?_
      refine s_27 (pc := 33) E d_M_takes_33 hkk ?_
      refine a_iconst (v := 1) (pc := 34) E d_M_takes_34 (by decide) ?_
      exact a_iret (pc := 35) E hr hlk rfl d_M_takes_35 (by decide) (by decide) (by decide) (by simp [g_takesM, g_takesR, hm_up_at, ek, c_7, c_17])
def g_wd (M : hm_M) (k : Nat) : hm_M := hm_up (hm_up (hm_up (if 400 ≤ M 20 0 21 then M else hm_up M 38 0 (M 20 0 21).toNatClampNeg (100 * nI k + M 26 0 k)) 20 0 21 (M 20 0 21 + 1)) 26 0 k (M 26 0 k + 1)) 24 0 k 0
set_option maxHeartbeats 4000000 in
set_option maxRecDepth 100000 in
theorem c_M_wasDone (l : Launch) (D : va_G) (ar : Nat → ClassId) (lay : Nat → Nat → Nat) (M : hm_M) (k : Nat) (hk : k < 6) (hst : 0 ≤ (M 20 0 21).toInt) : Ct l D ar lay y_M_wasDone rm_0 true [.ref (lay 20 0), .int (nI k)] M (.inl (none, g_wd M k)) := by
  refine Ct.of (cc := prog_5_method_15_code) (maxL := 2) (ret := none) (by decide) cd_M_wasDone (Nat.le_of_ble_eq_true rfl) ?_
  intro p e s m below meth c E hr hlk hno hH
  have hkk : vp_in (nI k) 6 := vp_in_nI hk (by decide)
  have ek : (nI k).toNatClampNeg = k := nI_clamp (by omega)
  refine a_aload_n (pc := 0) E d_M_wasDone_0 rfl rfl ?_
  refine g_M_21 (pc := 1) E d_M_wasDone_1 fl_M_104 ?_
  refine a_sipush (v := 400) (pc := 4) E d_M_wasDone_4 (by decide) ?_
  refine a_icmp_ge (tgt := 30) (pc := 7) E d_M_wasDone_7 (by decide) (fun c_7 => ?_) (fun c_7 => ?_)
  · refine a_aload_n (pc := 30) E d_M_wasDone_30 rfl rfl ?_
    refine a_dup (pc := 31) E d_M_wasDone_31 rfl ?_
    refine g_M_21 (pc := 32) E d_M_wasDone_32 fl_M_104 ?_
    refine a_iconst (v := 1) (pc := 35) E d_M_wasDone_35 (by decide) ?_
    refine a_iadd (pc := 36) E d_M_wasDone_36 ?_
    refine a_wr ?_
    refine p_M_21 (pc := 37) E d_M_wasDone_37 fl_M_104 ?_
    refine a_aload_n (pc := 40) E d_M_wasDone_40 rfl rfl ?_
    refine g_M_7 (pc := 41) E d_M_wasDone_41 fl_M_25 ?_
    refine a_iload_n (pc := 44) E d_M_wasDone_44 rfl rfl ?_
    refine a_dup2 (pc := 45) E d_M_wasDone_45 rfl rfl ?_
    refine r_26 (pc := 46) E d_M_wasDone_46 hkk ?_
    refine a_iconst (v := 1) (pc := 47) E d_M_wasDone_47 (by decide) ?_
    refine a_iadd (pc := 48) E d_M_wasDone_48 ?_
    refine s_26 (pc := 49) E d_M_wasDone_49 hkk ?_
    refine a_aload_n (pc := 50) E d_M_wasDone_50 rfl rfl ?_
    refine g_M_5 (pc := 51) E d_M_wasDone_51 fl_M_19 ?_
    refine a_iload_n (pc := 54) E d_M_wasDone_54 rfl rfl ?_
    refine a_iconst (v := 0) (pc := 55) E d_M_wasDone_55 (by decide) ?_
    refine s_24 (pc := 56) E d_M_wasDone_56 hkk ?_
    exact a_vret (pc := 57) E hr hlk d_M_wasDone_57 (by decide) (by decide) (by decide) (by simp [g_wd, hm_up_at, ek, c_7])
  · refine a_aload_n (pc := 10) E d_M_wasDone_10 rfl rfl ?_
    refine g_M_23 (pc := 11) E d_M_wasDone_11 fl_M_62 ?_
    refine a_aload_n (pc := 14) E d_M_wasDone_14 rfl rfl ?_
    refine g_M_21 (pc := 15) E d_M_wasDone_15 fl_M_104 ?_
    refine a_bipush (v := 100) (pc := 18) E d_M_wasDone_18 (by decide) ?_
    refine a_iload_n (pc := 20) E d_M_wasDone_20 rfl rfl ?_
    refine a_imul (pc := 21) E d_M_wasDone_21 ?_
    refine a_aload_n (pc := 22) E d_M_wasDone_22 rfl rfl ?_
    refine g_M_7 (pc := 23) E d_M_wasDone_23 fl_M_25 ?_
    refine a_iload_n (pc := 26) E d_M_wasDone_26 rfl rfl ?_
    refine r_26 (pc := 27) E d_M_wasDone_27 hkk ?_
    refine a_iadd (pc := 28) E d_M_wasDone_28 ?_
    refine a_wr ?_
    refine s_38 (pc := 29) E d_M_wasDone_29 (ix_of hst (by have := Int32.lt_iff_toInt_lt.mp (Int32.not_le.mp c_7); exact this)) ?_
    refine a_aload_n (pc := 30) E d_M_wasDone_30 rfl rfl ?_
    refine a_dup (pc := 31) E d_M_wasDone_31 rfl ?_
    refine g_M_21 (pc := 32) E d_M_wasDone_32 fl_M_104 ?_
    refine a_iconst (v := 1) (pc := 35) E d_M_wasDone_35 (by decide) ?_
    refine a_iadd (pc := 36) E d_M_wasDone_36 ?_
    refine p_M_21 (pc := 37) E d_M_wasDone_37 fl_M_104 ?_
    refine a_aload_n (pc := 40) E d_M_wasDone_40 rfl rfl ?_
    refine g_M_7 (pc := 41) E d_M_wasDone_41 fl_M_25 ?_
    refine a_iload_n (pc := 44) E d_M_wasDone_44 rfl rfl ?_
    refine a_dup2 (pc := 45) E d_M_wasDone_45 rfl rfl ?_
    refine r_26 (pc := 46) E d_M_wasDone_46 hkk ?_
    refine a_iconst (v := 1) (pc := 47) E d_M_wasDone_47 (by decide) ?_
    refine a_iadd (pc := 48) E d_M_wasDone_48 ?_
    refine s_26 (pc := 49) E d_M_wasDone_49 hkk ?_
    refine a_aload_n (pc := 50) E d_M_wasDone_50 rfl rfl ?_
    refine g_M_5 (pc := 51) E d_M_wasDone_51 fl_M_19 ?_
    refine a_iload_n (pc := 54) E d_M_wasDone_54 rfl rfl ?_
    refine a_iconst (v := 0) (pc := 55) E d_M_wasDone_55 (by decide) ?_
    refine s_24 (pc := 56) E d_M_wasDone_56 hkk ?_
    exact a_vret (pc := 57) E hr hlk d_M_wasDone_57 (by decide) (by decide) (by decide) (by simp [g_wd, hm_up_at, ek, c_7])
def g_send (M : hm_M) (k x : Nat) : hm_M := if M 20 0 15 = 60 then g_undo M k 4 else g_wd (hm_up (hm_up (hm_up (hm_up (hm_up (hm_up M 20 0 15 (M 20 0 15 + 1)) 35 0 (M 20 0 15 + 1).toNatClampNeg (nI k)) 36 0 (M 20 0 15 + 1).toNatClampNeg (M 30 0 x)) 37 0 (M 20 0 15 + 1).toNatClampNeg (M 31 0 x)) 34 0 (M 20 0 15 + 1).toNatClampNeg (if M 20 0 16 = 0 then 0 else 2)) 33 0 x (M 20 0 15 + 1)) k
set_option maxHeartbeats 4000000 in
set_option maxRecDepth 100000 in
theorem c_M_send (l : Launch) (D : va_G) (ar : Nat → ClassId) (lay : Nat → Nat → Nat) (M : hm_M) (k x : Nat) (hk : k < 6) (hx : x < 60) (hI : IvM M) : Ct l D ar lay y_M_send rm_2 true [.ref (lay 20 0), .int (nI k), .int (nI x)] M (.inl (none, g_send M k x)) := by
  refine Ct.of (cc := prog_5_method_16_code) (maxL := 3) (ret := none) (by decide) cd_M_send (Nat.le_of_ble_eq_true rfl) ?_
  intro p e s m below meth c E hr hlk hno hH
  have hxi : vp_in (nI x) 60 := vp_in_nI hx (by decide)
  have ex : (nI x).toNatClampNeg = x := nI_clamp (by omega)
  have hsn := hI.C.sent
  have e15 : ab M 4 0 4 = M 20 0 15 := by simp [ab]
  rw [e15] at hsn
  have hs1 : ¬ M 20 0 15 = 60 → vp_in (M 20 0 15 + 1) 61 := fun q => ix_of (by rw [inc_toInt hsn.1 (by omega)]; omega) (by rw [inc_toInt hsn.1 (by omega)]; have : (M 20 0 15).toInt ≠ 60 := fun z => q (Int32.toInt_inj.mp (z.trans (by decide))); omega)
  refine a_aload_n (pc := 0) E d_M_send_0 rfl rfl ?_
  refine g_M_15 (pc := 1) E d_M_send_1 fl_M_76 ?_
  refine a_bipush (v := 60) (pc := 4) E d_M_send_4 (by decide) ?_
  refine a_icmp_ne (tgt := 16) (pc := 6) E d_M_send_6 (by decide) (fun c_6 => ?_) (fun c_6 => ?_)
  · have h60 := c_6
    refine a_aload_n (pc := 16) E d_M_send_16 rfl rfl ?_
    refine a_dup (pc := 17) E d_M_send_17 rfl ?_
    refine g_M_15 (pc := 18) E d_M_send_18 fl_M_76 ?_
    refine a_iconst (v := 1) (pc := 21) E d_M_send_21 (by decide) ?_
    refine a_iadd (pc := 22) E d_M_send_22 ?_
    refine a_wr ?_
    refine p_M_15 (pc := 23) E d_M_send_23 fl_M_76 ?_
    refine a_aload_n (pc := 26) E d_M_send_26 rfl rfl ?_
    refine g_M_18 (pc := 27) E d_M_send_27 fl_M_53 ?_
    refine a_aload_n (pc := 30) E d_M_send_30 rfl rfl ?_
    refine g_M_15 (pc := 31) E d_M_send_31 fl_M_76 ?_
    refine a_iload_n (pc := 34) E d_M_send_34 rfl rfl ?_
    refine s_35 (pc := 35) E d_M_send_35 (by first | exact hs1 h60 | (simp [hm_up_at]; exact hs1 h60)) ?_
    refine a_aload_n (pc := 36) E d_M_send_36 rfl rfl ?_
    refine g_M_19 (pc := 37) E d_M_send_37 fl_M_56 ?_
    refine a_aload_n (pc := 40) E d_M_send_40 rfl rfl ?_
    refine g_M_15 (pc := 41) E d_M_send_41 fl_M_76 ?_
    refine a_aload_n (pc := 44) E d_M_send_44 rfl rfl ?_
    refine g_M_11 (pc := 45) E d_M_send_45 fl_M_37 ?_
    refine a_iload_n (pc := 48) E d_M_send_48 rfl rfl ?_
    refine r_30 (pc := 49) E d_M_send_49 hxi ?_
    refine s_36 (pc := 50) E d_M_send_50 (by first | exact hs1 h60 | (simp [hm_up_at]; exact hs1 h60)) ?_
    refine a_aload_n (pc := 51) E d_M_send_51 rfl rfl ?_
    refine g_M_20 (pc := 52) E d_M_send_52 fl_M_59 ?_
    refine a_aload_n (pc := 55) E d_M_send_55 rfl rfl ?_
    refine g_M_15 (pc := 56) E d_M_send_56 fl_M_76 ?_
    refine a_aload_n (pc := 59) E d_M_send_59 rfl rfl ?_
    refine g_M_12 (pc := 60) E d_M_send_60 fl_M_40 ?_
    refine a_iload_n (pc := 63) E d_M_send_63 rfl rfl ?_
    refine r_31 (pc := 64) E d_M_send_64 hxi ?_
    refine s_37 (pc := 65) E d_M_send_65 (by first | exact hs1 h60 | (simp [hm_up_at]; exact hs1 h60)) ?_
    refine a_aload_n (pc := 66) E d_M_send_66 rfl rfl ?_
    refine g_M_17 (pc := 67) E d_M_send_67 fl_M_50 ?_
    refine a_aload_n (pc := 70) E d_M_send_70 rfl rfl ?_
    refine g_M_15 (pc := 71) E d_M_send_71 fl_M_76 ?_
    refine a_aload_n (pc := 74) E d_M_send_74 rfl rfl ?_
    refine g_M_16 (pc := 75) E d_M_send_75 fl_M_86 ?_
    refine a_if_eq (tgt := 85) (pc := 78) E d_M_send_78 (by decide) (fun c_78 => ?_) (fun c_78 => ?_)
    · simp [hm_up_at] at c_78
      refine a_iconst (v := 0) (pc := 85) E d_M_send_85 (by decide) ?_
      refine s_34 (pc := 86) E d_M_send_86 (by first | exact hs1 h60 | (simp [hm_up_at]; exact hs1 h60)) ?_
      refine a_aload_n (pc := 87) E d_M_send_87 rfl rfl ?_
      refine g_M_14 (pc := 88) E d_M_send_88 fl_M_47 ?_
      refine a_iload_n (pc := 91) E d_M_send_91 rfl rfl ?_
      refine a_aload_n (pc := 92) E d_M_send_92 rfl rfl ?_
      refine g_M_15 (pc := 93) E d_M_send_93 fl_M_76 ?_
      refine s_33 (pc := 96) E d_M_send_96 hxi ?_
      refine a_aload_n (pc := 97) E d_M_send_97 rfl rfl ?_
      refine a_iload_n (pc := 98) E d_M_send_98 rfl rfl ?_
      refine b_VZ (pc := 99) (n := 1) E (c_M_wasDone l D ar lay _ k hk (by simpa [hm_up_at] using hI.st)) ⟨by decide, by decide, ml_M_107, im_M_wasDone, sl_M_wasDone, ii_M, cd_M_wasDone, ⟨by decide, by decide⟩, by decide +kernel⟩ rfl (by decide) rfl rfl (by decide) rfl (Nat.le_of_ble_eq_true rfl) d_M_send_99 (by decide) ?_
      exact a_vret (pc := 102) E hr hlk d_M_send_102 (by decide) (by decide) (by decide) (by simp [g_send, hm_up_at, ex, c_6, c_78])
    · simp [hm_up_at] at c_78
      refine a_iconst (v := 2) (pc := 81) E d_M_send_81 (by decide) ?_
      refine a_goto (tgt := 86) (pc := 82) E d_M_send_82 (by decide) ?_
      refine s_34 (pc := 86) E d_M_send_86 (by first | exact hs1 h60 | (simp [hm_up_at]; exact hs1 h60)) ?_
      refine a_aload_n (pc := 87) E d_M_send_87 rfl rfl ?_
      refine g_M_14 (pc := 88) E d_M_send_88 fl_M_47 ?_
      refine a_iload_n (pc := 91) E d_M_send_91 rfl rfl ?_
      refine a_aload_n (pc := 92) E d_M_send_92 rfl rfl ?_
      refine g_M_15 (pc := 93) E d_M_send_93 fl_M_76 ?_
      refine s_33 (pc := 96) E d_M_send_96 hxi ?_
      refine a_aload_n (pc := 97) E d_M_send_97 rfl rfl ?_
      refine a_iload_n (pc := 98) E d_M_send_98 rfl rfl ?_
      refine b_VZ (pc := 99) (n := 1) E (c_M_wasDone l D ar lay _ k hk (by simpa [hm_up_at] using hI.st)) ⟨by decide, by decide, ml_M_107, im_M_wasDone, sl_M_wasDone, ii_M, cd_M_wasDone, ⟨by decide, by decide⟩, by decide +kernel⟩ rfl (by decide) rfl rfl (by decide) rfl (Nat.le_of_ble_eq_true rfl) d_M_send_99 (by decide) ?_
      exact a_vret (pc := 102) E hr hlk d_M_send_102 (by decide) (by decide) (by decide) (by simp [g_send, hm_up_at, ex, c_6, c_78])
  · refine a_aload_n (pc := 9) E d_M_send_9 rfl rfl ?_
    refine a_iload_n (pc := 10) E d_M_send_10 rfl rfl ?_
    refine a_iconst (v := 4) (pc := 11) E d_M_send_11 (by decide) ?_
    refine a_wr ?_
    refine b_VZ (pc := 12) (n := 2) E (c_M_undo l D ar lay _ k 4 hk hI.C) ⟨by decide, by decide, ml_M_94, im_M_undo, sl_M_undo, ii_M, cd_M_undo, ⟨by decide, by decide⟩, by decide +kernel⟩ rfl (by decide) rfl rfl (by decide) rfl (Nat.le_of_ble_eq_true rfl) d_M_send_12 (by decide) ?_
    exact a_vret (pc := 15) E hr hlk d_M_send_15 (by decide) (by decide) (by decide) (by simp [g_send, hm_up_at, ex, c_6])
def g_find (M : hm_M) (q : Int32) : Nat → Nat → Nat
  | 0, i => i
  | n + 1, i => if M 34 0 i = 0 then (if M 36 0 i = q then i else g_find M q n (i + 1)) else g_find M q n (i + 1)
def g_hearM (M : hm_M) (k x r : Nat) : hm_M := if (M 20 0 15).toNatClampNeg < r then hm_up M 24 0 k 2 else g_wd (hm_up (hm_up (hm_up M 34 0 r 1) 21 0 (M 30 0 x).toNatClampNeg (M 21 0 (M 30 0 x).toNatClampNeg + M 37 0 r)) 33 0 x (nI r)) k
def g_hear (M : hm_M) (k x : Nat) : hm_M := g_hearM M k x (g_find M (nI k) (M 20 0 15).toNatClampNeg 1)
set_option maxHeartbeats 4000000 in
set_option maxRecDepth 100000 in
theorem c_M_hear (l : Launch) (D : va_G) (ar : Nat → ClassId) (lay : Nat → Nat → Nat) (M : hm_M) (k y : Nat) (hk : k < 6) (hy : y < 60) (ha : vp_in (M 30 0 y) 8) (hI : IvM M) : Ct l D ar lay y_M_hear rm_1 true [.ref (lay 20 0), .int (nI k), .int (nI y)] M (.inl (none, g_hear M k y)) := by
  refine Ct.of (cc := prog_5_method_17_code) (maxL := 4) (ret := none) (by decide) cd_M_hear (Nat.le_of_ble_eq_true rfl) ?_
  intro p e s m below meth c E hr hlk hno hH
  have hkk : vp_in (nI k) 6 := vp_in_nI hk (by decide)
  have ek : (nI k).toNatClampNeg = k := nI_clamp (by omega)
  have hxi : vp_in (nI y) 60 := vp_in_nI hy (by decide)
  have ex : (nI y).toNatClampNeg = y := nI_clamp (by omega)
  have hsn := hI.C.sent
  have e15 : ab M 4 0 4 = M 20 0 15 := by simp [ab]
  rw [e15] at hsn
  obtain ⟨gF, hgF⟩ : ∃ z, z = g_find M (nI k) (M 20 0 15).toNatClampNeg 1 := ⟨_, rfl⟩
  have hgH : g_hear M k y = g_hearM M k y gF := by rw [hgF]; rfl
  have loop : ∀ (n : Nat) (i : Nat) (x : Int32), i + n = (M 20 0 15).toNatClampNeg + 1 → x = nI i → g_find M (nI k) n i = gF → AW p l e rm_1 s m [(.ref (lay 20 0) : Value), (.int (nI k) : Value), (.int (nI y) : Value)].toArray below meth c D ar lay true 4 0 0 (MQX below (fun _ st o t => CQ D ar lay M s.heap.size true (.inl (none, g_hear M k y)) st o t) [(.ref (lay 20 0) : Value), (.int (nI k) : Value), (.int (nI y) : Value)].toArray s rm_1.cells rm_1.slots (hw_A lay true s.heap.size)) 2 [(3, .int x), (0, .ref (lay 20 0)), (1, .int (nI k)), (2, .int (nI y))] [] M := by
    intro n
    induction n with
    | zero =>
      intro i x hi hx he
      have he : i = gF := he
      obtain ⟨j, hj, ej⟩ := pc_nI (b := 60) hsn.1 hsn.2 (by decide)
      have hi2 := hi
      rw [ej, nI_clamp (by omega)] at hi2
      have e0 : (nI i).toNatClampNeg = i := nI_clamp (by omega)
      refine a_iload_n (pc := 2) E d_M_hear_2 rfl rfl ?_
      refine a_aload_n (pc := 3) E d_M_hear_3 rfl rfl ?_
      refine g_M_15 (pc := 4) E d_M_hear_4 fl_M_76 ?_
      refine a_icmp_gt (tgt := 35) (pc := 7) E d_M_hear_7 (by decide) (fun c_7 => ?_) (fun c_7 => ?_)
      · refine a_iload_n (pc := 35) E d_M_hear_35 rfl rfl ?_
        refine a_aload_n (pc := 36) E d_M_hear_36 rfl rfl ?_
        refine g_M_15 (pc := 37) E d_M_hear_37 fl_M_76 ?_
        refine a_icmp_le (tgt := 51) (pc := 40) E d_M_hear_40 (by decide) (fun c_40 => ?_) (fun c_40 => ?_)
        · exact absurd c_40 (by rw [hx, ej]; exact nI_ge (by omega) (by omega))
        · have hle : (M 20 0 15).toNatClampNeg < i := by rw [hx, ej] at c_40; rw [ej, nI_clamp (by omega)]; have := fun z => c_40 ((nI_leI (by omega) (by omega)).mpr z); omega
          refine a_aload_n (pc := 43) E d_M_hear_43 rfl rfl ?_
          refine g_M_5 (pc := 44) E d_M_hear_44 fl_M_19 ?_
          refine a_iload_n (pc := 47) E d_M_hear_47 rfl rfl ?_
          refine a_iconst (v := 2) (pc := 48) E d_M_hear_48 (by decide) ?_
          refine s_24 (pc := 49) E d_M_hear_49 hkk ?_
          exact a_vret (pc := 50) E hr hlk d_M_hear_50 (by decide) (by decide) (by decide) (by rw [hgH, ← he, g_hearM, if_pos hle]; simp [ek])
      · exact absurd (by rw [hx, ej]; exact nI_lt (by omega) (by omega)) c_7
    | succ n ih =>
      intro i x hi hx he
      obtain ⟨j, hj, ej⟩ := pc_nI (b := 60) hsn.1 hsn.2 (by decide)
      have hi2 := hi
      rw [ej, nI_clamp (by omega)] at hi2
      have e0 : (nI i).toNatClampNeg = i := nI_clamp (by omega)
      have hrr : vp_in x 61 := by rw [hx]; exact vp_in_nI (by omega) (by decide)
      refine a_iload_n (pc := 2) E d_M_hear_2 rfl rfl ?_
      refine a_aload_n (pc := 3) E d_M_hear_3 rfl rfl ?_
      refine g_M_15 (pc := 4) E d_M_hear_4 fl_M_76 ?_
      refine a_icmp_gt (tgt := 35) (pc := 7) E d_M_hear_7 (by decide) (fun c_7 => ?_) (fun c_7 => ?_)
      · exact absurd c_7 (by rw [hx, ej]; exact nI_nlt (by omega) (by omega))
      · refine a_aload_n (pc := 10) E d_M_hear_10 rfl rfl ?_
        refine g_M_17 (pc := 11) E d_M_hear_11 fl_M_50 ?_
        refine a_iload_n (pc := 14) E d_M_hear_14 rfl rfl ?_
        refine r_34 (pc := 15) E d_M_hear_15 hrr ?_
        refine a_if_ne (tgt := 29) (pc := 16) E d_M_hear_16 (by decide) (fun c_16 => ?_) (fun c_16 => ?_)
        · rw [hx, e0] at c_16
          refine a_iinc (pc := 29) E d_M_hear_29 rfl (by decide) ?_
          refine a_goto (tgt := 2) (pc := 32) E d_M_hear_32 (by decide) ?_
          exact a_ls4 (ih (i + 1) _ (by omega) (by rw [hx]; exact nI_1 i) (by rw [← he, g_find]; simp [c_16])) rfl rfl rfl rfl
        · rw [hx, e0] at c_16
          refine a_aload_n (pc := 19) E d_M_hear_19 rfl rfl ?_
          refine g_M_19 (pc := 20) E d_M_hear_20 fl_M_56 ?_
          refine a_iload_n (pc := 23) E d_M_hear_23 rfl rfl ?_
          refine r_36 (pc := 24) E d_M_hear_24 hrr ?_
          refine a_iload_n (pc := 25) E d_M_hear_25 rfl rfl ?_
          refine a_icmp_eq (tgt := 35) (pc := 26) E d_M_hear_26 (by decide) (fun c_26 => ?_) (fun c_26 => ?_)
          · rw [hx, e0] at c_26
            have he : i = gF := by rw [← he, g_find, if_pos c_16, if_pos c_26]
            refine a_iload_n (pc := 35) E d_M_hear_35 rfl rfl ?_
            refine a_aload_n (pc := 36) E d_M_hear_36 rfl rfl ?_
            refine g_M_15 (pc := 37) E d_M_hear_37 fl_M_76 ?_
            refine a_icmp_le (tgt := 51) (pc := 40) E d_M_hear_40 (by decide) (fun c_40 => ?_) (fun c_40 => ?_)
            · have hle : ¬ (M 20 0 15).toNatClampNeg < i := by rw [hx, ej] at c_40; rw [ej, nI_clamp (by omega)]; have := (nI_leI (by omega) (by omega)).mp c_40; omega
              refine a_aload_n (pc := 51) E d_M_hear_51 rfl rfl ?_
              refine g_M_17 (pc := 52) E d_M_hear_52 fl_M_50 ?_
              refine a_iload_n (pc := 55) E d_M_hear_55 rfl rfl ?_
              refine a_iconst (v := 1) (pc := 56) E d_M_hear_56 (by decide) ?_
              refine s_34 (pc := 57) E d_M_hear_57 hrr ?_
              refine a_aload_n (pc := 58) E d_M_hear_58 rfl rfl ?_
              refine g_M_1 (pc := 59) E d_M_hear_59 fl_M_7 ?_
              refine a_aload_n (pc := 62) E d_M_hear_62 rfl rfl ?_
              refine g_M_11 (pc := 63) E d_M_hear_63 fl_M_37 ?_
              refine a_iload_n (pc := 66) E d_M_hear_66 rfl rfl ?_
              refine r_30 (pc := 67) E d_M_hear_67 hxi ?_
              refine a_dup2 (pc := 68) E d_M_hear_68 rfl rfl ?_
              refine r_21 (pc := 69) E d_M_hear_69 (by rw [ex]; exact ha) ?_
              refine a_aload_n (pc := 70) E d_M_hear_70 rfl rfl ?_
              refine g_M_20 (pc := 71) E d_M_hear_71 fl_M_59 ?_
              refine a_iload_n (pc := 74) E d_M_hear_74 rfl rfl ?_
              refine r_37 (pc := 75) E d_M_hear_75 hrr ?_
              refine a_iadd (pc := 76) E d_M_hear_76 ?_
              refine s_21 (pc := 77) E d_M_hear_77 (by rw [ex]; exact ha) ?_
              refine a_aload_n (pc := 78) E d_M_hear_78 rfl rfl ?_
              refine g_M_14 (pc := 79) E d_M_hear_79 fl_M_47 ?_
              refine a_iload_n (pc := 82) E d_M_hear_82 rfl rfl ?_
              refine a_iload_n (pc := 83) E d_M_hear_83 rfl rfl ?_
              refine s_33 (pc := 84) E d_M_hear_84 hxi ?_
              refine a_aload_n (pc := 85) E d_M_hear_85 rfl rfl ?_
              refine a_iload_n (pc := 86) E d_M_hear_86 rfl rfl ?_
              refine b_VZ (pc := 87) (n := 1) E (c_M_wasDone l D ar lay _ k hk (by simpa [hm_up_at] using hI.st)) ⟨by decide, by decide, ml_M_107, im_M_wasDone, sl_M_wasDone, ii_M, cd_M_wasDone, ⟨by decide, by decide⟩, by decide +kernel⟩ rfl (by decide) rfl rfl (by decide) rfl (Nat.le_of_ble_eq_true rfl) d_M_hear_87 (by decide) ?_
              exact a_vret (pc := 90) E hr hlk d_M_hear_90 (by decide) (by decide) (by decide) (by rw [hgH, ← he, g_hearM, if_neg hle]; simp [hm_up_at, ex, hx, e0])
            · exact absurd (by rw [hx, ej]; exact nI_le (by omega) (by omega)) c_40
          · rw [hx, e0] at c_26
            refine a_iinc (pc := 29) E d_M_hear_29 rfl (by decide) ?_
            refine a_goto (tgt := 2) (pc := 32) E d_M_hear_32 (by decide) ?_
            exact a_ls4 (ih (i + 1) _ (by omega) (by rw [hx]; exact nI_1 i) (by rw [← he, g_find]; simp [c_16, c_26])) rfl rfl rfl rfl
  refine a_iconst (v := 1) (pc := 0) E d_M_hear_0 (by decide) ?_
  refine a_istore_n (pc := 1) E d_M_hear_1 rfl (by decide) ?_
  refine a_wr ?_
  exact a_ls4 (loop _ 1 _ (Nat.add_comm _ _) (by decide) hgF.symm) rfl rfl rfl rfl
