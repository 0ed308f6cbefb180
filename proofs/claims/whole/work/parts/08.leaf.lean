def rm_0 : Room := { frames := 0, cells := 0, slots := 0, locals := 0 }
def rm_1 : Room := { frames := 1, cells := 0, slots := 0, locals := 40 }
def rm_2 : Room := { frames := 2, cells := 0, slots := 0, locals := 70 }
def rm_3 : Room := { frames := 3, cells := 0, slots := 0, locals := 100 }
def rm_4 : Room := { frames := 4, cells := 0, slots := 0, locals := 130 }
def rm_5 : Room := { frames := 5, cells := 0, slots := 0, locals := 160 }
def rm_x : Room := { frames := 6, cells := 1, slots := 6, locals := 110 }
def rm_p : Room := { frames := 7, cells := 4, slots := 24, locals := 190 }
def rm_w : Room := { frames := 8, cells := 4, slots := 24, locals := 225 }
theorem ix_of {x : Int32} {n : Nat} (h0 : 0 ≤ x.toInt) (h1 : x.toInt < n) : vp_in x n := vp_in_iff.mpr ⟨h0, h1⟩
theorem lt_n {x : Int32} (n : Nat) (hn : n < 2 ^ 31) (h : x < nI n) : x.toInt < n := by
  have := Int32.lt_iff_toInt_lt.mp h
  rw [nI_toInt hn] at this
  exact this
theorem le_n {x : Int32} (n : Nat) (hn : n < 2 ^ 31) (h : x ≤ nI n) : x.toInt ≤ n := by
  have := Int32.le_iff_toInt_le.mp h
  rw [nI_toInt hn] at this
  exact this
theorem ge_n {x : Int32} (n : Nat) (hn : n < 2 ^ 31) (h : ¬ x < nI n) : (n : Int) ≤ x.toInt := by
  rcases Int.lt_or_le x.toInt n with q | q
  · exact absurd (Int32.lt_iff_toInt_lt.mpr (by rw [nI_toInt hn]; exact q)) h
  · exact q
theorem gt_n {x : Int32} (n : Nat) (hn : n < 2 ^ 31) (h : ¬ x ≤ nI n) : (n : Int) < x.toInt := by
  rcases Int.lt_or_le (n : Int) x.toInt with q | q
  · exact q
  · exact absurd (Int32.le_iff_toInt_le.mpr (by rw [nI_toInt hn]; exact q)) h
theorem sw_out3 {x : Int32} (h0 : ¬ x = 0) (h1 : ¬ x = 1) (h2 : ¬ x = 2) : x.toInt < 0 ∨ 2 < x.toInt := by
  have a0 := lv_neT h0 (a := 0) (by decide)
  have a1 := lv_neT h1 (a := 1) (by decide)
  have a2 := lv_neT h2 (a := 2) (by decide)
  omega
theorem sw_look2 {x : Int32} {o0 o1 d : Int} (h0 : ¬ x = 0) (h1 : ¬ x = 1) : Op.lookupswitch.offset [(0, o0), (1, o1)] d x.toInt = d := by
  rw [lv_osw h0 (by decide), lv_osw h1 (by decide)]
  rfl
def f_isPart (M : hm_M) (x : Int32) : Int32 := if x < 0 then 0 else if M 0 0 5 ≤ x then 0 else 1
def f_isPlace (x : Int32) : Int32 := if x < 0 then 0 else if 8 ≤ x then 0 else 1
def f_isAmount (x : Int32) : Int32 := if x < -99 then 0 else if 99 < x then 0 else 1
def f_isStep (M : hm_M) (kd a b : Int32) : Int32 := if kd = 0 then (if f_isPlace a = 0 then 0 else if f_isAmount b = 0 then 0 else 1) else if kd = 1 then (if f_isPart M a = 0 then 0 else if f_isAmount b = 0 then 0 else 1) else if kd = 2 then (if f_isPlace a = 0 then 0 else if b = 0 then 1 else 0) else 0
def f_may (M : hm_M) (k : Nat) : Int32 := if M 10 k 2 = 0 then 1 else if M 10 k 2 = 1 then 1 else if M 10 k 2 = 2 then 1 else 0
def f_await (M : hm_M) (k : Nat) : Int32 := if M 10 k 2 = 1 then (if M 10 k 4 ≤ M 10 k 3 then -1 else M 12 k (M 10 k 3).toNatClampNeg) else -1
def f_yields (M : hm_M) (k j : Nat) : Int32 := if M 10 k 1 < M 10 j 1 then 1 else if M 10 k 1 = M 10 j 1 then (if M 10 k 0 ≤ M 10 j 0 then 0 else 1) else 0
set_option maxHeartbeats 4000000 in
set_option maxRecDepth 100000 in
theorem c_H_isPart (l : Launch) (D : va_G) (ar : Nat → ClassId) (lay : Nat → Nat → Nat) (M : hm_M) (x : Int32) : Ct l D ar lay y_H_isPart rm_0 false [.ref (lay 0 0), .int x] M (.inl (some (.int (f_isPart M x)), M)) := by
  refine Ct.of (cc := prog_1_method_19_code) (maxL := 2) (ret := (some .boolean)) (by decide) cd_H_isPart (Nat.le_of_ble_eq_true rfl) ?_
  intro p e s m below meth c E hr hlk hno hH
  refine a_iload_n (pc := 0) E d_H_isPart_0 rfl rfl ?_
  refine a_if_lt (tgt := 16) (pc := 1) E d_H_isPart_1 (by decide) (fun c_1 => ?_) (fun c_1 => ?_)
  · refine a_iconst (v := 0) (pc := 16) E d_H_isPart_16 (by decide) ?_
    exact a_iret (pc := 17) E hr hlk rfl d_H_isPart_17 (by decide) (by decide) (by decide) (by simp [f_isPart, c_1])
  · refine a_iload_n (pc := 4) E d_H_isPart_4 rfl rfl ?_
    refine a_aload_n (pc := 5) E d_H_isPart_5 rfl rfl ?_
    refine g_H_5 (pc := 6) E d_H_isPart_6 fl_H_42 ?_
    refine a_icmp_ge (tgt := 16) (pc := 9) E d_H_isPart_9 (by decide) (fun c_9 => ?_) (fun c_9 => ?_)
    · refine a_iconst (v := 0) (pc := 16) E d_H_isPart_16 (by decide) ?_
      exact a_iret (pc := 17) E hr hlk rfl d_H_isPart_17 (by decide) (by decide) (by decide) (by simp [f_isPart, c_1, c_9])
    · refine a_iconst (v := 1) (pc := 12) E d_H_isPart_12 (by decide) ?_
      refine a_goto (tgt := 17) (pc := 13) E d_H_isPart_13 (by decide) ?_
      exact a_iret (pc := 17) E hr hlk rfl d_H_isPart_17 (by decide) (by decide) (by decide) (by simp [f_isPart, c_1, c_9])
set_option maxHeartbeats 4000000 in
set_option maxRecDepth 100000 in
theorem c_H_isPlace (l : Launch) (D : va_G) (ar : Nat → ClassId) (lay : Nat → Nat → Nat) (M : hm_M) (x : Int32) : Ct l D ar lay y_H_isPlace rm_0 false [.int x] M (.inl (some (.int (f_isPlace x)), M)) := by
  refine Ct.of (cc := prog_1_method_20_code) (maxL := 1) (ret := (some .boolean)) (by decide) cd_H_isPlace (Nat.le_of_ble_eq_true rfl) ?_
  intro p e s m below meth c E hr hlk hno hH
  refine a_iload_n (pc := 0) E d_H_isPlace_0 rfl rfl ?_
  refine a_if_lt (tgt := 14) (pc := 1) E d_H_isPlace_1 (by decide) (fun c_1 => ?_) (fun c_1 => ?_)
  · refine a_iconst (v := 0) (pc := 14) E d_H_isPlace_14 (by decide) ?_
    exact a_iret (pc := 15) E hr hlk rfl d_H_isPlace_15 (by decide) (by decide) (by decide) (by simp [f_isPlace, c_1])
  · refine a_iload_n (pc := 4) E d_H_isPlace_4 rfl rfl ?_
    refine a_bipush (v := 8) (pc := 5) E d_H_isPlace_5 (by decide) ?_
    refine a_icmp_ge (tgt := 14) (pc := 7) E d_H_isPlace_7 (by decide) (fun c_7 => ?_) (fun c_7 => ?_)
    · refine a_iconst (v := 0) (pc := 14) E d_H_isPlace_14 (by decide) ?_
      exact a_iret (pc := 15) E hr hlk rfl d_H_isPlace_15 (by decide) (by decide) (by decide) (by simp [f_isPlace, c_1, c_7])
    · refine a_iconst (v := 1) (pc := 10) E d_H_isPlace_10 (by decide) ?_
      refine a_goto (tgt := 15) (pc := 11) E d_H_isPlace_11 (by decide) ?_
      exact a_iret (pc := 15) E hr hlk rfl d_H_isPlace_15 (by decide) (by decide) (by decide) (by simp [f_isPlace, c_1, c_7])
set_option maxHeartbeats 4000000 in
set_option maxRecDepth 100000 in
theorem c_H_isAmount (l : Launch) (D : va_G) (ar : Nat → ClassId) (lay : Nat → Nat → Nat) (M : hm_M) (x : Int32) : Ct l D ar lay y_H_isAmount rm_0 false [.int x] M (.inl (some (.int (f_isAmount x)), M)) := by
  refine Ct.of (cc := prog_1_method_22_code) (maxL := 1) (ret := (some .boolean)) (by decide) cd_H_isAmount (Nat.le_of_ble_eq_true rfl) ?_
  intro p e s m below meth c E hr hlk hno hH
  refine a_iload_n (pc := 0) E d_H_isAmount_0 rfl rfl ?_
  refine a_bipush (v := (-99)) (pc := 1) E d_H_isAmount_1 (by decide) ?_
  refine a_icmp_lt (tgt := 16) (pc := 3) E d_H_isAmount_3 (by decide) (fun c_3 => ?_) (fun c_3 => ?_)
  · refine a_iconst (v := 0) (pc := 16) E d_H_isAmount_16 (by decide) ?_
    exact a_iret (pc := 17) E hr hlk rfl d_H_isAmount_17 (by decide) (by decide) (by decide) (by simp [f_isAmount, c_3])
  · refine a_iload_n (pc := 6) E d_H_isAmount_6 rfl rfl ?_
    refine a_bipush (v := 99) (pc := 7) E d_H_isAmount_7 (by decide) ?_
    refine a_icmp_gt (tgt := 16) (pc := 9) E d_H_isAmount_9 (by decide) (fun c_9 => ?_) (fun c_9 => ?_)
    · refine a_iconst (v := 0) (pc := 16) E d_H_isAmount_16 (by decide) ?_
      exact a_iret (pc := 17) E hr hlk rfl d_H_isAmount_17 (by decide) (by decide) (by decide) (by simp [f_isAmount, c_3, c_9])
    · refine a_iconst (v := 1) (pc := 12) E d_H_isAmount_12 (by decide) ?_
      refine a_goto (tgt := 17) (pc := 13) E d_H_isAmount_13 (by decide) ?_
      exact a_iret (pc := 17) E hr hlk rfl d_H_isAmount_17 (by decide) (by decide) (by decide) (by simp [f_isAmount, c_3, c_9])
set_option maxHeartbeats 4000000 in
set_option maxRecDepth 100000 in
theorem c_H_isStep (l : Launch) (D : va_G) (ar : Nat → ClassId) (lay : Nat → Nat → Nat) (M : hm_M) (kd a b : Int32) : Ct l D ar lay y_H_isStep rm_1 false [.ref (lay 0 0), .int kd, .int a, .int b] M (.inl (some (.int (f_isStep M kd a b)), M)) := by
  refine Ct.of (cc := prog_1_method_21_code) (maxL := 4) (ret := (some .boolean)) (by decide) cd_H_isStep (Nat.le_of_ble_eq_true rfl) ?_
  intro p e s m below meth c E hr hlk hno hH
  refine a_iload_n (pc := 0) E d_H_isStep_0 rfl rfl ?_
  by_cases c_1_0 : kd = 0
  · refine a_tableIn (tgt := 28) (off := 27) (pc := 1) E d_H_isStep_1 (by rw [c_1_0]; decide) (by rw [c_1_0]; decide) (by rw [c_1_0]; rfl) (by decide) ?_
    refine a_iload_n (pc := 28) E d_H_isStep_28 rfl rfl ?_
    refine b_SI (pc := 29) (n := 1) E (c_H_isPlace l D ar lay _ _) ⟨by decide, by decide, ml_H_131, ss_H_isPlace, ii_H, ⟨by decide, by decide⟩, by decide +kernel⟩ cd_H_isPlace rfl (by decide) rfl (Nat.le_of_ble_eq_true rfl) d_H_isStep_29 (by decide) ?_
    refine a_if_eq (tgt := 46) (pc := 32) E d_H_isStep_32 (by decide) (fun c_32 => ?_) (fun c_32 => ?_)
    · refine a_iconst (v := 0) (pc := 46) E d_H_isStep_46 (by decide) ?_
      exact a_iret (pc := 47) E hr hlk rfl d_H_isStep_47 (by decide) (by decide) (by decide) (by simp [f_isStep, c_1_0, c_32])
    · refine a_iload_n (pc := 35) E d_H_isStep_35 rfl rfl ?_
      refine b_SI (pc := 36) (n := 1) E (c_H_isAmount l D ar lay _ _) ⟨by decide, by decide, ml_H_180, ss_H_isAmount, ii_H, ⟨by decide, by decide⟩, by decide +kernel⟩ cd_H_isAmount rfl (by decide) rfl (Nat.le_of_ble_eq_true rfl) d_H_isStep_36 (by decide) ?_
      refine a_if_eq (tgt := 46) (pc := 39) E d_H_isStep_39 (by decide) (fun c_39 => ?_) (fun c_39 => ?_)
      · refine a_iconst (v := 0) (pc := 46) E d_H_isStep_46 (by decide) ?_
        exact a_iret (pc := 47) E hr hlk rfl d_H_isStep_47 (by decide) (by decide) (by decide) (by simp [f_isStep, c_1_0, c_32, c_39])
      · refine a_iconst (v := 1) (pc := 42) E d_H_isStep_42 (by decide) ?_
        refine a_goto (tgt := 47) (pc := 43) E d_H_isStep_43 (by decide) ?_
        exact a_iret (pc := 47) E hr hlk rfl d_H_isStep_47 (by decide) (by decide) (by decide) (by simp [f_isStep, c_1_0, c_32, c_39])
  by_cases c_1_1 : kd = 1
  · refine a_tableIn (tgt := 48) (off := 47) (pc := 1) E d_H_isStep_1 (by rw [c_1_1]; decide) (by rw [c_1_1]; decide) (by rw [c_1_1]; rfl) (by decide) ?_
    refine a_aload_n (pc := 48) E d_H_isStep_48 rfl rfl ?_
    refine a_iload_n (pc := 49) E d_H_isStep_49 rfl rfl ?_
    refine b_VI (pc := 50) (n := 1) E (c_H_isPart l D ar lay _ _) ⟨by decide, by decide, ml_H_170, im_H_isPart, sl_H_isPart, ii_H, cd_H_isPart, ⟨by decide, by decide⟩, by decide +kernel⟩ rfl (by decide) rfl rfl (by decide) rfl (Nat.le_of_ble_eq_true rfl) d_H_isStep_50 (by decide) ?_
    refine a_if_eq (tgt := 67) (pc := 53) E d_H_isStep_53 (by decide) (fun c_53 => ?_) (fun c_53 => ?_)
    · refine a_iconst (v := 0) (pc := 67) E d_H_isStep_67 (by decide) ?_
      exact a_iret (pc := 68) E hr hlk rfl d_H_isStep_68 (by decide) (by decide) (by decide) (by simp [f_isStep, c_1_0, c_1_1, c_53])
    · refine a_iload_n (pc := 56) E d_H_isStep_56 rfl rfl ?_
      refine b_SI (pc := 57) (n := 1) E (c_H_isAmount l D ar lay _ _) ⟨by decide, by decide, ml_H_180, ss_H_isAmount, ii_H, ⟨by decide, by decide⟩, by decide +kernel⟩ cd_H_isAmount rfl (by decide) rfl (Nat.le_of_ble_eq_true rfl) d_H_isStep_57 (by decide) ?_
      refine a_if_eq (tgt := 67) (pc := 60) E d_H_isStep_60 (by decide) (fun c_60 => ?_) (fun c_60 => ?_)
      · refine a_iconst (v := 0) (pc := 67) E d_H_isStep_67 (by decide) ?_
        exact a_iret (pc := 68) E hr hlk rfl d_H_isStep_68 (by decide) (by decide) (by decide) (by simp [f_isStep, c_1_0, c_1_1, c_53, c_60])
      · refine a_iconst (v := 1) (pc := 63) E d_H_isStep_63 (by decide) ?_
        refine a_goto (tgt := 68) (pc := 64) E d_H_isStep_64 (by decide) ?_
        exact a_iret (pc := 68) E hr hlk rfl d_H_isStep_68 (by decide) (by decide) (by decide) (by simp [f_isStep, c_1_0, c_1_1, c_53, c_60])
  by_cases c_1_2 : kd = 2
  · refine a_tableIn (tgt := 69) (off := 68) (pc := 1) E d_H_isStep_1 (by rw [c_1_2]; decide) (by rw [c_1_2]; decide) (by rw [c_1_2]; rfl) (by decide) ?_
    refine a_iload_n (pc := 69) E d_H_isStep_69 rfl rfl ?_
    refine b_SI (pc := 70) (n := 1) E (c_H_isPlace l D ar lay _ _) ⟨by decide, by decide, ml_H_131, ss_H_isPlace, ii_H, ⟨by decide, by decide⟩, by decide +kernel⟩ cd_H_isPlace rfl (by decide) rfl (Nat.le_of_ble_eq_true rfl) d_H_isStep_70 (by decide) ?_
    refine a_if_eq (tgt := 84) (pc := 73) E d_H_isStep_73 (by decide) (fun c_73 => ?_) (fun c_73 => ?_)
    · refine a_iconst (v := 0) (pc := 84) E d_H_isStep_84 (by decide) ?_
      exact a_iret (pc := 85) E hr hlk rfl d_H_isStep_85 (by decide) (by decide) (by decide) (by simp [f_isStep, c_1_0, c_1_1, c_1_2, c_73])
    · refine a_iload_n (pc := 76) E d_H_isStep_76 rfl rfl ?_
      refine a_if_ne (tgt := 84) (pc := 77) E d_H_isStep_77 (by decide) (fun c_77 => ?_) (fun c_77 => ?_)
      · refine a_iconst (v := 0) (pc := 84) E d_H_isStep_84 (by decide) ?_
        exact a_iret (pc := 85) E hr hlk rfl d_H_isStep_85 (by decide) (by decide) (by decide) (by simp [f_isStep, c_1_0, c_1_1, c_1_2, c_73, c_77])
      · refine a_iconst (v := 1) (pc := 80) E d_H_isStep_80 (by decide) ?_
        refine a_goto (tgt := 85) (pc := 81) E d_H_isStep_81 (by decide) ?_
        exact a_iret (pc := 85) E hr hlk rfl d_H_isStep_85 (by decide) (by decide) (by decide) (by simp [f_isStep, c_1_0, c_1_1, c_1_2, c_73, c_77])
  refine a_tableOut (tgt := 86) (pc := 1) E d_H_isStep_1 (sw_out3 c_1_0 c_1_1 c_1_2) (by decide) ?_
  refine a_iconst (v := 0) (pc := 86) E d_H_isStep_86 (by decide) ?_
  exact a_iret (pc := 87) E hr hlk rfl d_H_isStep_87 (by decide) (by decide) (by decide) (by simp [f_isStep, c_1_0, c_1_1, c_1_2])
set_option maxHeartbeats 4000000 in
set_option maxRecDepth 100000 in
theorem c_P_mayHaveTurn (l : Launch) (D : va_G) (ar : Nat → ClassId) (lay : Nat → Nat → Nat) (M : hm_M) (k : Nat) (hk : k < 6) : Ct l D ar lay y_P_mayHaveTurn rm_0 false [.ref (lay 10 k)] M (.inl (some (.int (f_may M k)), M)) := by
  refine Ct.of (cc := prog_2_method_3_code) (maxL := 1) (ret := (some .boolean)) (by decide) cd_P_mayHaveTurn (Nat.le_of_ble_eq_true rfl) ?_
  intro p e s m below meth c E hr hlk hno hH
  refine a_aload_n (pc := 0) E d_P_mayHaveTurn_0 rfl rfl ?_
  refine g_P_2 (pc := 1) E (by assumption) d_P_mayHaveTurn_1 fl_P_9 ?_
  refine a_if_eq (tgt := 23) (pc := 4) E d_P_mayHaveTurn_4 (by decide) (fun c_4 => ?_) (fun c_4 => ?_)
  · refine a_iconst (v := 1) (pc := 23) E d_P_mayHaveTurn_23 (by decide) ?_
    refine a_goto (tgt := 28) (pc := 24) E d_P_mayHaveTurn_24 (by decide) ?_
    exact a_iret (pc := 28) E hr hlk rfl d_P_mayHaveTurn_28 (by decide) (by decide) (by decide) (by simp [f_may, c_4])
  · refine a_aload_n (pc := 7) E d_P_mayHaveTurn_7 rfl rfl ?_
    refine g_P_2 (pc := 8) E (by assumption) d_P_mayHaveTurn_8 fl_P_9 ?_
    refine a_iconst (v := 1) (pc := 11) E d_P_mayHaveTurn_11 (by decide) ?_
    refine a_icmp_eq (tgt := 23) (pc := 12) E d_P_mayHaveTurn_12 (by decide) (fun c_12 => ?_) (fun c_12 => ?_)
    · refine a_iconst (v := 1) (pc := 23) E d_P_mayHaveTurn_23 (by decide) ?_
      refine a_goto (tgt := 28) (pc := 24) E d_P_mayHaveTurn_24 (by decide) ?_
      exact a_iret (pc := 28) E hr hlk rfl d_P_mayHaveTurn_28 (by decide) (by decide) (by decide) (by simp [f_may, c_4, c_12])
    · refine a_aload_n (pc := 15) E d_P_mayHaveTurn_15 rfl rfl ?_
      refine g_P_2 (pc := 16) E (by assumption) d_P_mayHaveTurn_16 fl_P_9 ?_
      refine a_iconst (v := 2) (pc := 19) E d_P_mayHaveTurn_19 (by decide) ?_
      refine a_icmp_ne (tgt := 27) (pc := 20) E d_P_mayHaveTurn_20 (by decide) (fun c_20 => ?_) (fun c_20 => ?_)
      · refine a_iconst (v := 0) (pc := 27) E d_P_mayHaveTurn_27 (by decide) ?_
        exact a_iret (pc := 28) E hr hlk rfl d_P_mayHaveTurn_28 (by decide) (by decide) (by decide) (by simp [f_may, c_4, c_12, c_20])
      · refine a_iconst (v := 1) (pc := 23) E d_P_mayHaveTurn_23 (by decide) ?_
        refine a_goto (tgt := 28) (pc := 24) E d_P_mayHaveTurn_24 (by decide) ?_
        exact a_iret (pc := 28) E hr hlk rfl d_P_mayHaveTurn_28 (by decide) (by decide) (by decide) (by simp [f_may, c_4, c_12, c_20])
set_option maxHeartbeats 4000000 in
set_option maxRecDepth 100000 in
theorem c_P_awaitedPlace (l : Launch) (D : va_G) (ar : Nat → ClassId) (lay : Nat → Nat → Nat) (M : hm_M) (k : Nat) (hk : k < 6) (h3 : 0 ≤ (M 10 k 3).toInt) (h4 : (M 10 k 4).toInt ≤ 10) : Ct l D ar lay y_P_awaitedPlace rm_0 false [.ref (lay 10 k)] M (.inl (some (.int (f_await M k)), M)) := by
  refine Ct.of (cc := prog_2_method_4_code) (maxL := 1) (ret := (some .int)) (by decide) cd_P_awaitedPlace (Nat.le_of_ble_eq_true rfl) ?_
  intro p e s m below meth c E hr hlk hno hH
  refine a_aload_n (pc := 0) E d_P_awaitedPlace_0 rfl rfl ?_
  refine g_P_2 (pc := 1) E (by assumption) d_P_awaitedPlace_1 fl_P_9 ?_
  refine a_iconst (v := 1) (pc := 4) E d_P_awaitedPlace_4 (by decide) ?_
  refine a_icmp_ne (tgt := 31) (pc := 5) E d_P_awaitedPlace_5 (by decide) (fun c_5 => ?_) (fun c_5 => ?_)
  · refine a_iconst (v := (-1)) (pc := 31) E d_P_awaitedPlace_31 (by decide) ?_
    exact a_iret (pc := 32) E hr hlk rfl d_P_awaitedPlace_32 (by decide) (by decide) (by decide) (by simp [f_await, c_5])
  · refine a_aload_n (pc := 8) E d_P_awaitedPlace_8 rfl rfl ?_
    refine g_P_3 (pc := 9) E (by assumption) d_P_awaitedPlace_9 fl_P_38 ?_
    refine a_aload_n (pc := 12) E d_P_awaitedPlace_12 rfl rfl ?_
    refine g_P_4 (pc := 13) E (by assumption) d_P_awaitedPlace_13 fl_P_35 ?_
    refine a_icmp_ge (tgt := 31) (pc := 16) E d_P_awaitedPlace_16 (by decide) (fun c_16 => ?_) (fun c_16 => ?_)
    · refine a_iconst (v := (-1)) (pc := 31) E d_P_awaitedPlace_31 (by decide) ?_
      exact a_iret (pc := 32) E hr hlk rfl d_P_awaitedPlace_32 (by decide) (by decide) (by decide) (by simp [f_await, c_5, c_16])
    · refine a_aload_n (pc := 19) E d_P_awaitedPlace_19 rfl rfl ?_
      refine g_P_7 (pc := 20) E (by assumption) d_P_awaitedPlace_20 fl_P_19 ?_
      refine a_aload_n (pc := 23) E d_P_awaitedPlace_23 rfl rfl ?_
      refine g_P_3 (pc := 24) E (by assumption) d_P_awaitedPlace_24 fl_P_38 ?_
      refine r_12 (pc := 27) E (by assumption) d_P_awaitedPlace_27 (ix_of h3 (by have := Int32.lt_iff_toInt_lt.mp (Int32.not_le.mp c_16); omega)) ?_
      refine a_goto (tgt := 32) (pc := 28) E d_P_awaitedPlace_28 (by decide) ?_
      exact a_iret (pc := 32) E hr hlk rfl d_P_awaitedPlace_32 (by decide) (by decide) (by decide) (by simp [f_await, c_5, c_16])
set_option maxHeartbeats 4000000 in
set_option maxRecDepth 100000 in
theorem c_P_yieldsBefore (l : Launch) (D : va_G) (ar : Nat → ClassId) (lay : Nat → Nat → Nat) (M : hm_M) (k j : Nat) (hk : k < 6) (hj : j < 6) : Ct l D ar lay y_P_yieldsBefore rm_0 false [.ref (lay 10 k), .ref (lay 10 j)] M (.inl (some (.int (f_yields M k j)), M)) := by
  refine Ct.of (cc := prog_2_method_5_code) (maxL := 2) (ret := (some .boolean)) (by decide) cd_P_yieldsBefore (Nat.le_of_ble_eq_true rfl) ?_
  intro p e s m below meth c E hr hlk hno hH
  refine a_aload_n (pc := 0) E d_P_yieldsBefore_0 rfl rfl ?_
  refine g_P_1 (pc := 1) E (by assumption) d_P_yieldsBefore_1 fl_P_41 ?_
  refine a_aload_n (pc := 4) E d_P_yieldsBefore_4 rfl rfl ?_
  refine g_P_1 (pc := 5) E (by assumption) d_P_yieldsBefore_5 fl_P_41 ?_
  refine a_icmp_lt (tgt := 33) (pc := 8) E d_P_yieldsBefore_8 (by decide) (fun c_8 => ?_) (fun c_8 => ?_)
  · refine a_iconst (v := 1) (pc := 33) E d_P_yieldsBefore_33 (by decide) ?_
    refine a_goto (tgt := 38) (pc := 34) E d_P_yieldsBefore_34 (by decide) ?_
    exact a_iret (pc := 38) E hr hlk rfl d_P_yieldsBefore_38 (by decide) (by decide) (by decide) (by simp [f_yields, c_8])
  · refine a_aload_n (pc := 11) E d_P_yieldsBefore_11 rfl rfl ?_
    refine g_P_1 (pc := 12) E (by assumption) d_P_yieldsBefore_12 fl_P_41 ?_
    refine a_aload_n (pc := 15) E d_P_yieldsBefore_15 rfl rfl ?_
    refine g_P_1 (pc := 16) E (by assumption) d_P_yieldsBefore_16 fl_P_41 ?_
    refine a_icmp_ne (tgt := 37) (pc := 19) E d_P_yieldsBefore_19 (by decide) (fun c_19 => ?_) (fun c_19 => ?_)
    · refine a_iconst (v := 0) (pc := 37) E d_P_yieldsBefore_37 (by decide) ?_
      exact a_iret (pc := 38) E hr hlk rfl d_P_yieldsBefore_38 (by decide) (by decide) (by decide) (by simp [f_yields, c_8, c_19])
    · refine a_aload_n (pc := 22) E d_P_yieldsBefore_22 rfl rfl ?_
      refine g_P_0 (pc := 23) E (by assumption) d_P_yieldsBefore_23 fl_P_32 ?_
      refine a_aload_n (pc := 26) E d_P_yieldsBefore_26 rfl rfl ?_
      refine g_P_0 (pc := 27) E (by assumption) d_P_yieldsBefore_27 fl_P_32 ?_
      refine a_icmp_le (tgt := 37) (pc := 30) E d_P_yieldsBefore_30 (by decide) (fun c_30 => ?_) (fun c_30 => ?_)
      · refine a_iconst (v := 0) (pc := 37) E d_P_yieldsBefore_37 (by decide) ?_
        exact a_iret (pc := 38) E hr hlk rfl d_P_yieldsBefore_38 (by decide) (by decide) (by decide) (by simp [f_yields, c_8, c_19, c_30])
      · refine a_iconst (v := 1) (pc := 33) E d_P_yieldsBefore_33 (by decide) ?_
        refine a_goto (tgt := 38) (pc := 34) E d_P_yieldsBefore_34 (by decide) ?_
        exact a_iret (pc := 38) E hr hlk rfl d_P_yieldsBefore_38 (by decide) (by decide) (by decide) (by simp [f_yields, c_8, c_19, c_30])
theorem a_ls1 {p : Program} {l : Launch} {e : Env} {R : Room} {s : State} {m : MethodId} {args : Array Value} {below : List Frame} {meth : Method} {c : Code} {Q : State → Prop} {nL cB sB : Nat} {D : va_G} {ar : Nat → ClassId} {lay : Nat → Nat → Nat} {wr : Bool} {pc : Nat} {ls : List (Nat × Value)} {st : List Value} {M : hm_M} {i1 : Nat} {v1 : Value} (kk : AW p l e R s m args below meth c D ar lay wr nL cB sB Q pc [(i1, v1)] st M) (g1 : ls.lookup i1 = some v1) : AW p l e R s m args below meth c D ar lay wr nL cB sB Q pc ls st M := by
  refine a_ls (fun q hq => ?_) kk
  simp only [List.mem_cons, List.not_mem_nil, or_false] at hq
  subst hq
  exact ls_mem g1

theorem a_ls2 {p : Program} {l : Launch} {e : Env} {R : Room} {s : State} {m : MethodId} {args : Array Value} {below : List Frame} {meth : Method} {c : Code} {Q : State → Prop} {nL cB sB : Nat} {D : va_G} {ar : Nat → ClassId} {lay : Nat → Nat → Nat} {wr : Bool} {pc : Nat} {ls : List (Nat × Value)} {st : List Value} {M : hm_M} {i1 i2 : Nat} {v1 v2 : Value} (kk : AW p l e R s m args below meth c D ar lay wr nL cB sB Q pc [(i1, v1), (i2, v2)] st M) (g1 : ls.lookup i1 = some v1) (g2 : ls.lookup i2 = some v2) : AW p l e R s m args below meth c D ar lay wr nL cB sB Q pc ls st M := by
  refine a_ls (fun q hq => ?_) kk
  simp only [List.mem_cons, List.not_mem_nil, or_false] at hq
  rcases hq with rfl | rfl
  · exact ls_mem g1
  · exact ls_mem g2

theorem a_ls3 {p : Program} {l : Launch} {e : Env} {R : Room} {s : State} {m : MethodId} {args : Array Value} {below : List Frame} {meth : Method} {c : Code} {Q : State → Prop} {nL cB sB : Nat} {D : va_G} {ar : Nat → ClassId} {lay : Nat → Nat → Nat} {wr : Bool} {pc : Nat} {ls : List (Nat × Value)} {st : List Value} {M : hm_M} {i1 i2 i3 : Nat} {v1 v2 v3 : Value} (kk : AW p l e R s m args below meth c D ar lay wr nL cB sB Q pc [(i1, v1), (i2, v2), (i3, v3)] st M) (g1 : ls.lookup i1 = some v1) (g2 : ls.lookup i2 = some v2) (g3 : ls.lookup i3 = some v3) : AW p l e R s m args below meth c D ar lay wr nL cB sB Q pc ls st M := by
  refine a_ls (fun q hq => ?_) kk
  simp only [List.mem_cons, List.not_mem_nil, or_false] at hq
  rcases hq with rfl | rfl | rfl
  · exact ls_mem g1
  · exact ls_mem g2
  · exact ls_mem g3

theorem a_ls4 {p : Program} {l : Launch} {e : Env} {R : Room} {s : State} {m : MethodId} {args : Array Value} {below : List Frame} {meth : Method} {c : Code} {Q : State → Prop} {nL cB sB : Nat} {D : va_G} {ar : Nat → ClassId} {lay : Nat → Nat → Nat} {wr : Bool} {pc : Nat} {ls : List (Nat × Value)} {st : List Value} {M : hm_M} {i1 i2 i3 i4 : Nat} {v1 v2 v3 v4 : Value} (kk : AW p l e R s m args below meth c D ar lay wr nL cB sB Q pc [(i1, v1), (i2, v2), (i3, v3), (i4, v4)] st M) (g1 : ls.lookup i1 = some v1) (g2 : ls.lookup i2 = some v2) (g3 : ls.lookup i3 = some v3) (g4 : ls.lookup i4 = some v4) : AW p l e R s m args below meth c D ar lay wr nL cB sB Q pc ls st M := by
  refine a_ls (fun q hq => ?_) kk
  simp only [List.mem_cons, List.not_mem_nil, or_false] at hq
  rcases hq with rfl | rfl | rfl | rfl
  · exact ls_mem g1
  · exact ls_mem g2
  · exact ls_mem g3
  · exact ls_mem g4

theorem a_ls5 {p : Program} {l : Launch} {e : Env} {R : Room} {s : State} {m : MethodId} {args : Array Value} {below : List Frame} {meth : Method} {c : Code} {Q : State → Prop} {nL cB sB : Nat} {D : va_G} {ar : Nat → ClassId} {lay : Nat → Nat → Nat} {wr : Bool} {pc : Nat} {ls : List (Nat × Value)} {st : List Value} {M : hm_M} {i1 i2 i3 i4 i5 : Nat} {v1 v2 v3 v4 v5 : Value} (kk : AW p l e R s m args below meth c D ar lay wr nL cB sB Q pc [(i1, v1), (i2, v2), (i3, v3), (i4, v4), (i5, v5)] st M) (g1 : ls.lookup i1 = some v1) (g2 : ls.lookup i2 = some v2) (g3 : ls.lookup i3 = some v3) (g4 : ls.lookup i4 = some v4) (g5 : ls.lookup i5 = some v5) : AW p l e R s m args below meth c D ar lay wr nL cB sB Q pc ls st M := by
  refine a_ls (fun q hq => ?_) kk
  simp only [List.mem_cons, List.not_mem_nil, or_false] at hq
  rcases hq with rfl | rfl | rfl | rfl | rfl
  · exact ls_mem g1
  · exact ls_mem g2
  · exact ls_mem g3
  · exact ls_mem g4
  · exact ls_mem g5

theorem a_ls6 {p : Program} {l : Launch} {e : Env} {R : Room} {s : State} {m : MethodId} {args : Array Value} {below : List Frame} {meth : Method} {c : Code} {Q : State → Prop} {nL cB sB : Nat} {D : va_G} {ar : Nat → ClassId} {lay : Nat → Nat → Nat} {wr : Bool} {pc : Nat} {ls : List (Nat × Value)} {st : List Value} {M : hm_M} {i1 i2 i3 i4 i5 i6 : Nat} {v1 v2 v3 v4 v5 v6 : Value} (kk : AW p l e R s m args below meth c D ar lay wr nL cB sB Q pc [(i1, v1), (i2, v2), (i3, v3), (i4, v4), (i5, v5), (i6, v6)] st M) (g1 : ls.lookup i1 = some v1) (g2 : ls.lookup i2 = some v2) (g3 : ls.lookup i3 = some v3) (g4 : ls.lookup i4 = some v4) (g5 : ls.lookup i5 = some v5) (g6 : ls.lookup i6 = some v6) : AW p l e R s m args below meth c D ar lay wr nL cB sB Q pc ls st M := by
  refine a_ls (fun q hq => ?_) kk
  simp only [List.mem_cons, List.not_mem_nil, or_false] at hq
  rcases hq with rfl | rfl | rfl | rfl | rfl | rfl
  · exact ls_mem g1
  · exact ls_mem g2
  · exact ls_mem g3
  · exact ls_mem g4
  · exact ls_mem g5
  · exact ls_mem g6

theorem a_ls7 {p : Program} {l : Launch} {e : Env} {R : Room} {s : State} {m : MethodId} {args : Array Value} {below : List Frame} {meth : Method} {c : Code} {Q : State → Prop} {nL cB sB : Nat} {D : va_G} {ar : Nat → ClassId} {lay : Nat → Nat → Nat} {wr : Bool} {pc : Nat} {ls : List (Nat × Value)} {st : List Value} {M : hm_M} {i1 i2 i3 i4 i5 i6 i7 : Nat} {v1 v2 v3 v4 v5 v6 v7 : Value} (kk : AW p l e R s m args below meth c D ar lay wr nL cB sB Q pc [(i1, v1), (i2, v2), (i3, v3), (i4, v4), (i5, v5), (i6, v6), (i7, v7)] st M) (g1 : ls.lookup i1 = some v1) (g2 : ls.lookup i2 = some v2) (g3 : ls.lookup i3 = some v3) (g4 : ls.lookup i4 = some v4) (g5 : ls.lookup i5 = some v5) (g6 : ls.lookup i6 = some v6) (g7 : ls.lookup i7 = some v7) : AW p l e R s m args below meth c D ar lay wr nL cB sB Q pc ls st M := by
  refine a_ls (fun q hq => ?_) kk
  simp only [List.mem_cons, List.not_mem_nil, or_false] at hq
  rcases hq with rfl | rfl | rfl | rfl | rfl | rfl | rfl
  · exact ls_mem g1
  · exact ls_mem g2
  · exact ls_mem g3
  · exact ls_mem g4
  · exact ls_mem g5
  · exact ls_mem g6
  · exact ls_mem g7

theorem a_ls8 {p : Program} {l : Launch} {e : Env} {R : Room} {s : State} {m : MethodId} {args : Array Value} {below : List Frame} {meth : Method} {c : Code} {Q : State → Prop} {nL cB sB : Nat} {D : va_G} {ar : Nat → ClassId} {lay : Nat → Nat → Nat} {wr : Bool} {pc : Nat} {ls : List (Nat × Value)} {st : List Value} {M : hm_M} {i1 i2 i3 i4 i5 i6 i7 i8 : Nat} {v1 v2 v3 v4 v5 v6 v7 v8 : Value} (kk : AW p l e R s m args below meth c D ar lay wr nL cB sB Q pc [(i1, v1), (i2, v2), (i3, v3), (i4, v4), (i5, v5), (i6, v6), (i7, v7), (i8, v8)] st M) (g1 : ls.lookup i1 = some v1) (g2 : ls.lookup i2 = some v2) (g3 : ls.lookup i3 = some v3) (g4 : ls.lookup i4 = some v4) (g5 : ls.lookup i5 = some v5) (g6 : ls.lookup i6 = some v6) (g7 : ls.lookup i7 = some v7) (g8 : ls.lookup i8 = some v8) : AW p l e R s m args below meth c D ar lay wr nL cB sB Q pc ls st M := by
  refine a_ls (fun q hq => ?_) kk
  simp only [List.mem_cons, List.not_mem_nil, or_false] at hq
  rcases hq with rfl | rfl | rfl | rfl | rfl | rfl | rfl | rfl
  · exact ls_mem g1
  · exact ls_mem g2
  · exact ls_mem g3
  · exact ls_mem g4
  · exact ls_mem g5
  · exact ls_mem g6
  · exact ls_mem g7
  · exact ls_mem g8

