theorem idx_eq (k n : Nat) : (10 : Int32) * nI k + nI n = nI (10 * k + n) := by rw [show (10 : Int32) = nI 10 from rfl, pk_mul, nI_add]
def g_in (v lo hi : Int32) : Int32 := if v < lo then 0 else if hi < v then 0 else 1
def g_isStep (M : hm_M) (kd a b : Int32) : Int32 := if g_in kd 0 2 = 0 then 0 else if g_in b (-99) 99 = 0 then 0 else if kd = 2 then (if b = 0 then g_in a 0 7 else 0) else if kd = 1 then g_in a 0 (M 20 0 3 - 1) else g_in a 0 7
def g_rel (q : Int32) : Nat → Nat → hm_M → hm_M
  | 0, _, M => M
  | n + 1, i, M => g_rel q n (i + 1) (if M 22 0 i = q then hm_up M 22 0 i (-1) else M)
def g_tb (M : hm_M) (k n : Nat) : hm_M :=
  if M 29 0 (10 * k + n) = 0 then hm_up M 21 0 (M 30 0 (10 * k + n)).toNatClampNeg (M 21 0 (M 30 0 (10 * k + n)).toNatClampNeg - M 31 0 (10 * k + n))
  else if M 29 0 (10 * k + n) = 1 then (if M 34 0 (M 33 0 (10 * k + n)).toNatClampNeg = 0 then hm_up M 34 0 (M 33 0 (10 * k + n)).toNatClampNeg 3 else M)
  else hm_up (hm_up M 21 0 (M 30 0 (10 * k + n)).toNatClampNeg (M 21 0 (M 30 0 (10 * k + n)).toNatClampNeg - M 37 0 (M 33 0 (10 * k + n)).toNatClampNeg)) 34 0 (M 33 0 (10 * k + n)).toNatClampNeg 0
def g_tbL (k : Nat) : Nat → hm_M → hm_M
  | 0, M => M
  | i + 1, M => g_tbL k i (g_tb M k i)
def g_undo (M : hm_M) (k : Nat) (st : Int32) : hm_M := hm_up (hm_up (hm_up (hm_up (g_rel (nI k) 8 0 (g_tbL k (M 26 0 k).toNatClampNeg M)) 26 0 k 0) 27 0 k (-1)) 24 0 k st) 28 0 k (M 28 0 k + 1)
theorem g_rel_ne (q : Int32) : ∀ (n i : Nat) (M : hm_M) (f : Nat), ¬ f = 22 → g_rel q n i M f = M f := by
  intro n
  induction n with
  | zero => intro i M f _; rfl
  | succ n ih =>
    intro i M f hf
    simp only [g_rel]
    rw [ih _ _ f hf]
    split
    · exact hm_up_fam hf
    · rfl
theorem g_tb_ne (M : hm_M) (k i f : Nat) (h1 : ¬ f = 21) (h6 : ¬ f = 34) : g_tb M k i f = M f := by
  unfold g_tb
  split
  · exact hm_up_fam h1
  · split
    · split
      · exact hm_up_fam h6
      · rfl
    · rw [hm_up_fam h6, hm_up_fam h1]
theorem g_tbL_ne (k f : Nat) (h1 : ¬ f = 21) (h6 : ¬ f = 34) : ∀ (n : Nat) (M : hm_M), g_tbL k n M f = M f := by
  intro n
  induction n with
  | zero => intro M; rfl
  | succ n ih => intro M; simp only [g_tbL]; rw [ih, g_tb_ne _ _ _ _ h1 h6]
theorem ab_rel (q : Int32) : ∀ (n i : Nat) (M : hm_M), ab (g_rel q n i M) = f_free q n i (ab M) := by
  intro n
  induction n with
  | zero => intro i M; rfl
  | succ n ih =>
    intro i M
    have e : ab M 2 0 i = M 22 0 i := by simp [ab]
    simp only [g_rel, f_free, e, ih]
    congr 1
    split
    · exact ab_22 M i (-1)
    · rfl
theorem ab_tb {M : hm_M} {k n : Nat} (hk : k < 6) (hn : n < 10) : ab (g_tb M k n) = f_tb (ab M) k n := by
  have e1 : ab M 11 k n = M 29 0 (10 * k + n) := by simp [ab, hk, hn]
  have e2 : ab M 12 k n = M 30 0 (10 * k + n) := by simp [ab, hk, hn]
  have e3 : ab M 13 k n = M 31 0 (10 * k + n) := by simp [ab, hk, hn]
  have e5 : ab M 15 k n = M 33 0 (10 * k + n) := by simp [ab, hk, hn]
  have e6 : ∀ j, ab M 1 0 j = M 21 0 j := fun j => by simp [ab]
  have e7 : ∀ j, ab M 6 0 j = M 34 0 j := fun j => by simp [ab]
  have e8 : ∀ j, ab M 9 0 j = M 37 0 j := fun j => by simp [ab]
  simp only [g_tb, f_tb, e1, e2, e3, e5, e6, e7, e8]
  split
  · exact ab_21 _ _ _
  · split
    · split
      · exact ab_34 _ _ _
      · rfl
    · rw [ab_34, ab_21]
theorem ab_tbL {k : Nat} (hk : k < 6) : ∀ (n : Nat) (M : hm_M), n ≤ 10 → ab (g_tbL k n M) = f_tbL k n (ab M) := by
  intro n
  induction n with
  | zero => intro M _; rfl
  | succ n ih => intro M hn; simp only [g_tbL, f_tbL]; rw [ih _ (by omega), ab_tb hk (by omega)]
theorem hm_up_comm {M : hm_M} {f k j j' : Nat} {x y : Int32} (h : ¬ j = j') : hm_up (hm_up M f k j x) f k j' y = hm_up (hm_up M f k j' y) f k j x := by
  funext f' k' i
  simp only [hm_up_at]
  by_cases h1 : f' = f ∧ k' = k
  · obtain ⟨rfl, rfl⟩ := h1
    by_cases h2 : i = j
    · have : ¬ i = j' := fun q => h (h2.symm.trans q)
      simp [h2, h]
    · simp [h2]
  · have a1 : ¬ (f' = f ∧ k' = k ∧ i = j) := fun q => h1 ⟨q.1, q.2.1⟩
    have a2 : ¬ (f' = f ∧ k' = k ∧ i = j') := fun q => h1 ⟨q.1, q.2.1⟩
    simp only [if_neg a1, if_neg a2]
theorem ab_at {M : hm_M} {k : Nat} (hk : k < 6) : ab M 10 k 3 = M 26 0 k ∧ ab M 10 k 4 = M 25 0 k ∧ ab M 10 k 2 = M 24 0 k ∧ ab M 10 k 5 = M 28 0 k ∧ ab M 10 k 1 = M 23 0 k ∧ ab M 10 k 0 = nI k := by simp [ab, hk]
theorem ab_undo {M : hm_M} {k : Nat} (hk : k < 6) (hI : IvC (ab M)) (st : Int32) : ab (g_undo M k st) = f_undo (ab M) k st := by
  obtain ⟨e3, e4, e2, e5, e1, e0⟩ := ab_at (M := M) hk
  have hat := hI.at hk
  have hn : (M 26 0 k).toNatClampNeg ≤ 10 := by rw [nn_eq, ← e3]; omega
  unfold g_undo f_undo
  rw [ab_28 _ hk, ab_24 _ hk, ab_27, ab_26 _ hk, ab_rel, ab_tbL hk _ _ hn, e0, e3, e5, hm_up_comm (by decide : ¬ (2 = 5))]
def IvM (M : hm_M) : Prop := IvC (ab M) ∧ (∀ c, c < 6 → M 27 0 c = -1 ∨ (0 ≤ (M 27 0 c).toInt ∧ (M 27 0 c).toInt < 8)) ∧ 0 ≤ (M 20 0 21).toInt
theorem IvM.C {M : hm_M} (h : IvM M) : IvC (ab M) := h.1
theorem IvM.wr {M : hm_M} (h : IvM M) {c : Nat} (hc : c < 6) : M 27 0 c = -1 ∨ (0 ≤ (M 27 0 c).toInt ∧ (M 27 0 c).toInt < 8) := h.2.1 c hc
theorem IvM.st {M : hm_M} (h : IvM M) : 0 ≤ (M 20 0 21).toInt := h.2.2
set_option maxHeartbeats 4000000 in
set_option maxRecDepth 100000 in
theorem c_M_thrown (l : Launch) (D : va_G) (ar : Nat → ClassId) (lay : Nat → Nat → Nat) (M : hm_M)  : Ct l D ar lay y_M_thrown rm_0 false [.ref (lay 20 0)] M (.inl (some (.int (M 20 0 0)), M)) := by
  refine Ct.of (cc := prog_5_method_2_code) (maxL := 1) (ret := (some .int)) (by decide) cd_M_thrown (Nat.le_of_ble_eq_true rfl) ?_
  intro p e s m below meth c E hr hlk hno hH
  refine a_aload_n (pc := 0) E d_M_thrown_0 rfl rfl ?_
  refine g_M_0 (pc := 1) E d_M_thrown_1 fl_M_65 ?_
  exact a_iret (pc := 4) E hr hlk rfl d_M_thrown_4 (by decide) (by decide) (by decide) rfl
set_option maxHeartbeats 4000000 in
set_option maxRecDepth 100000 in
theorem c_M_in (l : Launch) (D : va_G) (ar : Nat → ClassId) (lay : Nat → Nat → Nat) (M : hm_M) (v lo hi : Int32) : Ct l D ar lay y_M_in rm_0 false [.int v, .int lo, .int hi] M (.inl (some (.int (g_in v lo hi)), M)) := by
  refine Ct.of (cc := prog_5_method_3_code) (maxL := 3) (ret := (some .boolean)) (by decide) cd_M_in (Nat.le_of_ble_eq_true rfl) ?_
  intro p e s m below meth c E hr hlk hno hH
  refine a_iload_n (pc := 0) E d_M_in_0 rfl rfl ?_
  refine a_iload_n (pc := 1) E d_M_in_1 rfl rfl ?_
  refine a_icmp_lt (tgt := 14) (pc := 2) E d_M_in_2 (by decide) (fun c_2 => ?_) (fun c_2 => ?_)
  · refine a_iconst (v := 0) (pc := 14) E d_M_in_14 (by decide) ?_
    exact a_iret (pc := 15) E hr hlk rfl d_M_in_15 (by decide) (by decide) (by decide) (by simp [g_in, c_2])
  · refine a_iload_n (pc := 5) E d_M_in_5 rfl rfl ?_
    refine a_iload_n (pc := 6) E d_M_in_6 rfl rfl ?_
    refine a_icmp_gt (tgt := 14) (pc := 7) E d_M_in_7 (by decide) (fun c_7 => ?_) (fun c_7 => ?_)
    · refine a_iconst (v := 0) (pc := 14) E d_M_in_14 (by decide) ?_
      exact a_iret (pc := 15) E hr hlk rfl d_M_in_15 (by decide) (by decide) (by decide) (by simp [g_in, c_2, c_7])
    · refine a_iconst (v := 1) (pc := 10) E d_M_in_10 (by decide) ?_
      refine a_goto (tgt := 15) (pc := 11) E d_M_in_11 (by decide) ?_
      exact a_iret (pc := 15) E hr hlk rfl d_M_in_15 (by decide) (by decide) (by decide) (by simp [g_in, c_2, c_7])
set_option maxHeartbeats 4000000 in
set_option maxRecDepth 100000 in
theorem c_M_isPart (l : Launch) (D : va_G) (ar : Nat → ClassId) (lay : Nat → Nat → Nat) (M : hm_M) (v : Int32) : Ct l D ar lay y_M_isPart rm_1 false [.ref (lay 20 0), .int v] M (.inl (some (.int (g_in v 0 (M 20 0 3 - 1))), M)) := by
  refine Ct.of (cc := prog_5_method_4_code) (maxL := 2) (ret := (some .boolean)) (by decide) cd_M_isPart (Nat.le_of_ble_eq_true rfl) ?_
  intro p e s m below meth c E hr hlk hno hH
  refine a_iload_n (pc := 0) E d_M_isPart_0 rfl rfl ?_
  refine a_iconst (v := 0) (pc := 1) E d_M_isPart_1 (by decide) ?_
  refine a_aload_n (pc := 2) E d_M_isPart_2 rfl rfl ?_
  refine g_M_3 (pc := 3) E d_M_isPart_3 fl_M_69 ?_
  refine a_iconst (v := 1) (pc := 6) E d_M_isPart_6 (by decide) ?_
  refine a_isub (pc := 7) E d_M_isPart_7 ?_
  refine b_SI (pc := 8) (n := 3) E (c_M_in l D ar lay _ _ _ _) ⟨by decide, by decide, ml_M_72, ss_M_in, ii_M, ⟨by decide, by decide⟩, by decide +kernel⟩ cd_M_in rfl (by decide) rfl (Nat.le_of_ble_eq_true rfl) d_M_isPart_8 (by decide) ?_
  exact a_iret (pc := 11) E hr hlk (by unfold g_in; split; rfl; split <;> rfl) d_M_isPart_11 (by decide) (by decide) (by decide) rfl
set_option maxHeartbeats 4000000 in
set_option maxRecDepth 100000 in
theorem c_M_isMessage (l : Launch) (D : va_G) (ar : Nat → ClassId) (lay : Nat → Nat → Nat) (M : hm_M) (v : Int32) : Ct l D ar lay y_M_isMessage rm_1 false [.ref (lay 20 0), .int v] M (.inl (some (.int (g_in v 1 (M 20 0 15))), M)) := by
  refine Ct.of (cc := prog_5_method_5_code) (maxL := 2) (ret := (some .boolean)) (by decide) cd_M_isMessage (Nat.le_of_ble_eq_true rfl) ?_
  intro p e s m below meth c E hr hlk hno hH
  refine a_iload_n (pc := 0) E d_M_isMessage_0 rfl rfl ?_
  refine a_iconst (v := 1) (pc := 1) E d_M_isMessage_1 (by decide) ?_
  refine a_aload_n (pc := 2) E d_M_isMessage_2 rfl rfl ?_
  refine g_M_15 (pc := 3) E d_M_isMessage_3 fl_M_76 ?_
  refine b_SI (pc := 6) (n := 3) E (c_M_in l D ar lay _ _ _ _) ⟨by decide, by decide, ml_M_72, ss_M_in, ii_M, ⟨by decide, by decide⟩, by decide +kernel⟩ cd_M_in rfl (by decide) rfl (Nat.le_of_ble_eq_true rfl) d_M_isMessage_6 (by decide) ?_
  exact a_iret (pc := 9) E hr hlk (by unfold g_in; split; rfl; split <;> rfl) d_M_isMessage_9 (by decide) (by decide) (by decide) rfl
set_option maxHeartbeats 4000000 in
set_option maxRecDepth 100000 in
theorem c_M_isStep (l : Launch) (D : va_G) (ar : Nat → ClassId) (lay : Nat → Nat → Nat) (M : hm_M) (kd a b : Int32) : Ct l D ar lay y_M_isStep rm_2 false [.ref (lay 20 0), .int kd, .int a, .int b] M (.inl (some (.int (g_isStep M kd a b)), M)) := by
  refine Ct.of (cc := prog_5_method_7_code) (maxL := 4) (ret := (some .boolean)) (by decide) cd_M_isStep (Nat.le_of_ble_eq_true rfl) ?_
  intro p e s m below meth c E hr hlk hno hH
  refine a_iload_n (pc := 0) E d_M_isStep_0 rfl rfl ?_
  refine a_iconst (v := 0) (pc := 1) E d_M_isStep_1 (by decide) ?_
  refine a_iconst (v := 2) (pc := 2) E d_M_isStep_2 (by decide) ?_
  refine b_SI (pc := 3) (n := 3) E (c_M_in l D ar lay _ _ _ _) ⟨by decide, by decide, ml_M_72, ss_M_in, ii_M, ⟨by decide, by decide⟩, by decide +kernel⟩ cd_M_in rfl (by decide) rfl (Nat.le_of_ble_eq_true rfl) d_M_isStep_3 (by decide) ?_
  refine a_if_eq (tgt := 29) (pc := 6) E d_M_isStep_6 (by decide) (fun c_6 => ?_) (fun c_6 => ?_)
  · refine a_iconst (v := 0) (pc := 29) E d_M_isStep_29 (by decide) ?_
    exact a_iret (pc := 30) E hr hlk rfl d_M_isStep_30 (by decide) (by decide) (by decide) (by clear hH E hr hlk hno; unfold g_isStep; simp_all)
  · refine a_iload_n (pc := 9) E d_M_isStep_9 rfl rfl ?_
    refine a_bipush (v := (-99)) (pc := 10) E d_M_isStep_10 (by decide) ?_
    refine a_bipush (v := 99) (pc := 12) E d_M_isStep_12 (by decide) ?_
    refine b_SI (pc := 14) (n := 3) E (c_M_in l D ar lay _ _ _ _) ⟨by decide, by decide, ml_M_72, ss_M_in, ii_M, ⟨by decide, by decide⟩, by decide +kernel⟩ cd_M_in rfl (by decide) rfl (Nat.le_of_ble_eq_true rfl) d_M_isStep_14 (by decide) ?_
    refine a_if_eq (tgt := 29) (pc := 17) E d_M_isStep_17 (by decide) (fun c_17 => ?_) (fun c_17 => ?_)
    · refine a_iconst (v := 0) (pc := 29) E d_M_isStep_29 (by decide) ?_
      exact a_iret (pc := 30) E hr hlk rfl d_M_isStep_30 (by decide) (by decide) (by decide) (by clear hH E hr hlk hno; unfold g_isStep; simp_all)
    · refine a_iload_n (pc := 20) E d_M_isStep_20 rfl rfl ?_
      refine a_iconst (v := 2) (pc := 21) E d_M_isStep_21 (by decide) ?_
      refine a_icmp_ne (tgt := 31) (pc := 22) E d_M_isStep_22 (by decide) (fun c_22 => ?_) (fun c_22 => ?_)
      · refine a_iload_n (pc := 31) E d_M_isStep_31 rfl rfl ?_
        refine a_iconst (v := 1) (pc := 32) E d_M_isStep_32 (by decide) ?_
        refine a_icmp_ne (tgt := 44) (pc := 33) E d_M_isStep_33 (by decide) (fun c_33 => ?_) (fun c_33 => ?_)
        · refine a_iload_n (pc := 44) E d_M_isStep_44 rfl rfl ?_
          refine a_iconst (v := 0) (pc := 45) E d_M_isStep_45 (by decide) ?_
          refine a_bipush (v := 7) (pc := 46) E d_M_isStep_46 (by decide) ?_
          refine b_SI (pc := 48) (n := 3) E (c_M_in l D ar lay _ _ _ _) ⟨by decide, by decide, ml_M_72, ss_M_in, ii_M, ⟨by decide, by decide⟩, by decide +kernel⟩ cd_M_in rfl (by decide) rfl (Nat.le_of_ble_eq_true rfl) d_M_isStep_48 (by decide) ?_
          exact a_iret (pc := 51) E hr hlk (by unfold g_in; split; rfl; split <;> rfl) d_M_isStep_51 (by decide) (by decide) (by decide) (by clear hH E hr hlk hno; unfold g_isStep; simp_all)
        · refine a_aload_n (pc := 36) E d_M_isStep_36 rfl rfl ?_
          refine a_iload_n (pc := 37) E d_M_isStep_37 rfl rfl ?_
          refine b_VI (pc := 38) (n := 1) E (c_M_isPart l D ar lay _ _) ⟨by decide, by decide, ml_M_79, im_M_isPart, sl_M_isPart, ii_M, cd_M_isPart, ⟨by decide, by decide⟩, by decide +kernel⟩ rfl (by decide) rfl rfl (by decide) rfl (Nat.le_of_ble_eq_true rfl) d_M_isStep_38 (by decide) ?_
          refine a_goto (tgt := 51) (pc := 41) E d_M_isStep_41 (by decide) ?_
          exact a_iret (pc := 51) E hr hlk (by unfold g_in; split; rfl; split <;> rfl) d_M_isStep_51 (by decide) (by decide) (by decide) (by clear hH E hr hlk hno; unfold g_isStep; simp_all)
      · refine a_iload_n (pc := 25) E d_M_isStep_25 rfl rfl ?_
        refine a_if_eq (tgt := 31) (pc := 26) E d_M_isStep_26 (by decide) (fun c_26 => ?_) (fun c_26 => ?_)
        · refine a_iload_n (pc := 31) E d_M_isStep_31 rfl rfl ?_
          refine a_iconst (v := 1) (pc := 32) E d_M_isStep_32 (by decide) ?_
          refine a_icmp_ne (tgt := 44) (pc := 33) E d_M_isStep_33 (by decide) (fun c_33 => ?_) (fun c_33 => ?_)
          · refine a_iload_n (pc := 44) E d_M_isStep_44 rfl rfl ?_
            refine a_iconst (v := 0) (pc := 45) E d_M_isStep_45 (by decide) ?_
            refine a_bipush (v := 7) (pc := 46) E d_M_isStep_46 (by decide) ?_
            refine b_SI (pc := 48) (n := 3) E (c_M_in l D ar lay _ _ _ _) ⟨by decide, by decide, ml_M_72, ss_M_in, ii_M, ⟨by decide, by decide⟩, by decide +kernel⟩ cd_M_in rfl (by decide) rfl (Nat.le_of_ble_eq_true rfl) d_M_isStep_48 (by decide) ?_
            exact a_iret (pc := 51) E hr hlk (by unfold g_in; split; rfl; split <;> rfl) d_M_isStep_51 (by decide) (by decide) (by decide) (by clear hH E hr hlk hno; unfold g_isStep; simp_all)
          · refine a_aload_n (pc := 36) E d_M_isStep_36 rfl rfl ?_
            refine a_iload_n (pc := 37) E d_M_isStep_37 rfl rfl ?_
            refine b_VI (pc := 38) (n := 1) E (c_M_isPart l D ar lay _ _) ⟨by decide, by decide, ml_M_79, im_M_isPart, sl_M_isPart, ii_M, cd_M_isPart, ⟨by decide, by decide⟩, by decide +kernel⟩ rfl (by decide) rfl rfl (by decide) rfl (Nat.le_of_ble_eq_true rfl) d_M_isStep_38 (by decide) ?_
            refine a_goto (tgt := 51) (pc := 41) E d_M_isStep_41 (by decide) ?_
            exact a_iret (pc := 51) E hr hlk (by unfold g_in; split; rfl; split <;> rfl) d_M_isStep_51 (by decide) (by decide) (by decide) (by clear hH E hr hlk hno; unfold g_isStep; simp_all)
        · refine a_iconst (v := 0) (pc := 29) E d_M_isStep_29 (by decide) ?_
          exact a_iret (pc := 30) E hr hlk rfl d_M_isStep_30 (by decide) (by decide) (by decide) (by clear hH E hr hlk hno; unfold g_isStep; simp_all)
set_option maxHeartbeats 4000000 in
set_option maxRecDepth 100000 in
theorem c_M_release (l : Launch) (D : va_G) (ar : Nat → ClassId) (lay : Nat → Nat → Nat) (M : hm_M) (q : Int32) : Ct l D ar lay y_M_release rm_0 true [.ref (lay 20 0), .int q] M (.inl (none, g_rel q 8 0 M)) := by
  refine Ct.of (cc := prog_5_method_11_code) (maxL := 3) (ret := none) (by decide) cd_M_release (Nat.le_of_ble_eq_true rfl) ?_
  intro p e s m below meth c E hr hlk hno hH
  have loop : ∀ (n : Nat) (i : Nat) (x : Int32) (M' : hm_M), i + n = 8 → x = nI i → g_rel q n i M' = g_rel q 8 0 M → AW p l e rm_0 s m [(.ref (lay 20 0) : Value), (.int q : Value)].toArray below meth c D ar lay true 3 0 0 (MQX below (fun _ st o t => CQ D ar lay M s.heap.size true (.inl (none, g_rel q 8 0 M)) st o t) [(.ref (lay 20 0) : Value), (.int q : Value)].toArray s rm_0.cells rm_0.slots (hw_A lay true s.heap.size)) 2 [(2, .int x), (0, .ref (lay 20 0)), (1, .int q)] [] M' := by
    intro n
    induction n with
    | zero =>
      intro i x M' hi hx he
      refine a_iload_n (pc := 2) E d_M_release_2 rfl rfl ?_
      refine a_bipush (v := 8) (pc := 3) E d_M_release_3 (by decide) ?_
      refine a_icmp_ge (tgt := 31) (pc := 5) E d_M_release_5 (by decide) (fun c_5 => ?_) (fun c_5 => ?_)
      · exact a_vret (pc := 31) E hr hlk d_M_release_31 (by decide) (by decide) (by decide) (by rw [← he]; rfl)
      · exact absurd (by rw [hx]; exact nI_le (a := 8) (b := i) (by omega) (by omega)) c_5
    | succ n ih =>
      intro i x M' hi hx he
      have hin : vp_in x 8 := by rw [hx]; exact vp_in_nI (by omega) (by decide)
      have e0 : (nI i).toNatClampNeg = i := nI_clamp (by omega)
      refine a_iload_n (pc := 2) E d_M_release_2 rfl rfl ?_
      refine a_bipush (v := 8) (pc := 3) E d_M_release_3 (by decide) ?_
      refine a_icmp_ge (tgt := 31) (pc := 5) E d_M_release_5 (by decide) (fun c_5 => ?_) (fun c_5 => ?_)
      · exact absurd c_5 (by rw [hx]; exact nI_ge (a := i) (b := 8) (by omega) (by decide))
      · refine a_aload_n (pc := 8) E d_M_release_8 rfl rfl ?_
        refine g_M_2 (pc := 9) E d_M_release_9 fl_M_13 ?_
        refine a_iload_n (pc := 12) E d_M_release_12 rfl rfl ?_
        refine r_22 (pc := 13) E d_M_release_13 hin ?_
        refine a_iload_n (pc := 14) E d_M_release_14 rfl rfl ?_
        refine a_icmp_ne (tgt := 25) (pc := 15) E d_M_release_15 (by decide) (fun c_15 => ?_) (fun c_15 => ?_)
        · rw [hx, e0] at c_15
          refine a_iinc (pc := 25) E d_M_release_25 rfl (by decide) ?_
          refine a_goto (tgt := 2) (pc := 28) E d_M_release_28 (by decide) ?_
          exact a_ls3 (ih (i + 1) _ _ (by omega) (by rw [hx]; exact nI_1 i) (by rw [← he]; simp [g_rel, hx, e0, c_15])) rfl rfl rfl
        · rw [hx, e0] at c_15
          refine a_aload_n (pc := 18) E d_M_release_18 rfl rfl ?_
          refine g_M_2 (pc := 19) E d_M_release_19 fl_M_13 ?_
          refine a_iload_n (pc := 22) E d_M_release_22 rfl rfl ?_
          refine a_iconst (v := (-1)) (pc := 23) E d_M_release_23 (by decide) ?_
          refine s_22 (pc := 24) E d_M_release_24 hin ?_
          refine a_iinc (pc := 25) E d_M_release_25 rfl (by decide) ?_
          refine a_goto (tgt := 2) (pc := 28) E d_M_release_28 (by decide) ?_
          exact a_ls3 (ih (i + 1) _ _ (by omega) (by rw [hx]; exact nI_1 i) (by rw [← he]; simp [g_rel, hx, e0, c_15])) rfl rfl rfl
  refine a_iconst (v := 0) (pc := 0) E d_M_release_0 (by decide) ?_
  refine a_istore_n (pc := 1) E d_M_release_1 rfl (by decide) ?_
  refine a_wr ?_
  exact a_ls3 (loop 8 0 _ M rfl (by decide) rfl) rfl rfl rfl
set_option maxHeartbeats 4000000 in
set_option maxRecDepth 100000 in
theorem c_M_undo (l : Launch) (D : va_G) (ar : Nat → ClassId) (lay : Nat → Nat → Nat) (M : hm_M) (k : Nat) (st0 : Int32) (hk : k < 6) (hI : IvC (ab M)) : Ct l D ar lay y_M_undo rm_1 true [.ref (lay 20 0), .int (nI k), .int st0] M (.inl (none, g_undo M k st0)) := by
  refine Ct.of (cc := prog_5_method_12_code) (maxL := 6) (ret := none) (by decide) cd_M_undo (Nat.le_of_ble_eq_true rfl) ?_
  intro p e s m below meth c E hr hlk hno hH
  have loop : ∀ (n : Nat) (x : Int32) (M' : hm_M), x = nI n - 1 → n ≤ (M 26 0 k).toNatClampNeg → IvC (ab M') → M' 26 = M 26 → M' 25 = M 25 → M' 28 = M 28 → g_tbL k n M' = g_tbL k (M 26 0 k).toNatClampNeg M → AW p l e rm_1 s m [(.ref (lay 20 0) : Value), (.int (nI k) : Value), (.int st0 : Value)].toArray below meth c D ar lay true 6 0 0 (MQX below (fun _ st o t => CQ D ar lay M s.heap.size true (.inl (none, g_undo M k st0)) st o t) [(.ref (lay 20 0) : Value), (.int (nI k) : Value), (.int st0 : Value)].toArray s rm_1.cells rm_1.slots (hw_A lay true s.heap.size)) 9 [(3, .int x), (0, .ref (lay 20 0)), (1, .int (nI k)), (2, .int st0)] [] M' := by
    intro n
    induction n with
    | zero =>
      intro x M' hx hn hI' h26 h25 h28 he
      have he : M' = g_tbL k (M 26 0 k).toNatClampNeg M := he
      have hkk : vp_in (nI k) 6 := vp_in_nI hk (by decide)
      have ek : (nI k).toNatClampNeg = k := nI_clamp (by omega)
      refine a_iload_n (pc := 9) E d_M_undo_9 rfl rfl ?_
      refine a_if_lt (tgt := 133) (pc := 10) E d_M_undo_10 (by decide) (fun c_10 => ?_) (fun c_10 => ?_)
      · refine a_aload_n (pc := 133) E d_M_undo_133 rfl rfl ?_
        refine a_iload_n (pc := 134) E d_M_undo_134 rfl rfl ?_
        refine b_VZ (pc := 135) (n := 1) E (c_M_release l D ar lay _ _) ⟨by decide, by decide, ml_M_90, im_M_release, sl_M_release, ii_M, cd_M_release, ⟨by decide, by decide⟩, by decide +kernel⟩ rfl (by decide) rfl rfl (by decide) rfl (Nat.le_of_ble_eq_true rfl) d_M_undo_135 (by decide) ?_
        refine a_aload_n (pc := 138) E d_M_undo_138 rfl rfl ?_
        refine g_M_7 (pc := 139) E d_M_undo_139 fl_M_25 ?_
        refine a_iload_n (pc := 142) E d_M_undo_142 rfl rfl ?_
        refine a_iconst (v := 0) (pc := 143) E d_M_undo_143 (by decide) ?_
        refine s_26 (pc := 144) E d_M_undo_144 hkk ?_
        refine a_aload_n (pc := 145) E d_M_undo_145 rfl rfl ?_
        refine g_M_8 (pc := 146) E d_M_undo_146 fl_M_28 ?_
        refine a_iload_n (pc := 149) E d_M_undo_149 rfl rfl ?_
        refine a_iconst (v := (-1)) (pc := 150) E d_M_undo_150 (by decide) ?_
        refine s_27 (pc := 151) E d_M_undo_151 hkk ?_
        refine a_aload_n (pc := 152) E d_M_undo_152 rfl rfl ?_
        refine g_M_5 (pc := 153) E d_M_undo_153 fl_M_19 ?_
        refine a_iload_n (pc := 156) E d_M_undo_156 rfl rfl ?_
        refine a_iload_n (pc := 157) E d_M_undo_157 rfl rfl ?_
        refine s_24 (pc := 158) E d_M_undo_158 hkk ?_
        refine a_aload_n (pc := 159) E d_M_undo_159 rfl rfl ?_
        refine g_M_9 (pc := 160) E d_M_undo_160 fl_M_31 ?_
        refine a_iload_n (pc := 163) E d_M_undo_163 rfl rfl ?_
        refine a_dup2 (pc := 164) E d_M_undo_164 rfl rfl ?_
        refine r_28 (pc := 165) E d_M_undo_165 hkk ?_
        refine a_iconst (v := 1) (pc := 166) E d_M_undo_166 (by decide) ?_
        refine a_iadd (pc := 167) E d_M_undo_167 ?_
        refine s_28 (pc := 168) E d_M_undo_168 hkk ?_
        exact a_vret (pc := 169) E hr hlk d_M_undo_169 (by decide) (by decide) (by decide) (by rw [g_undo, ← he]; simp only [ek, hm_up_at, g_rel_ne _ _ _ _ 28 (by decide : ¬ (28 = 22)), h28]; simp)
      · exact absurd (by rw [hx]; decide) c_10
    | succ n ih =>
      intro x M' hx hn hI' h26 h25 h28 he
      have hx2 : x = nI n := by rw [hx]; exact nI_pred n
      subst hx2
      have hat := hI'.at hk
      rw [(ab_at hk).1, (ab_at hk).2.1, h26, h25] at hat
      have hn2 : n < 10 := by rw [nn_eq] at hn; omega
      have e1 : (nI (10 * k + n)).toNatClampNeg = 10 * k + n := nI_clamp (by omega)
      have hin : vp_in (nI (10 * k + n)) 60 := vp_in_nI (by omega) (by decide)
      have hm : vp_in (M' 33 0 (10 * k + n)) 61 := by have := hI'.msg (i := n) hk; simpa [ab, hk, hn2] using this
      have ha : M' 29 0 (10 * k + n) ≠ 1 → vp_in (M' 30 0 (10 * k + n)) 8 := fun q => by have := hI'.a (i := n) hk (by rw [(ab_at hk).2.1, h25]; rw [nn_eq] at hn; omega) (by simpa [ab, hk, hn2] using q); simpa [ab, hk, hn2] using this
      refine a_iload_n (pc := 9) E d_M_undo_9 rfl rfl ?_
      refine a_if_lt (tgt := 133) (pc := 10) E d_M_undo_10 (by decide) (fun c_10 => ?_) (fun c_10 => ?_)
      · exact absurd c_10 (nI_pos (by omega))
      · refine a_bipush (v := 10) (pc := 13) E d_M_undo_13 (by decide) ?_
        refine a_iload_n (pc := 15) E d_M_undo_15 rfl rfl ?_
        refine a_imul (pc := 16) E d_M_undo_16 ?_
        refine a_iload_n (pc := 17) E d_M_undo_17 rfl rfl ?_
        refine a_iadd (pc := 18) E d_M_undo_18 ?_
        rw [idx_eq]
        refine a_istore (pc := 19) E d_M_undo_19 (by decide) ?_
        refine a_aload_n (pc := 21) E d_M_undo_21 rfl rfl ?_
        refine g_M_14 (pc := 22) E d_M_undo_22 fl_M_47 ?_
        refine a_iload (pc := 25) E d_M_undo_25 rfl ?_
        refine r_33 (pc := 27) E d_M_undo_27 hin ?_
        refine a_istore (pc := 28) E d_M_undo_28 (by decide) ?_
        refine a_aload_n (pc := 30) E d_M_undo_30 rfl rfl ?_
        refine g_M_10 (pc := 31) E d_M_undo_31 fl_M_34 ?_
        refine a_iload (pc := 34) E d_M_undo_34 rfl ?_
        refine r_29 (pc := 36) E d_M_undo_36 hin ?_
        refine a_if_ne (tgt := 65) (pc := 37) E d_M_undo_37 (by decide) (fun c_37 => ?_) (fun c_37 => ?_)
        · rw [e1] at c_37
          refine a_aload_n (pc := 65) E d_M_undo_65 rfl rfl ?_
          refine g_M_10 (pc := 66) E d_M_undo_66 fl_M_34 ?_
          refine a_iload (pc := 69) E d_M_undo_69 rfl ?_
          refine r_29 (pc := 71) E d_M_undo_71 hin ?_
          refine a_iconst (v := 1) (pc := 72) E d_M_undo_72 (by decide) ?_
          refine a_icmp_ne (tgt := 97) (pc := 73) E d_M_undo_73 (by decide) (fun c_73 => ?_) (fun c_73 => ?_)
          · rw [e1] at c_73
            refine a_aload_n (pc := 97) E d_M_undo_97 rfl rfl ?_
            refine g_M_1 (pc := 98) E d_M_undo_98 fl_M_7 ?_
            refine a_aload_n (pc := 101) E d_M_undo_101 rfl rfl ?_
            refine g_M_11 (pc := 102) E d_M_undo_102 fl_M_37 ?_
            refine a_iload (pc := 105) E d_M_undo_105 rfl ?_
            refine r_30 (pc := 107) E d_M_undo_107 hin ?_
            refine a_dup2 (pc := 108) E d_M_undo_108 rfl rfl ?_
            refine r_21 (pc := 109) E d_M_undo_109 (by rw [e1]; exact ha c_73) ?_
            refine a_aload_n (pc := 110) E d_M_undo_110 rfl rfl ?_
            refine g_M_20 (pc := 111) E d_M_undo_111 fl_M_59 ?_
            refine a_iload (pc := 114) E d_M_undo_114 rfl ?_
            refine r_37 (pc := 116) E d_M_undo_116 (by rw [e1]; exact hm) ?_
            refine a_isub (pc := 117) E d_M_undo_117 ?_
            refine s_21 (pc := 118) E d_M_undo_118 (by rw [e1]; exact ha c_73) ?_
            refine a_aload_n (pc := 119) E d_M_undo_119 rfl rfl ?_
            refine g_M_17 (pc := 120) E d_M_undo_120 fl_M_50 ?_
            refine a_iload (pc := 123) E d_M_undo_123 rfl ?_
            refine a_iconst (v := 0) (pc := 125) E d_M_undo_125 (by decide) ?_
            refine s_34 (pc := 126) E d_M_undo_126 (by rw [e1]; exact hm) ?_
            refine a_iinc (pc := 127) E d_M_undo_127 rfl (by decide) ?_
            refine a_goto (tgt := 9) (pc := 130) E d_M_undo_130 (by decide) ?_
            refine a_M (M' := g_tb M' k n) (by simp [g_tb, hm_up_at, e1, c_37, c_73]) ?_
            exact a_ls4 (ih _ _ (dec1 _) (by omega) (by rw [ab_tb hk hn2]; exact hI'.tb k n) (by rw [g_tb_ne _ _ _ _ (by decide) (by decide), h26]) (by rw [g_tb_ne _ _ _ _ (by decide) (by decide), h25]) (by rw [g_tb_ne _ _ _ _ (by decide) (by decide), h28]) he) rfl rfl rfl rfl
          · rw [e1] at c_73
            refine a_aload_n (pc := 76) E d_M_undo_76 rfl rfl ?_
            refine g_M_17 (pc := 77) E d_M_undo_77 fl_M_50 ?_
            refine a_iload (pc := 80) E d_M_undo_80 rfl ?_
            refine r_34 (pc := 82) E d_M_undo_82 (by rw [e1]; exact hm) ?_
            refine a_if_ne (tgt := 127) (pc := 83) E d_M_undo_83 (by decide) (fun c_83 => ?_) (fun c_83 => ?_)
            · rw [e1] at c_83
              refine a_iinc (pc := 127) E d_M_undo_127 rfl (by decide) ?_
              refine a_goto (tgt := 9) (pc := 130) E d_M_undo_130 (by decide) ?_
              refine a_M (M' := g_tb M' k n) (by simp [g_tb, hm_up_at, e1, c_37, c_73, c_83]) ?_
              exact a_ls4 (ih _ _ (dec1 _) (by omega) (by rw [ab_tb hk hn2]; exact hI'.tb k n) (by rw [g_tb_ne _ _ _ _ (by decide) (by decide), h26]) (by rw [g_tb_ne _ _ _ _ (by decide) (by decide), h25]) (by rw [g_tb_ne _ _ _ _ (by decide) (by decide), h28]) he) rfl rfl rfl rfl
            · rw [e1] at c_83
              refine a_aload_n (pc := 86) E d_M_undo_86 rfl rfl ?_
              refine g_M_17 (pc := 87) E d_M_undo_87 fl_M_50 ?_
              refine a_iload (pc := 90) E d_M_undo_90 rfl ?_
              refine a_iconst (v := 3) (pc := 92) E d_M_undo_92 (by decide) ?_
              refine s_34 (pc := 93) E d_M_undo_93 (by rw [e1]; exact hm) ?_
              refine a_goto (tgt := 127) (pc := 94) E d_M_undo_94 (by decide) ?_
              refine a_iinc (pc := 127) E d_M_undo_127 rfl (by decide) ?_
              refine a_goto (tgt := 9) (pc := 130) E d_M_undo_130 (by decide) ?_
              refine a_M (M' := g_tb M' k n) (by simp [g_tb, hm_up_at, e1, c_37, c_73, c_83]) ?_
              exact a_ls4 (ih _ _ (dec1 _) (by omega) (by rw [ab_tb hk hn2]; exact hI'.tb k n) (by rw [g_tb_ne _ _ _ _ (by decide) (by decide), h26]) (by rw [g_tb_ne _ _ _ _ (by decide) (by decide), h25]) (by rw [g_tb_ne _ _ _ _ (by decide) (by decide), h28]) he) rfl rfl rfl rfl
        · rw [e1] at c_37
          refine a_aload_n (pc := 40) E d_M_undo_40 rfl rfl ?_
          refine g_M_1 (pc := 41) E d_M_undo_41 fl_M_7 ?_
          refine a_aload_n (pc := 44) E d_M_undo_44 rfl rfl ?_
          refine g_M_11 (pc := 45) E d_M_undo_45 fl_M_37 ?_
          refine a_iload (pc := 48) E d_M_undo_48 rfl ?_
          refine r_30 (pc := 50) E d_M_undo_50 hin ?_
          refine a_dup2 (pc := 51) E d_M_undo_51 rfl rfl ?_
          refine r_21 (pc := 52) E d_M_undo_52 (by rw [e1]; exact ha (by rw [c_37]; decide)) ?_
          refine a_aload_n (pc := 53) E d_M_undo_53 rfl rfl ?_
          refine g_M_12 (pc := 54) E d_M_undo_54 fl_M_40 ?_
          refine a_iload (pc := 57) E d_M_undo_57 rfl ?_
          refine r_31 (pc := 59) E d_M_undo_59 hin ?_
          refine a_isub (pc := 60) E d_M_undo_60 ?_
          refine s_21 (pc := 61) E d_M_undo_61 (by rw [e1]; exact ha (by rw [c_37]; decide)) ?_
          refine a_goto (tgt := 127) (pc := 62) E d_M_undo_62 (by decide) ?_
          refine a_iinc (pc := 127) E d_M_undo_127 rfl (by decide) ?_
          refine a_goto (tgt := 9) (pc := 130) E d_M_undo_130 (by decide) ?_
          refine a_M (M' := g_tb M' k n) (by simp [g_tb, hm_up_at, e1, c_37]) ?_
          exact a_ls4 (ih _ _ (dec1 _) (by omega) (by rw [ab_tb hk hn2]; exact hI'.tb k n) (by rw [g_tb_ne _ _ _ _ (by decide) (by decide), h26]) (by rw [g_tb_ne _ _ _ _ (by decide) (by decide), h25]) (by rw [g_tb_ne _ _ _ _ (by decide) (by decide), h28]) he) rfl rfl rfl rfl
  refine a_aload_n (pc := 0) E d_M_undo_0 rfl rfl ?_
  refine g_M_7 (pc := 1) E d_M_undo_1 fl_M_25 ?_
  refine a_iload_n (pc := 4) E d_M_undo_4 rfl rfl ?_
  refine r_26 (pc := 5) E d_M_undo_5 (vp_in_nI hk (by decide)) ?_
  refine a_iconst (v := 1) (pc := 6) E d_M_undo_6 (by decide) ?_
  refine a_isub (pc := 7) E d_M_undo_7 ?_
  refine a_istore_n (pc := 8) E d_M_undo_8 rfl (by decide) ?_
  refine a_wr ?_
  have ek : (nI k).toNatClampNeg = k := nI_clamp (by omega)
  exact a_ls4 (loop (M 26 0 k).toNatClampNeg _ M (by have hat := hI.at hk; rw [(ab_at hk).1, (ab_at hk).2.1] at hat; rw [ek]; obtain ⟨j, hj, ej⟩ := pc_nI (b := 10) hat.1 (by omega) (by decide); rw [ej, nI_clamp (by omega)]) (Nat.le_refl _) hI rfl rfl rfl rfl) rfl rfl rfl rfl
