/-- what a class's answer may be: a value and a memory alike beyond the class's families, or one of these throws -/
def RkI (M : hm_M) (es : List String) (r : hr_T) : Prop := match r with
  | .inl (some (.int _), N) => ∀ f, 15 < f → N f = M f
  | .inl _ => False
  | .inr e => e ∈ es
def RkV (M : hm_M) (es : List String) (r : hr_T) : Prop := match r with
  | .inl (none, N) => ∀ f, 15 < f → N f = M f
  | .inl _ => False
  | .inr e => e ∈ es
def lw_rI (nm : String → Int32) (M : hm_M) (r : hr_T) : hr_T := match r with
  | .inl (some (.int v), N) => .inl (some (.int 0), hm_up N 40 0 0 v)
  | .inl (_, N) => .inl (some (.int 0), N)
  | .inr e => .inl (some (.int (nm e)), M)
theorem Kp.runL : ∀ (n : Nat) {A M : hm_M}, Kp A M → Kp A (f_runL n M) := by
  intro n
  induction n with
  | zero => intro A M h; exact h
  | succ n ih => intro A M h; simp only [f_runL]; exact ih (h.round _ 0)
theorem Kp.closeM : ∀ (n i : Nat) {A M : hm_M}, Kp A M → Kp A (f_closeM n i M) := by
  intro n
  induction n with
  | zero => intro i A M h; exact h
  | succ n ih => intro i A M h; simp only [f_closeM]; apply ih; split; exact h; split; exact h; exact h.undo _ _
theorem up_hi {M : hm_M} {f k j : Nat} {x : Int32} (h : f ≤ 15) : ∀ g, 15 < g → hm_up M f k j x g = M g := fun g hg => hm_up_fam (by omega)
theorem k_part (M : hm_M) (x : Int32) : RkI M ["java/lang/IllegalArgumentException", "java/lang/UnsupportedOperationException"] (r_part M x) := by
  unfold r_part
  repeat' split
  all_goals first | exact fun f hf => by rw [hm_up_fam (by omega), hm_up_fam (by omega)] | (show _ ∈ _; decide)
theorem k_step (M : hm_M) (q kd a b : Int32) : RkI M ["java/util/NoSuchElementException", "java/lang/IllegalArgumentException", "java/lang/IllegalStateException", "java/lang/UnsupportedOperationException"] (r_step M q kd a b) := by
  unfold r_step
  repeat' split
  all_goals first | exact fun f hf => by unfold f_append; rw [hm_up_fam (by omega), hm_up_fam (by omega), hm_up_fam (by omega), hm_up_fam (by omega)] | (show _ ∈ _; decide)
theorem k_fails (M : hm_M) (q i on : Int32) : RkV M ["java/util/NoSuchElementException", "java/lang/IllegalArgumentException"] (r_fails M q i on) := by
  unfold r_fails
  repeat' split
  all_goals first | exact up_hi (by decide) | (show _ ∈ _; decide)
theorem k_turn (M : hm_M) (q : Int32) : RkI M ["java/util/NoSuchElementException", "java/lang/IllegalStateException"] (r_turn M q) := by
  unfold r_turn
  repeat' split
  all_goals first | exact (Kp.rf.turn _).2 | (show _ ∈ _; decide)
theorem k_run (M : hm_M) (x : Int32) : RkI M ["java/lang/IllegalArgumentException"] (r_run M x) := by
  unfold r_run
  repeat' split
  all_goals first | exact (Kp.rf.runL _).2 | (show _ ∈ _; decide)
theorem k_again (M : hm_M) (x : Int32) : RkI M ["java/util/NoSuchElementException", "java/lang/IllegalStateException"] (r_again M x) := by
  unfold r_again
  repeat' split
  all_goals first | exact up_hi (by decide) | (show _ ∈ _; decide)
theorem k_interrupt (M : hm_M) (q : Int32) : RkI M ["java/util/NoSuchElementException", "java/lang/IllegalStateException"] (r_interrupt M q) := by
  unfold r_interrupt
  repeat' split
  all_goals first | exact (Kp.rf.undo _ _).2 | (show _ ∈ _; decide)
theorem k_restart (M : hm_M) (q : Int32) : RkV M ["java/util/NoSuchElementException", "java/lang/IllegalStateException"] (r_restart M q) := by
  unfold r_restart
  repeat' split
  all_goals first | exact fun f hf => by unfold f_restart; rw [hm_up_fam (by omega), hm_up_fam (by omega)] | (show _ ∈ _; decide)
theorem k_log (M : hm_M) (i : Int32) : RkI M ["java/lang/IllegalArgumentException"] (r_log M i) := by
  unfold r_log
  repeat' split
  all_goals first | exact fun _ _ => rfl | (show _ ∈ _; decide)
theorem k_place (M : hm_M) (q w : Int32) : RkI M ["java/lang/IllegalArgumentException"] (r_place M q w) := by
  unfold r_place
  repeat' split
  all_goals first | exact fun _ _ => rfl | (show _ ∈ _; decide)
theorem k_message (M : hm_M) (x w : Int32) : RkI M ["java/util/NoSuchElementException", "java/lang/IllegalArgumentException"] (r_message M x w) := by
  unfold r_message
  repeat' split
  all_goals first | exact fun _ _ => rfl | (show _ ∈ _; decide)
theorem k_told (M : hm_M) (q w : Int32) : RkI M ["java/util/NoSuchElementException", "java/lang/IllegalArgumentException"] (r_told M q w) := by
  unfold r_told
  repeat' split
  all_goals first | exact fun _ _ => rfl | (show _ ∈ _; decide)
theorem e_part (l : Launch) (D : va_G) (ar : Nat → ClassId) (lay : Nat → Nat → Nat) {B : Int} {M : hm_M} (h : Jv B M) (x : Int32) : ∃ v M', Ct l D ar lay y_M_part rm_p true [.ref (lay 20 0), .int x] M (.inl (some (.int v), M')) ∧ Sp (r_part (ab M) x) n_A (B + 300) M v M' := by
  exact ⟨_, _, c_M_part l D ar lay M x h.m, m_part h x⟩
theorem e_step (l : Launch) (D : va_G) (ar : Nat → ClassId) (lay : Nat → Nat → Nat) {B : Int} {M : hm_M} (h : Jv B M) (q kd a b : Int32) : ∃ v M', Ct l D ar lay y_M_step rm_p true [.ref (lay 20 0), .int q, .int kd, .int a, .int b] M (.inl (some (.int v), M')) ∧ Sp (r_step (ab M) q kd a b) n_B (B + 300) M v M' := by
  by_cases hp : g_in q 0 (M 20 0 3 - 1) = 0
  · exact ⟨0, _, c_M_step_no l D ar lay M q kd a b hp, by rw [r_step, if_pos (m_none h hp)]; exact Sp.no h (by decide)⟩
  · obtain ⟨k, hk, hkp, rfl⟩ := part_k h.m hp
    exact ⟨_, _, c_M_step_ok l D ar lay M k kd a b hk h.m hp, m_step h hkp hp kd a b⟩
theorem e_fails (l : Launch) (D : va_G) (ar : Nat → ClassId) (lay : Nat → Nat → Nat) {B : Int} {M : hm_M} (h : Jv B M) (q i on : Int32) (hon : narrow .boolean (.int on) = .int on) : ∃ v M', Ct l D ar lay y_M_fails rm_p true [.ref (lay 20 0), .int q, .int i, .int on] M (.inl (none, M')) ∧ Sp (r_fails (ab M) q i on) n_C (B + 300) M v M' := by
  by_cases hp : g_in q 0 (M 20 0 3 - 1) = 0
  · exact ⟨0, _, c_M_fails_no l D ar lay M q i on hp, by rw [r_fails, if_pos (m_none h hp)]; exact Sp.no h (by decide)⟩
  · obtain ⟨k, hk, hkp, rfl⟩ := part_k h.m hp
    exact ⟨0, _, c_M_fails_ok l D ar lay M k i on hk h.m hp hon, m_fails h hkp hp i on⟩
theorem e_turn (l : Launch) (D : va_G) (ar : Nat → ClassId) (lay : Nat → Nat → Nat) {B : Int} {M : hm_M} (h : Jv B M) (hb : B < 900000) (q : Int32) : ∃ v M', Ct l D ar lay y_M_turn rm_p true [.ref (lay 20 0), .int q] M (.inl (some (.int v), M')) ∧ Sp (r_turn (ab M) q) n_D (B + 300) M v M' := by
  by_cases hp : g_in q 0 (M 20 0 3 - 1) = 0
  · exact ⟨0, _, c_M_turn_no l D ar lay M q  hp, by rw [r_turn, if_pos (m_none h hp)]; exact Sp.no h (by decide)⟩
  · obtain ⟨k, hk, hkp, rfl⟩ := part_k h.m hp
    exact ⟨_, _, c_M_turn_ok l D ar lay M k  hk h.m hp, m_turn h hb hkp hp ⟩
theorem e_run (l : Launch) (D : va_G) (ar : Nat → ClassId) (lay : Nat → Nat → Nat) {B : Int} {M : hm_M} (h : Jv B M) (hb : B < 900000) (x : Int32) : ∃ v M', Ct l D ar lay y_M_run rm_p true [.ref (lay 20 0), .int x] M (.inl (some (.int v), M')) ∧ Sp (r_run (ab M) x) n_E (B + 300) M v M' := by
  exact ⟨_, _, c_M_run l D ar lay M x B h (by omega), m_run h hb x⟩
theorem e_again (l : Launch) (D : va_G) (ar : Nat → ClassId) (lay : Nat → Nat → Nat) {B : Int} {M : hm_M} (h : Jv B M) (x : Int32) : ∃ v M', Ct l D ar lay y_M_again rm_p true [.ref (lay 20 0), .int x] M (.inl (some (.int v), M')) ∧ Sp (r_again (ab M) x) n_D (B + 300) M v M' := by
  exact ⟨_, _, c_M_again l D ar lay M x h.m, m_again h x⟩
theorem e_interrupt (l : Launch) (D : va_G) (ar : Nat → ClassId) (lay : Nat → Nat → Nat) {B : Int} {M : hm_M} (h : Jv B M) (q : Int32) : ∃ v M', Ct l D ar lay y_M_interrupt rm_p true [.ref (lay 20 0), .int q] M (.inl (some (.int v), M')) ∧ Sp (r_interrupt (ab M) q) n_D (B + 300) M v M' := by
  by_cases hp : g_in q 0 (M 20 0 3 - 1) = 0
  · exact ⟨0, _, c_M_interrupt_no l D ar lay M q  hp, by rw [r_interrupt, if_pos (m_none h hp)]; exact Sp.no h (by decide)⟩
  · obtain ⟨k, hk, hkp, rfl⟩ := part_k h.m hp
    exact ⟨_, _, c_M_interrupt_ok l D ar lay M k  hk h.m hp, m_interrupt h hkp hp ⟩
theorem e_restart (l : Launch) (D : va_G) (ar : Nat → ClassId) (lay : Nat → Nat → Nat) {B : Int} {M : hm_M} (h : Jv B M) (q : Int32) : ∃ v M', Ct l D ar lay y_M_restart rm_p true [.ref (lay 20 0), .int q] M (.inl (none, M')) ∧ Sp (r_restart (ab M) q) n_D (B + 300) M v M' := by
  by_cases hp : g_in q 0 (M 20 0 3 - 1) = 0
  · exact ⟨0, _, c_M_restart_no l D ar lay M q  hp, by rw [r_restart, if_pos (m_none h hp)]; exact Sp.no h (by decide)⟩
  · obtain ⟨k, hk, hkp, rfl⟩ := part_k h.m hp
    exact ⟨0, _, c_M_restart_ok l D ar lay M k  hk h.m hp, m_restart h hkp hp ⟩
theorem e_log (l : Launch) (D : va_G) (ar : Nat → ClassId) (lay : Nat → Nat → Nat) {B : Int} {M : hm_M} (h : Jv B M) (i : Int32) : ∃ v M', Ct l D ar lay y_M_log rm_p true [.ref (lay 20 0), .int i] M (.inl (some (.int v), M')) ∧ Sp (r_log (ab M) i) n_E (B + 300) M v M' := by
  exact ⟨_, _, c_M_log l D ar lay M i h.m, m_log h i⟩
theorem e_place (l : Launch) (D : va_G) (ar : Nat → ClassId) (lay : Nat → Nat → Nat) {B : Int} {M : hm_M} (h : Jv B M) (q w : Int32) : ∃ v M', Ct l D ar lay y_M_place rm_p true [.ref (lay 20 0), .int q, .int w] M (.inl (some (.int v), M')) ∧ Sp (r_place (ab M) q w) n_E (B + 300) M v M' := by
  exact ⟨_, _, c_M_place l D ar lay M q w, m_place h q w⟩
theorem e_message (l : Launch) (D : va_G) (ar : Nat → ClassId) (lay : Nat → Nat → Nat) {B : Int} {M : hm_M} (h : Jv B M) (x w : Int32) : ∃ v M', Ct l D ar lay y_M_message rm_p true [.ref (lay 20 0), .int x, .int w] M (.inl (some (.int v), M')) ∧ Sp (r_message (ab M) x w) n_C (B + 300) M v M' := by
  exact ⟨_, _, c_M_message l D ar lay M x w h.m, m_message h x w⟩
theorem e_told (l : Launch) (D : va_G) (ar : Nat → ClassId) (lay : Nat → Nat → Nat) {B : Int} {M : hm_M} (h : Jv B M) (q w : Int32) : ∃ v M', Ct l D ar lay y_M_told rm_p true [.ref (lay 20 0), .int q, .int w] M (.inl (some (.int v), M')) ∧ Sp (r_told (ab M) q w) n_C (B + 300) M v M' := by
  by_cases hp : g_in q 0 (M 20 0 3 - 1) = 0
  · exact ⟨0, _, c_M_told_no l D ar lay M q w hp, by rw [r_told, if_pos (m_none h hp)]; exact Sp.no h (by decide)⟩
  · obtain ⟨k, hk, hkp, rfl⟩ := part_k h.m hp
    exact ⟨_, _, c_M_told_ok l D ar lay M k w hk h.m hp, m_told h hkp hp w⟩
set_option maxHeartbeats 4000000 in
set_option maxRecDepth 100000 in
theorem w_part (l : Launch) (D : va_G) (ar : Nat → ClassId) (lay : Nat → Nat → Nat) (M : hm_M) (x : Int32) (htr : l.stackTraces = false) (hI : IvC M) : Ct l D ar lay y_L_part rm_w true [.ref (lay 0 0), .int x, .ref (lay 40 0)] M (lw_rI n_A M (r_part M x)) := by
  refine Ct.ofWith (cc := method_3_code) (maxL := 4) (ret := (some .int)) (by decide) cw_L_part (Nat.le_of_ble_eq_true rfl) ?_
  intro p e s m below meth c E hr hlk htab hH
  have hC := c_H_part l D ar lay M x htr hI
  have hk := k_part M x
  revert hC hk
  generalize r_part M x = r
  intro hC hk
  rcases r with ⟨o, N⟩ | ex
  · cases o with
    | none => exact hk.elim
    | some w =>
      cases w with
      | ref q => exact hk.elim
      | int v =>
        refine a_aload_n (pc := 0) E d_L_part_0 rfl rfl ?_
        refine a_iconst (v := 0) (pc := 1) E d_L_part_1 (by decide) ?_
        refine a_aload_n (pc := 2) E d_L_part_2 rfl rfl ?_
        refine a_iload_n (pc := 3) E d_L_part_3 rfl rfl ?_
        refine a_wr ?_
        refine b_VI (pc := 4) (n := 1) E (hC) ⟨by decide, by decide, ml_L_7, im_H_part, sl_H_part, ii_H, cd_H_part, ⟨by decide, by decide⟩, by decide +kernel⟩ rfl (by decide) rfl rfl (by decide) rfl (Nat.le_of_ble_eq_true rfl) d_L_part_4 (by decide) ?_
        refine a_i2l (pc := 7) E d_L_part_7 ?_
        refine s_40 (pc := 8) E d_L_part_8 (ix_of (by decide) (by decide)) ?_
        refine a_goto (tgt := 18) (pc := 9) E d_L_part_9 (by decide) ?_
        refine a_iconst (v := 0) (pc := 18) E d_L_part_18 (by decide) ?_
        exact a_iret (pc := 19) E hr hlk rfl d_L_part_19 (by decide) (by decide) (by decide) rfl
      | _ => exact hk.elim
  · have hk : ex ∈ ["java/lang/IllegalArgumentException", "java/lang/UnsupportedOperationException"] := hk
    simp only [List.mem_cons, List.not_mem_nil, or_false] at hk
    rcases hk with rfl | rfl
    · refine a_aload_n (pc := 0) E d_L_part_0 rfl rfl ?_
      refine a_iconst (v := 0) (pc := 1) E d_L_part_1 (by decide) ?_
      refine a_aload_n (pc := 2) E d_L_part_2 rfl rfl ?_
      refine a_iload_n (pc := 3) E d_L_part_3 rfl rfl ?_
      refine a_wr ?_
      refine a_callVC (pc := 4) (n := 1) (hp := 12) E htab hC ⟨by decide, by decide, ml_L_7, im_H_part, sl_H_part, ii_H, cd_H_part, ⟨by decide, by decide⟩, by decide +kernel⟩ rfl (by decide) rfl rfl rfl (Nat.le_of_ble_eq_true rfl) d_L_part_4 (by decide) ⟨⟨by decide, by decide⟩, by decide, "java/lang/IllegalArgumentException", cl_L_13, Or.inl ⟨rfl, ca_IllegalArgumentException, rfl⟩⟩ (fun q => ?_)
      refine a_astore_n (pc := 12) E d_L_part_12 rfl (by decide) ?_
      refine a_iconst (v := 1) (pc := 13) E d_L_part_13 (by decide) ?_
      exact a_iret (pc := 14) E hr hlk rfl d_L_part_14 (by decide) (by decide) (by decide) rfl
    · refine a_aload_n (pc := 0) E d_L_part_0 rfl rfl ?_
      refine a_iconst (v := 0) (pc := 1) E d_L_part_1 (by decide) ?_
      refine a_aload_n (pc := 2) E d_L_part_2 rfl rfl ?_
      refine a_iload_n (pc := 3) E d_L_part_3 rfl rfl ?_
      refine a_wr ?_
      refine a_callVC (pc := 4) (n := 1) (hp := 15) E htab hC ⟨by decide, by decide, ml_L_7, im_H_part, sl_H_part, ii_H, cd_H_part, ⟨by decide, by decide⟩, by decide +kernel⟩ rfl (by decide) rfl rfl rfl (Nat.le_of_ble_eq_true rfl) d_L_part_4 (by decide) ⟨⟨by decide, by decide⟩, by decide, "java/lang/IllegalArgumentException", cl_L_13, Or.inr ⟨by decide, ⟨⟨by decide, by decide⟩, by decide, "java/lang/UnsupportedOperationException", cl_L_15, Or.inl ⟨rfl, ca_UnsupportedOperationException, rfl⟩⟩⟩⟩ (fun q => ?_)
      refine a_astore_n (pc := 15) E d_L_part_15 rfl (by decide) ?_
      refine a_iconst (v := 2) (pc := 16) E d_L_part_16 (by decide) ?_
      exact a_iret (pc := 17) E hr hlk rfl d_L_part_17 (by decide) (by decide) (by decide) rfl
set_option maxHeartbeats 4000000 in
set_option maxRecDepth 100000 in
theorem w_step (l : Launch) (D : va_G) (ar : Nat → ClassId) (lay : Nat → Nat → Nat) (M : hm_M) (q kd a b : Int32) (htr : l.stackTraces = false) (hI : IvC M) : Ct l D ar lay y_L_step rm_w true [.ref (lay 0 0), .int q, .int kd, .int a, .int b, .ref (lay 40 0)] M (lw_rI n_B M (r_step M q kd a b)) := by
  refine Ct.ofWith (cc := method_4_code) (maxL := 7) (ret := (some .int)) (by decide) cw_L_step (Nat.le_of_ble_eq_true rfl) ?_
  intro p e s m below meth c E hr hlk htab hH
  have hC := c_H_step l D ar lay M q kd a b htr hI
  have hk := k_step M q kd a b
  revert hC hk
  generalize r_step M q kd a b = r
  intro hC hk
  rcases r with ⟨o, N⟩ | ex
  · cases o with
    | none => exact hk.elim
    | some w =>
      cases w with
      | ref q => exact hk.elim
      | int v =>
        refine a_aload (pc := 0) E d_L_step_0 rfl ?_
        refine a_iconst (v := 0) (pc := 2) E d_L_step_2 (by decide) ?_
        refine a_aload_n (pc := 3) E d_L_step_3 rfl rfl ?_
        refine a_iload_n (pc := 4) E d_L_step_4 rfl rfl ?_
        refine a_iload_n (pc := 5) E d_L_step_5 rfl rfl ?_
        refine a_iload_n (pc := 6) E d_L_step_6 rfl rfl ?_
        refine a_iload (pc := 7) E d_L_step_7 rfl ?_
        refine a_wr ?_
        refine b_VI (pc := 9) (n := 4) E (hC) ⟨by decide, by decide, ml_L_17, im_H_step, sl_H_step, ii_H, cd_H_step, ⟨by decide, by decide⟩, by decide +kernel⟩ rfl (by decide) rfl rfl (by decide) rfl (Nat.le_of_ble_eq_true rfl) d_L_step_9 (by decide) ?_
        refine a_i2l (pc := 12) E d_L_step_12 ?_
        refine s_40 (pc := 13) E d_L_step_13 (ix_of (by decide) (by decide)) ?_
        refine a_goto (tgt := 33) (pc := 14) E d_L_step_14 (by decide) ?_
        refine a_iconst (v := 0) (pc := 33) E d_L_step_33 (by decide) ?_
        exact a_iret (pc := 34) E hr hlk rfl d_L_step_34 (by decide) (by decide) (by decide) rfl
      | _ => exact hk.elim
  · have hk : ex ∈ ["java/util/NoSuchElementException", "java/lang/IllegalArgumentException", "java/lang/IllegalStateException", "java/lang/UnsupportedOperationException"] := hk
    simp only [List.mem_cons, List.not_mem_nil, or_false] at hk
    rcases hk with rfl | rfl | rfl | rfl
    · refine a_aload (pc := 0) E d_L_step_0 rfl ?_
      refine a_iconst (v := 0) (pc := 2) E d_L_step_2 (by decide) ?_
      refine a_aload_n (pc := 3) E d_L_step_3 rfl rfl ?_
      refine a_iload_n (pc := 4) E d_L_step_4 rfl rfl ?_
      refine a_iload_n (pc := 5) E d_L_step_5 rfl rfl ?_
      refine a_iload_n (pc := 6) E d_L_step_6 rfl rfl ?_
      refine a_iload (pc := 7) E d_L_step_7 rfl ?_
      refine a_wr ?_
      refine a_callVC (pc := 9) (n := 4) (hp := 17) E htab hC ⟨by decide, by decide, ml_L_17, im_H_step, sl_H_step, ii_H, cd_H_step, ⟨by decide, by decide⟩, by decide +kernel⟩ rfl (by decide) rfl rfl rfl (Nat.le_of_ble_eq_true rfl) d_L_step_9 (by decide) ⟨⟨by decide, by decide⟩, by decide, "java/util/NoSuchElementException", cl_L_21, Or.inl ⟨rfl, ca_NoSuchElementException, rfl⟩⟩ (fun q => ?_)
      refine a_astore (pc := 17) E d_L_step_17 (by decide) ?_
      refine a_iconst (v := 1) (pc := 19) E d_L_step_19 (by decide) ?_
      exact a_iret (pc := 20) E hr hlk rfl d_L_step_20 (by decide) (by decide) (by decide) rfl
    · refine a_aload (pc := 0) E d_L_step_0 rfl ?_
      refine a_iconst (v := 0) (pc := 2) E d_L_step_2 (by decide) ?_
      refine a_aload_n (pc := 3) E d_L_step_3 rfl rfl ?_
      refine a_iload_n (pc := 4) E d_L_step_4 rfl rfl ?_
      refine a_iload_n (pc := 5) E d_L_step_5 rfl rfl ?_
      refine a_iload_n (pc := 6) E d_L_step_6 rfl rfl ?_
      refine a_iload (pc := 7) E d_L_step_7 rfl ?_
      refine a_wr ?_
      refine a_callVC (pc := 9) (n := 4) (hp := 21) E htab hC ⟨by decide, by decide, ml_L_17, im_H_step, sl_H_step, ii_H, cd_H_step, ⟨by decide, by decide⟩, by decide +kernel⟩ rfl (by decide) rfl rfl rfl (Nat.le_of_ble_eq_true rfl) d_L_step_9 (by decide) ⟨⟨by decide, by decide⟩, by decide, "java/util/NoSuchElementException", cl_L_21, Or.inr ⟨by decide, ⟨⟨by decide, by decide⟩, by decide, "java/lang/IllegalArgumentException", cl_L_13, Or.inl ⟨rfl, ca_IllegalArgumentException, rfl⟩⟩⟩⟩ (fun q => ?_)
      refine a_astore (pc := 21) E d_L_step_21 (by decide) ?_
      refine a_iconst (v := 2) (pc := 23) E d_L_step_23 (by decide) ?_
      exact a_iret (pc := 24) E hr hlk rfl d_L_step_24 (by decide) (by decide) (by decide) rfl
    · refine a_aload (pc := 0) E d_L_step_0 rfl ?_
      refine a_iconst (v := 0) (pc := 2) E d_L_step_2 (by decide) ?_
      refine a_aload_n (pc := 3) E d_L_step_3 rfl rfl ?_
      refine a_iload_n (pc := 4) E d_L_step_4 rfl rfl ?_
      refine a_iload_n (pc := 5) E d_L_step_5 rfl rfl ?_
      refine a_iload_n (pc := 6) E d_L_step_6 rfl rfl ?_
      refine a_iload (pc := 7) E d_L_step_7 rfl ?_
      refine a_wr ?_
      refine a_callVC (pc := 9) (n := 4) (hp := 25) E htab hC ⟨by decide, by decide, ml_L_17, im_H_step, sl_H_step, ii_H, cd_H_step, ⟨by decide, by decide⟩, by decide +kernel⟩ rfl (by decide) rfl rfl rfl (Nat.le_of_ble_eq_true rfl) d_L_step_9 (by decide) ⟨⟨by decide, by decide⟩, by decide, "java/util/NoSuchElementException", cl_L_21, Or.inr ⟨by decide, ⟨⟨by decide, by decide⟩, by decide, "java/lang/IllegalArgumentException", cl_L_13, Or.inr ⟨by decide, ⟨⟨by decide, by decide⟩, by decide, "java/lang/IllegalStateException", cl_L_23, Or.inl ⟨rfl, ca_IllegalStateException, rfl⟩⟩⟩⟩⟩⟩ (fun q => ?_)
      refine a_astore (pc := 25) E d_L_step_25 (by decide) ?_
      refine a_iconst (v := 3) (pc := 27) E d_L_step_27 (by decide) ?_
      exact a_iret (pc := 28) E hr hlk rfl d_L_step_28 (by decide) (by decide) (by decide) rfl
    · refine a_aload (pc := 0) E d_L_step_0 rfl ?_
      refine a_iconst (v := 0) (pc := 2) E d_L_step_2 (by decide) ?_
      refine a_aload_n (pc := 3) E d_L_step_3 rfl rfl ?_
      refine a_iload_n (pc := 4) E d_L_step_4 rfl rfl ?_
      refine a_iload_n (pc := 5) E d_L_step_5 rfl rfl ?_
      refine a_iload_n (pc := 6) E d_L_step_6 rfl rfl ?_
      refine a_iload (pc := 7) E d_L_step_7 rfl ?_
      refine a_wr ?_
      refine a_callVC (pc := 9) (n := 4) (hp := 29) E htab hC ⟨by decide, by decide, ml_L_17, im_H_step, sl_H_step, ii_H, cd_H_step, ⟨by decide, by decide⟩, by decide +kernel⟩ rfl (by decide) rfl rfl rfl (Nat.le_of_ble_eq_true rfl) d_L_step_9 (by decide) ⟨⟨by decide, by decide⟩, by decide, "java/util/NoSuchElementException", cl_L_21, Or.inr ⟨by decide, ⟨⟨by decide, by decide⟩, by decide, "java/lang/IllegalArgumentException", cl_L_13, Or.inr ⟨by decide, ⟨⟨by decide, by decide⟩, by decide, "java/lang/IllegalStateException", cl_L_23, Or.inr ⟨by decide, ⟨⟨by decide, by decide⟩, by decide, "java/lang/UnsupportedOperationException", cl_L_15, Or.inl ⟨rfl, ca_UnsupportedOperationException, rfl⟩⟩⟩⟩⟩⟩⟩⟩ (fun q => ?_)
      refine a_astore (pc := 29) E d_L_step_29 (by decide) ?_
      refine a_iconst (v := 4) (pc := 31) E d_L_step_31 (by decide) ?_
      exact a_iret (pc := 32) E hr hlk rfl d_L_step_32 (by decide) (by decide) (by decide) rfl
set_option maxHeartbeats 4000000 in
set_option maxRecDepth 100000 in
theorem w_fails (l : Launch) (D : va_G) (ar : Nat → ClassId) (lay : Nat → Nat → Nat) (M : hm_M) (q i on : Int32) (htr : l.stackTraces = false) (hI : IvC M) (hon : narrow .boolean (.int on) = .int on) : Ct l D ar lay y_L_fails rm_w true [.ref (lay 0 0), .int q, .int i, .int on] M (lw_rI n_C M (r_fails M q i on)) := by
  refine Ct.ofWith (cc := method_5_code) (maxL := 5) (ret := (some .int)) (by decide) cw_L_fails (Nat.le_of_ble_eq_true rfl) ?_
  intro p e s m below meth c E hr hlk htab hH
  have hC := c_H_fails l D ar lay M q i on htr hI hon
  have hk := k_fails M q i on
  revert hC hk
  generalize r_fails M q i on = r
  intro hC hk
  rcases r with ⟨o, N⟩ | ex
  · cases o with
    | some w => exact hk.elim
    | none =>
      refine a_aload_n (pc := 0) E d_L_fails_0 rfl rfl ?_
      refine a_iload_n (pc := 1) E d_L_fails_1 rfl rfl ?_
      refine a_iload_n (pc := 2) E d_L_fails_2 rfl rfl ?_
      refine a_iload_n (pc := 3) E d_L_fails_3 rfl rfl ?_
      refine a_wr ?_
      refine b_VZ (pc := 4) (n := 3) E (hC) ⟨by decide, by decide, ml_L_25, im_H_fails, sl_H_fails, ii_H, cd_H_fails, ⟨by decide, by decide⟩, by decide +kernel⟩ rfl (by decide) rfl rfl (by decide) rfl (Nat.le_of_ble_eq_true rfl) d_L_fails_4 (by decide) ?_
      refine a_goto (tgt := 18) (pc := 7) E d_L_fails_7 (by decide) ?_
      refine a_iconst (v := 0) (pc := 18) E d_L_fails_18 (by decide) ?_
      exact a_iret (pc := 19) E hr hlk rfl d_L_fails_19 (by decide) (by decide) (by decide) rfl
  · have hk : ex ∈ ["java/util/NoSuchElementException", "java/lang/IllegalArgumentException"] := hk
    simp only [List.mem_cons, List.not_mem_nil, or_false] at hk
    rcases hk with rfl | rfl
    · refine a_aload_n (pc := 0) E d_L_fails_0 rfl rfl ?_
      refine a_iload_n (pc := 1) E d_L_fails_1 rfl rfl ?_
      refine a_iload_n (pc := 2) E d_L_fails_2 rfl rfl ?_
      refine a_iload_n (pc := 3) E d_L_fails_3 rfl rfl ?_
      refine a_wr ?_
      refine a_callVC (pc := 4) (n := 3) (hp := 10) E htab hC ⟨by decide, by decide, ml_L_25, im_H_fails, sl_H_fails, ii_H, cd_H_fails, ⟨by decide, by decide⟩, by decide +kernel⟩ rfl (by decide) rfl rfl rfl (Nat.le_of_ble_eq_true rfl) d_L_fails_4 (by decide) ⟨⟨by decide, by decide⟩, by decide, "java/util/NoSuchElementException", cl_L_21, Or.inl ⟨rfl, ca_NoSuchElementException, rfl⟩⟩ (fun q => ?_)
      refine a_astore (pc := 10) E d_L_fails_10 (by decide) ?_
      refine a_iconst (v := 1) (pc := 12) E d_L_fails_12 (by decide) ?_
      exact a_iret (pc := 13) E hr hlk rfl d_L_fails_13 (by decide) (by decide) (by decide) rfl
    · refine a_aload_n (pc := 0) E d_L_fails_0 rfl rfl ?_
      refine a_iload_n (pc := 1) E d_L_fails_1 rfl rfl ?_
      refine a_iload_n (pc := 2) E d_L_fails_2 rfl rfl ?_
      refine a_iload_n (pc := 3) E d_L_fails_3 rfl rfl ?_
      refine a_wr ?_
      refine a_callVC (pc := 4) (n := 3) (hp := 14) E htab hC ⟨by decide, by decide, ml_L_25, im_H_fails, sl_H_fails, ii_H, cd_H_fails, ⟨by decide, by decide⟩, by decide +kernel⟩ rfl (by decide) rfl rfl rfl (Nat.le_of_ble_eq_true rfl) d_L_fails_4 (by decide) ⟨⟨by decide, by decide⟩, by decide, "java/util/NoSuchElementException", cl_L_21, Or.inr ⟨by decide, ⟨⟨by decide, by decide⟩, by decide, "java/lang/IllegalArgumentException", cl_L_13, Or.inl ⟨rfl, ca_IllegalArgumentException, rfl⟩⟩⟩⟩ (fun q => ?_)
      refine a_astore (pc := 14) E d_L_fails_14 (by decide) ?_
      refine a_iconst (v := 2) (pc := 16) E d_L_fails_16 (by decide) ?_
      exact a_iret (pc := 17) E hr hlk rfl d_L_fails_17 (by decide) (by decide) (by decide) rfl
set_option maxHeartbeats 4000000 in
set_option maxRecDepth 100000 in
theorem w_turn (l : Launch) (D : va_G) (ar : Nat → ClassId) (lay : Nat → Nat → Nat) (M : hm_M) (q : Int32) (htr : l.stackTraces = false) (hI : IvC M) : Ct l D ar lay y_L_turn rm_w true [.ref (lay 0 0), .int q, .ref (lay 40 0)] M (lw_rI n_D M (r_turn M q)) := by
  refine Ct.ofWith (cc := method_6_code) (maxL := 4) (ret := (some .int)) (by decide) cw_L_turn (Nat.le_of_ble_eq_true rfl) ?_
  intro p e s m below meth c E hr hlk htab hH
  have hC := c_H_turn l D ar lay M q htr hI
  have hk := k_turn M q
  revert hC hk
  generalize r_turn M q = r
  intro hC hk
  rcases r with ⟨o, N⟩ | ex
  · cases o with
    | none => exact hk.elim
    | some w =>
      cases w with
      | ref q => exact hk.elim
      | int v =>
        refine a_aload_n (pc := 0) E d_L_turn_0 rfl rfl ?_
        refine a_iconst (v := 0) (pc := 1) E d_L_turn_1 (by decide) ?_
        refine a_aload_n (pc := 2) E d_L_turn_2 rfl rfl ?_
        refine a_iload_n (pc := 3) E d_L_turn_3 rfl rfl ?_
        refine a_wr ?_
        refine b_VI (pc := 4) (n := 1) E (hC) ⟨by decide, by decide, ml_L_29, im_H_turn, sl_H_turn, ii_H, cd_H_turn, ⟨by decide, by decide⟩, by decide +kernel⟩ rfl (by decide) rfl rfl (by decide) rfl (Nat.le_of_ble_eq_true rfl) d_L_turn_4 (by decide) ?_
        refine a_i2l (pc := 7) E d_L_turn_7 ?_
        refine s_40 (pc := 8) E d_L_turn_8 (ix_of (by decide) (by decide)) ?_
        refine a_goto (tgt := 18) (pc := 9) E d_L_turn_9 (by decide) ?_
        refine a_iconst (v := 0) (pc := 18) E d_L_turn_18 (by decide) ?_
        exact a_iret (pc := 19) E hr hlk rfl d_L_turn_19 (by decide) (by decide) (by decide) rfl
      | _ => exact hk.elim
  · have hk : ex ∈ ["java/util/NoSuchElementException", "java/lang/IllegalStateException"] := hk
    simp only [List.mem_cons, List.not_mem_nil, or_false] at hk
    rcases hk with rfl | rfl
    · refine a_aload_n (pc := 0) E d_L_turn_0 rfl rfl ?_
      refine a_iconst (v := 0) (pc := 1) E d_L_turn_1 (by decide) ?_
      refine a_aload_n (pc := 2) E d_L_turn_2 rfl rfl ?_
      refine a_iload_n (pc := 3) E d_L_turn_3 rfl rfl ?_
      refine a_wr ?_
      refine a_callVC (pc := 4) (n := 1) (hp := 12) E htab hC ⟨by decide, by decide, ml_L_29, im_H_turn, sl_H_turn, ii_H, cd_H_turn, ⟨by decide, by decide⟩, by decide +kernel⟩ rfl (by decide) rfl rfl rfl (Nat.le_of_ble_eq_true rfl) d_L_turn_4 (by decide) ⟨⟨by decide, by decide⟩, by decide, "java/util/NoSuchElementException", cl_L_21, Or.inl ⟨rfl, ca_NoSuchElementException, rfl⟩⟩ (fun q => ?_)
      refine a_astore_n (pc := 12) E d_L_turn_12 rfl (by decide) ?_
      refine a_iconst (v := 1) (pc := 13) E d_L_turn_13 (by decide) ?_
      exact a_iret (pc := 14) E hr hlk rfl d_L_turn_14 (by decide) (by decide) (by decide) rfl
    · refine a_aload_n (pc := 0) E d_L_turn_0 rfl rfl ?_
      refine a_iconst (v := 0) (pc := 1) E d_L_turn_1 (by decide) ?_
      refine a_aload_n (pc := 2) E d_L_turn_2 rfl rfl ?_
      refine a_iload_n (pc := 3) E d_L_turn_3 rfl rfl ?_
      refine a_wr ?_
      refine a_callVC (pc := 4) (n := 1) (hp := 15) E htab hC ⟨by decide, by decide, ml_L_29, im_H_turn, sl_H_turn, ii_H, cd_H_turn, ⟨by decide, by decide⟩, by decide +kernel⟩ rfl (by decide) rfl rfl rfl (Nat.le_of_ble_eq_true rfl) d_L_turn_4 (by decide) ⟨⟨by decide, by decide⟩, by decide, "java/util/NoSuchElementException", cl_L_21, Or.inr ⟨by decide, ⟨⟨by decide, by decide⟩, by decide, "java/lang/IllegalStateException", cl_L_23, Or.inl ⟨rfl, ca_IllegalStateException, rfl⟩⟩⟩⟩ (fun q => ?_)
      refine a_astore_n (pc := 15) E d_L_turn_15 rfl (by decide) ?_
      refine a_iconst (v := 2) (pc := 16) E d_L_turn_16 (by decide) ?_
      exact a_iret (pc := 17) E hr hlk rfl d_L_turn_17 (by decide) (by decide) (by decide) rfl
set_option maxHeartbeats 4000000 in
set_option maxRecDepth 100000 in
theorem w_run (l : Launch) (D : va_G) (ar : Nat → ClassId) (lay : Nat → Nat → Nat) (M : hm_M) (x : Int32) (htr : l.stackTraces = false) (hI : IvC M) : Ct l D ar lay y_L_run rm_w true [.ref (lay 0 0), .int x, .ref (lay 40 0)] M (lw_rI n_E M (r_run M x)) := by
  refine Ct.ofWith (cc := method_7_code) (maxL := 4) (ret := (some .int)) (by decide) cw_L_run (Nat.le_of_ble_eq_true rfl) ?_
  intro p e s m below meth c E hr hlk htab hH
  have hC := c_H_run l D ar lay M x htr hI
  have hk := k_run M x
  revert hC hk
  generalize r_run M x = r
  intro hC hk
  rcases r with ⟨o, N⟩ | ex
  · cases o with
    | none => exact hk.elim
    | some w =>
      cases w with
      | ref q => exact hk.elim
      | int v =>
        refine a_aload_n (pc := 0) E d_L_run_0 rfl rfl ?_
        refine a_iconst (v := 0) (pc := 1) E d_L_run_1 (by decide) ?_
        refine a_aload_n (pc := 2) E d_L_run_2 rfl rfl ?_
        refine a_iload_n (pc := 3) E d_L_run_3 rfl rfl ?_
        refine a_wr ?_
        refine b_VI (pc := 4) (n := 1) E (hC) ⟨by decide, by decide, ml_L_32, im_H_run, sl_H_run, ii_H, cd_H_run, ⟨by decide, by decide⟩, by decide +kernel⟩ rfl (by decide) rfl rfl (by decide) rfl (Nat.le_of_ble_eq_true rfl) d_L_run_4 (by decide) ?_
        refine a_i2l (pc := 7) E d_L_run_7 ?_
        refine s_40 (pc := 8) E d_L_run_8 (ix_of (by decide) (by decide)) ?_
        refine a_goto (tgt := 15) (pc := 9) E d_L_run_9 (by decide) ?_
        refine a_iconst (v := 0) (pc := 15) E d_L_run_15 (by decide) ?_
        exact a_iret (pc := 16) E hr hlk rfl d_L_run_16 (by decide) (by decide) (by decide) rfl
      | _ => exact hk.elim
  · have hk : ex ∈ ["java/lang/IllegalArgumentException"] := hk
    simp only [List.mem_cons, List.not_mem_nil, or_false] at hk
    subst hk
    refine a_aload_n (pc := 0) E d_L_run_0 rfl rfl ?_
    refine a_iconst (v := 0) (pc := 1) E d_L_run_1 (by decide) ?_
    refine a_aload_n (pc := 2) E d_L_run_2 rfl rfl ?_
    refine a_iload_n (pc := 3) E d_L_run_3 rfl rfl ?_
    refine a_wr ?_
    refine a_callVC (pc := 4) (n := 1) (hp := 12) E htab hC ⟨by decide, by decide, ml_L_32, im_H_run, sl_H_run, ii_H, cd_H_run, ⟨by decide, by decide⟩, by decide +kernel⟩ rfl (by decide) rfl rfl rfl (Nat.le_of_ble_eq_true rfl) d_L_run_4 (by decide) ⟨⟨by decide, by decide⟩, by decide, "java/lang/IllegalArgumentException", cl_L_13, Or.inl ⟨rfl, ca_IllegalArgumentException, rfl⟩⟩ (fun q => ?_)
    refine a_astore_n (pc := 12) E d_L_run_12 rfl (by decide) ?_
    refine a_iconst (v := 1) (pc := 13) E d_L_run_13 (by decide) ?_
    exact a_iret (pc := 14) E hr hlk rfl d_L_run_14 (by decide) (by decide) (by decide) rfl
set_option maxHeartbeats 4000000 in
set_option maxRecDepth 100000 in
theorem w_again (l : Launch) (D : va_G) (ar : Nat → ClassId) (lay : Nat → Nat → Nat) (M : hm_M) (x : Int32) (htr : l.stackTraces = false) (hI : IvC M) : Ct l D ar lay y_L_again rm_w true [.ref (lay 0 0), .int x, .ref (lay 40 0)] M (lw_rI n_D M (r_again M x)) := by
  refine Ct.ofWith (cc := method_8_code) (maxL := 4) (ret := (some .int)) (by decide) cw_L_again (Nat.le_of_ble_eq_true rfl) ?_
  intro p e s m below meth c E hr hlk htab hH
  have hC := c_H_again l D ar lay M x htr hI
  have hk := k_again M x
  revert hC hk
  generalize r_again M x = r
  intro hC hk
  rcases r with ⟨o, N⟩ | ex
  · cases o with
    | none => exact hk.elim
    | some w =>
      cases w with
      | ref q => exact hk.elim
      | int v =>
        refine a_aload_n (pc := 0) E d_L_again_0 rfl rfl ?_
        refine a_iconst (v := 0) (pc := 1) E d_L_again_1 (by decide) ?_
        refine a_aload_n (pc := 2) E d_L_again_2 rfl rfl ?_
        refine a_iload_n (pc := 3) E d_L_again_3 rfl rfl ?_
        refine a_wr ?_
        refine b_VI (pc := 4) (n := 1) E (hC) ⟨by decide, by decide, ml_L_35, im_H_again, sl_H_again, ii_H, cd_H_again, ⟨by decide, by decide⟩, by decide +kernel⟩ rfl (by decide) rfl rfl (by decide) rfl (Nat.le_of_ble_eq_true rfl) d_L_again_4 (by decide) ?_
        refine a_i2l (pc := 7) E d_L_again_7 ?_
        refine s_40 (pc := 8) E d_L_again_8 (ix_of (by decide) (by decide)) ?_
        refine a_goto (tgt := 18) (pc := 9) E d_L_again_9 (by decide) ?_
        refine a_iconst (v := 0) (pc := 18) E d_L_again_18 (by decide) ?_
        exact a_iret (pc := 19) E hr hlk rfl d_L_again_19 (by decide) (by decide) (by decide) rfl
      | _ => exact hk.elim
  · have hk : ex ∈ ["java/util/NoSuchElementException", "java/lang/IllegalStateException"] := hk
    simp only [List.mem_cons, List.not_mem_nil, or_false] at hk
    rcases hk with rfl | rfl
    · refine a_aload_n (pc := 0) E d_L_again_0 rfl rfl ?_
      refine a_iconst (v := 0) (pc := 1) E d_L_again_1 (by decide) ?_
      refine a_aload_n (pc := 2) E d_L_again_2 rfl rfl ?_
      refine a_iload_n (pc := 3) E d_L_again_3 rfl rfl ?_
      refine a_wr ?_
      refine a_callVC (pc := 4) (n := 1) (hp := 12) E htab hC ⟨by decide, by decide, ml_L_35, im_H_again, sl_H_again, ii_H, cd_H_again, ⟨by decide, by decide⟩, by decide +kernel⟩ rfl (by decide) rfl rfl rfl (Nat.le_of_ble_eq_true rfl) d_L_again_4 (by decide) ⟨⟨by decide, by decide⟩, by decide, "java/util/NoSuchElementException", cl_L_21, Or.inl ⟨rfl, ca_NoSuchElementException, rfl⟩⟩ (fun q => ?_)
      refine a_astore_n (pc := 12) E d_L_again_12 rfl (by decide) ?_
      refine a_iconst (v := 1) (pc := 13) E d_L_again_13 (by decide) ?_
      exact a_iret (pc := 14) E hr hlk rfl d_L_again_14 (by decide) (by decide) (by decide) rfl
    · refine a_aload_n (pc := 0) E d_L_again_0 rfl rfl ?_
      refine a_iconst (v := 0) (pc := 1) E d_L_again_1 (by decide) ?_
      refine a_aload_n (pc := 2) E d_L_again_2 rfl rfl ?_
      refine a_iload_n (pc := 3) E d_L_again_3 rfl rfl ?_
      refine a_wr ?_
      refine a_callVC (pc := 4) (n := 1) (hp := 15) E htab hC ⟨by decide, by decide, ml_L_35, im_H_again, sl_H_again, ii_H, cd_H_again, ⟨by decide, by decide⟩, by decide +kernel⟩ rfl (by decide) rfl rfl rfl (Nat.le_of_ble_eq_true rfl) d_L_again_4 (by decide) ⟨⟨by decide, by decide⟩, by decide, "java/util/NoSuchElementException", cl_L_21, Or.inr ⟨by decide, ⟨⟨by decide, by decide⟩, by decide, "java/lang/IllegalStateException", cl_L_23, Or.inl ⟨rfl, ca_IllegalStateException, rfl⟩⟩⟩⟩ (fun q => ?_)
      refine a_astore_n (pc := 15) E d_L_again_15 rfl (by decide) ?_
      refine a_iconst (v := 2) (pc := 16) E d_L_again_16 (by decide) ?_
      exact a_iret (pc := 17) E hr hlk rfl d_L_again_17 (by decide) (by decide) (by decide) rfl
set_option maxHeartbeats 4000000 in
set_option maxRecDepth 100000 in
theorem w_interrupt (l : Launch) (D : va_G) (ar : Nat → ClassId) (lay : Nat → Nat → Nat) (M : hm_M) (q : Int32) (htr : l.stackTraces = false) (hI : IvC M) : Ct l D ar lay y_L_interrupt rm_w true [.ref (lay 0 0), .int q, .ref (lay 40 0)] M (lw_rI n_D M (r_interrupt M q)) := by
  refine Ct.ofWith (cc := method_9_code) (maxL := 4) (ret := (some .int)) (by decide) cw_L_interrupt (Nat.le_of_ble_eq_true rfl) ?_
  intro p e s m below meth c E hr hlk htab hH
  have hC := c_H_interrupt l D ar lay M q htr hI
  have hk := k_interrupt M q
  revert hC hk
  generalize r_interrupt M q = r
  intro hC hk
  rcases r with ⟨o, N⟩ | ex
  · cases o with
    | none => exact hk.elim
    | some w =>
      cases w with
      | ref q => exact hk.elim
      | int v =>
        refine a_aload_n (pc := 0) E d_L_interrupt_0 rfl rfl ?_
        refine a_iconst (v := 0) (pc := 1) E d_L_interrupt_1 (by decide) ?_
        refine a_aload_n (pc := 2) E d_L_interrupt_2 rfl rfl ?_
        refine a_iload_n (pc := 3) E d_L_interrupt_3 rfl rfl ?_
        refine a_wr ?_
        refine b_VI (pc := 4) (n := 1) E (hC) ⟨by decide, by decide, ml_L_38, im_H_interrupt, sl_H_interrupt, ii_H, cd_H_interrupt, ⟨by decide, by decide⟩, by decide +kernel⟩ rfl (by decide) rfl rfl (by decide) rfl (Nat.le_of_ble_eq_true rfl) d_L_interrupt_4 (by decide) ?_
        refine a_i2l (pc := 7) E d_L_interrupt_7 ?_
        refine s_40 (pc := 8) E d_L_interrupt_8 (ix_of (by decide) (by decide)) ?_
        refine a_goto (tgt := 18) (pc := 9) E d_L_interrupt_9 (by decide) ?_
        refine a_iconst (v := 0) (pc := 18) E d_L_interrupt_18 (by decide) ?_
        exact a_iret (pc := 19) E hr hlk rfl d_L_interrupt_19 (by decide) (by decide) (by decide) rfl
      | _ => exact hk.elim
  · have hk : ex ∈ ["java/util/NoSuchElementException", "java/lang/IllegalStateException"] := hk
    simp only [List.mem_cons, List.not_mem_nil, or_false] at hk
    rcases hk with rfl | rfl
    · refine a_aload_n (pc := 0) E d_L_interrupt_0 rfl rfl ?_
      refine a_iconst (v := 0) (pc := 1) E d_L_interrupt_1 (by decide) ?_
      refine a_aload_n (pc := 2) E d_L_interrupt_2 rfl rfl ?_
      refine a_iload_n (pc := 3) E d_L_interrupt_3 rfl rfl ?_
      refine a_wr ?_
      refine a_callVC (pc := 4) (n := 1) (hp := 12) E htab hC ⟨by decide, by decide, ml_L_38, im_H_interrupt, sl_H_interrupt, ii_H, cd_H_interrupt, ⟨by decide, by decide⟩, by decide +kernel⟩ rfl (by decide) rfl rfl rfl (Nat.le_of_ble_eq_true rfl) d_L_interrupt_4 (by decide) ⟨⟨by decide, by decide⟩, by decide, "java/util/NoSuchElementException", cl_L_21, Or.inl ⟨rfl, ca_NoSuchElementException, rfl⟩⟩ (fun q => ?_)
      refine a_astore_n (pc := 12) E d_L_interrupt_12 rfl (by decide) ?_
      refine a_iconst (v := 1) (pc := 13) E d_L_interrupt_13 (by decide) ?_
      exact a_iret (pc := 14) E hr hlk rfl d_L_interrupt_14 (by decide) (by decide) (by decide) rfl
    · refine a_aload_n (pc := 0) E d_L_interrupt_0 rfl rfl ?_
      refine a_iconst (v := 0) (pc := 1) E d_L_interrupt_1 (by decide) ?_
      refine a_aload_n (pc := 2) E d_L_interrupt_2 rfl rfl ?_
      refine a_iload_n (pc := 3) E d_L_interrupt_3 rfl rfl ?_
      refine a_wr ?_
      refine a_callVC (pc := 4) (n := 1) (hp := 15) E htab hC ⟨by decide, by decide, ml_L_38, im_H_interrupt, sl_H_interrupt, ii_H, cd_H_interrupt, ⟨by decide, by decide⟩, by decide +kernel⟩ rfl (by decide) rfl rfl rfl (Nat.le_of_ble_eq_true rfl) d_L_interrupt_4 (by decide) ⟨⟨by decide, by decide⟩, by decide, "java/util/NoSuchElementException", cl_L_21, Or.inr ⟨by decide, ⟨⟨by decide, by decide⟩, by decide, "java/lang/IllegalStateException", cl_L_23, Or.inl ⟨rfl, ca_IllegalStateException, rfl⟩⟩⟩⟩ (fun q => ?_)
      refine a_astore_n (pc := 15) E d_L_interrupt_15 rfl (by decide) ?_
      refine a_iconst (v := 2) (pc := 16) E d_L_interrupt_16 (by decide) ?_
      exact a_iret (pc := 17) E hr hlk rfl d_L_interrupt_17 (by decide) (by decide) (by decide) rfl
set_option maxHeartbeats 4000000 in
set_option maxRecDepth 100000 in
theorem w_restart (l : Launch) (D : va_G) (ar : Nat → ClassId) (lay : Nat → Nat → Nat) (M : hm_M) (q : Int32) (htr : l.stackTraces = false) (hI : IvC M) : Ct l D ar lay y_L_restart rm_w true [.ref (lay 0 0), .int q] M (lw_rI n_D M (r_restart M q)) := by
  refine Ct.ofWith (cc := method_10_code) (maxL := 3) (ret := (some .int)) (by decide) cw_L_restart (Nat.le_of_ble_eq_true rfl) ?_
  intro p e s m below meth c E hr hlk htab hH
  have hC := c_H_restart l D ar lay M q htr hI
  have hk := k_restart M q
  revert hC hk
  generalize r_restart M q = r
  intro hC hk
  rcases r with ⟨o, N⟩ | ex
  · cases o with
    | some w => exact hk.elim
    | none =>
      refine a_aload_n (pc := 0) E d_L_restart_0 rfl rfl ?_
      refine a_iload_n (pc := 1) E d_L_restart_1 rfl rfl ?_
      refine a_wr ?_
      refine b_VZ (pc := 2) (n := 1) E (hC) ⟨by decide, by decide, ml_L_41, im_H_restart, sl_H_restart, ii_H, cd_H_restart, ⟨by decide, by decide⟩, by decide +kernel⟩ rfl (by decide) rfl rfl (by decide) rfl (Nat.le_of_ble_eq_true rfl) d_L_restart_2 (by decide) ?_
      refine a_goto (tgt := 14) (pc := 5) E d_L_restart_5 (by decide) ?_
      refine a_iconst (v := 0) (pc := 14) E d_L_restart_14 (by decide) ?_
      exact a_iret (pc := 15) E hr hlk rfl d_L_restart_15 (by decide) (by decide) (by decide) rfl
  · have hk : ex ∈ ["java/util/NoSuchElementException", "java/lang/IllegalStateException"] := hk
    simp only [List.mem_cons, List.not_mem_nil, or_false] at hk
    rcases hk with rfl | rfl
    · refine a_aload_n (pc := 0) E d_L_restart_0 rfl rfl ?_
      refine a_iload_n (pc := 1) E d_L_restart_1 rfl rfl ?_
      refine a_wr ?_
      refine a_callVC (pc := 2) (n := 1) (hp := 8) E htab hC ⟨by decide, by decide, ml_L_41, im_H_restart, sl_H_restart, ii_H, cd_H_restart, ⟨by decide, by decide⟩, by decide +kernel⟩ rfl (by decide) rfl rfl rfl (Nat.le_of_ble_eq_true rfl) d_L_restart_2 (by decide) ⟨⟨by decide, by decide⟩, by decide, "java/util/NoSuchElementException", cl_L_21, Or.inl ⟨rfl, ca_NoSuchElementException, rfl⟩⟩ (fun q => ?_)
      refine a_astore_n (pc := 8) E d_L_restart_8 rfl (by decide) ?_
      refine a_iconst (v := 1) (pc := 9) E d_L_restart_9 (by decide) ?_
      exact a_iret (pc := 10) E hr hlk rfl d_L_restart_10 (by decide) (by decide) (by decide) rfl
    · refine a_aload_n (pc := 0) E d_L_restart_0 rfl rfl ?_
      refine a_iload_n (pc := 1) E d_L_restart_1 rfl rfl ?_
      refine a_wr ?_
      refine a_callVC (pc := 2) (n := 1) (hp := 11) E htab hC ⟨by decide, by decide, ml_L_41, im_H_restart, sl_H_restart, ii_H, cd_H_restart, ⟨by decide, by decide⟩, by decide +kernel⟩ rfl (by decide) rfl rfl rfl (Nat.le_of_ble_eq_true rfl) d_L_restart_2 (by decide) ⟨⟨by decide, by decide⟩, by decide, "java/util/NoSuchElementException", cl_L_21, Or.inr ⟨by decide, ⟨⟨by decide, by decide⟩, by decide, "java/lang/IllegalStateException", cl_L_23, Or.inl ⟨rfl, ca_IllegalStateException, rfl⟩⟩⟩⟩ (fun q => ?_)
      refine a_astore_n (pc := 11) E d_L_restart_11 rfl (by decide) ?_
      refine a_iconst (v := 2) (pc := 12) E d_L_restart_12 (by decide) ?_
      exact a_iret (pc := 13) E hr hlk rfl d_L_restart_13 (by decide) (by decide) (by decide) rfl
set_option maxHeartbeats 4000000 in
set_option maxRecDepth 100000 in
theorem w_log (l : Launch) (D : va_G) (ar : Nat → ClassId) (lay : Nat → Nat → Nat) (M : hm_M) (i : Int32) (htr : l.stackTraces = false) (hI : IvC M) : Ct l D ar lay y_L_log rm_w true [.ref (lay 0 0), .int i, .ref (lay 40 0)] M (lw_rI n_E M (r_log M i)) := by
  refine Ct.ofWith (cc := method_11_code) (maxL := 4) (ret := (some .int)) (by decide) cw_L_log (Nat.le_of_ble_eq_true rfl) ?_
  intro p e s m below meth c E hr hlk htab hH
  have hC := c_H_log l D ar lay M i htr hI
  have hk := k_log M i
  revert hC hk
  generalize r_log M i = r
  intro hC hk
  rcases r with ⟨o, N⟩ | ex
  · cases o with
    | none => exact hk.elim
    | some w =>
      cases w with
      | ref q => exact hk.elim
      | int v =>
        refine a_aload_n (pc := 0) E d_L_log_0 rfl rfl ?_
        refine a_iconst (v := 0) (pc := 1) E d_L_log_1 (by decide) ?_
        refine a_aload_n (pc := 2) E d_L_log_2 rfl rfl ?_
        refine a_iload_n (pc := 3) E d_L_log_3 rfl rfl ?_
        refine b_VI (pc := 4) (n := 1) E (hC) ⟨by decide, by decide, ml_L_45, im_H_log, sl_H_log, ii_H, cd_H_log, ⟨by decide, by decide⟩, by decide +kernel⟩ rfl (by decide) rfl rfl (by decide) rfl (Nat.le_of_ble_eq_true rfl) d_L_log_4 (by decide) ?_
        refine a_i2l (pc := 7) E d_L_log_7 ?_
        refine a_wr ?_
        refine s_40 (pc := 8) E d_L_log_8 (ix_of (by decide) (by decide)) ?_
        refine a_goto (tgt := 15) (pc := 9) E d_L_log_9 (by decide) ?_
        refine a_iconst (v := 0) (pc := 15) E d_L_log_15 (by decide) ?_
        exact a_iret (pc := 16) E hr hlk rfl d_L_log_16 (by decide) (by decide) (by decide) rfl
      | _ => exact hk.elim
  · have hk : ex ∈ ["java/lang/IllegalArgumentException"] := hk
    simp only [List.mem_cons, List.not_mem_nil, or_false] at hk
    subst hk
    refine a_aload_n (pc := 0) E d_L_log_0 rfl rfl ?_
    refine a_iconst (v := 0) (pc := 1) E d_L_log_1 (by decide) ?_
    refine a_aload_n (pc := 2) E d_L_log_2 rfl rfl ?_
    refine a_iload_n (pc := 3) E d_L_log_3 rfl rfl ?_
    refine a_callVC (pc := 4) (n := 1) (hp := 12) E htab hC ⟨by decide, by decide, ml_L_45, im_H_log, sl_H_log, ii_H, cd_H_log, ⟨by decide, by decide⟩, by decide +kernel⟩ rfl (by decide) rfl rfl rfl (Nat.le_of_ble_eq_true rfl) d_L_log_4 (by decide) ⟨⟨by decide, by decide⟩, by decide, "java/lang/IllegalArgumentException", cl_L_13, Or.inl ⟨rfl, ca_IllegalArgumentException, rfl⟩⟩ (fun q => ?_)
    refine a_astore_n (pc := 12) E d_L_log_12 rfl (by decide) ?_
    refine a_iconst (v := 1) (pc := 13) E d_L_log_13 (by decide) ?_
    exact a_iret (pc := 14) E hr hlk rfl d_L_log_14 (by decide) (by decide) (by decide) rfl
set_option maxHeartbeats 4000000 in
set_option maxRecDepth 100000 in
theorem w_place (l : Launch) (D : va_G) (ar : Nat → ClassId) (lay : Nat → Nat → Nat) (M : hm_M) (q w : Int32) (htr : l.stackTraces = false) (hI : IvC M) : Ct l D ar lay y_L_place rm_w true [.ref (lay 0 0), .int q, .int w, .ref (lay 40 0)] M (lw_rI n_E M (r_place M q w)) := by
  refine Ct.ofWith (cc := method_12_code) (maxL := 5) (ret := (some .int)) (by decide) cw_L_place (Nat.le_of_ble_eq_true rfl) ?_
  intro p e s m below meth c E hr hlk htab hH
  have hC := c_H_place l D ar lay M q w htr
  have hk := k_place M q w
  revert hC hk
  generalize r_place M q w = r
  intro hC hk
  rcases r with ⟨o, N⟩ | ex
  · cases o with
    | none => exact hk.elim
    | some w =>
      cases w with
      | ref q => exact hk.elim
      | int v =>
        refine a_aload_n (pc := 0) E d_L_place_0 rfl rfl ?_
        refine a_iconst (v := 0) (pc := 1) E d_L_place_1 (by decide) ?_
        refine a_aload_n (pc := 2) E d_L_place_2 rfl rfl ?_
        refine a_iload_n (pc := 3) E d_L_place_3 rfl rfl ?_
        refine a_iload_n (pc := 4) E d_L_place_4 rfl rfl ?_
        refine b_VI (pc := 5) (n := 2) E (hC) ⟨by decide, by decide, ml_L_48, im_H_place, sl_H_place, ii_H, cd_H_place, ⟨by decide, by decide⟩, by decide +kernel⟩ rfl (by decide) rfl rfl (by decide) rfl (Nat.le_of_ble_eq_true rfl) d_L_place_5 (by decide) ?_
        refine a_i2l (pc := 8) E d_L_place_8 ?_
        refine a_wr ?_
        refine s_40 (pc := 9) E d_L_place_9 (ix_of (by decide) (by decide)) ?_
        refine a_goto (tgt := 17) (pc := 10) E d_L_place_10 (by decide) ?_
        refine a_iconst (v := 0) (pc := 17) E d_L_place_17 (by decide) ?_
        exact a_iret (pc := 18) E hr hlk rfl d_L_place_18 (by decide) (by decide) (by decide) rfl
      | _ => exact hk.elim
  · have hk : ex ∈ ["java/lang/IllegalArgumentException"] := hk
    simp only [List.mem_cons, List.not_mem_nil, or_false] at hk
    subst hk
    refine a_aload_n (pc := 0) E d_L_place_0 rfl rfl ?_
    refine a_iconst (v := 0) (pc := 1) E d_L_place_1 (by decide) ?_
    refine a_aload_n (pc := 2) E d_L_place_2 rfl rfl ?_
    refine a_iload_n (pc := 3) E d_L_place_3 rfl rfl ?_
    refine a_iload_n (pc := 4) E d_L_place_4 rfl rfl ?_
    refine a_callVC (pc := 5) (n := 2) (hp := 13) E htab hC ⟨by decide, by decide, ml_L_48, im_H_place, sl_H_place, ii_H, cd_H_place, ⟨by decide, by decide⟩, by decide +kernel⟩ rfl (by decide) rfl rfl rfl (Nat.le_of_ble_eq_true rfl) d_L_place_5 (by decide) ⟨⟨by decide, by decide⟩, by decide, "java/lang/IllegalArgumentException", cl_L_13, Or.inl ⟨rfl, ca_IllegalArgumentException, rfl⟩⟩ (fun q => ?_)
    refine a_astore (pc := 13) E d_L_place_13 (by decide) ?_
    refine a_iconst (v := 1) (pc := 15) E d_L_place_15 (by decide) ?_
    exact a_iret (pc := 16) E hr hlk rfl d_L_place_16 (by decide) (by decide) (by decide) rfl
set_option maxHeartbeats 4000000 in
set_option maxRecDepth 100000 in
theorem w_message (l : Launch) (D : va_G) (ar : Nat → ClassId) (lay : Nat → Nat → Nat) (M : hm_M) (x w : Int32) (htr : l.stackTraces = false) (hI : IvC M) : Ct l D ar lay y_L_message rm_w true [.ref (lay 0 0), .int x, .int w, .ref (lay 40 0)] M (lw_rI n_C M (r_message M x w)) := by
  refine Ct.ofWith (cc := method_13_code) (maxL := 5) (ret := (some .int)) (by decide) cw_L_message (Nat.le_of_ble_eq_true rfl) ?_
  intro p e s m below meth c E hr hlk htab hH
  have hC := c_H_message l D ar lay M x w htr hI
  have hk := k_message M x w
  revert hC hk
  generalize r_message M x w = r
  intro hC hk
  rcases r with ⟨o, N⟩ | ex
  · cases o with
    | none => exact hk.elim
    | some w =>
      cases w with
      | ref q => exact hk.elim
      | int v =>
        refine a_aload_n (pc := 0) E d_L_message_0 rfl rfl ?_
        refine a_iconst (v := 0) (pc := 1) E d_L_message_1 (by decide) ?_
        refine a_aload_n (pc := 2) E d_L_message_2 rfl rfl ?_
        refine a_iload_n (pc := 3) E d_L_message_3 rfl rfl ?_
        refine a_iload_n (pc := 4) E d_L_message_4 rfl rfl ?_
        refine b_VI (pc := 5) (n := 2) E (hC) ⟨by decide, by decide, ml_L_52, im_H_message, sl_H_message, ii_H, cd_H_message, ⟨by decide, by decide⟩, by decide +kernel⟩ rfl (by decide) rfl rfl (by decide) rfl (Nat.le_of_ble_eq_true rfl) d_L_message_5 (by decide) ?_
        refine a_i2l (pc := 8) E d_L_message_8 ?_
        refine a_wr ?_
        refine s_40 (pc := 9) E d_L_message_9 (ix_of (by decide) (by decide)) ?_
        refine a_goto (tgt := 21) (pc := 10) E d_L_message_10 (by decide) ?_
        refine a_iconst (v := 0) (pc := 21) E d_L_message_21 (by decide) ?_
        exact a_iret (pc := 22) E hr hlk rfl d_L_message_22 (by decide) (by decide) (by decide) rfl
      | _ => exact hk.elim
  · have hk : ex ∈ ["java/util/NoSuchElementException", "java/lang/IllegalArgumentException"] := hk
    simp only [List.mem_cons, List.not_mem_nil, or_false] at hk
    rcases hk with rfl | rfl
    · refine a_aload_n (pc := 0) E d_L_message_0 rfl rfl ?_
      refine a_iconst (v := 0) (pc := 1) E d_L_message_1 (by decide) ?_
      refine a_aload_n (pc := 2) E d_L_message_2 rfl rfl ?_
      refine a_iload_n (pc := 3) E d_L_message_3 rfl rfl ?_
      refine a_iload_n (pc := 4) E d_L_message_4 rfl rfl ?_
      refine a_callVC (pc := 5) (n := 2) (hp := 13) E htab hC ⟨by decide, by decide, ml_L_52, im_H_message, sl_H_message, ii_H, cd_H_message, ⟨by decide, by decide⟩, by decide +kernel⟩ rfl (by decide) rfl rfl rfl (Nat.le_of_ble_eq_true rfl) d_L_message_5 (by decide) ⟨⟨by decide, by decide⟩, by decide, "java/util/NoSuchElementException", cl_L_21, Or.inl ⟨rfl, ca_NoSuchElementException, rfl⟩⟩ (fun q => ?_)
      refine a_astore (pc := 13) E d_L_message_13 (by decide) ?_
      refine a_iconst (v := 1) (pc := 15) E d_L_message_15 (by decide) ?_
      exact a_iret (pc := 16) E hr hlk rfl d_L_message_16 (by decide) (by decide) (by decide) rfl
    · refine a_aload_n (pc := 0) E d_L_message_0 rfl rfl ?_
      refine a_iconst (v := 0) (pc := 1) E d_L_message_1 (by decide) ?_
      refine a_aload_n (pc := 2) E d_L_message_2 rfl rfl ?_
      refine a_iload_n (pc := 3) E d_L_message_3 rfl rfl ?_
      refine a_iload_n (pc := 4) E d_L_message_4 rfl rfl ?_
      refine a_callVC (pc := 5) (n := 2) (hp := 17) E htab hC ⟨by decide, by decide, ml_L_52, im_H_message, sl_H_message, ii_H, cd_H_message, ⟨by decide, by decide⟩, by decide +kernel⟩ rfl (by decide) rfl rfl rfl (Nat.le_of_ble_eq_true rfl) d_L_message_5 (by decide) ⟨⟨by decide, by decide⟩, by decide, "java/util/NoSuchElementException", cl_L_21, Or.inr ⟨by decide, ⟨⟨by decide, by decide⟩, by decide, "java/lang/IllegalArgumentException", cl_L_13, Or.inl ⟨rfl, ca_IllegalArgumentException, rfl⟩⟩⟩⟩ (fun q => ?_)
      refine a_astore (pc := 17) E d_L_message_17 (by decide) ?_
      refine a_iconst (v := 2) (pc := 19) E d_L_message_19 (by decide) ?_
      exact a_iret (pc := 20) E hr hlk rfl d_L_message_20 (by decide) (by decide) (by decide) rfl
set_option maxHeartbeats 4000000 in
set_option maxRecDepth 100000 in
theorem w_told (l : Launch) (D : va_G) (ar : Nat → ClassId) (lay : Nat → Nat → Nat) (M : hm_M) (q w : Int32) (htr : l.stackTraces = false) (hI : IvC M) : Ct l D ar lay y_L_told rm_w true [.ref (lay 0 0), .int q, .int w, .ref (lay 40 0)] M (lw_rI n_C M (r_told M q w)) := by
  refine Ct.ofWith (cc := method_14_code) (maxL := 5) (ret := (some .int)) (by decide) cw_L_told (Nat.le_of_ble_eq_true rfl) ?_
  intro p e s m below meth c E hr hlk htab hH
  have hC := c_H_told l D ar lay M q w htr hI
  have hk := k_told M q w
  revert hC hk
  generalize r_told M q w = r
  intro hC hk
  rcases r with ⟨o, N⟩ | ex
  · cases o with
    | none => exact hk.elim
    | some w =>
      cases w with
      | ref q => exact hk.elim
      | int v =>
        refine a_aload_n (pc := 0) E d_L_told_0 rfl rfl ?_
        refine a_iconst (v := 0) (pc := 1) E d_L_told_1 (by decide) ?_
        refine a_aload_n (pc := 2) E d_L_told_2 rfl rfl ?_
        refine a_iload_n (pc := 3) E d_L_told_3 rfl rfl ?_
        refine a_iload_n (pc := 4) E d_L_told_4 rfl rfl ?_
        refine b_VI (pc := 5) (n := 2) E (hC) ⟨by decide, by decide, ml_L_55, im_H_told, sl_H_told, ii_H, cd_H_told, ⟨by decide, by decide⟩, by decide +kernel⟩ rfl (by decide) rfl rfl (by decide) rfl (Nat.le_of_ble_eq_true rfl) d_L_told_5 (by decide) ?_
        refine a_i2l (pc := 8) E d_L_told_8 ?_
        refine a_wr ?_
        refine s_40 (pc := 9) E d_L_told_9 (ix_of (by decide) (by decide)) ?_
        refine a_goto (tgt := 21) (pc := 10) E d_L_told_10 (by decide) ?_
        refine a_iconst (v := 0) (pc := 21) E d_L_told_21 (by decide) ?_
        exact a_iret (pc := 22) E hr hlk rfl d_L_told_22 (by decide) (by decide) (by decide) rfl
      | _ => exact hk.elim
  · have hk : ex ∈ ["java/util/NoSuchElementException", "java/lang/IllegalArgumentException"] := hk
    simp only [List.mem_cons, List.not_mem_nil, or_false] at hk
    rcases hk with rfl | rfl
    · refine a_aload_n (pc := 0) E d_L_told_0 rfl rfl ?_
      refine a_iconst (v := 0) (pc := 1) E d_L_told_1 (by decide) ?_
      refine a_aload_n (pc := 2) E d_L_told_2 rfl rfl ?_
      refine a_iload_n (pc := 3) E d_L_told_3 rfl rfl ?_
      refine a_iload_n (pc := 4) E d_L_told_4 rfl rfl ?_
      refine a_callVC (pc := 5) (n := 2) (hp := 13) E htab hC ⟨by decide, by decide, ml_L_55, im_H_told, sl_H_told, ii_H, cd_H_told, ⟨by decide, by decide⟩, by decide +kernel⟩ rfl (by decide) rfl rfl rfl (Nat.le_of_ble_eq_true rfl) d_L_told_5 (by decide) ⟨⟨by decide, by decide⟩, by decide, "java/util/NoSuchElementException", cl_L_21, Or.inl ⟨rfl, ca_NoSuchElementException, rfl⟩⟩ (fun q => ?_)
      refine a_astore (pc := 13) E d_L_told_13 (by decide) ?_
      refine a_iconst (v := 1) (pc := 15) E d_L_told_15 (by decide) ?_
      exact a_iret (pc := 16) E hr hlk rfl d_L_told_16 (by decide) (by decide) (by decide) rfl
    · refine a_aload_n (pc := 0) E d_L_told_0 rfl rfl ?_
      refine a_iconst (v := 0) (pc := 1) E d_L_told_1 (by decide) ?_
      refine a_aload_n (pc := 2) E d_L_told_2 rfl rfl ?_
      refine a_iload_n (pc := 3) E d_L_told_3 rfl rfl ?_
      refine a_iload_n (pc := 4) E d_L_told_4 rfl rfl ?_
      refine a_callVC (pc := 5) (n := 2) (hp := 17) E htab hC ⟨by decide, by decide, ml_L_55, im_H_told, sl_H_told, ii_H, cd_H_told, ⟨by decide, by decide⟩, by decide +kernel⟩ rfl (by decide) rfl rfl rfl (Nat.le_of_ble_eq_true rfl) d_L_told_5 (by decide) ⟨⟨by decide, by decide⟩, by decide, "java/util/NoSuchElementException", cl_L_21, Or.inr ⟨by decide, ⟨⟨by decide, by decide⟩, by decide, "java/lang/IllegalArgumentException", cl_L_13, Or.inl ⟨rfl, ca_IllegalArgumentException, rfl⟩⟩⟩⟩ (fun q => ?_)
      refine a_astore (pc := 17) E d_L_told_17 (by decide) ?_
      refine a_iconst (v := 2) (pc := 19) E d_L_told_19 (by decide) ?_
      exact a_iret (pc := 20) E hr hlk rfl d_L_told_20 (by decide) (by decide) (by decide) rfl
