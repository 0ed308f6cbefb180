def f_ring (M : hm_M) (q : Int32) : Nat → Nat → Nat → Option Nat
  | 0, _, _ => none
  | n + 1, c, w => if f_wayof M c = -1 then none else if f_wayof M c = q then some w else f_ring M q n (f_wayof M c).toNatClampNeg (if f_yields M (f_wayof M c).toNatClampNeg w = 0 then w else (f_wayof M c).toNatClampNeg)
def f_brkO (M : hm_M) (r : Option Nat) : hm_M := match r with
  | none => M
  | some w => hm_up (f_undo M w 0) 0 0 8 (f_undo M w 0 0 0 8 + 1)
def f_brk (M : hm_M) (k : Nat) : hm_M := f_brkO M (f_ring M (M 10 k 0) 6 k k)
theorem f_ring_lt {M : hm_M} (h : IvC M) {q : Int32} : ∀ (n c w v : Nat), c < 6 → w < 6 → f_ring M q n c w = some v → v < 6 := by
  intro n
  induction n with
  | zero => intro c w v _ _ e; simp [f_ring] at e
  | succ n ih =>
    intro c w v hc hw e
    simp only [f_ring] at e
    by_cases h1 : f_wayof M c = -1
    · simp [h1] at e
    · by_cases h2 : f_wayof M c = q
      · simp [h1, h2] at e; omega
      · simp only [h1, h2, if_false] at e
        have hn := vp_nn (h.wayIn hc h1)
        refine ih _ _ v hn ?_ e
        split
        · exact hw
        · exact hn
theorem IvC.up0 {M : hm_M} (h : IvC M) {j : Nat} {x : Int32} (h5 : ¬ j = 5) (h6 : ¬ j = 6) : IvC (hm_up M 0 0 j x) :=
  h.same (by simp [hm_up_at]; omega) (by simp [hm_up_at]; omega) (by simp [hm_up_at]) (fun k j _ _ => by simp [hm_up_at]) (hm_up_fam (by decide)) (hm_up_fam (by decide)) (hm_up_fam (by decide)) (hm_up_fam (by decide))
theorem IvC.brk {M : hm_M} (h : IvC M) {k : Nat} (hk : k < 6) : IvC (f_brk M k) := by
  unfold f_brk f_brkO
  split
  · exact h
  · rename_i w hw
    exact (h.undo (f_ring_lt h 6 k k w hk hk hw) (by decide)).up0 (by decide) (by decide)
set_option maxHeartbeats 4000000 in
set_option maxRecDepth 100000 in
theorem c_H_breakRing (l : Launch) (D : va_G) (ar : Nat → ClassId) (lay : Nat → Nat → Nat) (M : hm_M) (k : Nat) (hk : k < 6) (hI : IvC M) : Ct l D ar lay y_H_breakRing rm_2 true [.ref (lay 0 0), .ref (lay 10 k)] M (.inl (none, f_brk M k)) := by
  refine Ct.of (cc := prog_1_method_30_code) (maxL := 6) (ret := none) (by decide) cd_H_breakRing (Nat.le_of_ble_eq_true rfl) ?_
  intro p e s m below meth c E hr hlk hno hH
  have loop : ∀ (n : Nat) (i cc0 w : Nat) (x : Int32), i + n = 6 → x = nI i → cc0 < 6 → w < 6 → f_ring M (M 10 k 0) n cc0 w = f_ring M (M 10 k 0) 6 k k → AW p l e rm_2 s m [(.ref (lay 0 0) : Value), (.ref (lay 10 k) : Value)].toArray below meth c D ar lay true 6 0 0 (MQX below (fun _ st o t => CQ D ar lay M s.heap.size true (.inl (none, f_brk M k)) st o t) [(.ref (lay 0 0) : Value), (.ref (lay 10 k) : Value)].toArray s rm_2.cells rm_2.slots (hw_A lay true s.heap.size)) 7 [(4, .int x), (3, .ref (lay 10 cc0)), (2, .ref (lay 10 w)), (0, .ref (lay 0 0)), (1, .ref (lay 10 k))] [] M := by
    intro n
    induction n with
    | zero =>
      intro i cc0 w x hi hx hc0 hw0 he
      refine a_iload (pc := 7) E d_H_breakRing_7 rfl ?_
      refine a_bipush (v := 6) (pc := 9) E d_H_breakRing_9 (by decide) ?_
      refine a_icmp_ge (tgt := 79) (pc := 11) E d_H_breakRing_11 (by decide) (fun c_11 => ?_) (fun c_11 => ?_)
      · exact a_vret (pc := 79) E hr hlk d_H_breakRing_79 (by decide) (by decide) (by decide) (by rw [f_brk, ← he]; rfl)
      · exact absurd (by rw [hx]; exact nI_le (a := 6) (b := i) (by omega) (by omega)) c_11
    | succ n ih =>
      intro i cc0 w x hi hx hc0 hw0 he
      refine a_iload (pc := 7) E d_H_breakRing_7 rfl ?_
      refine a_bipush (v := 6) (pc := 9) E d_H_breakRing_9 (by decide) ?_
      refine a_icmp_ge (tgt := 79) (pc := 11) E d_H_breakRing_11 (by decide) (fun c_11 => ?_) (fun c_11 => ?_)
      · exact absurd c_11 (by rw [hx]; exact nI_ge (a := i) (b := 6) (by omega) (by decide))
      · refine a_aload_n (pc := 14) E d_H_breakRing_14 rfl rfl ?_
        refine a_aload_n (pc := 15) E d_H_breakRing_15 rfl rfl ?_
        refine b_VI (pc := 16) (n := 1) E (c_H_partInTheWayOf l D ar lay _ cc0 hc0 hI) ⟨by decide, by decide, ml_H_231, im_H_partInTheWayOf, sl_H_partInTheWayOf, ii_H, cd_H_partInTheWayOf, ⟨by decide, by decide⟩, by decide +kernel⟩ rfl (by decide) rfl rfl (by decide) rfl (Nat.le_of_ble_eq_true rfl) d_H_breakRing_16 (by decide) ?_
        refine a_istore (pc := 19) E d_H_breakRing_19 (by decide) ?_
        refine a_iload (pc := 21) E d_H_breakRing_21 rfl ?_
        refine a_iconst (v := (-1)) (pc := 23) E d_H_breakRing_23 (by decide) ?_
        refine a_icmp_ne (tgt := 28) (pc := 24) E d_H_breakRing_24 (by decide) (fun c_24 => ?_) (fun c_24 => ?_)
        · refine a_iload (pc := 28) E d_H_breakRing_28 rfl ?_
          refine a_aload_n (pc := 30) E d_H_breakRing_30 rfl rfl ?_
          refine g_P_0 (pc := 31) E (by assumption) d_H_breakRing_31 fl_H_211 ?_
          refine a_icmp_ne (tgt := 55) (pc := 34) E d_H_breakRing_34 (by decide) (fun c_34 => ?_) (fun c_34 => ?_)
          · refine a_aload_n (pc := 55) E d_H_breakRing_55 rfl rfl ?_
            refine g_H_2 (pc := 56) E d_H_breakRing_56 fl_H_18 ?_
            refine a_iload (pc := 59) E d_H_breakRing_59 rfl ?_
            refine r_3 (pc := 61) E d_H_breakRing_61 (hI.wayIn hc0 c_24) ?_
            refine a_astore_n (pc := 62) E d_H_breakRing_62 rfl (by decide) ?_
            refine a_aload_n (pc := 63) E d_H_breakRing_63 rfl rfl ?_
            refine a_aload_n (pc := 64) E d_H_breakRing_64 rfl rfl ?_
            refine b_VI (pc := 65) (n := 1) E (c_P_yieldsBefore l D ar lay _ _ w (vp_nn (hI.wayIn hc0 c_24)) hw0) ⟨by decide, by decide, ml_H_234, im_P_yieldsBefore, sl_P_yieldsBefore, ii_P, cd_P_yieldsBefore, ⟨by decide, by decide⟩, by decide +kernel⟩ rfl (vp_nn (hI.wayIn hc0 c_24)) rfl rfl (by decide) rfl (Nat.le_of_ble_eq_true rfl) d_H_breakRing_65 (by decide) ?_
            refine a_if_eq (tgt := 73) (pc := 68) E d_H_breakRing_68 (by decide) (fun c_68 => ?_) (fun c_68 => ?_)
            · refine a_iinc (pc := 73) E d_H_breakRing_73 rfl (by decide) ?_
              refine a_goto (tgt := 7) (pc := 76) E d_H_breakRing_76 (by decide) ?_
              exact a_ls5 (ih (i + 1) _ _ _ (by omega) (by rw [hx]; exact nI_1 i) (vp_nn (hI.wayIn hc0 c_24)) (by first | exact hw0 | exact vp_nn (hI.wayIn hc0 c_24)) (by rw [← he]; simp [f_ring, c_24, c_34, c_68])) rfl rfl rfl rfl rfl
            · refine a_aload_n (pc := 71) E d_H_breakRing_71 rfl rfl ?_
              refine a_astore_n (pc := 72) E d_H_breakRing_72 rfl (by decide) ?_
              refine a_iinc (pc := 73) E d_H_breakRing_73 rfl (by decide) ?_
              refine a_goto (tgt := 7) (pc := 76) E d_H_breakRing_76 (by decide) ?_
              exact a_ls5 (ih (i + 1) _ _ _ (by omega) (by rw [hx]; exact nI_1 i) (vp_nn (hI.wayIn hc0 c_24)) (by first | exact hw0 | exact vp_nn (hI.wayIn hc0 c_24)) (by rw [← he]; simp [f_ring, c_24, c_34, c_68])) rfl rfl rfl rfl rfl
          · refine a_aload_n (pc := 37) E d_H_breakRing_37 rfl rfl ?_
            refine a_aload_n (pc := 38) E d_H_breakRing_38 rfl rfl ?_
            refine a_iconst (v := 0) (pc := 39) E d_H_breakRing_39 (by decide) ?_
            refine b_VI (pc := 40) (n := 2) E (c_H_undo l D ar lay _ w 0 hw0 hI) ⟨by decide, by decide, ml_H_120, im_H_undo, sl_H_undo, ii_H, cd_H_undo, ⟨by decide, by decide⟩, by decide +kernel⟩ rfl (by decide) rfl rfl (by decide) rfl (Nat.le_of_ble_eq_true rfl) d_H_breakRing_40 (by decide) ?_
            refine a_pop (pc := 43) E d_H_breakRing_43 rfl ?_
            refine a_aload_n (pc := 44) E d_H_breakRing_44 rfl rfl ?_
            refine a_dup (pc := 45) E d_H_breakRing_45 rfl ?_
            refine g_H_8 (pc := 46) E d_H_breakRing_46 fl_H_161 ?_
            refine a_iconst (v := 1) (pc := 49) E d_H_breakRing_49 (by decide) ?_
            refine a_iadd (pc := 50) E d_H_breakRing_50 ?_
            refine p_H_8 (pc := 51) E d_H_breakRing_51 fl_H_161 ?_
            exact a_vret (pc := 54) E hr hlk d_H_breakRing_54 (by decide) (by decide) (by decide) (by rw [f_brk, ← he]; simp only [f_ring, if_neg c_24, if_pos c_34, f_brkO])
        · exact a_vret (pc := 27) E hr hlk d_H_breakRing_27 (by decide) (by decide) (by decide) (by rw [f_brk, ← he]; simp [f_ring, f_brkO, c_24])
  refine a_aload_n (pc := 0) E d_H_breakRing_0 rfl rfl ?_
  refine a_astore_n (pc := 1) E d_H_breakRing_1 rfl (by decide) ?_
  refine a_aload_n (pc := 2) E d_H_breakRing_2 rfl rfl ?_
  refine a_astore_n (pc := 3) E d_H_breakRing_3 rfl (by decide) ?_
  refine a_iconst (v := 0) (pc := 4) E d_H_breakRing_4 (by decide) ?_
  refine a_istore (pc := 5) E d_H_breakRing_5 (by decide) ?_
  refine a_wr ?_
  exact a_ls5 (loop 6 0 k k _ rfl (by decide) hk hk rfl) rfl rfl rfl rfl rfl
def f_getsR (M : hm_M) (k : Nat) (a : Int32) : Int32 := if M 2 0 a.toNatClampNeg = -1 then 1 else if M 2 0 a.toNatClampNeg = M 10 k 0 then 1 else 0
def f_getsM (M : hm_M) (k : Nat) (a : Int32) : hm_M := if f_getsR M k a = 0 then f_brk (hm_up M 10 k 2 1) k else hm_up M 2 0 a.toNatClampNeg (M 10 k 0)
theorem IvC.st {M : hm_M} (h : IvC M) {k : Nat} (hk : k < 6) {v : Int32} (hw : v = 1 → (M 10 k 3).toInt < (M 10 k 4).toInt ∧ M 11 k (M 10 k 3).toNatClampNeg ≠ 1) : IvC (hm_up M 10 k 2 v) := by
  have e3 : hm_up M 10 k 2 v 10 k 3 = M 10 k 3 := by simp [hm_up_at]
  have e2 : hm_up M 10 k 2 v 10 k 2 = v := by simp [hm_up_at]
  refine h.part k (by simp [hm_up_at]) (by simp [hm_up_at]) (by simp [hm_up_at]) (fun k' j q => by simp [hm_up_at, q]) (by simp [hm_up_at]) (by simp [hm_up_at]) (hm_up_fam (by decide)) (hm_up_fam (by decide)) (hm_up_fam (by decide)) (hm_up_fam (by decide)) ?_ ?_
  · rw [e3]; exact ⟨(h.at hk).1, (h.at hk).2.1⟩
  · rw [e2, e3]; exact hw
theorem IvC.numIn {M : hm_M} (h : IvC M) {k : Nat} (hk : k < 6) : M 10 k 0 = -1 ∨ (0 ≤ (M 10 k 0).toInt ∧ (M 10 k 0).toInt < 6) := by
  right; rw [h.num hk, nI_toInt (by omega)]; omega
theorem IvC.gets {M : hm_M} (h : IvC M) {k : Nat} (hk : k < 6) {a : Int32} (hw : (M 10 k 3).toInt < (M 10 k 4).toInt ∧ M 11 k (M 10 k 3).toNatClampNeg ≠ 1) : IvC (f_getsM M k a) := by
  unfold f_getsM
  split
  · exact (h.st hk (fun _ => hw)).brk hk
  · exact h.up2 (h.numIn hk)
set_option maxHeartbeats 4000000 in
set_option maxRecDepth 100000 in
theorem c_H_getsPlace (l : Launch) (D : va_G) (ar : Nat → ClassId) (lay : Nat → Nat → Nat) (M : hm_M) (k : Nat) (a : Int32) (hk : k < 6) (hI : IvC M) (ha : vp_in a 8) (hw : (M 10 k 3).toInt < (M 10 k 4).toInt ∧ M 11 k (M 10 k 3).toNatClampNeg ≠ 1) : Ct l D ar lay y_H_getsPlace rm_3 true [.ref (lay 0 0), .ref (lay 10 k), .int a] M (.inl (some (.int (f_getsR M k a)), f_getsM M k a)) := by
  refine Ct.of (cc := prog_1_method_27_code) (maxL := 4) (ret := (some .boolean)) (by decide) cd_H_getsPlace (Nat.le_of_ble_eq_true rfl) ?_
  intro p e s m below meth c E hr hlk hno hH
  refine a_aload_n (pc := 0) E d_H_getsPlace_0 rfl rfl ?_
  refine g_H_1 (pc := 1) E d_H_getsPlace_1 fl_H_13 ?_
  refine a_iload_n (pc := 4) E d_H_getsPlace_4 rfl rfl ?_
  refine r_2 (pc := 5) E d_H_getsPlace_5 ha ?_
  refine a_istore_n (pc := 6) E d_H_getsPlace_6 rfl (by decide) ?_
  refine a_iload_n (pc := 7) E d_H_getsPlace_7 rfl rfl ?_
  refine a_iconst (v := (-1)) (pc := 8) E d_H_getsPlace_8 (by decide) ?_
  refine a_icmp_eq (tgt := 32) (pc := 9) E d_H_getsPlace_9 (by decide) (fun c_9 => ?_) (fun c_9 => ?_)
  · refine a_aload_n (pc := 32) E d_H_getsPlace_32 rfl rfl ?_
    refine g_H_1 (pc := 33) E d_H_getsPlace_33 fl_H_13 ?_
    refine a_iload_n (pc := 36) E d_H_getsPlace_36 rfl rfl ?_
    refine a_aload_n (pc := 37) E d_H_getsPlace_37 rfl rfl ?_
    refine g_P_0 (pc := 38) E (by assumption) d_H_getsPlace_38 fl_H_211 ?_
    refine a_wr ?_
    refine s_2 (pc := 41) E d_H_getsPlace_41 ha ?_
    refine a_iconst (v := 1) (pc := 42) E d_H_getsPlace_42 (by decide) ?_
    exact a_iret (pc := 43) E hr hlk rfl d_H_getsPlace_43 (by decide) (by decide) (by decide) (by simp [f_getsM, f_getsR, hm_up_at, c_9])
  · refine a_iload_n (pc := 12) E d_H_getsPlace_12 rfl rfl ?_
    refine a_aload_n (pc := 13) E d_H_getsPlace_13 rfl rfl ?_
    refine g_P_0 (pc := 14) E (by assumption) d_H_getsPlace_14 fl_H_211 ?_
    refine a_icmp_eq (tgt := 32) (pc := 17) E d_H_getsPlace_17 (by decide) (fun c_17 => ?_) (fun c_17 => ?_)
    · refine a_aload_n (pc := 32) E d_H_getsPlace_32 rfl rfl ?_
      refine g_H_1 (pc := 33) E d_H_getsPlace_33 fl_H_13 ?_
      refine a_iload_n (pc := 36) E d_H_getsPlace_36 rfl rfl ?_
      refine a_aload_n (pc := 37) E d_H_getsPlace_37 rfl rfl ?_
      refine g_P_0 (pc := 38) E (by assumption) d_H_getsPlace_38 fl_H_211 ?_
      refine a_wr ?_
      refine s_2 (pc := 41) E d_H_getsPlace_41 ha ?_
      refine a_iconst (v := 1) (pc := 42) E d_H_getsPlace_42 (by decide) ?_
      exact a_iret (pc := 43) E hr hlk rfl d_H_getsPlace_43 (by decide) (by decide) (by decide) (by simp [f_getsM, f_getsR, hm_up_at, c_9, c_17])
    · refine a_aload_n (pc := 20) E d_H_getsPlace_20 rfl rfl ?_
      refine a_iconst (v := 1) (pc := 21) E d_H_getsPlace_21 (by decide) ?_
      refine a_wr ?_
      refine p_P_2 (pc := 22) E (by assumption) d_H_getsPlace_22 fl_H_67 ?_
      refine a_aload_n (pc := 25) E d_H_getsPlace_25 rfl rfl ?_
      refine a_aload_n (pc := 26) E d_H_getsPlace_26 rfl rfl ?_
      refine b_VZ (pc := 27) (n := 1) E (c_H_breakRing l D ar lay _ _ hk (hI.st hk (fun _ => hw))) ⟨by decide, by decide, ml_H_225, im_H_breakRing, sl_H_breakRing, ii_H, cd_H_breakRing, ⟨by decide, by decide⟩, by decide +kernel⟩ rfl (by decide) rfl rfl (by decide) rfl (Nat.le_of_ble_eq_true rfl) d_H_getsPlace_27 (by decide) ?_
      refine a_iconst (v := 0) (pc := 30) E d_H_getsPlace_30 (by decide) ?_
      exact a_iret (pc := 31) E hr hlk rfl d_H_getsPlace_31 (by decide) (by decide) (by decide) (by simp [f_getsM, f_getsR, hm_up_at, c_9, c_17])
def f_sdL (M : hm_M) (k : Nat) : hm_M := if 400 ≤ M 0 0 6 then M else hm_up (hm_up M 5 0 (M 0 0 6).toNatClampNeg (100 * M 10 k 0 + M 10 k 3)) 0 0 6 (M 0 0 6 + 1)
def f_sdA (M : hm_M) (k : Nat) : hm_M := hm_up (hm_up (f_sdL M k) 0 0 7 (M 0 0 7 + 1)) 10 k 3 (M 10 k 3 + 1)
def f_sd (M : hm_M) (k : Nat) : hm_M := if M 10 k 4 ≤ M 10 k 3 + 1 then f_fin (f_sdA M k) k else hm_up (f_sdA M k) 10 k 2 0
theorem inc_toInt {x : Int32} (h0 : 0 ≤ x.toInt) (h1 : x.toInt < 1000000) : (x + 1).toInt = x.toInt + 1 := by
  obtain ⟨j, hj, e⟩ := pc_nI (b := 1000000) h0 (by omega) (by decide)
  rw [e, nI_1, nI_toInt (by omega), nI_toInt (by omega)]
  omega
theorem IvC.sdL {M : hm_M} (h : IvC M) (k : Nat) : IvC (f_sdL M k) := by
  unfold f_sdL
  split
  · exact h
  · rename_i q
    have q2 := gt_n 0 (by decide) (x := M 0 0 6)
    have h6 : (M 0 0 6).toInt < 400 := by
      rcases Int.lt_or_le (M 0 0 6).toInt 400 with z | z
      · exact z
      · exact absurd (Int32.le_iff_toInt_le.mpr (show (400 : Int32).toInt ≤ _ from z)) q
    have hh := h
    obtain ⟨g1, g2, g3, g4, g5, g6, g7, g8, g9⟩ := hh
    refine ⟨by simpa [hm_up_at] using g1, ?_, by simpa [hm_up_at] using g3, by simpa [hm_up_at] using g4, by simpa [hm_up_at] using g5, by simpa [hm_up_at] using g6, by simpa [hm_up_at] using g7, by simpa [hm_up_at] using g8, by simpa [hm_up_at] using g9⟩
    have e : hm_up (hm_up M 5 0 (M 0 0 6).toNatClampNeg (100 * M 10 k 0 + M 10 k 3)) 0 0 6 (M 0 0 6 + 1) 0 0 6 = M 0 0 6 + 1 := by simp [hm_up_at]
    rw [e, inc_toInt g2.1 (by omega)]
    omega
theorem f_sdL_ne (M : hm_M) (k f : Nat) (h0 : ¬ f = 0) (h5 : ¬ f = 5) : f_sdL M k f = M f := by
  unfold f_sdL
  split
  · rfl
  · rw [hm_up_fam h0, hm_up_fam h5]
theorem IvC.sdV {M : hm_M} (h : IvC M) {k : Nat} (hk : k < 6) (hl : (M 10 k 3).toInt < (M 10 k 4).toInt) {v : Int32} (hv : v ≠ 1) : IvC (hm_up (f_sdA M k) 10 k 2 v) := by
  have h2 : IvC (hm_up (f_sdL M k) 0 0 7 (M 0 0 7 + 1)) := (h.sdL k).up0 (by decide) (by decide)
  have hat := h.at hk
  have e10 : f_sdL M k 10 = M 10 := f_sdL_ne M k 10 (by decide) (by decide)
  refine h2.part k (by simp [f_sdA, hm_up_at]) (by simp [f_sdA, hm_up_at]) (by simp [f_sdA, hm_up_at]) (fun k' j q => by simp [f_sdA, hm_up_at, q]) (by simp [f_sdA, hm_up_at]) (by simp [f_sdA, hm_up_at]) ?_ ?_ ?_ ?_ ?_ ?_
  · unfold f_sdA; rw [hm_up_fam (by decide), hm_up_fam (by decide)]
  · unfold f_sdA; rw [hm_up_fam (by decide), hm_up_fam (by decide)]
  · unfold f_sdA; rw [hm_up_fam (by decide), hm_up_fam (by decide)]
  · unfold f_sdA; rw [hm_up_fam (by decide), hm_up_fam (by decide)]
  · have e3 : hm_up (f_sdA M k) 10 k 2 v 10 k 3 = M 10 k 3 + 1 := by simp [f_sdA, hm_up_at]
    have e4 : hm_up (f_sdL M k) 0 0 7 (M 0 0 7 + 1) 10 k 4 = M 10 k 4 := by rw [hm_up_fam (by decide), e10]
    rw [e3, e4, inc_toInt hat.1 (by omega)]
    omega
  · intro q
    have e2 : hm_up (f_sdA M k) 10 k 2 v 10 k 2 = v := by simp [hm_up_at]
    exact absurd (e2.symm.trans q) hv
theorem IvC.sd {M : hm_M} (h : IvC M) {k : Nat} (hk : k < 6) (hl : (M 10 k 3).toInt < (M 10 k 4).toInt) : IvC (f_sd M k) := by
  unfold f_sd
  split
  · exact IvC.free 8 0 (h.sdV hk hl (by decide))
  · exact h.sdV hk hl (by decide)
set_option maxHeartbeats 4000000 in
set_option maxRecDepth 100000 in
theorem c_H_stepIsDone (l : Launch) (D : va_G) (ar : Nat → ClassId) (lay : Nat → Nat → Nat) (M : hm_M) (k : Nat) (hk : k < 6) (hI : IvC M) : Ct l D ar lay y_H_stepIsDone rm_2 true [.ref (lay 0 0), .ref (lay 10 k)] M (.inl (none, f_sd M k)) := by
  refine Ct.of (cc := prog_1_method_28_code) (maxL := 2) (ret := none) (by decide) cd_H_stepIsDone (Nat.le_of_ble_eq_true rfl) ?_
  intro p e s m below meth c E hr hlk hno hH
  refine a_aload_n (pc := 0) E d_H_stepIsDone_0 rfl rfl ?_
  refine g_H_6 (pc := 1) E d_H_stepIsDone_1 fl_H_126 ?_
  refine a_sipush (v := 400) (pc := 4) E d_H_stepIsDone_4 (by decide) ?_
  refine a_icmp_ge (tgt := 41) (pc := 7) E d_H_stepIsDone_7 (by decide) (fun c_7 => ?_) (fun c_7 => ?_)
  · refine a_aload_n (pc := 41) E d_H_stepIsDone_41 rfl rfl ?_
    refine a_dup (pc := 42) E d_H_stepIsDone_42 rfl ?_
    refine g_H_7 (pc := 43) E d_H_stepIsDone_43 fl_H_105 ?_
    refine a_iconst (v := 1) (pc := 46) E d_H_stepIsDone_46 (by decide) ?_
    refine a_iadd (pc := 47) E d_H_stepIsDone_47 ?_
    refine a_wr ?_
    refine p_H_7 (pc := 48) E d_H_stepIsDone_48 fl_H_105 ?_
    refine a_aload_n (pc := 51) E d_H_stepIsDone_51 rfl rfl ?_
    refine a_dup (pc := 52) E d_H_stepIsDone_52 rfl ?_
    refine g_P_3 (pc := 53) E (by assumption) d_H_stepIsDone_53 fl_H_64 ?_
    refine a_iconst (v := 1) (pc := 56) E d_H_stepIsDone_56 (by decide) ?_
    refine a_iadd (pc := 57) E d_H_stepIsDone_57 ?_
    refine p_P_3 (pc := 58) E (by assumption) d_H_stepIsDone_58 fl_H_64 ?_
    refine a_aload_n (pc := 61) E d_H_stepIsDone_61 rfl rfl ?_
    refine g_P_3 (pc := 62) E (by assumption) d_H_stepIsDone_62 fl_H_64 ?_
    refine a_aload_n (pc := 65) E d_H_stepIsDone_65 rfl rfl ?_
    refine g_P_4 (pc := 66) E (by assumption) d_H_stepIsDone_66 fl_H_80 ?_
    refine a_icmp_ge (tgt := 80) (pc := 69) E d_H_stepIsDone_69 (by decide) (fun c_69 => ?_) (fun c_69 => ?_)
    · simp [hm_up_at] at c_69
      refine a_aload_n (pc := 80) E d_H_stepIsDone_80 rfl rfl ?_
      refine a_aload_n (pc := 81) E d_H_stepIsDone_81 rfl rfl ?_
      refine b_VZ (pc := 82) (n := 1) E (c_H_finish l D ar lay _ _ hk) ⟨by decide, by decide, ml_H_183, im_H_finish, sl_H_finish, ii_H, cd_H_finish, ⟨by decide, by decide⟩, by decide +kernel⟩ rfl (by decide) rfl rfl (by decide) rfl (Nat.le_of_ble_eq_true rfl) d_H_stepIsDone_82 (by decide) ?_
      exact a_vret (pc := 85) E hr hlk d_H_stepIsDone_85 (by decide) (by decide) (by decide) (by simp [f_sd, f_sdA, f_sdL, hm_up_at, c_7, c_69])
    · simp [hm_up_at] at c_69
      replace c_69 := Int32.not_le.mpr c_69
      refine a_aload_n (pc := 72) E d_H_stepIsDone_72 rfl rfl ?_
      refine a_iconst (v := 0) (pc := 73) E d_H_stepIsDone_73 (by decide) ?_
      refine p_P_2 (pc := 74) E (by assumption) d_H_stepIsDone_74 fl_H_67 ?_
      refine a_goto (tgt := 85) (pc := 77) E d_H_stepIsDone_77 (by decide) ?_
      exact a_vret (pc := 85) E hr hlk d_H_stepIsDone_85 (by decide) (by decide) (by decide) (by simp [f_sd, f_sdA, f_sdL, hm_up_at, c_7, c_69])
  · refine a_aload_n (pc := 10) E d_H_stepIsDone_10 rfl rfl ?_
    refine g_H_4 (pc := 11) E d_H_stepIsDone_11 fl_H_29 ?_
    refine a_aload_n (pc := 14) E d_H_stepIsDone_14 rfl rfl ?_
    refine g_H_6 (pc := 15) E d_H_stepIsDone_15 fl_H_126 ?_
    refine a_bipush (v := 100) (pc := 18) E d_H_stepIsDone_18 (by decide) ?_
    refine a_aload_n (pc := 20) E d_H_stepIsDone_20 rfl rfl ?_
    refine g_P_0 (pc := 21) E (by assumption) d_H_stepIsDone_21 fl_H_211 ?_
    refine a_imul (pc := 24) E d_H_stepIsDone_24 ?_
    refine a_aload_n (pc := 25) E d_H_stepIsDone_25 rfl rfl ?_
    refine g_P_3 (pc := 26) E (by assumption) d_H_stepIsDone_26 fl_H_64 ?_
    refine a_iadd (pc := 29) E d_H_stepIsDone_29 ?_
    refine a_wr ?_
    refine s_5 (pc := 30) E d_H_stepIsDone_30 (ix_of hI.lc.1 (by have := Int32.lt_iff_toInt_lt.mp (Int32.not_le.mp c_7); exact this)) ?_
    refine a_aload_n (pc := 31) E d_H_stepIsDone_31 rfl rfl ?_
    refine a_dup (pc := 32) E d_H_stepIsDone_32 rfl ?_
    refine g_H_6 (pc := 33) E d_H_stepIsDone_33 fl_H_126 ?_
    refine a_iconst (v := 1) (pc := 36) E d_H_stepIsDone_36 (by decide) ?_
    refine a_iadd (pc := 37) E d_H_stepIsDone_37 ?_
    refine p_H_6 (pc := 38) E d_H_stepIsDone_38 fl_H_126 ?_
    refine a_aload_n (pc := 41) E d_H_stepIsDone_41 rfl rfl ?_
    refine a_dup (pc := 42) E d_H_stepIsDone_42 rfl ?_
    refine g_H_7 (pc := 43) E d_H_stepIsDone_43 fl_H_105 ?_
    refine a_iconst (v := 1) (pc := 46) E d_H_stepIsDone_46 (by decide) ?_
    refine a_iadd (pc := 47) E d_H_stepIsDone_47 ?_
    refine p_H_7 (pc := 48) E d_H_stepIsDone_48 fl_H_105 ?_
    refine a_aload_n (pc := 51) E d_H_stepIsDone_51 rfl rfl ?_
    refine a_dup (pc := 52) E d_H_stepIsDone_52 rfl ?_
    refine g_P_3 (pc := 53) E (by assumption) d_H_stepIsDone_53 fl_H_64 ?_
    refine a_iconst (v := 1) (pc := 56) E d_H_stepIsDone_56 (by decide) ?_
    refine a_iadd (pc := 57) E d_H_stepIsDone_57 ?_
    refine p_P_3 (pc := 58) E (by assumption) d_H_stepIsDone_58 fl_H_64 ?_
    refine a_aload_n (pc := 61) E d_H_stepIsDone_61 rfl rfl ?_
    refine g_P_3 (pc := 62) E (by assumption) d_H_stepIsDone_62 fl_H_64 ?_
    refine a_aload_n (pc := 65) E d_H_stepIsDone_65 rfl rfl ?_
    refine g_P_4 (pc := 66) E (by assumption) d_H_stepIsDone_66 fl_H_80 ?_
    refine a_icmp_ge (tgt := 80) (pc := 69) E d_H_stepIsDone_69 (by decide) (fun c_69 => ?_) (fun c_69 => ?_)
    · simp [hm_up_at] at c_69
      refine a_aload_n (pc := 80) E d_H_stepIsDone_80 rfl rfl ?_
      refine a_aload_n (pc := 81) E d_H_stepIsDone_81 rfl rfl ?_
      refine b_VZ (pc := 82) (n := 1) E (c_H_finish l D ar lay _ _ hk) ⟨by decide, by decide, ml_H_183, im_H_finish, sl_H_finish, ii_H, cd_H_finish, ⟨by decide, by decide⟩, by decide +kernel⟩ rfl (by decide) rfl rfl (by decide) rfl (Nat.le_of_ble_eq_true rfl) d_H_stepIsDone_82 (by decide) ?_
      exact a_vret (pc := 85) E hr hlk d_H_stepIsDone_85 (by decide) (by decide) (by decide) (by simp [f_sd, f_sdA, f_sdL, hm_up_at, c_7, c_69])
    · simp [hm_up_at] at c_69
      replace c_69 := Int32.not_le.mpr c_69
      refine a_aload_n (pc := 72) E d_H_stepIsDone_72 rfl rfl ?_
      refine a_iconst (v := 0) (pc := 73) E d_H_stepIsDone_73 (by decide) ?_
      refine p_P_2 (pc := 74) E (by assumption) d_H_stepIsDone_74 fl_H_67 ?_
      refine a_goto (tgt := 85) (pc := 77) E d_H_stepIsDone_77 (by decide) ?_
      exact a_vret (pc := 85) E hr hlk d_H_stepIsDone_85 (by decide) (by decide) (by decide) (by simp [f_sd, f_sdA, f_sdL, hm_up_at, c_7, c_69])
