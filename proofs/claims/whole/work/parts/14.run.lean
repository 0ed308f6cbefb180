/-- the class turns nothing beyond its own families, nor the number of parts -/
def Kp (M M' : hm_M) : Prop := M' 0 0 5 = M 0 0 5 ∧ ∀ f, 15 < f → M' f = M f
theorem Kp.rf {M : hm_M} : Kp M M := ⟨rfl, fun _ _ => rfl⟩
theorem Kp.tr {A B C : hm_M} (h : Kp A B) (g : Kp B C) : Kp A C := ⟨g.1.trans h.1, fun f hf => (g.2 f hf).trans (h.2 f hf)⟩
theorem Kp.up {A M : hm_M} (h : Kp A M) {f k j : Nat} {x : Int32} (h5 : ¬ (f = 0 ∧ j = 5)) (hf : f ≤ 15) : Kp A (hm_up M f k j x) := by
  refine h.tr ⟨?_, fun g hg => hm_up_fam (by omega)⟩
  rw [hm_up_at, if_neg]
  intro q; exact h5 ⟨q.1.symm, q.2.2.symm⟩
theorem Kp.free {A M : hm_M} (h : Kp A M) (num : Int32) (n i : Nat) : Kp A (f_free num n i M) := h.tr ⟨by rw [f_free_ne _ _ _ _ 0 (by decide)], fun f hf => f_free_ne _ _ _ _ f (by omega)⟩
theorem Kp.tbL {A M : hm_M} (h : Kp A M) (k n : Nat) : Kp A (f_tbL k n M) := h.tr ⟨by rw [f_tbL_ne k 0 (by decide) (by decide)], fun f hf => f_tbL_ne k f (by omega) (by omega) n M⟩
theorem Kp.undo {A M : hm_M} (h : Kp A M) (k : Nat) (st : Int32) : Kp A (f_undo M k st) := ((((h.tbL k _).free _ 8 0).up (by omega) (by omega)).up (by omega) (by omega)).up (by omega) (by omega)
theorem Kp.fin {A M : hm_M} (h : Kp A M) (k : Nat) : Kp A (f_fin M k) := (h.up (by omega) (by omega)).free _ 8 0
theorem Kp.brk {A M : hm_M} (h : Kp A M) (k : Nat) : Kp A (f_brk M k) := by
  unfold f_brk f_brkO
  split
  · exact h
  · exact (h.undo _ 0).up (by omega) (by omega)
theorem Kp.gets {A M : hm_M} (h : Kp A M) (k : Nat) (a : Int32) : Kp A (f_getsM M k a) := by
  unfold f_getsM
  split
  · exact (h.up (by omega) (by omega)).brk k
  · exact h.up (by omega) (by omega)
theorem Kp.sdA {A M : hm_M} (h : Kp A M) (k : Nat) : Kp A (f_sdA M k) := by
  unfold f_sdA f_sdL
  split
  · exact (h.up (by omega) (by omega)).up (by omega) (by omega)
  · exact (((h.up (by omega) (by omega)).up (by omega) (by omega)).up (by omega) (by omega)).up (by omega) (by omega)
theorem Kp.sd {A M : hm_M} (h : Kp A M) (k : Nat) : Kp A (f_sd M k) := by
  unfold f_sd
  split
  · exact (h.sdA k).fin k
  · exact (h.sdA k).up (by omega) (by omega)
theorem Kp.addM {A M : hm_M} (h : Kp A M) (a b c d : Int32) : Kp A (f_add M a b c d) := ((((h.up (by omega) (by omega)).up (by omega) (by omega)).up (by omega) (by omega)).up (by omega) (by omega)).up (by omega) (by omega)
theorem Kp.turn {A M : hm_M} (h : Kp A M) (k : Nat) : Kp A (f_turn M k) := by
  unfold f_turn
  split
  · split
    · split
      · unfold f_chg
        split
        · exact h.gets _ _
        · exact ((h.up (by omega) (by omega)).up (by omega) (by omega)).sd k
      · split
        · unfold f_send
          split
          · exact ((h.addM _ _ _ _).up (by omega) (by omega)).sd k
          · exact h.undo k 4
        · unfold f_hear
          split
          · exact h.gets _ _
          · unfold f_hearM
            split
            · exact (h.up (by omega) (by omega)).up (by omega) (by omega)
            · exact ((((h.up (by omega) (by omega)).up (by omega) (by omega)).up (by omega) (by omega)).up (by omega) (by omega)).sd k
    · exact (h.up (by omega) (by omega)).undo k 4
  · exact h.fin k
theorem IvC.chg {M : hm_M} (h : IvC M) {k : Nat} (hk : k < 6) (hw : (M 10 k 3).toInt < (M 10 k 4).toInt ∧ M 11 k (M 10 k 3).toNatClampNeg ≠ 1) : IvC (f_chg M k) := by
  unfold f_chg
  split
  · exact h.gets hk hw
  · exact IvC.sd (IvC.up1 (h.up2 (h.numIn hk))) hk (by simpa [hm_up_at] using hw.1)
theorem IvC.send {M : hm_M} (h : IvC M) {k : Nat} (hk : k < 6) (hl : (M 10 k 3).toInt < (M 10 k 4).toInt) : IvC (f_send M k) := by
  unfold f_send
  split
  · rename_i h60
    have q := lt_n 60 (by decide) h60
    have hs := h.sent
    exact IvC.sd (IvC.up15 (h.addM h60 _ _ _ _) (by rw [inc_toInt hs.1 (by omega)]; omega)) hk (by simpa [f_add, hm_up_at] using hl)
  · exact h.undo hk (by decide)
theorem IvC.hear {M : hm_M} (h : IvC M) {k : Nat} (hk : k < 6) (hw : (M 10 k 3).toInt < (M 10 k 4).toInt ∧ M 11 k (M 10 k 3).toNatClampNeg ≠ 1) : IvC (f_hear M k) := by
  unfold f_hear
  split
  · exact h.gets hk hw
  · unfold f_hearM
    split
    · exact (h.up2 (h.numIn hk)).st hk (fun q => absurd q (by decide))
    · rename_i c34
      exact IvC.sd (IvC.up1 (IvC.up15 (IvC.up6 (h.up2 (h.numIn hk))) ⟨by have := h.firstIn c34; omega, by have := h.firstIn c34; have := h.sent; omega⟩)) hk (by simpa [hm_up_at] using hw.1)
theorem IvC.turn {M : hm_M} (h : IvC M) {k : Nat} (hk : k < 6) : IvC (f_turn M k) := by
  unfold f_turn
  split
  · rename_i hlt
    have hl := Int32.lt_iff_toInt_lt.mp hlt
    split
    · split
      · rename_i e
        exact h.chg hk ⟨hl, by rw [e]; decide⟩
      · split
        · exact h.send hk hl
        · rename_i e
          exact h.hear hk ⟨hl, e⟩
    · exact h.up14.undo hk (by decide)
  · exact h.fin hk
def f_round : Nat → Nat → hm_M → hm_M
  | 0, _, M => M
  | n + 1, i, M => f_round n (i + 1) (if f_may M i = 0 then M else f_turn M i)
def f_runL : Nat → hm_M → hm_M
  | 0, M => M
  | n + 1, M => f_runL n (f_round (M 0 0 5).toNatClampNeg 0 M)
def r_run (M : hm_M) (x : Int32) : hr_T := if x < 0 then .inr "java/lang/IllegalArgumentException" else if x ≤ 50 then .inl (some (.int (f_runL x.toNatClampNeg M 0 0 7 - M 0 0 7)), f_runL x.toNatClampNeg M) else .inr "java/lang/IllegalArgumentException"
def f_closeM : Nat → Nat → hm_M → hm_M
  | 0, _, M => M
  | n + 1, i, M => f_closeM n (i + 1) (if M 10 i 2 = 3 then M else if M 10 i 2 = 5 then M else f_undo M i 5)
def f_closeN : Nat → Nat → hm_M → Int32 → Int32
  | 0, _, _, a => a
  | n + 1, i, M, a => f_closeN n (i + 1) (if M 10 i 2 = 3 then M else if M 10 i 2 = 5 then M else f_undo M i 5) (if M 10 i 2 = 3 then a else if M 10 i 2 = 5 then a else a + 1)
theorem Kp.round : ∀ (n i : Nat) {A M : hm_M}, Kp A M → Kp A (f_round n i M) := by
  intro n
  induction n with
  | zero => intro i A M h; exact h
  | succ n ih => intro i A M h; simp only [f_round]; apply ih; split; exact h; exact h.turn i
theorem IvC.round : ∀ (n i : Nat) {M : hm_M}, i + n ≤ 6 → IvC M → IvC (f_round n i M) := by
  intro n
  induction n with
  | zero => intro i M _ h; exact h
  | succ n ih => intro i M hb h; simp only [f_round]; apply ih _ (by omega); split; exact h; exact h.turn (by omega)
set_option maxHeartbeats 4000000 in
set_option maxRecDepth 100000 in
theorem c_H_run (l : Launch) (D : va_G) (ar : Nat → ClassId) (lay : Nat → Nat → Nat) (M : hm_M) (x : Int32) (htr : l.stackTraces = false) (hI : IvC M) : Ct l D ar lay y_H_run rm_p true [.ref (lay 0 0), .int x] M (r_run M x) := by
  refine Ct.of (cc := prog_1_method_7_code) (maxL := 5) (ret := (some .int)) (by decide) cd_H_run (Nat.le_of_ble_eq_true rfl) ?_
  intro p e s m below meth c E hr hlk hno hH
  obtain ⟨j, hj, ej⟩ := pc_nI (b := 6) hI.pc.1 hI.pc.2 (by decide)
  have inner : ∀ (n i : Nat) (x4 x3 : Int32) (M' : hm_M), i + n = j → x4 = nI i → IvC M' → M' 0 0 5 = M 0 0 5 → (∀ z : Int32, AW p l e rm_p s m [(.ref (lay 0 0) : Value), (.int x : Value)].toArray below meth c D ar lay true 5 0 0 (MQX below (fun _ st o t => CQ D ar lay M s.heap.size true (r_run M x) st o t) [(.ref (lay 0 0) : Value), (.int x : Value)].toArray s rm_p.cells rm_p.slots (hw_A lay true s.heap.size)) 74 [(4, .int z), (3, .int x3), (2, .int (M 0 0 7)), (0, .ref (lay 0 0)), (1, .int x)] [] (f_round n i M')) → AW p l e rm_p s m [(.ref (lay 0 0) : Value), (.int x : Value)].toArray below meth c D ar lay true 5 0 0 (MQX below (fun _ st o t => CQ D ar lay M s.heap.size true (r_run M x) st o t) [(.ref (lay 0 0) : Value), (.int x : Value)].toArray s rm_p.cells rm_p.slots (hw_A lay true s.heap.size)) 35 [(4, .int x4), (3, .int x3), (2, .int (M 0 0 7)), (0, .ref (lay 0 0)), (1, .int x)] [] M' := by
    intro n
    induction n with
    | zero =>
      intro i x4 x3 M' hi hx hI' h5 hk0
      refine a_iload (pc := 35) E d_H_run_35 rfl ?_
      refine a_aload_n (pc := 37) E d_H_run_37 rfl rfl ?_
      refine g_H_5 (pc := 38) E d_H_run_38 fl_H_42 ?_
      refine a_icmp_ge (tgt := 74) (pc := 41) E d_H_run_41 (by decide) (fun c_41 => ?_) (fun c_41 => ?_)
      · exact hk0 _
      · exact absurd (by rw [hx, h5, ej]; exact nI_le (by omega) (by omega)) c_41
    | succ n ih =>
      intro i x4 x3 M' hi hx hI' h5 hk0
      have hin : vp_in x4 6 := by rw [hx]; exact vp_in_nI (by omega) (by decide)
      have e0 : (nI i).toNatClampNeg = i := nI_clamp (by omega)
      have hk4 : x4.toNatClampNeg < 6 := vp_nn hin
      refine a_iload (pc := 35) E d_H_run_35 rfl ?_
      refine a_aload_n (pc := 37) E d_H_run_37 rfl rfl ?_
      refine g_H_5 (pc := 38) E d_H_run_38 fl_H_42 ?_
      refine a_icmp_ge (tgt := 74) (pc := 41) E d_H_run_41 (by decide) (fun c_41 => ?_) (fun c_41 => ?_)
      · exact absurd c_41 (by rw [hx, h5, ej]; exact nI_ge (by omega) (by omega))
      · refine a_aload_n (pc := 44) E d_H_run_44 rfl rfl ?_
        refine g_H_2 (pc := 45) E d_H_run_45 fl_H_18 ?_
        refine a_iload (pc := 48) E d_H_run_48 rfl ?_
        refine r_3 (pc := 50) E d_H_run_50 hin ?_
        refine b_VI (pc := 51) (n := 0) E (c_P_mayHaveTurn l D ar lay _ _ hk4) ⟨by decide, by decide, ml_H_93, im_P_mayHaveTurn, sl_P_mayHaveTurn, ii_P, cd_P_mayHaveTurn, ⟨by decide, by decide⟩, by decide +kernel⟩ rfl hk4 rfl rfl (by decide) rfl (Nat.le_of_ble_eq_true rfl) d_H_run_51 (by decide) ?_
        refine a_if_eq (tgt := 68) (pc := 54) E d_H_run_54 (by decide) (fun c_54 => ?_) (fun c_54 => ?_)
        · rw [hx, e0] at c_54
          have hIn := hI'
          have h5n := h5
          refine a_iinc (pc := 68) E d_H_run_68 rfl (by decide) ?_
          refine a_goto (tgt := 35) (pc := 71) E d_H_run_71 (by decide) ?_
          exact a_ls5 (ih (i + 1) _ x3 _ (by omega) (by rw [hx]; exact nI_1 i) hIn h5n (fun z => by have h := hk0 z; simp only [f_round, c_54, if_true, if_false] at h; first | exact h | (rw [hx, e0]; exact h))) rfl rfl rfl rfl rfl
        · rw [hx, e0] at c_54
          have hIn := hI'.turn (k := x4.toNatClampNeg) hk4
          have h5n := ((Kp.rf.turn (M := M') x4.toNatClampNeg).1).trans h5
          refine a_aload_n (pc := 57) E d_H_run_57 rfl rfl ?_
          refine a_aload_n (pc := 58) E d_H_run_58 rfl rfl ?_
          refine g_H_2 (pc := 59) E d_H_run_59 fl_H_18 ?_
          refine a_iload (pc := 62) E d_H_run_62 rfl ?_
          refine r_3 (pc := 64) E d_H_run_64 hin ?_
          refine b_VZ (pc := 65) (n := 1) E (c_H_takeTurn l D ar lay _ _ hk4 hI') ⟨by decide, by decide, ml_H_99, im_H_takeTurn, sl_H_takeTurn, ii_H, cd_H_takeTurn, ⟨by decide, by decide⟩, by decide +kernel⟩ rfl (by decide) rfl rfl (by decide) rfl (Nat.le_of_ble_eq_true rfl) d_H_run_65 (by decide) ?_
          refine a_iinc (pc := 68) E d_H_run_68 rfl (by decide) ?_
          refine a_goto (tgt := 35) (pc := 71) E d_H_run_71 (by decide) ?_
          exact a_ls5 (ih (i + 1) _ x3 _ (by omega) (by rw [hx]; exact nI_1 i) hIn h5n (fun z => by have h := hk0 z; simp only [f_round, c_54, if_true, if_false] at h; first | exact h | (rw [hx, e0]; exact h))) rfl rfl rfl rfl rfl
  have outer : ¬ x < 0 → x ≤ 50 → ∀ (n i : Nat) (x3 : Int32) (M' : hm_M), i + n = x.toNatClampNeg → x3 = nI i → IvC M' → M' 0 0 5 = M 0 0 5 → f_runL n M' = f_runL x.toNatClampNeg M → AW p l e rm_p s m [(.ref (lay 0 0) : Value), (.int x : Value)].toArray below meth c D ar lay true 5 0 0 (MQX below (fun _ st o t => CQ D ar lay M s.heap.size true (r_run M x) st o t) [(.ref (lay 0 0) : Value), (.int x : Value)].toArray s rm_p.cells rm_p.slots (hw_A lay true s.heap.size)) 27 [(3, .int x3), (2, .int (M 0 0 7)), (0, .ref (lay 0 0)), (1, .int x)] [] M' := by
    intro hx0 hx1 n
    obtain ⟨jr, hjr, ejr⟩ := pc_nI (b := 50) (ge_n 0 (by decide) hx0) (le_n 50 (by decide) hx1) (by decide)
    have er : x.toNatClampNeg = jr := by rw [ejr]; exact nI_clamp (by omega)
    induction n with
    | zero =>
      intro i x3 M' hi hx hI' h5 he
      refine a_iload_n (pc := 27) E d_H_run_27 rfl rfl ?_
      refine a_iload_n (pc := 28) E d_H_run_28 rfl rfl ?_
      refine a_icmp_ge (tgt := 80) (pc := 29) E d_H_run_29 (by decide) (fun c_29 => ?_) (fun c_29 => ?_)
      · refine a_aload_n (pc := 80) E d_H_run_80 rfl rfl ?_
        refine g_H_7 (pc := 81) E d_H_run_81 fl_H_105 ?_
        refine a_iload_n (pc := 84) E d_H_run_84 rfl rfl ?_
        refine a_isub (pc := 85) E d_H_run_85 ?_
        exact a_iret (pc := 86) E hr hlk rfl d_H_run_86 (by decide) (by decide) (by decide) (by have he : M' = f_runL x.toNatClampNeg M := he; rw [r_run, if_neg hx0, if_pos hx1, ← he])
      · exact absurd (by rw [hx, ejr]; exact nI_le (by omega) (by omega)) c_29
    | succ n ih =>
      intro i x3 M' hi hx hI' h5 he
      refine a_iload_n (pc := 27) E d_H_run_27 rfl rfl ?_
      refine a_iload_n (pc := 28) E d_H_run_28 rfl rfl ?_
      refine a_icmp_ge (tgt := 80) (pc := 29) E d_H_run_29 (by decide) (fun c_29 => ?_) (fun c_29 => ?_)
      · exact absurd c_29 (by rw [hx, ejr]; exact nI_ge (by omega) (by omega))
      · refine a_iconst (v := 0) (pc := 32) E d_H_run_32 (by decide) ?_
        refine a_istore (pc := 33) E d_H_run_33 (by decide) ?_
        refine a_ls5 (inner j 0 _ x3 M' (Nat.zero_add _) (by decide) hI' h5 (fun z => ?_)) rfl rfl rfl rfl rfl
        refine a_iinc (pc := 74) E d_H_run_74 rfl (by decide) ?_
        refine a_goto (tgt := 27) (pc := 77) E d_H_run_77 (by decide) ?_
        exact a_ls4 (ih (i + 1) _ _ (by omega) (by rw [hx]; exact nI_1 i) (IvC.round j 0 (by omega) hI') (((Kp.rf.round j 0).1).trans h5) (by rw [← he]; simp only [f_runL]; rw [h5, ej, nI_clamp (by omega)])) rfl rfl rfl rfl
  refine a_iload_n (pc := 0) E d_H_run_0 rfl rfl ?_
  refine a_if_lt (tgt := 10) (pc := 1) E d_H_run_1 (by decide) (fun c_1 => ?_) (fun c_1 => ?_)
  · exact a_throw (pc := 10) E htr hlk hno hH d_H_run_10 d_H_run_13 d_H_run_14 d_H_run_16 d_H_run_19 cl_H_35 ib_IllegalArgumentException ii_IllegalArgumentException str_H_103 (by decide) (by decide) oa_H_39 (by decide) (by decide) (by decide) (by decide) (by decide) (by decide) (by simp [r_run, c_1])
  · refine a_iload_n (pc := 4) E d_H_run_4 rfl rfl ?_
    refine a_bipush (v := 50) (pc := 5) E d_H_run_5 (by decide) ?_
    refine a_icmp_le (tgt := 20) (pc := 7) E d_H_run_7 (by decide) (fun c_7 => ?_) (fun c_7 => ?_)
    · refine a_aload_n (pc := 20) E d_H_run_20 rfl rfl ?_
      refine g_H_7 (pc := 21) E d_H_run_21 fl_H_105 ?_
      refine a_istore_n (pc := 24) E d_H_run_24 rfl (by decide) ?_
      refine a_iconst (v := 0) (pc := 25) E d_H_run_25 (by decide) ?_
      refine a_istore_n (pc := 26) E d_H_run_26 rfl (by decide) ?_
      refine a_wr ?_
      exact a_ls4 (outer c_1 c_7 x.toNatClampNeg 0 _ M (Nat.zero_add _) (by decide) hI rfl rfl) rfl rfl rfl rfl
    · exact a_throw (pc := 10) E htr hlk hno hH d_H_run_10 d_H_run_13 d_H_run_14 d_H_run_16 d_H_run_19 cl_H_35 ib_IllegalArgumentException ii_IllegalArgumentException str_H_103 (by decide) (by decide) oa_H_39 (by decide) (by decide) (by decide) (by decide) (by decide) (by decide) (by simp [r_run, c_1, c_7])
set_option maxHeartbeats 4000000 in
set_option maxRecDepth 100000 in
theorem c_H_close (l : Launch) (D : va_G) (ar : Nat → ClassId) (lay : Nat → Nat → Nat) (M : hm_M)  (hI : IvC M) : Ct l D ar lay y_H_close rm_p true [.ref (lay 0 0)] M (.inl (some (.int (f_closeN (M 0 0 5).toNatClampNeg 0 M 0)), f_closeM (M 0 0 5).toNatClampNeg 0 M)) := by
  refine Ct.of (cc := prog_1_method_11_code) (maxL := 4) (ret := (some .int)) (by decide) cd_H_close (Nat.le_of_ble_eq_true rfl) ?_
  intro p e s m below meth c E hr hlk hno hH
  have loop : ∀ (n : Nat) (i : Nat) (x a : Int32) (M' : hm_M), i + n = (M 0 0 5).toNatClampNeg → x = nI i → IvC M' → M' 0 0 5 = M 0 0 5 → f_closeN n i M' a = f_closeN (M 0 0 5).toNatClampNeg 0 M 0 → f_closeM n i M' = f_closeM (M 0 0 5).toNatClampNeg 0 M → AW p l e rm_p s m [(.ref (lay 0 0) : Value)].toArray below meth c D ar lay true 4 0 0 (MQX below (fun _ st o t => CQ D ar lay M s.heap.size true (.inl (some (.int (f_closeN (M 0 0 5).toNatClampNeg 0 M 0)), f_closeM (M 0 0 5).toNatClampNeg 0 M)) st o t) [(.ref (lay 0 0) : Value)].toArray s rm_p.cells rm_p.slots (hw_A lay true s.heap.size)) 4 [(2, .int x), (1, .int a), (0, .ref (lay 0 0))] [] M' := by
    intro n
    induction n with
    | zero =>
      intro i x a M' hi hx hI' h5 he hM
      obtain ⟨j, hj, ej⟩ := pc_nI (b := 6) hI.pc.1 hI.pc.2 (by decide)
      have hi2 := hi
      rw [ej, nI_clamp (by omega)] at hi2
      refine a_iload_n (pc := 4) E d_H_close_4 rfl rfl ?_
      refine a_aload_n (pc := 5) E d_H_close_5 rfl rfl ?_
      refine g_H_5 (pc := 6) E d_H_close_6 fl_H_42 ?_
      refine a_icmp_ge (tgt := 51) (pc := 9) E d_H_close_9 (by decide) (fun c_9 => ?_) (fun c_9 => ?_)
      · refine a_iload_n (pc := 51) E d_H_close_51 rfl rfl ?_
        exact a_iret (pc := 52) E hr hlk rfl d_H_close_52 (by decide) (by decide) (by decide) (by rw [← he, ← hM]; rfl)
      · exact absurd (by rw [hx, h5, ej]; exact nI_le (by omega) (by omega)) c_9
    | succ n ih =>
      intro i x a M' hi hx hI' h5 he hM
      obtain ⟨j, hj, ej⟩ := pc_nI (b := 6) hI.pc.1 hI.pc.2 (by decide)
      have hi2 := hi
      rw [ej, nI_clamp (by omega)] at hi2
      have hin : vp_in x 6 := by rw [hx]; exact vp_in_nI (by omega) (by decide)
      have e0 : (nI i).toNatClampNeg = i := nI_clamp (by omega)
      have hk6 : x.toNatClampNeg < 6 := vp_nn hin
      refine a_iload_n (pc := 4) E d_H_close_4 rfl rfl ?_
      refine a_aload_n (pc := 5) E d_H_close_5 rfl rfl ?_
      refine g_H_5 (pc := 6) E d_H_close_6 fl_H_42 ?_
      refine a_icmp_ge (tgt := 51) (pc := 9) E d_H_close_9 (by decide) (fun c_9 => ?_) (fun c_9 => ?_)
      · exact absurd c_9 (by rw [hx, h5, ej]; exact nI_ge (by omega) (by omega))
      · refine a_aload_n (pc := 12) E d_H_close_12 rfl rfl ?_
        refine g_H_2 (pc := 13) E d_H_close_13 fl_H_18 ?_
        refine a_iload_n (pc := 16) E d_H_close_16 rfl rfl ?_
        refine r_3 (pc := 17) E d_H_close_17 hin ?_
        refine a_astore_n (pc := 18) E d_H_close_18 rfl (by decide) ?_
        refine a_aload_n (pc := 19) E d_H_close_19 rfl rfl ?_
        refine g_P_2 (pc := 20) E hk6 d_H_close_20 fl_H_67 ?_
        refine a_iconst (v := 3) (pc := 23) E d_H_close_23 (by decide) ?_
        refine a_icmp_eq (tgt := 45) (pc := 24) E d_H_close_24 (by decide) (fun c_24 => ?_) (fun c_24 => ?_)
        · rw [hx, e0] at c_24
          have hIn := hI'
          have h5n := h5
          refine a_iinc (pc := 45) E d_H_close_45 rfl (by decide) ?_
          refine a_goto (tgt := 4) (pc := 48) E d_H_close_48 (by decide) ?_
          exact a_ls3 (ih (i + 1) _ _ _ (by omega) (by rw [hx]; exact nI_1 i) hIn h5n (by rw [← he]; simp [f_closeN, hx, e0, c_24]; try rfl) (by rw [← hM]; simp [f_closeM, hx, e0, c_24])) rfl rfl rfl
        · rw [hx, e0] at c_24
          refine a_aload_n (pc := 27) E d_H_close_27 rfl rfl ?_
          refine g_P_2 (pc := 28) E hk6 d_H_close_28 fl_H_67 ?_
          refine a_iconst (v := 5) (pc := 31) E d_H_close_31 (by decide) ?_
          refine a_icmp_eq (tgt := 45) (pc := 32) E d_H_close_32 (by decide) (fun c_32 => ?_) (fun c_32 => ?_)
          · rw [hx, e0] at c_32
            have hIn := hI'
            have h5n := h5
            refine a_iinc (pc := 45) E d_H_close_45 rfl (by decide) ?_
            refine a_goto (tgt := 4) (pc := 48) E d_H_close_48 (by decide) ?_
            exact a_ls3 (ih (i + 1) _ _ _ (by omega) (by rw [hx]; exact nI_1 i) hIn h5n (by rw [← he]; simp [f_closeN, hx, e0, c_24, c_32]; try rfl) (by rw [← hM]; simp [f_closeM, hx, e0, c_24, c_32])) rfl rfl rfl
          · rw [hx, e0] at c_32
            have hIn := hI'.undo (k := x.toNatClampNeg) (st := 5) hk6 (by decide)
            have h5n := ((Kp.rf.undo (M := M') x.toNatClampNeg 5).1).trans h5
            refine a_aload_n (pc := 35) E d_H_close_35 rfl rfl ?_
            refine a_aload_n (pc := 36) E d_H_close_36 rfl rfl ?_
            refine a_iconst (v := 5) (pc := 37) E d_H_close_37 (by decide) ?_
            refine b_VI (pc := 38) (n := 2) E (c_H_undo l D ar lay _ _ 5 hk6 hI') ⟨by decide, by decide, ml_H_120, im_H_undo, sl_H_undo, ii_H, cd_H_undo, ⟨by decide, by decide⟩, by decide +kernel⟩ rfl (by decide) rfl rfl (by decide) rfl (Nat.le_of_ble_eq_true rfl) d_H_close_38 (by decide) ?_
            refine a_pop (pc := 41) E d_H_close_41 rfl ?_
            refine a_iinc (pc := 42) E d_H_close_42 rfl (by decide) ?_
            refine a_iinc (pc := 45) E d_H_close_45 rfl (by decide) ?_
            refine a_goto (tgt := 4) (pc := 48) E d_H_close_48 (by decide) ?_
            exact a_ls3 (ih (i + 1) _ _ _ (by omega) (by rw [hx]; exact nI_1 i) hIn h5n (by rw [← he]; simp [f_closeN, hx, e0, c_24, c_32]; try rfl) (by rw [← hM]; simp [f_closeM, hx, e0, c_24, c_32])) rfl rfl rfl
  refine a_iconst (v := 0) (pc := 0) E d_H_close_0 (by decide) ?_
  refine a_istore_n (pc := 1) E d_H_close_1 rfl (by decide) ?_
  refine a_iconst (v := 0) (pc := 2) E d_H_close_2 (by decide) ?_
  refine a_istore_n (pc := 3) E d_H_close_3 rfl (by decide) ?_
  refine a_wr ?_
  exact a_ls3 (loop _ 0 _ _ M (Nat.zero_add _) (by decide) hI rfl rfl rfl) rfl rfl rfl
