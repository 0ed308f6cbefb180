/-- what the class keeps to -/
def IvC (M : hm_M) : Prop :=
  (0 ≤ (M 0 0 5).toInt ∧ (M 0 0 5).toInt ≤ 6) ∧ (0 ≤ (M 0 0 6).toInt ∧ (M 0 0 6).toInt ≤ 400) ∧ (0 ≤ (M 4 0 4).toInt ∧ (M 4 0 4).toInt ≤ 60) ∧
  (∀ k, k < 6 → M 10 k 0 = nI k) ∧ (∀ k, k < 6 → 0 ≤ (M 10 k 3).toInt ∧ (M 10 k 3).toInt ≤ (M 10 k 4).toInt ∧ (M 10 k 4).toInt ≤ 10) ∧
  (∀ k i : Nat, k < 6 → (i : Int) < (M 10 k 4).toInt → M 11 k i ≠ 1 → 0 ≤ (M 12 k i).toInt ∧ (M 12 k i).toInt < 8) ∧
  (∀ k i : Nat, k < 6 → 0 ≤ (M 15 k i).toInt ∧ (M 15 k i).toInt ≤ 60) ∧
  (∀ j, j < 8 → M 2 0 j = -1 ∨ (0 ≤ (M 2 0 j).toInt ∧ (M 2 0 j).toInt < 6)) ∧
  (∀ k, k < 6 → M 10 k 2 = 1 → (M 10 k 3).toInt < (M 10 k 4).toInt ∧ M 11 k (M 10 k 3).toNatClampNeg ≠ 1)
theorem nn_eq (x : Int32) : x.toNatClampNeg = x.toInt.toNat := rfl
theorem IvC.pc {M : hm_M} (h : IvC M) : 0 ≤ (M 0 0 5).toInt ∧ (M 0 0 5).toInt ≤ 6 := h.1
theorem IvC.lc {M : hm_M} (h : IvC M) : 0 ≤ (M 0 0 6).toInt ∧ (M 0 0 6).toInt ≤ 400 := h.2.1
theorem IvC.sent {M : hm_M} (h : IvC M) : 0 ≤ (M 4 0 4).toInt ∧ (M 4 0 4).toInt ≤ 60 := h.2.2.1
theorem IvC.num {M : hm_M} (h : IvC M) {k : Nat} (hk : k < 6) : M 10 k 0 = nI k := h.2.2.2.1 k hk
theorem IvC.at {M : hm_M} (h : IvC M) {k : Nat} (hk : k < 6) : 0 ≤ (M 10 k 3).toInt ∧ (M 10 k 3).toInt ≤ (M 10 k 4).toInt ∧ (M 10 k 4).toInt ≤ 10 := h.2.2.2.2.1 k hk
theorem IvC.a {M : hm_M} (h : IvC M) {k i : Nat} (hk : k < 6) (hi : (i : Int) < (M 10 k 4).toInt) (hn : M 11 k i ≠ 1) : vp_in (M 12 k i) 8 := ix_of (h.2.2.2.2.2.1 k i hk hi hn).1 (h.2.2.2.2.2.1 k i hk hi hn).2
theorem IvC.msg {M : hm_M} (h : IvC M) {k i : Nat} (hk : k < 6) : vp_in (M 15 k i) 61 := ix_of (h.2.2.2.2.2.2.1 k i hk).1 (by have := (h.2.2.2.2.2.2.1 k i hk).2; omega)
theorem IvC.hold {M : hm_M} (h : IvC M) {j : Nat} (hj : j < 8) : M 2 0 j = -1 ∨ (0 ≤ (M 2 0 j).toInt ∧ (M 2 0 j).toInt < 6) := h.2.2.2.2.2.2.2.1 j hj
theorem IvC.wait {M : hm_M} (h : IvC M) {k : Nat} (hk : k < 6) (h1 : M 10 k 2 = 1) : (M 10 k 3).toInt < (M 10 k 4).toInt ∧ M 11 k (M 10 k 3).toNatClampNeg ≠ 1 := h.2.2.2.2.2.2.2.2 k hk h1
def f_append (M : hm_M) (k : Nat) (kd a b : Int32) : hm_M := hm_up (hm_up (hm_up (hm_up M 11 k (M 10 k 4).toNatClampNeg kd) 12 k (M 10 k 4).toNatClampNeg a) 13 k (M 10 k 4).toNatClampNeg b) 10 k 4 (M 10 k 4 + 1)
def f_add (M : hm_M) (fr tt vl ls : Int32) : hm_M := hm_up (hm_up (hm_up (hm_up (hm_up M 4 0 4 (M 4 0 4 + 1)) 7 0 (M 4 0 4 + 1).toNatClampNeg fr) 8 0 (M 4 0 4 + 1).toNatClampNeg tt) 9 0 (M 4 0 4 + 1).toNatClampNeg vl) 6 0 (M 4 0 4 + 1).toNatClampNeg (if ls = 0 then 0 else 2)
def f_free (num : Int32) : Nat → Nat → hm_M → hm_M
  | 0, _, M => M
  | n + 1, i, M => f_free num n (i + 1) (if M 2 0 i = num then hm_up M 2 0 i (-1) else M)
def f_held (M : hm_M) (num : Int32) : Nat → Nat → Int32 → Int32
  | 0, _, a => a
  | n + 1, i, a => f_held M num n (i + 1) (if M 2 0 i = num then a + 1 else a)
def f_done (M : hm_M) : Nat → Nat → Int32 → Int32
  | 0, _, a => a
  | n + 1, i, a => f_done M n (i + 1) (if M 10 i 2 = 3 then a + 1 else a)
def f_way (M : hm_M) : Nat → Nat → Int32 → Int32
  | 0, _, a => a
  | n + 1, i, a => f_way M n (i + 1) (if M 6 0 i = 0 then a + 1 else a)
def f_first (M : hm_M) (q : Int32) : Nat → Nat → Int32
  | 0, _ => -1
  | n + 1, i => if M 8 0 i = q then (if M 6 0 i = 0 then nI i else f_first M q n (i + 1)) else f_first M q n (i + 1)
def f_tb (M : hm_M) (k i : Nat) : hm_M :=
  if M 11 k i = 0 then hm_up M 1 0 (M 12 k i).toNatClampNeg (M 1 0 (M 12 k i).toNatClampNeg - M 13 k i)
  else if M 11 k i = 1 then (if M 6 0 (M 15 k i).toNatClampNeg = 0 then hm_up M 6 0 (M 15 k i).toNatClampNeg 3 else M)
  else hm_up (hm_up M 1 0 (M 12 k i).toNatClampNeg (M 1 0 (M 12 k i).toNatClampNeg - M 9 0 (M 15 k i).toNatClampNeg)) 6 0 (M 15 k i).toNatClampNeg 0
def f_tbL (k : Nat) : Nat → hm_M → hm_M
  | 0, M => M
  | i + 1, M => f_tbL k i (f_tb M k i)
set_option maxHeartbeats 4000000 in
set_option maxRecDepth 100000 in
theorem c_P_append (l : Launch) (D : va_G) (ar : Nat → ClassId) (lay : Nat → Nat → Nat) (M : hm_M) (k : Nat) (kd a b : Int32) (hk : k < 6) (h4 : 0 ≤ (M 10 k 4).toInt) : Ct l D ar lay y_P_append rm_0 true [.ref (lay 10 k), .int kd, .int a, .int b] M (.inl (some (.int (if M 10 k 4 < 10 then 1 else 0)), if M 10 k 4 < 10 then f_append M k kd a b else M)) := by
  refine Ct.of (cc := prog_2_method_2_code) (maxL := 4) (ret := (some .boolean)) (by decide) cd_P_append (Nat.le_of_ble_eq_true rfl) ?_
  intro p e s m below meth c E hr hlk hno hH
  refine a_aload_n (pc := 0) E d_P_append_0 rfl rfl ?_
  refine g_P_4 (pc := 1) E (by assumption) d_P_append_1 fl_P_35 ?_
  refine a_bipush (v := 10) (pc := 4) E d_P_append_4 (by decide) ?_
  refine a_icmp_lt (tgt := 11) (pc := 6) E d_P_append_6 (by decide) (fun c_6 => ?_) (fun c_6 => ?_)
  · refine a_aload_n (pc := 11) E d_P_append_11 rfl rfl ?_
    refine g_P_6 (pc := 12) E (by assumption) d_P_append_12 fl_P_15 ?_
    refine a_aload_n (pc := 15) E d_P_append_15 rfl rfl ?_
    refine g_P_4 (pc := 16) E (by assumption) d_P_append_16 fl_P_35 ?_
    refine a_iload_n (pc := 19) E d_P_append_19 rfl rfl ?_
    refine a_wr ?_
    refine s_11 (pc := 20) E (by assumption) d_P_append_20 (by first | exact ix_of h4 (lt_n 10 (by decide) c_6) | (simp [hm_up_at]; exact ix_of h4 (lt_n 10 (by decide) c_6))) ?_
    refine a_aload_n (pc := 21) E d_P_append_21 rfl rfl ?_
    refine g_P_7 (pc := 22) E (by assumption) d_P_append_22 fl_P_19 ?_
    refine a_aload_n (pc := 25) E d_P_append_25 rfl rfl ?_
    refine g_P_4 (pc := 26) E (by assumption) d_P_append_26 fl_P_35 ?_
    refine a_iload_n (pc := 29) E d_P_append_29 rfl rfl ?_
    refine s_12 (pc := 30) E (by assumption) d_P_append_30 (by first | exact ix_of h4 (lt_n 10 (by decide) c_6) | (simp [hm_up_at]; exact ix_of h4 (lt_n 10 (by decide) c_6))) ?_
    refine a_aload_n (pc := 31) E d_P_append_31 rfl rfl ?_
    refine g_P_8 (pc := 32) E (by assumption) d_P_append_32 fl_P_22 ?_
    refine a_aload_n (pc := 35) E d_P_append_35 rfl rfl ?_
    refine g_P_4 (pc := 36) E (by assumption) d_P_append_36 fl_P_35 ?_
    refine a_iload_n (pc := 39) E d_P_append_39 rfl rfl ?_
    refine s_13 (pc := 40) E (by assumption) d_P_append_40 (by first | exact ix_of h4 (lt_n 10 (by decide) c_6) | (simp [hm_up_at]; exact ix_of h4 (lt_n 10 (by decide) c_6))) ?_
    refine a_aload_n (pc := 41) E d_P_append_41 rfl rfl ?_
    refine a_dup (pc := 42) E d_P_append_42 rfl ?_
    refine g_P_4 (pc := 43) E (by assumption) d_P_append_43 fl_P_35 ?_
    refine a_iconst (v := 1) (pc := 46) E d_P_append_46 (by decide) ?_
    refine a_iadd (pc := 47) E d_P_append_47 ?_
    refine p_P_4 (pc := 48) E (by assumption) d_P_append_48 fl_P_35 ?_
    refine a_iconst (v := 1) (pc := 51) E d_P_append_51 (by decide) ?_
    exact a_iret (pc := 52) E hr hlk rfl d_P_append_52 (by decide) (by decide) (by decide) (by simp [f_append, hm_up_at, c_6])
  · refine a_iconst (v := 0) (pc := 9) E d_P_append_9 (by decide) ?_
    exact a_iret (pc := 10) E hr hlk rfl d_P_append_10 (by decide) (by decide) (by decide) (by simp [f_append, hm_up_at, c_6])
theorem sx (M : hm_M) (hs : 0 ≤ (M 4 0 4).toInt) (h : M 4 0 4 < 60) : vp_in (M 4 0 4 + 1) 61 := by
  have h1 := lt_n 60 (by decide) h
  obtain ⟨j, h2, hj⟩ := nI_of (x := M 4 0 4) (fun q => by have := Int32.lt_iff_toInt_lt.mp q; simp at this; omega)
  rw [hj] at h1 ⊢
  rw [nI_1]
  rw [nI_toInt h2] at h1
  exact vp_in_nI (by omega) (by decide)
set_option maxHeartbeats 4000000 in
set_option maxRecDepth 100000 in
theorem c_Q_add (l : Launch) (D : va_G) (ar : Nat → ClassId) (lay : Nat → Nat → Nat) (M : hm_M) (fr tt vl ls : Int32) (hs : 0 ≤ (M 4 0 4).toInt) : Ct l D ar lay y_Q_add rm_0 true [.ref (lay 4 0), .int fr, .int tt, .int vl, .int ls] M (.inl (some (.int (if M 4 0 4 < 60 then M 4 0 4 + 1 else -1)), if M 4 0 4 < 60 then f_add M fr tt vl ls else M)) := by
  refine Ct.of (cc := prog_3_method_2_code) (maxL := 5) (ret := (some .int)) (by decide) cd_Q_add (Nat.le_of_ble_eq_true rfl) ?_
  intro p e s m below meth c E hr hlk hno hH
  refine a_aload_n (pc := 0) E d_Q_add_0 rfl rfl ?_
  refine g_Q_4 (pc := 1) E d_Q_add_1 fl_Q_24 ?_
  refine a_bipush (v := 60) (pc := 4) E d_Q_add_4 (by decide) ?_
  refine a_icmp_lt (tgt := 11) (pc := 6) E d_Q_add_6 (by decide) (fun c_6 => ?_) (fun c_6 => ?_)
  · refine a_aload_n (pc := 11) E d_Q_add_11 rfl rfl ?_
    refine a_dup (pc := 12) E d_Q_add_12 rfl ?_
    refine g_Q_4 (pc := 13) E d_Q_add_13 fl_Q_24 ?_
    refine a_iconst (v := 1) (pc := 16) E d_Q_add_16 (by decide) ?_
    refine a_iadd (pc := 17) E d_Q_add_17 ?_
    refine a_wr ?_
    refine p_Q_4 (pc := 18) E d_Q_add_18 fl_Q_24 ?_
    refine a_aload_n (pc := 21) E d_Q_add_21 rfl rfl ?_
    refine g_Q_1 (pc := 22) E d_Q_add_22 fl_Q_15 ?_
    refine a_aload_n (pc := 25) E d_Q_add_25 rfl rfl ?_
    refine g_Q_4 (pc := 26) E d_Q_add_26 fl_Q_24 ?_
    refine a_iload_n (pc := 29) E d_Q_add_29 rfl rfl ?_
    refine s_7 (pc := 30) E d_Q_add_30 (by first | exact sx M hs c_6 | (simp [hm_up_at]; exact sx M hs c_6)) ?_
    refine a_aload_n (pc := 31) E d_Q_add_31 rfl rfl ?_
    refine g_Q_2 (pc := 32) E d_Q_add_32 fl_Q_18 ?_
    refine a_aload_n (pc := 35) E d_Q_add_35 rfl rfl ?_
    refine g_Q_4 (pc := 36) E d_Q_add_36 fl_Q_24 ?_
    refine a_iload_n (pc := 39) E d_Q_add_39 rfl rfl ?_
    refine s_8 (pc := 40) E d_Q_add_40 (by first | exact sx M hs c_6 | (simp [hm_up_at]; exact sx M hs c_6)) ?_
    refine a_aload_n (pc := 41) E d_Q_add_41 rfl rfl ?_
    refine g_Q_3 (pc := 42) E d_Q_add_42 fl_Q_21 ?_
    refine a_aload_n (pc := 45) E d_Q_add_45 rfl rfl ?_
    refine g_Q_4 (pc := 46) E d_Q_add_46 fl_Q_24 ?_
    refine a_iload_n (pc := 49) E d_Q_add_49 rfl rfl ?_
    refine s_9 (pc := 50) E d_Q_add_50 (by first | exact sx M hs c_6 | (simp [hm_up_at]; exact sx M hs c_6)) ?_
    refine a_aload_n (pc := 51) E d_Q_add_51 rfl rfl ?_
    refine g_Q_0 (pc := 52) E d_Q_add_52 fl_Q_9 ?_
    refine a_aload_n (pc := 55) E d_Q_add_55 rfl rfl ?_
    refine g_Q_4 (pc := 56) E d_Q_add_56 fl_Q_24 ?_
    refine a_iload (pc := 59) E d_Q_add_59 rfl ?_
    refine a_if_eq (tgt := 68) (pc := 61) E d_Q_add_61 (by decide) (fun c_61 => ?_) (fun c_61 => ?_)
    · refine a_iconst (v := 0) (pc := 68) E d_Q_add_68 (by decide) ?_
      refine s_6 (pc := 69) E d_Q_add_69 (by first | exact sx M hs c_6 | (simp [hm_up_at]; exact sx M hs c_6)) ?_
      refine a_aload_n (pc := 70) E d_Q_add_70 rfl rfl ?_
      refine g_Q_4 (pc := 71) E d_Q_add_71 fl_Q_24 ?_
      exact a_iret (pc := 74) E hr hlk rfl d_Q_add_74 (by decide) (by decide) (by decide) (by simp [f_add, hm_up_at, c_6, c_61])
    · refine a_iconst (v := 2) (pc := 64) E d_Q_add_64 (by decide) ?_
      refine a_goto (tgt := 69) (pc := 65) E d_Q_add_65 (by decide) ?_
      refine s_6 (pc := 69) E d_Q_add_69 (by first | exact sx M hs c_6 | (simp [hm_up_at]; exact sx M hs c_6)) ?_
      refine a_aload_n (pc := 70) E d_Q_add_70 rfl rfl ?_
      refine g_Q_4 (pc := 71) E d_Q_add_71 fl_Q_24 ?_
      exact a_iret (pc := 74) E hr hlk rfl d_Q_add_74 (by decide) (by decide) (by decide) (by simp [f_add, hm_up_at, c_6, c_61])
  · refine a_iconst (v := (-1)) (pc := 9) E d_Q_add_9 (by decide) ?_
    exact a_iret (pc := 10) E hr hlk rfl d_Q_add_10 (by decide) (by decide) (by decide) (by simp [f_add, hm_up_at, c_6])
theorem nI_lt31 {j : Nat} {x : Int32} (h : j < 2 ^ 31) (e : x = nI j) : x.toNatClampNeg = j := by rw [e]; exact nI_clamp h
set_option maxHeartbeats 4000000 in
set_option maxRecDepth 100000 in
theorem c_H_freePlaces (l : Launch) (D : va_G) (ar : Nat → ClassId) (lay : Nat → Nat → Nat) (M : hm_M) (k : Nat) (hk : k < 6) : Ct l D ar lay y_H_freePlaces rm_0 true [.ref (lay 0 0), .ref (lay 10 k)] M (.inl (none, f_free (M 10 k 0) 8 0 M)) := by
  refine Ct.of (cc := prog_1_method_34_code) (maxL := 3) (ret := none) (by decide) cd_H_freePlaces (Nat.le_of_ble_eq_true rfl) ?_
  intro p e s m below meth c E hr hlk hno hH
  have loop : ∀ (n : Nat) (i : Nat) (x : Int32) (M' : hm_M), i + n = 8 → x = nI i → M' 10 k 0 = M 10 k 0 → f_free (M 10 k 0) n i M' = f_free (M 10 k 0) 8 0 M → AW p l e rm_0 s m [(.ref (lay 0 0) : Value), (.ref (lay 10 k) : Value)].toArray below meth c D ar lay true 3 0 0 (MQX below (fun _ st o t => CQ D ar lay M s.heap.size true (.inl (none, f_free (M 10 k 0) 8 0 M)) st o t) [(.ref (lay 0 0) : Value), (.ref (lay 10 k) : Value)].toArray s rm_0.cells rm_0.slots (hw_A lay true s.heap.size)) 2 [(2, .int x), (0, .ref (lay 0 0)), (1, .ref (lay 10 k))] [] M' := by
    intro n
    induction n with
    | zero =>
      intro i x M' hi hx hn he
      refine a_iload_n (pc := 2) E d_H_freePlaces_2 rfl rfl ?_
      refine a_bipush (v := 8) (pc := 3) E d_H_freePlaces_3 (by decide) ?_
      refine a_icmp_ge (tgt := 34) (pc := 5) E d_H_freePlaces_5 (by decide) (fun c_5 => ?_) (fun c_5 => ?_)
      · exact a_vret (pc := 34) E hr hlk d_H_freePlaces_34 (by decide) (by decide) (by decide) (by rw [← he]; rfl)
      · exact absurd (by rw [hx]; exact nI_le (a := 8) (b := i) (by omega) (by omega)) c_5
    | succ n ih =>
      intro i x M' hi hx hn he
      have hin : vp_in x 8 := by rw [hx]; exact vp_in_nI (by omega) (by decide)
      have e0 : (nI i).toNatClampNeg = i := nI_clamp (by omega)
      refine a_iload_n (pc := 2) E d_H_freePlaces_2 rfl rfl ?_
      refine a_bipush (v := 8) (pc := 3) E d_H_freePlaces_3 (by decide) ?_
      refine a_icmp_ge (tgt := 34) (pc := 5) E d_H_freePlaces_5 (by decide) (fun c_5 => ?_) (fun c_5 => ?_)
      · exact absurd c_5 (by rw [hx]; exact nI_ge (a := i) (b := 8) (by omega) (by decide))
      · refine a_aload_n (pc := 8) E d_H_freePlaces_8 rfl rfl ?_
        refine g_H_1 (pc := 9) E d_H_freePlaces_9 fl_H_13 ?_
        refine a_iload_n (pc := 12) E d_H_freePlaces_12 rfl rfl ?_
        refine r_2 (pc := 13) E d_H_freePlaces_13 hin ?_
        refine a_aload_n (pc := 14) E d_H_freePlaces_14 rfl rfl ?_
        refine g_P_0 (pc := 15) E (by assumption) d_H_freePlaces_15 fl_H_211 ?_
        refine a_icmp_ne (tgt := 28) (pc := 18) E d_H_freePlaces_18 (by decide) (fun c_18 => ?_) (fun c_18 => ?_)
        · rw [hx, e0, hn] at c_18
          refine a_iinc (pc := 28) E d_H_freePlaces_28 rfl (by decide) ?_
          refine a_goto (tgt := 2) (pc := 31) E d_H_freePlaces_31 (by decide) ?_
          exact a_ls3 (ih (i + 1) _ _ (by omega) (by rw [hx]; exact nI_1 i) (by first | exact hn | (rw [← hn]; simp [hm_up_at])) (by rw [← he]; simp [f_free, hm_up_at, hx, e0, c_18])) rfl rfl rfl
        · rw [hx, e0, hn] at c_18
          refine a_aload_n (pc := 21) E d_H_freePlaces_21 rfl rfl ?_
          refine g_H_1 (pc := 22) E d_H_freePlaces_22 fl_H_13 ?_
          refine a_iload_n (pc := 25) E d_H_freePlaces_25 rfl rfl ?_
          refine a_iconst (v := (-1)) (pc := 26) E d_H_freePlaces_26 (by decide) ?_
          refine s_2 (pc := 27) E d_H_freePlaces_27 hin ?_
          refine a_iinc (pc := 28) E d_H_freePlaces_28 rfl (by decide) ?_
          refine a_goto (tgt := 2) (pc := 31) E d_H_freePlaces_31 (by decide) ?_
          exact a_ls3 (ih (i + 1) _ _ (by omega) (by rw [hx]; exact nI_1 i) (by first | exact hn | (rw [← hn]; simp [hm_up_at])) (by rw [← he]; simp [f_free, hm_up_at, hx, e0, c_18])) rfl rfl rfl
  refine a_iconst (v := 0) (pc := 0) E d_H_freePlaces_0 (by decide) ?_
  refine a_istore_n (pc := 1) E d_H_freePlaces_1 rfl (by decide) ?_
  refine a_wr ?_
  exact a_ls3 (loop 8 0 _ M rfl (by decide) rfl rfl) rfl rfl rfl
set_option maxHeartbeats 4000000 in
set_option maxRecDepth 100000 in
theorem c_H_heldPlaces (l : Launch) (D : va_G) (ar : Nat → ClassId) (lay : Nat → Nat → Nat) (M : hm_M) (k : Nat) (hk : k < 6) : Ct l D ar lay y_H_heldPlaces rm_0 false [.ref (lay 0 0), .ref (lay 10 k)] M (.inl (some (.int (f_held M (M 10 k 0) 8 0 0)), M)) := by
  refine Ct.of (cc := prog_1_method_35_code) (maxL := 4) (ret := (some .int)) (by decide) cd_H_heldPlaces (Nat.le_of_ble_eq_true rfl) ?_
  intro p e s m below meth c E hr hlk hno hH
  have loop : ∀ (n : Nat) (i : Nat) (x a : Int32), i + n = 8 → x = nI i → f_held M (M 10 k 0) n i a = f_held M (M 10 k 0) 8 0 0 → AW p l e rm_0 s m [(.ref (lay 0 0) : Value), (.ref (lay 10 k) : Value)].toArray below meth c D ar lay false 4 0 0 (MQX below (fun _ st o t => CQ D ar lay M s.heap.size false (.inl (some (.int (f_held M (M 10 k 0) 8 0 0)), M)) st o t) [(.ref (lay 0 0) : Value), (.ref (lay 10 k) : Value)].toArray s rm_0.cells rm_0.slots (hw_A lay false s.heap.size)) 4 [(3, .int x), (2, .int a), (0, .ref (lay 0 0)), (1, .ref (lay 10 k))] [] M := by
    intro n
    induction n with
    | zero =>
      intro i x a hi hx he
      refine a_iload_n (pc := 4) E d_H_heldPlaces_4 rfl rfl ?_
      refine a_bipush (v := 8) (pc := 5) E d_H_heldPlaces_5 (by decide) ?_
      refine a_icmp_ge (tgt := 32) (pc := 7) E d_H_heldPlaces_7 (by decide) (fun c_7 => ?_) (fun c_7 => ?_)
      · refine a_iload_n (pc := 32) E d_H_heldPlaces_32 rfl rfl ?_
        exact a_iret (pc := 33) E hr hlk rfl d_H_heldPlaces_33 (by decide) (by decide) (by decide) (by rw [← he]; rfl)
      · exact absurd (by rw [hx]; exact nI_le (a := 8) (b := i) (by omega) (by omega)) c_7
    | succ n ih =>
      intro i x a hi hx he
      have hin : vp_in x 8 := by rw [hx]; exact vp_in_nI (by omega) (by decide)
      have e0 : (nI i).toNatClampNeg = i := nI_clamp (by omega)
      refine a_iload_n (pc := 4) E d_H_heldPlaces_4 rfl rfl ?_
      refine a_bipush (v := 8) (pc := 5) E d_H_heldPlaces_5 (by decide) ?_
      refine a_icmp_ge (tgt := 32) (pc := 7) E d_H_heldPlaces_7 (by decide) (fun c_7 => ?_) (fun c_7 => ?_)
      · exact absurd c_7 (by rw [hx]; exact nI_ge (a := i) (b := 8) (by omega) (by decide))
      · refine a_aload_n (pc := 10) E d_H_heldPlaces_10 rfl rfl ?_
        refine g_H_1 (pc := 11) E d_H_heldPlaces_11 fl_H_13 ?_
        refine a_iload_n (pc := 14) E d_H_heldPlaces_14 rfl rfl ?_
        refine r_2 (pc := 15) E d_H_heldPlaces_15 hin ?_
        refine a_aload_n (pc := 16) E d_H_heldPlaces_16 rfl rfl ?_
        refine g_P_0 (pc := 17) E (by assumption) d_H_heldPlaces_17 fl_H_211 ?_
        refine a_icmp_ne (tgt := 26) (pc := 20) E d_H_heldPlaces_20 (by decide) (fun c_20 => ?_) (fun c_20 => ?_)
        · rw [hx, e0] at c_20
          refine a_iinc (pc := 26) E d_H_heldPlaces_26 rfl (by decide) ?_
          refine a_goto (tgt := 4) (pc := 29) E d_H_heldPlaces_29 (by decide) ?_
          exact a_ls4 (ih (i + 1) _ _ (by omega) (by rw [hx]; exact nI_1 i) (by rw [← he]; simp [f_held, c_20]; try rfl)) rfl rfl rfl rfl
        · rw [hx, e0] at c_20
          refine a_iinc (pc := 23) E d_H_heldPlaces_23 rfl (by decide) ?_
          refine a_iinc (pc := 26) E d_H_heldPlaces_26 rfl (by decide) ?_
          refine a_goto (tgt := 4) (pc := 29) E d_H_heldPlaces_29 (by decide) ?_
          exact a_ls4 (ih (i + 1) _ _ (by omega) (by rw [hx]; exact nI_1 i) (by rw [← he]; simp [f_held, c_20]; try rfl)) rfl rfl rfl rfl
  refine a_iconst (v := 0) (pc := 0) E d_H_heldPlaces_0 (by decide) ?_
  refine a_istore_n (pc := 1) E d_H_heldPlaces_1 rfl (by decide) ?_
  refine a_iconst (v := 0) (pc := 2) E d_H_heldPlaces_2 (by decide) ?_
  refine a_istore_n (pc := 3) E d_H_heldPlaces_3 rfl (by decide) ?_
  exact a_ls4 (loop 8 0 _ _ rfl (by decide) rfl) rfl rfl rfl rfl
theorem pc_nI {x : Int32} {b : Nat} (h0 : 0 ≤ x.toInt) (h1 : x.toInt ≤ b) (hb : b < 2 ^ 31) : ∃ j : Nat, j ≤ b ∧ x = nI j := by
  refine ⟨x.toNatClampNeg, by rw [nn_eq]; omega, ?_⟩
  apply Int32.toInt_inj.mp
  rw [nI_toInt (by rw [nn_eq]; omega), nn_eq]
  omega
set_option maxHeartbeats 4000000 in
set_option maxRecDepth 100000 in
theorem c_H_doneParts (l : Launch) (D : va_G) (ar : Nat → ClassId) (lay : Nat → Nat → Nat) (M : hm_M)  (hI : IvC M) : Ct l D ar lay y_H_doneParts rm_0 false [.ref (lay 0 0)] M (.inl (some (.int (f_done M (M 0 0 5).toNatClampNeg 0 0)), M)) := by
  refine Ct.of (cc := prog_1_method_36_code) (maxL := 3) (ret := (some .int)) (by decide) cd_H_doneParts (Nat.le_of_ble_eq_true rfl) ?_
  intro p e s m below meth c E hr hlk hno hH
  have loop : ∀ (n : Nat) (i : Nat) (x a : Int32), i + n = (M 0 0 5).toNatClampNeg → x = nI i → f_done M n i a = f_done M (M 0 0 5).toNatClampNeg 0 0 → AW p l e rm_0 s m [(.ref (lay 0 0) : Value)].toArray below meth c D ar lay false 3 0 0 (MQX below (fun _ st o t => CQ D ar lay M s.heap.size false (.inl (some (.int (f_done M (M 0 0 5).toNatClampNeg 0 0)), M)) st o t) [(.ref (lay 0 0) : Value)].toArray s rm_0.cells rm_0.slots (hw_A lay false s.heap.size)) 4 [(2, .int x), (1, .int a), (0, .ref (lay 0 0))] [] M := by
    intro n
    induction n with
    | zero =>
      intro i x a hi hx he
      obtain ⟨j, hj, ej⟩ := pc_nI (b := 6) hI.pc.1 hI.pc.2 (by decide)
      rw [ej, nI_clamp (by omega)] at hi
      refine a_iload_n (pc := 4) E d_H_doneParts_4 rfl rfl ?_
      refine a_aload_n (pc := 5) E d_H_doneParts_5 rfl rfl ?_
      refine g_H_5 (pc := 6) E d_H_doneParts_6 fl_H_42 ?_
      refine a_icmp_ge (tgt := 34) (pc := 9) E d_H_doneParts_9 (by decide) (fun c_9 => ?_) (fun c_9 => ?_)
      · refine a_iload_n (pc := 34) E d_H_doneParts_34 rfl rfl ?_
        exact a_iret (pc := 35) E hr hlk rfl d_H_doneParts_35 (by decide) (by decide) (by decide) (by rw [← he]; rfl)
      · exact absurd (by rw [hx, ej]; exact nI_le (by omega) (by omega)) c_9
    | succ n ih =>
      intro i x a hi hx he
      obtain ⟨j, hj, ej⟩ := pc_nI (b := 6) hI.pc.1 hI.pc.2 (by decide)
      have hi2 := hi
      rw [ej, nI_clamp (by omega)] at hi2
      have hin : vp_in x 6 := by rw [hx]; exact vp_in_nI (by omega) (by decide)
      have e0 : (nI i).toNatClampNeg = i := nI_clamp (by omega)
      have hk6 : x.toNatClampNeg < 6 := by rw [hx, e0]; omega
      refine a_iload_n (pc := 4) E d_H_doneParts_4 rfl rfl ?_
      refine a_aload_n (pc := 5) E d_H_doneParts_5 rfl rfl ?_
      refine g_H_5 (pc := 6) E d_H_doneParts_6 fl_H_42 ?_
      refine a_icmp_ge (tgt := 34) (pc := 9) E d_H_doneParts_9 (by decide) (fun c_9 => ?_) (fun c_9 => ?_)
      · exact absurd c_9 (by rw [hx, ej]; exact nI_ge (by omega) (by omega))
      · refine a_aload_n (pc := 12) E d_H_doneParts_12 rfl rfl ?_
        refine g_H_2 (pc := 13) E d_H_doneParts_13 fl_H_18 ?_
        refine a_iload_n (pc := 16) E d_H_doneParts_16 rfl rfl ?_
        refine r_3 (pc := 17) E d_H_doneParts_17 hin ?_
        refine g_P_2 (pc := 18) E (by assumption) d_H_doneParts_18 fl_H_67 ?_
        refine a_iconst (v := 3) (pc := 21) E d_H_doneParts_21 (by decide) ?_
        refine a_icmp_ne (tgt := 28) (pc := 22) E d_H_doneParts_22 (by decide) (fun c_22 => ?_) (fun c_22 => ?_)
        · rw [hx, e0] at c_22
          refine a_iinc (pc := 28) E d_H_doneParts_28 rfl (by decide) ?_
          refine a_goto (tgt := 4) (pc := 31) E d_H_doneParts_31 (by decide) ?_
          exact a_ls3 (ih (i + 1) _ _ (by omega) (by rw [hx]; exact nI_1 i) (by rw [← he]; simp [f_done, c_22]; try rfl)) rfl rfl rfl
        · rw [hx, e0] at c_22
          refine a_iinc (pc := 25) E d_H_doneParts_25 rfl (by decide) ?_
          refine a_iinc (pc := 28) E d_H_doneParts_28 rfl (by decide) ?_
          refine a_goto (tgt := 4) (pc := 31) E d_H_doneParts_31 (by decide) ?_
          exact a_ls3 (ih (i + 1) _ _ (by omega) (by rw [hx]; exact nI_1 i) (by rw [← he]; simp [f_done, c_22]; try rfl)) rfl rfl rfl
  refine a_iconst (v := 0) (pc := 0) E d_H_doneParts_0 (by decide) ?_
  refine a_istore_n (pc := 1) E d_H_doneParts_1 rfl (by decide) ?_
  refine a_iconst (v := 0) (pc := 2) E d_H_doneParts_2 (by decide) ?_
  refine a_istore_n (pc := 3) E d_H_doneParts_3 rfl (by decide) ?_
  exact a_ls3 (loop _ 0 _ _ (Nat.zero_add _) (by decide) rfl) rfl rfl rfl
set_option maxHeartbeats 4000000 in
set_option maxRecDepth 100000 in
theorem c_Q_onTheirWay (l : Launch) (D : va_G) (ar : Nat → ClassId) (lay : Nat → Nat → Nat) (M : hm_M)  (hs : 0 ≤ (M 4 0 4).toInt ∧ (M 4 0 4).toInt ≤ 60) : Ct l D ar lay y_Q_onTheirWay rm_0 false [.ref (lay 4 0)] M (.inl (some (.int (f_way M (M 4 0 4).toNatClampNeg 1 0)), M)) := by
  refine Ct.of (cc := prog_3_method_4_code) (maxL := 3) (ret := (some .int)) (by decide) cd_Q_onTheirWay (Nat.le_of_ble_eq_true rfl) ?_
  intro p e s m below meth c E hr hlk hno hH
  have loop : ∀ (n : Nat) (i : Nat) (x a : Int32), i + n = (M 4 0 4).toNatClampNeg + 1 → x = nI i → f_way M n i a = f_way M (M 4 0 4).toNatClampNeg 1 0 → AW p l e rm_0 s m [(.ref (lay 4 0) : Value)].toArray below meth c D ar lay false 3 0 0 (MQX below (fun _ st o t => CQ D ar lay M s.heap.size false (.inl (some (.int (f_way M (M 4 0 4).toNatClampNeg 1 0)), M)) st o t) [(.ref (lay 4 0) : Value)].toArray s rm_0.cells rm_0.slots (hw_A lay false s.heap.size)) 4 [(2, .int x), (1, .int a), (0, .ref (lay 4 0))] [] M := by
    intro n
    induction n with
    | zero =>
      intro i x a hi hx he
      obtain ⟨j, hj, ej⟩ := pc_nI (b := 60) hs.1 hs.2 (by decide)
      have hi2 := hi
      rw [ej, nI_clamp (by omega)] at hi2
      refine a_iload_n (pc := 4) E d_Q_onTheirWay_4 rfl rfl ?_
      refine a_aload_n (pc := 5) E d_Q_onTheirWay_5 rfl rfl ?_
      refine g_Q_4 (pc := 6) E d_Q_onTheirWay_6 fl_Q_24 ?_
      refine a_icmp_gt (tgt := 30) (pc := 9) E d_Q_onTheirWay_9 (by decide) (fun c_9 => ?_) (fun c_9 => ?_)
      · refine a_iload_n (pc := 30) E d_Q_onTheirWay_30 rfl rfl ?_
        exact a_iret (pc := 31) E hr hlk rfl d_Q_onTheirWay_31 (by decide) (by decide) (by decide) (by rw [← he]; rfl)
      · exact absurd (by rw [hx, ej]; exact nI_lt (by omega) (by omega)) c_9
    | succ n ih =>
      intro i x a hi hx he
      obtain ⟨j, hj, ej⟩ := pc_nI (b := 60) hs.1 hs.2 (by decide)
      have hi2 := hi
      rw [ej, nI_clamp (by omega)] at hi2
      have hin : vp_in x 61 := by rw [hx]; exact vp_in_nI (by omega) (by decide)
      have e0 : (nI i).toNatClampNeg = i := nI_clamp (by omega)
      refine a_iload_n (pc := 4) E d_Q_onTheirWay_4 rfl rfl ?_
      refine a_aload_n (pc := 5) E d_Q_onTheirWay_5 rfl rfl ?_
      refine g_Q_4 (pc := 6) E d_Q_onTheirWay_6 fl_Q_24 ?_
      refine a_icmp_gt (tgt := 30) (pc := 9) E d_Q_onTheirWay_9 (by decide) (fun c_9 => ?_) (fun c_9 => ?_)
      · exact absurd c_9 (by rw [hx, ej]; exact nI_nlt (by omega) (by omega))
      · refine a_aload_n (pc := 12) E d_Q_onTheirWay_12 rfl rfl ?_
        refine g_Q_0 (pc := 13) E d_Q_onTheirWay_13 fl_Q_9 ?_
        refine a_iload_n (pc := 16) E d_Q_onTheirWay_16 rfl rfl ?_
        refine r_6 (pc := 17) E d_Q_onTheirWay_17 hin ?_
        refine a_if_ne (tgt := 24) (pc := 18) E d_Q_onTheirWay_18 (by decide) (fun c_18 => ?_) (fun c_18 => ?_)
        · rw [hx, e0] at c_18
          refine a_iinc (pc := 24) E d_Q_onTheirWay_24 rfl (by decide) ?_
          refine a_goto (tgt := 4) (pc := 27) E d_Q_onTheirWay_27 (by decide) ?_
          exact a_ls3 (ih (i + 1) _ _ (by omega) (by rw [hx]; exact nI_1 i) (by rw [← he]; simp [f_way, c_18]; try rfl)) rfl rfl rfl
        · rw [hx, e0] at c_18
          refine a_iinc (pc := 21) E d_Q_onTheirWay_21 rfl (by decide) ?_
          refine a_iinc (pc := 24) E d_Q_onTheirWay_24 rfl (by decide) ?_
          refine a_goto (tgt := 4) (pc := 27) E d_Q_onTheirWay_27 (by decide) ?_
          exact a_ls3 (ih (i + 1) _ _ (by omega) (by rw [hx]; exact nI_1 i) (by rw [← he]; simp [f_way, c_18]; try rfl)) rfl rfl rfl
  refine a_iconst (v := 0) (pc := 0) E d_Q_onTheirWay_0 (by decide) ?_
  refine a_istore_n (pc := 1) E d_Q_onTheirWay_1 rfl (by decide) ?_
  refine a_iconst (v := 1) (pc := 2) E d_Q_onTheirWay_2 (by decide) ?_
  refine a_istore_n (pc := 3) E d_Q_onTheirWay_3 rfl (by decide) ?_
  exact a_ls3 (loop _ 1 _ _ (Nat.add_comm _ _) (by decide) rfl) rfl rfl rfl
set_option maxHeartbeats 4000000 in
set_option maxRecDepth 100000 in
theorem c_Q_firstOnItsWayTo (l : Launch) (D : va_G) (ar : Nat → ClassId) (lay : Nat → Nat → Nat) (M : hm_M) (q : Int32) (hs : 0 ≤ (M 4 0 4).toInt ∧ (M 4 0 4).toInt ≤ 60) : Ct l D ar lay y_Q_firstOnItsWayTo rm_0 false [.ref (lay 4 0), .int q] M (.inl (some (.int (f_first M q (M 4 0 4).toNatClampNeg 1)), M)) := by
  refine Ct.of (cc := prog_3_method_3_code) (maxL := 3) (ret := (some .int)) (by decide) cd_Q_firstOnItsWayTo (Nat.le_of_ble_eq_true rfl) ?_
  intro p e s m below meth c E hr hlk hno hH
  have loop : ∀ (n : Nat) (i : Nat) (x : Int32), i + n = (M 4 0 4).toNatClampNeg + 1 → x = nI i → f_first M q n i = f_first M q (M 4 0 4).toNatClampNeg 1 → AW p l e rm_0 s m [(.ref (lay 4 0) : Value), (.int q : Value)].toArray below meth c D ar lay false 3 0 0 (MQX below (fun _ st o t => CQ D ar lay M s.heap.size false (.inl (some (.int (f_first M q (M 4 0 4).toNatClampNeg 1)), M)) st o t) [(.ref (lay 4 0) : Value), (.int q : Value)].toArray s rm_0.cells rm_0.slots (hw_A lay false s.heap.size)) 2 [(2, .int x), (0, .ref (lay 4 0)), (1, .int q)] [] M := by
    intro n
    induction n with
    | zero =>
      intro i x hi hx he
      obtain ⟨j, hj, ej⟩ := pc_nI (b := 60) hs.1 hs.2 (by decide)
      have hi2 := hi
      rw [ej, nI_clamp (by omega)] at hi2
      refine a_iload_n (pc := 2) E d_Q_firstOnItsWayTo_2 rfl rfl ?_
      refine a_aload_n (pc := 3) E d_Q_firstOnItsWayTo_3 rfl rfl ?_
      refine g_Q_4 (pc := 4) E d_Q_firstOnItsWayTo_4 fl_Q_24 ?_
      refine a_icmp_gt (tgt := 37) (pc := 7) E d_Q_firstOnItsWayTo_7 (by decide) (fun c_7 => ?_) (fun c_7 => ?_)
      · refine a_iconst (v := (-1)) (pc := 37) E d_Q_firstOnItsWayTo_37 (by decide) ?_
        exact a_iret (pc := 38) E hr hlk rfl d_Q_firstOnItsWayTo_38 (by decide) (by decide) (by decide) (by rw [← he]; rfl)
      · exact absurd (by rw [hx, ej]; exact nI_lt (by omega) (by omega)) c_7
    | succ n ih =>
      intro i x hi hx he
      obtain ⟨j, hj, ej⟩ := pc_nI (b := 60) hs.1 hs.2 (by decide)
      have hi2 := hi
      rw [ej, nI_clamp (by omega)] at hi2
      have hin : vp_in x 61 := by rw [hx]; exact vp_in_nI (by omega) (by decide)
      have e0 : (nI i).toNatClampNeg = i := nI_clamp (by omega)
      refine a_iload_n (pc := 2) E d_Q_firstOnItsWayTo_2 rfl rfl ?_
      refine a_aload_n (pc := 3) E d_Q_firstOnItsWayTo_3 rfl rfl ?_
      refine g_Q_4 (pc := 4) E d_Q_firstOnItsWayTo_4 fl_Q_24 ?_
      refine a_icmp_gt (tgt := 37) (pc := 7) E d_Q_firstOnItsWayTo_7 (by decide) (fun c_7 => ?_) (fun c_7 => ?_)
      · exact absurd c_7 (by rw [hx, ej]; exact nI_nlt (by omega) (by omega))
      · refine a_aload_n (pc := 10) E d_Q_firstOnItsWayTo_10 rfl rfl ?_
        refine g_Q_2 (pc := 11) E d_Q_firstOnItsWayTo_11 fl_Q_18 ?_
        refine a_iload_n (pc := 14) E d_Q_firstOnItsWayTo_14 rfl rfl ?_
        refine r_8 (pc := 15) E d_Q_firstOnItsWayTo_15 hin ?_
        refine a_iload_n (pc := 16) E d_Q_firstOnItsWayTo_16 rfl rfl ?_
        refine a_icmp_ne (tgt := 31) (pc := 17) E d_Q_firstOnItsWayTo_17 (by decide) (fun c_17 => ?_) (fun c_17 => ?_)
        · rw [hx, e0] at c_17
          refine a_iinc (pc := 31) E d_Q_firstOnItsWayTo_31 rfl (by decide) ?_
          refine a_goto (tgt := 2) (pc := 34) E d_Q_firstOnItsWayTo_34 (by decide) ?_
          exact a_ls3 (ih (i + 1) _ (by omega) (by rw [hx]; exact nI_1 i) (by rw [← he]; simp [f_first, c_17])) rfl rfl rfl
        · rw [hx, e0] at c_17
          refine a_aload_n (pc := 20) E d_Q_firstOnItsWayTo_20 rfl rfl ?_
          refine g_Q_0 (pc := 21) E d_Q_firstOnItsWayTo_21 fl_Q_9 ?_
          refine a_iload_n (pc := 24) E d_Q_firstOnItsWayTo_24 rfl rfl ?_
          refine r_6 (pc := 25) E d_Q_firstOnItsWayTo_25 hin ?_
          refine a_if_ne (tgt := 31) (pc := 26) E d_Q_firstOnItsWayTo_26 (by decide) (fun c_26 => ?_) (fun c_26 => ?_)
          · rw [hx, e0] at c_26
            refine a_iinc (pc := 31) E d_Q_firstOnItsWayTo_31 rfl (by decide) ?_
            refine a_goto (tgt := 2) (pc := 34) E d_Q_firstOnItsWayTo_34 (by decide) ?_
            exact a_ls3 (ih (i + 1) _ (by omega) (by rw [hx]; exact nI_1 i) (by rw [← he]; simp [f_first, c_17, c_26])) rfl rfl rfl
          · rw [hx, e0] at c_26
            refine a_iload_n (pc := 29) E d_Q_firstOnItsWayTo_29 rfl rfl ?_
            exact a_iret (pc := 30) E hr hlk rfl d_Q_firstOnItsWayTo_30 (by decide) (by decide) (by decide) (by rw [← he]; simp [f_first, c_17, c_26, hx])
  refine a_iconst (v := 1) (pc := 0) E d_Q_firstOnItsWayTo_0 (by decide) ?_
  refine a_istore_n (pc := 1) E d_Q_firstOnItsWayTo_1 rfl (by decide) ?_
  exact a_ls3 (loop _ 1 _ (Nat.add_comm _ _) (by decide) rfl) rfl rfl rfl
set_option maxHeartbeats 4000000 in
set_option maxRecDepth 100000 in
theorem c_H_takeBack (l : Launch) (D : va_G) (ar : Nat → ClassId) (lay : Nat → Nat → Nat) (M : hm_M) (k : Nat) (x : Int32) (hk : k < 6) (hx : vp_in x 10) (hm : vp_in (M 15 k x.toNatClampNeg) 61) (ha : M 11 k x.toNatClampNeg ≠ 1 → vp_in (M 12 k x.toNatClampNeg) 8) : Ct l D ar lay y_H_takeBack rm_0 true [.ref (lay 0 0), .ref (lay 10 k), .int x] M (.inl (none, f_tb M k x.toNatClampNeg)) := by
  refine Ct.of (cc := prog_1_method_33_code) (maxL := 4) (ret := none) (by decide) cd_H_takeBack (Nat.le_of_ble_eq_true rfl) ?_
  intro p e s m below meth c E hr hlk hno hH
  refine a_aload_n (pc := 0) E d_H_takeBack_0 rfl rfl ?_
  refine g_P_10 (pc := 1) E (by assumption) d_H_takeBack_1 fl_H_218 ?_
  refine a_iload_n (pc := 4) E d_H_takeBack_4 rfl rfl ?_
  refine r_15 (pc := 5) E (by assumption) d_H_takeBack_5 hx ?_
  refine a_istore_n (pc := 6) E d_H_takeBack_6 rfl (by decide) ?_
  refine a_aload_n (pc := 7) E d_H_takeBack_7 rfl rfl ?_
  refine g_P_6 (pc := 8) E (by assumption) d_H_takeBack_8 fl_H_186 ?_
  refine a_iload_n (pc := 11) E d_H_takeBack_11 rfl rfl ?_
  refine r_11 (pc := 12) E (by assumption) d_H_takeBack_12 hx ?_
  by_cases c_13_0 : M 11 k x.toNatClampNeg = 0
  · refine a_lookup (tgt := 40) (off := 27) (pc := 13) E d_H_takeBack_13 (by decide) (by rw [c_13_0]; rfl) (by decide) ?_
    refine a_aload_n (pc := 40) E d_H_takeBack_40 rfl rfl ?_
    refine g_H_0 (pc := 41) E d_H_takeBack_41 fl_H_9 ?_
    refine a_aload_n (pc := 44) E d_H_takeBack_44 rfl rfl ?_
    refine g_P_7 (pc := 45) E (by assumption) d_H_takeBack_45 fl_H_198 ?_
    refine a_iload_n (pc := 48) E d_H_takeBack_48 rfl rfl ?_
    refine r_12 (pc := 49) E (by assumption) d_H_takeBack_49 hx ?_
    refine a_dup2 (pc := 50) E d_H_takeBack_50 rfl rfl ?_
    refine r_1 (pc := 51) E d_H_takeBack_51 (ha (by rw [c_13_0]; decide)) ?_
    refine a_aload_n (pc := 52) E d_H_takeBack_52 rfl rfl ?_
    refine g_P_8 (pc := 53) E (by assumption) d_H_takeBack_53 fl_H_205 ?_
    refine a_iload_n (pc := 56) E d_H_takeBack_56 rfl rfl ?_
    refine r_13 (pc := 57) E (by assumption) d_H_takeBack_57 hx ?_
    refine a_isub (pc := 58) E d_H_takeBack_58 ?_
    refine a_wr ?_
    refine s_1 (pc := 59) E d_H_takeBack_59 (ha (by rw [c_13_0]; decide)) ?_
    refine a_goto (tgt := 121) (pc := 60) E d_H_takeBack_60 (by decide) ?_
    exact a_vret (pc := 121) E hr hlk d_H_takeBack_121 (by decide) (by decide) (by decide) (by simp [f_tb, hm_up_at, c_13_0])
  by_cases c_13_1 : M 11 k x.toNatClampNeg = 1
  · refine a_lookup (tgt := 63) (off := 50) (pc := 13) E d_H_takeBack_13 (by decide) (by rw [c_13_1]; rfl) (by decide) ?_
    refine a_aload_n (pc := 63) E d_H_takeBack_63 rfl rfl ?_
    refine g_H_3 (pc := 64) E d_H_takeBack_64 fl_H_25 ?_
    refine g_Q_0 (pc := 67) E d_H_takeBack_67 fl_H_111 ?_
    refine a_iload_n (pc := 70) E d_H_takeBack_70 rfl rfl ?_
    refine r_6 (pc := 71) E d_H_takeBack_71 hm ?_
    refine a_if_ne (tgt := 121) (pc := 72) E d_H_takeBack_72 (by decide) (fun c_72 => ?_) (fun c_72 => ?_)
    · exact a_vret (pc := 121) E hr hlk d_H_takeBack_121 (by decide) (by decide) (by decide) (by simp [f_tb, hm_up_at, c_13_0, c_13_1, c_72])
    · refine a_aload_n (pc := 75) E d_H_takeBack_75 rfl rfl ?_
      refine g_H_3 (pc := 76) E d_H_takeBack_76 fl_H_25 ?_
      refine g_Q_0 (pc := 79) E d_H_takeBack_79 fl_H_111 ?_
      refine a_iload_n (pc := 82) E d_H_takeBack_82 rfl rfl ?_
      refine a_iconst (v := 3) (pc := 83) E d_H_takeBack_83 (by decide) ?_
      refine a_wr ?_
      refine s_6 (pc := 84) E d_H_takeBack_84 hm ?_
      refine a_goto (tgt := 121) (pc := 85) E d_H_takeBack_85 (by decide) ?_
      exact a_vret (pc := 121) E hr hlk d_H_takeBack_121 (by decide) (by decide) (by decide) (by simp [f_tb, hm_up_at, c_13_0, c_13_1, c_72])
  refine a_lookup (tgt := 88) (off := 75) (pc := 13) E d_H_takeBack_13 (by decide) (sw_look2 c_13_0 c_13_1) (by decide) ?_
  refine a_aload_n (pc := 88) E d_H_takeBack_88 rfl rfl ?_
  refine g_H_0 (pc := 89) E d_H_takeBack_89 fl_H_9 ?_
  refine a_aload_n (pc := 92) E d_H_takeBack_92 rfl rfl ?_
  refine g_P_7 (pc := 93) E (by assumption) d_H_takeBack_93 fl_H_198 ?_
  refine a_iload_n (pc := 96) E d_H_takeBack_96 rfl rfl ?_
  refine r_12 (pc := 97) E (by assumption) d_H_takeBack_97 hx ?_
  refine a_dup2 (pc := 98) E d_H_takeBack_98 rfl rfl ?_
  refine r_1 (pc := 99) E d_H_takeBack_99 (ha c_13_1) ?_
  refine a_aload_n (pc := 100) E d_H_takeBack_100 rfl rfl ?_
  refine g_H_3 (pc := 101) E d_H_takeBack_101 fl_H_25 ?_
  refine g_Q_3 (pc := 104) E d_H_takeBack_104 fl_H_140 ?_
  refine a_iload_n (pc := 107) E d_H_takeBack_107 rfl rfl ?_
  refine r_9 (pc := 108) E d_H_takeBack_108 hm ?_
  refine a_isub (pc := 109) E d_H_takeBack_109 ?_
  refine a_wr ?_
  refine s_1 (pc := 110) E d_H_takeBack_110 (ha c_13_1) ?_
  refine a_aload_n (pc := 111) E d_H_takeBack_111 rfl rfl ?_
  refine g_H_3 (pc := 112) E d_H_takeBack_112 fl_H_25 ?_
  refine g_Q_0 (pc := 115) E d_H_takeBack_115 fl_H_111 ?_
  refine a_iload_n (pc := 118) E d_H_takeBack_118 rfl rfl ?_
  refine a_iconst (v := 0) (pc := 119) E d_H_takeBack_119 (by decide) ?_
  refine s_6 (pc := 120) E d_H_takeBack_120 hm ?_
  exact a_vret (pc := 121) E hr hlk d_H_takeBack_121 (by decide) (by decide) (by decide) (by simp [f_tb, hm_up_at, c_13_0, c_13_1])
