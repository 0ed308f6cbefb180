def rm_q : Room := { frames := 1, cells := 4, slots := 244, locals := 40 }
def rm_a : Room := { frames := 1, cells := 5, slots := 50, locals := 40 }
def rm_h : Room := { frames := 2, cells := 50, slots := 1100, locals := 90 }
def rm_m : Room := { frames := 1, cells := 20, slots := 1000, locals := 40 }
/-- an array of n ints that are all 0 -/
abbrev ia (ar : Nat → ClassId) (n : Nat) : va_E := .inl (ar 0, n, .inl (fun _ => 0))
abbrev ba (ar : Nat → ClassId) (n : Nat) : va_E := .inl (ar 1, n, .inl (fun _ => 0))
def hd_f : Nat → Nat → Int32
  | 0 => fun _ => 0
  | n + 1 => upd (hd_f n) n (-1)
abbrev ha (ar : Nat → ClassId) (n : Nat) : va_E := .inl (ar 0, 8, .inl (hd_f n))
abbrev pa (ar : Nat → ClassId) (f : Nat → Option Nat) : va_E := .inl (ar 3, 6, .inr (.inr (.inr (.inr f))))
theorem gw_H : ∀ w ∈ u_ws "HouseThreads2" T_H 10, w ∈ wg_TB := fun w hw => wg_of (in_H w hw) (List.all_eq_true.mp (show (u_ws "HouseThreads2" T_H 10).all goodWord = true by decide +kernel) w hw)
theorem gw_P : ∀ w ∈ u_ws "HouseThreads2$Part" T_P 11, w ∈ wg_TB := fun w hw => wg_of (in_P w hw) (List.all_eq_true.mp (show (u_ws "HouseThreads2$Part" T_P 11).all goodWord = true by decide +kernel) w hw)
theorem gw_Q : ∀ w ∈ u_ws "HouseThreads2$Post" T_Q 5, w ∈ wg_TB := fun w hw => wg_of (in_Q w hw) (List.all_eq_true.mp (show (u_ws "HouseThreads2$Post" T_Q 5).all goodWord = true by decide +kernel) w hw)
theorem gw_M : ∀ w ∈ u_ws "HouseThreads2Model" T_M 24, w ∈ wg_TB := fun w hw => wg_of (in_M w hw) (List.all_eq_true.mp (show (u_ws "HouseThreads2Model" T_M 24).all goodWord = true by decide +kernel) w hw)
abbrev o0_H : va_E := .inr (2, [.null, .null, .null, .null, .null, .int 0, .int 0, .int 0, .int 0, .int 0])
theorem df_H : ∀ j, j < 10 → defaultValue (t_H j) = vp_V [.null, .null, .null, .null, .null, .int 0, .int 0, .int 0, .int 0, .int 0] j := fun j hj => by
  match j, hj with
  | 0, _ => rfl
  | 1, _ => rfl
  | 2, _ => rfl
  | 3, _ => rfl
  | 4, _ => rfl
  | 5, _ => rfl
  | 6, _ => rfl
  | 7, _ => rfl
  | 8, _ => rfl
  | 9, _ => rfl
  | n + 10, h => exact absurd h (by omega)
abbrev o0_P : va_E := .inr (0, [.int 0, .int 0, .int 0, .int 0, .int 0, .int 0, .null, .null, .null, .null, .null])
theorem df_P : ∀ j, j < 11 → defaultValue (t_P j) = vp_V [.int 0, .int 0, .int 0, .int 0, .int 0, .int 0, .null, .null, .null, .null, .null] j := fun j hj => by
  match j, hj with
  | 0, _ => rfl
  | 1, _ => rfl
  | 2, _ => rfl
  | 3, _ => rfl
  | 4, _ => rfl
  | 5, _ => rfl
  | 6, _ => rfl
  | 7, _ => rfl
  | 8, _ => rfl
  | 9, _ => rfl
  | 10, _ => rfl
  | n + 11, h => exact absurd h (by omega)
abbrev o0_Q : va_E := .inr (1, [.null, .null, .null, .null, .int 0])
theorem df_Q : ∀ j, j < 5 → defaultValue (t_Q j) = vp_V [.null, .null, .null, .null, .int 0] j := fun j hj => by
  match j, hj with
  | 0, _ => rfl
  | 1, _ => rfl
  | 2, _ => rfl
  | 3, _ => rfl
  | 4, _ => rfl
  | n + 5, h => exact absurd h (by omega)
abbrev o0_M : va_E := .inr (3, [.int 0, .null, .null, .int 0, .null, .null, .null, .null, .null, .null, .null, .null, .null, .null, .null, .int 0, .int 0, .null, .null, .null, .null, .int 0, .int 0, .null])
theorem df_M : ∀ j, j < 24 → defaultValue (t_M j) = vp_V [.int 0, .null, .null, .int 0, .null, .null, .null, .null, .null, .null, .null, .null, .null, .null, .null, .int 0, .int 0, .null, .null, .null, .null, .int 0, .int 0, .null] j := fun j hj => by
  match j, hj with
  | 0, _ => rfl
  | 1, _ => rfl
  | 2, _ => rfl
  | 3, _ => rfl
  | 4, _ => rfl
  | 5, _ => rfl
  | 6, _ => rfl
  | 7, _ => rfl
  | 8, _ => rfl
  | 9, _ => rfl
  | 10, _ => rfl
  | 11, _ => rfl
  | 12, _ => rfl
  | 13, _ => rfl
  | 14, _ => rfl
  | 15, _ => rfl
  | 16, _ => rfl
  | 17, _ => rfl
  | 18, _ => rfl
  | 19, _ => rfl
  | 20, _ => rfl
  | 21, _ => rfl
  | 22, _ => rfl
  | 23, _ => rfl
  | n + 24, h => exact absurd h (by omega)
set_option maxHeartbeats 4000000 in
set_option maxRecDepth 100000 in
theorem c_Q_init (l : Launch) (D : va_G) (ar : Nat → ClassId) (h0 : Nat) : Ci l D ar y_Q_init prog_3_method_1_code 1 rm_q (fun _ => True) h0 [] o0_Q (fun g => [(h0, .inr (1, [.ref (g 0), .ref (g 1), .ref (g 2), .ref (g 3), .int 0])), (g 0, ia ar 61), (g 1, ia ar 61), (g 2, ia ar 61), (g 3, ia ar 61)]) := by
  refine Ci.of (by decide) rfl (Nat.le_of_ble_eq_true rfl) ?_
  intro p e s m below meth c A E hr hlk hnm hX
  refine b_aload_n (pc := 0) E d_Q_init_0 rfl rfl ?_
  refine b_obj (pc := 1) E ml_Q_3 d_Q_init_1 (by decide) (by decide) im_Object_init cd_Object_init ?_
  refine b_aload_n (pc := 4) E d_Q_init_4 rfl rfl ?_
  refine b_bipush (v := 61) (pc := 5) E d_Q_init_5 (by decide) ?_
  refine b_newa (pc := 7) (atype := .int) (ty := .int) (t := 0) (a0 := (61, .inl (fun _ => 0))) E rfl ac_int rfl (fun _ => rfl) (by decide) (by decide) (by decide) (by decide) (by decide) d_Q_init_7 (fun q0 => ?_)
  refine b_ws (ws' := [(h0, .inr (1, [.null, .null, .null, .null, .int 0])), (q0, ia ar 61)]) rfl ?_
  refine b_putF (pc := 9) (ty := .array .int) E hnm gw_Q ty_Q nm_Q 0 rfl rfl 0 (by decide) fl_Q_9 rfl rfl rfl rfl rfl (Nat.le_of_ble_eq_true rfl) d_Q_init_9 ?_
  refine b_ws (ws' := [(h0, .inr (1, [.ref q0, .null, .null, .null, .int 0])), (q0, ia ar 61)]) rfl ?_
  refine b_aload_n (pc := 12) E d_Q_init_12 rfl rfl ?_
  refine b_bipush (v := 61) (pc := 13) E d_Q_init_13 (by decide) ?_
  refine b_newa (pc := 15) (atype := .int) (ty := .int) (t := 0) (a0 := (61, .inl (fun _ => 0))) E rfl ac_int rfl (fun _ => rfl) (by decide) (by decide) (by decide) (by decide) (by decide) d_Q_init_15 (fun q1 => ?_)
  refine b_ws (ws' := [(h0, .inr (1, [.ref q0, .null, .null, .null, .int 0])), (q0, ia ar 61), (q1, ia ar 61)]) rfl ?_
  refine b_putF (pc := 17) (ty := .array .int) E hnm gw_Q ty_Q nm_Q 0 rfl rfl 1 (by decide) fl_Q_15 rfl rfl rfl rfl rfl (Nat.le_of_ble_eq_true rfl) d_Q_init_17 ?_
  refine b_ws (ws' := [(h0, .inr (1, [.ref q0, .ref q1, .null, .null, .int 0])), (q0, ia ar 61), (q1, ia ar 61)]) rfl ?_
  refine b_aload_n (pc := 20) E d_Q_init_20 rfl rfl ?_
  refine b_bipush (v := 61) (pc := 21) E d_Q_init_21 (by decide) ?_
  refine b_newa (pc := 23) (atype := .int) (ty := .int) (t := 0) (a0 := (61, .inl (fun _ => 0))) E rfl ac_int rfl (fun _ => rfl) (by decide) (by decide) (by decide) (by decide) (by decide) d_Q_init_23 (fun q2 => ?_)
  refine b_ws (ws' := [(h0, .inr (1, [.ref q0, .ref q1, .null, .null, .int 0])), (q0, ia ar 61), (q1, ia ar 61), (q2, ia ar 61)]) rfl ?_
  refine b_putF (pc := 25) (ty := .array .int) E hnm gw_Q ty_Q nm_Q 0 rfl rfl 2 (by decide) fl_Q_18 rfl rfl rfl rfl rfl (Nat.le_of_ble_eq_true rfl) d_Q_init_25 ?_
  refine b_ws (ws' := [(h0, .inr (1, [.ref q0, .ref q1, .ref q2, .null, .int 0])), (q0, ia ar 61), (q1, ia ar 61), (q2, ia ar 61)]) rfl ?_
  refine b_aload_n (pc := 28) E d_Q_init_28 rfl rfl ?_
  refine b_bipush (v := 61) (pc := 29) E d_Q_init_29 (by decide) ?_
  refine b_newa (pc := 31) (atype := .int) (ty := .int) (t := 0) (a0 := (61, .inl (fun _ => 0))) E rfl ac_int rfl (fun _ => rfl) (by decide) (by decide) (by decide) (by decide) (by decide) d_Q_init_31 (fun q3 => ?_)
  refine b_ws (ws' := [(h0, .inr (1, [.ref q0, .ref q1, .ref q2, .null, .int 0])), (q0, ia ar 61), (q1, ia ar 61), (q2, ia ar 61), (q3, ia ar 61)]) rfl ?_
  refine b_putF (pc := 33) (ty := .array .int) E hnm gw_Q ty_Q nm_Q 0 rfl rfl 3 (by decide) fl_Q_21 rfl rfl rfl rfl rfl (Nat.le_of_ble_eq_true rfl) d_Q_init_33 ?_
  refine b_ws (ws' := [(h0, .inr (1, [.ref q0, .ref q1, .ref q2, .ref q3, .int 0])), (q0, ia ar 61), (q1, ia ar 61), (q2, ia ar 61), (q3, ia ar 61)]) rfl ?_
  exact b_vret (pc := 36) E hr hlk d_Q_init_36 (by decide) (by decide) (fun i => match i with | 0 => q0 | 1 => q1 | 2 => q2 | 3 => q3 | _ => 0) rfl
set_option maxHeartbeats 4000000 in
set_option maxRecDepth 100000 in
theorem c_P_init (l : Launch) (D : va_G) (ar : Nat → ClassId) (h0 : Nat) (x : Int32) : Ci l D ar y_P_init prog_2_method_1_code 2 rm_a (fun _ => True) h0 [.int x] o0_P (fun g => [(h0, .inr (0, [.int x, .int 0, .int 0, .int 0, .int 0, .int 0, .ref (g 0), .ref (g 1), .ref (g 2), .ref (g 3), .ref (g 4)])), (g 0, ia ar 10), (g 1, ia ar 10), (g 2, ia ar 10), (g 3, ba ar 10), (g 4, ia ar 10)]) := by
  refine Ci.of (by decide) rfl (Nat.le_of_ble_eq_true rfl) ?_
  intro p e s m below meth c A E hr hlk hnm hX
  refine b_aload_n (pc := 0) E d_P_init_0 rfl rfl ?_
  refine b_obj (pc := 1) E ml_P_3 d_P_init_1 (by decide) (by decide) im_Object_init cd_Object_init ?_
  refine b_aload_n (pc := 4) E d_P_init_4 rfl rfl ?_
  refine b_iconst (v := 0) (pc := 5) E d_P_init_5 (by decide) ?_
  refine b_put (pc := 6) (ty := .int) E gw_P ty_P nm_P 0 rfl rfl 2 (by decide) fl_P_9 rfl rfl rfl rfl (Nat.le_of_ble_eq_true rfl) d_P_init_6 ?_
  refine b_ws (ws' := [(h0, .inr (0, [.int 0, .int 0, .int 0, .int 0, .int 0, .int 0, .null, .null, .null, .null, .null]))]) rfl ?_
  refine b_aload_n (pc := 9) E d_P_init_9 rfl rfl ?_
  refine b_bipush (v := 10) (pc := 10) E d_P_init_10 (by decide) ?_
  refine b_newa (pc := 12) (atype := .int) (ty := .int) (t := 0) (a0 := (10, .inl (fun _ => 0))) E rfl ac_int rfl (fun _ => rfl) (by decide) (by decide) (by decide) (by decide) (by decide) d_P_init_12 (fun q0 => ?_)
  refine b_ws (ws' := [(h0, .inr (0, [.int 0, .int 0, .int 0, .int 0, .int 0, .int 0, .null, .null, .null, .null, .null])), (q0, ia ar 10)]) rfl ?_
  refine b_putF (pc := 14) (ty := .array .int) E hnm gw_P ty_P nm_P 0 rfl rfl 6 (by decide) fl_P_15 rfl rfl rfl rfl rfl (Nat.le_of_ble_eq_true rfl) d_P_init_14 ?_
  refine b_ws (ws' := [(h0, .inr (0, [.int 0, .int 0, .int 0, .int 0, .int 0, .int 0, .ref q0, .null, .null, .null, .null])), (q0, ia ar 10)]) rfl ?_
  refine b_aload_n (pc := 17) E d_P_init_17 rfl rfl ?_
  refine b_bipush (v := 10) (pc := 18) E d_P_init_18 (by decide) ?_
  refine b_newa (pc := 20) (atype := .int) (ty := .int) (t := 0) (a0 := (10, .inl (fun _ => 0))) E rfl ac_int rfl (fun _ => rfl) (by decide) (by decide) (by decide) (by decide) (by decide) d_P_init_20 (fun q1 => ?_)
  refine b_ws (ws' := [(h0, .inr (0, [.int 0, .int 0, .int 0, .int 0, .int 0, .int 0, .ref q0, .null, .null, .null, .null])), (q0, ia ar 10), (q1, ia ar 10)]) rfl ?_
  refine b_putF (pc := 22) (ty := .array .int) E hnm gw_P ty_P nm_P 0 rfl rfl 7 (by decide) fl_P_19 rfl rfl rfl rfl rfl (Nat.le_of_ble_eq_true rfl) d_P_init_22 ?_
  refine b_ws (ws' := [(h0, .inr (0, [.int 0, .int 0, .int 0, .int 0, .int 0, .int 0, .ref q0, .ref q1, .null, .null, .null])), (q0, ia ar 10), (q1, ia ar 10)]) rfl ?_
  refine b_aload_n (pc := 25) E d_P_init_25 rfl rfl ?_
  refine b_bipush (v := 10) (pc := 26) E d_P_init_26 (by decide) ?_
  refine b_newa (pc := 28) (atype := .int) (ty := .int) (t := 0) (a0 := (10, .inl (fun _ => 0))) E rfl ac_int rfl (fun _ => rfl) (by decide) (by decide) (by decide) (by decide) (by decide) d_P_init_28 (fun q2 => ?_)
  refine b_ws (ws' := [(h0, .inr (0, [.int 0, .int 0, .int 0, .int 0, .int 0, .int 0, .ref q0, .ref q1, .null, .null, .null])), (q0, ia ar 10), (q1, ia ar 10), (q2, ia ar 10)]) rfl ?_
  refine b_putF (pc := 30) (ty := .array .int) E hnm gw_P ty_P nm_P 0 rfl rfl 8 (by decide) fl_P_22 rfl rfl rfl rfl rfl (Nat.le_of_ble_eq_true rfl) d_P_init_30 ?_
  refine b_ws (ws' := [(h0, .inr (0, [.int 0, .int 0, .int 0, .int 0, .int 0, .int 0, .ref q0, .ref q1, .ref q2, .null, .null])), (q0, ia ar 10), (q1, ia ar 10), (q2, ia ar 10)]) rfl ?_
  refine b_aload_n (pc := 33) E d_P_init_33 rfl rfl ?_
  refine b_bipush (v := 10) (pc := 34) E d_P_init_34 (by decide) ?_
  refine b_newa (pc := 36) (atype := .boolean) (ty := .boolean) (t := 1) (a0 := (10, .inl (fun _ => 0))) E rfl ac_boolean rfl (fun _ => rfl) (by decide) (by decide) (by decide) (by decide) (by decide) d_P_init_36 (fun q3 => ?_)
  refine b_ws (ws' := [(h0, .inr (0, [.int 0, .int 0, .int 0, .int 0, .int 0, .int 0, .ref q0, .ref q1, .ref q2, .null, .null])), (q0, ia ar 10), (q1, ia ar 10), (q2, ia ar 10), (q3, ba ar 10)]) rfl ?_
  refine b_putF (pc := 38) (ty := .array .boolean) E hnm gw_P ty_P nm_P 0 rfl rfl 9 (by decide) fl_P_25 rfl rfl rfl rfl rfl (Nat.le_of_ble_eq_true rfl) d_P_init_38 ?_
  refine b_ws (ws' := [(h0, .inr (0, [.int 0, .int 0, .int 0, .int 0, .int 0, .int 0, .ref q0, .ref q1, .ref q2, .ref q3, .null])), (q0, ia ar 10), (q1, ia ar 10), (q2, ia ar 10), (q3, ba ar 10)]) rfl ?_
  refine b_aload_n (pc := 41) E d_P_init_41 rfl rfl ?_
  refine b_bipush (v := 10) (pc := 42) E d_P_init_42 (by decide) ?_
  refine b_newa (pc := 44) (atype := .int) (ty := .int) (t := 0) (a0 := (10, .inl (fun _ => 0))) E rfl ac_int rfl (fun _ => rfl) (by decide) (by decide) (by decide) (by decide) (by decide) d_P_init_44 (fun q4 => ?_)
  refine b_ws (ws' := [(h0, .inr (0, [.int 0, .int 0, .int 0, .int 0, .int 0, .int 0, .ref q0, .ref q1, .ref q2, .ref q3, .null])), (q0, ia ar 10), (q1, ia ar 10), (q2, ia ar 10), (q3, ba ar 10), (q4, ia ar 10)]) rfl ?_
  refine b_putF (pc := 46) (ty := .array .int) E hnm gw_P ty_P nm_P 0 rfl rfl 10 (by decide) fl_P_29 rfl rfl rfl rfl rfl (Nat.le_of_ble_eq_true rfl) d_P_init_46 ?_
  refine b_ws (ws' := [(h0, .inr (0, [.int 0, .int 0, .int 0, .int 0, .int 0, .int 0, .ref q0, .ref q1, .ref q2, .ref q3, .ref q4])), (q0, ia ar 10), (q1, ia ar 10), (q2, ia ar 10), (q3, ba ar 10), (q4, ia ar 10)]) rfl ?_
  refine b_aload_n (pc := 49) E d_P_init_49 rfl rfl ?_
  refine b_iload_n (pc := 50) E d_P_init_50 rfl rfl ?_
  refine b_putF (pc := 51) (ty := .int) E hnm gw_P ty_P nm_P 0 rfl rfl 0 (by decide) fl_P_32 rfl rfl rfl rfl rfl (Nat.le_of_ble_eq_true rfl) d_P_init_51 ?_
  refine b_ws (ws' := [(h0, .inr (0, [.int x, .int 0, .int 0, .int 0, .int 0, .int 0, .ref q0, .ref q1, .ref q2, .ref q3, .ref q4])), (q0, ia ar 10), (q1, ia ar 10), (q2, ia ar 10), (q3, ba ar 10), (q4, ia ar 10)]) rfl ?_
  exact b_vret (pc := 54) E hr hlk d_P_init_54 (by decide) (by decide) (fun i => match i with | 0 => q0 | 1 => q1 | 2 => q2 | 3 => q3 | 4 => q4 | _ => 0) rfl
set_option maxHeartbeats 4000000 in
set_option maxRecDepth 100000 in
theorem c_M_init (l : Launch) (D : va_G) (ar : Nat → ClassId) (h0 : Nat) : Ci l D ar y_M_init prog_5_method_1_code 2 rm_m (fun _ => True) h0 [] o0_M (fun g => [(h0, .inr (3, [.int 0, .ref (g 0), .ref (g 1), .int 0, .ref (g 2), .ref (g 3), .ref (g 4), .ref (g 5), .ref (g 6), .ref (g 7), .ref (g 8), .ref (g 9), .ref (g 10), .ref (g 11), .ref (g 12), .int 0, .int 0, .ref (g 13), .ref (g 14), .ref (g 15), .ref (g 16), .int 0, .int 0, .ref (g 17)])), (g 0, ia ar 8), (g 1, ha ar 8), (g 2, ia ar 6), (g 3, ia ar 6), (g 4, ia ar 6), (g 5, ia ar 6), (g 6, ia ar 6), (g 7, ia ar 6), (g 8, ia ar 60), (g 9, ia ar 60), (g 10, ia ar 60), (g 11, ba ar 60), (g 12, ia ar 60), (g 13, ia ar 61), (g 14, ia ar 61), (g 15, ia ar 61), (g 16, ia ar 61), (g 17, ia ar 400)]) := by
  refine Ci.of (by decide) rfl (Nat.le_of_ble_eq_true rfl) ?_
  intro p e s m below meth c A E hr hlk hnm hX
  refine b_aload_n (pc := 0) E d_M_init_0 rfl rfl ?_
  refine b_obj (pc := 1) E ml_M_1 d_M_init_1 (by decide) (by decide) im_Object_init cd_Object_init ?_
  refine b_aload_n (pc := 4) E d_M_init_4 rfl rfl ?_
  refine b_bipush (v := 8) (pc := 5) E d_M_init_5 (by decide) ?_
  refine b_newa (pc := 7) (atype := .int) (ty := .int) (t := 0) (a0 := (8, .inl (fun _ => 0))) E rfl ac_int rfl (fun _ => rfl) (by decide) (by decide) (by decide) (by decide) (by decide) d_M_init_7 (fun q0 => ?_)
  refine b_ws (ws' := [(h0, .inr (3, [.int 0, .null, .null, .int 0, .null, .null, .null, .null, .null, .null, .null, .null, .null, .null, .null, .int 0, .int 0, .null, .null, .null, .null, .int 0, .int 0, .null])), (q0, ia ar 8)]) rfl ?_
  refine b_putF (pc := 9) (ty := .array .int) E hnm gw_M ty_M nm_M 0 rfl rfl 1 (by decide) fl_M_7 rfl rfl rfl rfl rfl (Nat.le_of_ble_eq_true rfl) d_M_init_9 ?_
  refine b_ws (ws' := [(h0, .inr (3, [.int 0, .ref q0, .null, .int 0, .null, .null, .null, .null, .null, .null, .null, .null, .null, .null, .null, .int 0, .int 0, .null, .null, .null, .null, .int 0, .int 0, .null])), (q0, ia ar 8)]) rfl ?_
  refine b_aload_n (pc := 12) E d_M_init_12 rfl rfl ?_
  refine b_bipush (v := 8) (pc := 13) E d_M_init_13 (by decide) ?_
  refine b_newa (pc := 15) (atype := .int) (ty := .int) (t := 0) (a0 := (8, .inl (fun _ => 0))) E rfl ac_int rfl (fun _ => rfl) (by decide) (by decide) (by decide) (by decide) (by decide) d_M_init_15 (fun q1 => ?_)
  refine b_ws (ws' := [(h0, .inr (3, [.int 0, .ref q0, .null, .int 0, .null, .null, .null, .null, .null, .null, .null, .null, .null, .null, .null, .int 0, .int 0, .null, .null, .null, .null, .int 0, .int 0, .null])), (q0, ia ar 8), (q1, ia ar 8)]) rfl ?_
  refine b_putF (pc := 17) (ty := .array .int) E hnm gw_M ty_M nm_M 0 rfl rfl 2 (by decide) fl_M_13 rfl rfl rfl rfl rfl (Nat.le_of_ble_eq_true rfl) d_M_init_17 ?_
  refine b_ws (ws' := [(h0, .inr (3, [.int 0, .ref q0, .ref q1, .int 0, .null, .null, .null, .null, .null, .null, .null, .null, .null, .null, .null, .int 0, .int 0, .null, .null, .null, .null, .int 0, .int 0, .null])), (q0, ia ar 8), (q1, ia ar 8)]) rfl ?_
  refine b_aload_n (pc := 20) E d_M_init_20 rfl rfl ?_
  refine b_bipush (v := 6) (pc := 21) E d_M_init_21 (by decide) ?_
  refine b_newa (pc := 23) (atype := .int) (ty := .int) (t := 0) (a0 := (6, .inl (fun _ => 0))) E rfl ac_int rfl (fun _ => rfl) (by decide) (by decide) (by decide) (by decide) (by decide) d_M_init_23 (fun q2 => ?_)
  refine b_ws (ws' := [(h0, .inr (3, [.int 0, .ref q0, .ref q1, .int 0, .null, .null, .null, .null, .null, .null, .null, .null, .null, .null, .null, .int 0, .int 0, .null, .null, .null, .null, .int 0, .int 0, .null])), (q0, ia ar 8), (q1, ia ar 8), (q2, ia ar 6)]) rfl ?_
  refine b_putF (pc := 25) (ty := .array .int) E hnm gw_M ty_M nm_M 0 rfl rfl 4 (by decide) fl_M_16 rfl rfl rfl rfl rfl (Nat.le_of_ble_eq_true rfl) d_M_init_25 ?_
  refine b_ws (ws' := [(h0, .inr (3, [.int 0, .ref q0, .ref q1, .int 0, .ref q2, .null, .null, .null, .null, .null, .null, .null, .null, .null, .null, .int 0, .int 0, .null, .null, .null, .null, .int 0, .int 0, .null])), (q0, ia ar 8), (q1, ia ar 8), (q2, ia ar 6)]) rfl ?_
  refine b_aload_n (pc := 28) E d_M_init_28 rfl rfl ?_
  refine b_bipush (v := 6) (pc := 29) E d_M_init_29 (by decide) ?_
  refine b_newa (pc := 31) (atype := .int) (ty := .int) (t := 0) (a0 := (6, .inl (fun _ => 0))) E rfl ac_int rfl (fun _ => rfl) (by decide) (by decide) (by decide) (by decide) (by decide) d_M_init_31 (fun q3 => ?_)
  refine b_ws (ws' := [(h0, .inr (3, [.int 0, .ref q0, .ref q1, .int 0, .ref q2, .null, .null, .null, .null, .null, .null, .null, .null, .null, .null, .int 0, .int 0, .null, .null, .null, .null, .int 0, .int 0, .null])), (q0, ia ar 8), (q1, ia ar 8), (q2, ia ar 6), (q3, ia ar 6)]) rfl ?_
  refine b_putF (pc := 33) (ty := .array .int) E hnm gw_M ty_M nm_M 0 rfl rfl 5 (by decide) fl_M_19 rfl rfl rfl rfl rfl (Nat.le_of_ble_eq_true rfl) d_M_init_33 ?_
  refine b_ws (ws' := [(h0, .inr (3, [.int 0, .ref q0, .ref q1, .int 0, .ref q2, .ref q3, .null, .null, .null, .null, .null, .null, .null, .null, .null, .int 0, .int 0, .null, .null, .null, .null, .int 0, .int 0, .null])), (q0, ia ar 8), (q1, ia ar 8), (q2, ia ar 6), (q3, ia ar 6)]) rfl ?_
  refine b_aload_n (pc := 36) E d_M_init_36 rfl rfl ?_
  refine b_bipush (v := 6) (pc := 37) E d_M_init_37 (by decide) ?_
  refine b_newa (pc := 39) (atype := .int) (ty := .int) (t := 0) (a0 := (6, .inl (fun _ => 0))) E rfl ac_int rfl (fun _ => rfl) (by decide) (by decide) (by decide) (by decide) (by decide) d_M_init_39 (fun q4 => ?_)
  refine b_ws (ws' := [(h0, .inr (3, [.int 0, .ref q0, .ref q1, .int 0, .ref q2, .ref q3, .null, .null, .null, .null, .null, .null, .null, .null, .null, .int 0, .int 0, .null, .null, .null, .null, .int 0, .int 0, .null])), (q0, ia ar 8), (q1, ia ar 8), (q2, ia ar 6), (q3, ia ar 6), (q4, ia ar 6)]) rfl ?_
  refine b_putF (pc := 41) (ty := .array .int) E hnm gw_M ty_M nm_M 0 rfl rfl 6 (by decide) fl_M_22 rfl rfl rfl rfl rfl (Nat.le_of_ble_eq_true rfl) d_M_init_41 ?_
  refine b_ws (ws' := [(h0, .inr (3, [.int 0, .ref q0, .ref q1, .int 0, .ref q2, .ref q3, .ref q4, .null, .null, .null, .null, .null, .null, .null, .null, .int 0, .int 0, .null, .null, .null, .null, .int 0, .int 0, .null])), (q0, ia ar 8), (q1, ia ar 8), (q2, ia ar 6), (q3, ia ar 6), (q4, ia ar 6)]) rfl ?_
  refine b_aload_n (pc := 44) E d_M_init_44 rfl rfl ?_
  refine b_bipush (v := 6) (pc := 45) E d_M_init_45 (by decide) ?_
  refine b_newa (pc := 47) (atype := .int) (ty := .int) (t := 0) (a0 := (6, .inl (fun _ => 0))) E rfl ac_int rfl (fun _ => rfl) (by decide) (by decide) (by decide) (by decide) (by decide) d_M_init_47 (fun q5 => ?_)
  refine b_ws (ws' := [(h0, .inr (3, [.int 0, .ref q0, .ref q1, .int 0, .ref q2, .ref q3, .ref q4, .null, .null, .null, .null, .null, .null, .null, .null, .int 0, .int 0, .null, .null, .null, .null, .int 0, .int 0, .null])), (q0, ia ar 8), (q1, ia ar 8), (q2, ia ar 6), (q3, ia ar 6), (q4, ia ar 6), (q5, ia ar 6)]) rfl ?_
  refine b_putF (pc := 49) (ty := .array .int) E hnm gw_M ty_M nm_M 0 rfl rfl 7 (by decide) fl_M_25 rfl rfl rfl rfl rfl (Nat.le_of_ble_eq_true rfl) d_M_init_49 ?_
  refine b_ws (ws' := [(h0, .inr (3, [.int 0, .ref q0, .ref q1, .int 0, .ref q2, .ref q3, .ref q4, .ref q5, .null, .null, .null, .null, .null, .null, .null, .int 0, .int 0, .null, .null, .null, .null, .int 0, .int 0, .null])), (q0, ia ar 8), (q1, ia ar 8), (q2, ia ar 6), (q3, ia ar 6), (q4, ia ar 6), (q5, ia ar 6)]) rfl ?_
  refine b_aload_n (pc := 52) E d_M_init_52 rfl rfl ?_
  refine b_bipush (v := 6) (pc := 53) E d_M_init_53 (by decide) ?_
  refine b_newa (pc := 55) (atype := .int) (ty := .int) (t := 0) (a0 := (6, .inl (fun _ => 0))) E rfl ac_int rfl (fun _ => rfl) (by decide) (by decide) (by decide) (by decide) (by decide) d_M_init_55 (fun q6 => ?_)
  refine b_ws (ws' := [(h0, .inr (3, [.int 0, .ref q0, .ref q1, .int 0, .ref q2, .ref q3, .ref q4, .ref q5, .null, .null, .null, .null, .null, .null, .null, .int 0, .int 0, .null, .null, .null, .null, .int 0, .int 0, .null])), (q0, ia ar 8), (q1, ia ar 8), (q2, ia ar 6), (q3, ia ar 6), (q4, ia ar 6), (q5, ia ar 6), (q6, ia ar 6)]) rfl ?_
  refine b_putF (pc := 57) (ty := .array .int) E hnm gw_M ty_M nm_M 0 rfl rfl 8 (by decide) fl_M_28 rfl rfl rfl rfl rfl (Nat.le_of_ble_eq_true rfl) d_M_init_57 ?_
  refine b_ws (ws' := [(h0, .inr (3, [.int 0, .ref q0, .ref q1, .int 0, .ref q2, .ref q3, .ref q4, .ref q5, .ref q6, .null, .null, .null, .null, .null, .null, .int 0, .int 0, .null, .null, .null, .null, .int 0, .int 0, .null])), (q0, ia ar 8), (q1, ia ar 8), (q2, ia ar 6), (q3, ia ar 6), (q4, ia ar 6), (q5, ia ar 6), (q6, ia ar 6)]) rfl ?_
  refine b_aload_n (pc := 60) E d_M_init_60 rfl rfl ?_
  refine b_bipush (v := 6) (pc := 61) E d_M_init_61 (by decide) ?_
  refine b_newa (pc := 63) (atype := .int) (ty := .int) (t := 0) (a0 := (6, .inl (fun _ => 0))) E rfl ac_int rfl (fun _ => rfl) (by decide) (by decide) (by decide) (by decide) (by decide) d_M_init_63 (fun q7 => ?_)
  refine b_ws (ws' := [(h0, .inr (3, [.int 0, .ref q0, .ref q1, .int 0, .ref q2, .ref q3, .ref q4, .ref q5, .ref q6, .null, .null, .null, .null, .null, .null, .int 0, .int 0, .null, .null, .null, .null, .int 0, .int 0, .null])), (q0, ia ar 8), (q1, ia ar 8), (q2, ia ar 6), (q3, ia ar 6), (q4, ia ar 6), (q5, ia ar 6), (q6, ia ar 6), (q7, ia ar 6)]) rfl ?_
  refine b_putF (pc := 65) (ty := .array .int) E hnm gw_M ty_M nm_M 0 rfl rfl 9 (by decide) fl_M_31 rfl rfl rfl rfl rfl (Nat.le_of_ble_eq_true rfl) d_M_init_65 ?_
  refine b_ws (ws' := [(h0, .inr (3, [.int 0, .ref q0, .ref q1, .int 0, .ref q2, .ref q3, .ref q4, .ref q5, .ref q6, .ref q7, .null, .null, .null, .null, .null, .int 0, .int 0, .null, .null, .null, .null, .int 0, .int 0, .null])), (q0, ia ar 8), (q1, ia ar 8), (q2, ia ar 6), (q3, ia ar 6), (q4, ia ar 6), (q5, ia ar 6), (q6, ia ar 6), (q7, ia ar 6)]) rfl ?_
  refine b_aload_n (pc := 68) E d_M_init_68 rfl rfl ?_
  refine b_bipush (v := 60) (pc := 69) E d_M_init_69 (by decide) ?_
  refine b_newa (pc := 71) (atype := .int) (ty := .int) (t := 0) (a0 := (60, .inl (fun _ => 0))) E rfl ac_int rfl (fun _ => rfl) (by decide) (by decide) (by decide) (by decide) (by decide) d_M_init_71 (fun q8 => ?_)
  refine b_ws (ws' := [(h0, .inr (3, [.int 0, .ref q0, .ref q1, .int 0, .ref q2, .ref q3, .ref q4, .ref q5, .ref q6, .ref q7, .null, .null, .null, .null, .null, .int 0, .int 0, .null, .null, .null, .null, .int 0, .int 0, .null])), (q0, ia ar 8), (q1, ia ar 8), (q2, ia ar 6), (q3, ia ar 6), (q4, ia ar 6), (q5, ia ar 6), (q6, ia ar 6), (q7, ia ar 6), (q8, ia ar 60)]) rfl ?_
  refine b_putF (pc := 73) (ty := .array .int) E hnm gw_M ty_M nm_M 0 rfl rfl 10 (by decide) fl_M_34 rfl rfl rfl rfl rfl (Nat.le_of_ble_eq_true rfl) d_M_init_73 ?_
  refine b_ws (ws' := [(h0, .inr (3, [.int 0, .ref q0, .ref q1, .int 0, .ref q2, .ref q3, .ref q4, .ref q5, .ref q6, .ref q7, .ref q8, .null, .null, .null, .null, .int 0, .int 0, .null, .null, .null, .null, .int 0, .int 0, .null])), (q0, ia ar 8), (q1, ia ar 8), (q2, ia ar 6), (q3, ia ar 6), (q4, ia ar 6), (q5, ia ar 6), (q6, ia ar 6), (q7, ia ar 6), (q8, ia ar 60)]) rfl ?_
  refine b_aload_n (pc := 76) E d_M_init_76 rfl rfl ?_
  refine b_bipush (v := 60) (pc := 77) E d_M_init_77 (by decide) ?_
  refine b_newa (pc := 79) (atype := .int) (ty := .int) (t := 0) (a0 := (60, .inl (fun _ => 0))) E rfl ac_int rfl (fun _ => rfl) (by decide) (by decide) (by decide) (by decide) (by decide) d_M_init_79 (fun q9 => ?_)
  refine b_ws (ws' := [(h0, .inr (3, [.int 0, .ref q0, .ref q1, .int 0, .ref q2, .ref q3, .ref q4, .ref q5, .ref q6, .ref q7, .ref q8, .null, .null, .null, .null, .int 0, .int 0, .null, .null, .null, .null, .int 0, .int 0, .null])), (q0, ia ar 8), (q1, ia ar 8), (q2, ia ar 6), (q3, ia ar 6), (q4, ia ar 6), (q5, ia ar 6), (q6, ia ar 6), (q7, ia ar 6), (q8, ia ar 60), (q9, ia ar 60)]) rfl ?_
  refine b_putF (pc := 81) (ty := .array .int) E hnm gw_M ty_M nm_M 0 rfl rfl 11 (by decide) fl_M_37 rfl rfl rfl rfl rfl (Nat.le_of_ble_eq_true rfl) d_M_init_81 ?_
  refine b_ws (ws' := [(h0, .inr (3, [.int 0, .ref q0, .ref q1, .int 0, .ref q2, .ref q3, .ref q4, .ref q5, .ref q6, .ref q7, .ref q8, .ref q9, .null, .null, .null, .int 0, .int 0, .null, .null, .null, .null, .int 0, .int 0, .null])), (q0, ia ar 8), (q1, ia ar 8), (q2, ia ar 6), (q3, ia ar 6), (q4, ia ar 6), (q5, ia ar 6), (q6, ia ar 6), (q7, ia ar 6), (q8, ia ar 60), (q9, ia ar 60)]) rfl ?_
  refine b_aload_n (pc := 84) E d_M_init_84 rfl rfl ?_
  refine b_bipush (v := 60) (pc := 85) E d_M_init_85 (by decide) ?_
  refine b_newa (pc := 87) (atype := .int) (ty := .int) (t := 0) (a0 := (60, .inl (fun _ => 0))) E rfl ac_int rfl (fun _ => rfl) (by decide) (by decide) (by decide) (by decide) (by decide) d_M_init_87 (fun q10 => ?_)
  refine b_ws (ws' := [(h0, .inr (3, [.int 0, .ref q0, .ref q1, .int 0, .ref q2, .ref q3, .ref q4, .ref q5, .ref q6, .ref q7, .ref q8, .ref q9, .null, .null, .null, .int 0, .int 0, .null, .null, .null, .null, .int 0, .int 0, .null])), (q0, ia ar 8), (q1, ia ar 8), (q2, ia ar 6), (q3, ia ar 6), (q4, ia ar 6), (q5, ia ar 6), (q6, ia ar 6), (q7, ia ar 6), (q8, ia ar 60), (q9, ia ar 60), (q10, ia ar 60)]) rfl ?_
  refine b_putF (pc := 89) (ty := .array .int) E hnm gw_M ty_M nm_M 0 rfl rfl 12 (by decide) fl_M_40 rfl rfl rfl rfl rfl (Nat.le_of_ble_eq_true rfl) d_M_init_89 ?_
  refine b_ws (ws' := [(h0, .inr (3, [.int 0, .ref q0, .ref q1, .int 0, .ref q2, .ref q3, .ref q4, .ref q5, .ref q6, .ref q7, .ref q8, .ref q9, .ref q10, .null, .null, .int 0, .int 0, .null, .null, .null, .null, .int 0, .int 0, .null])), (q0, ia ar 8), (q1, ia ar 8), (q2, ia ar 6), (q3, ia ar 6), (q4, ia ar 6), (q5, ia ar 6), (q6, ia ar 6), (q7, ia ar 6), (q8, ia ar 60), (q9, ia ar 60), (q10, ia ar 60)]) rfl ?_
  refine b_aload_n (pc := 92) E d_M_init_92 rfl rfl ?_
  refine b_bipush (v := 60) (pc := 93) E d_M_init_93 (by decide) ?_
  refine b_newa (pc := 95) (atype := .boolean) (ty := .boolean) (t := 1) (a0 := (60, .inl (fun _ => 0))) E rfl ac_boolean rfl (fun _ => rfl) (by decide) (by decide) (by decide) (by decide) (by decide) d_M_init_95 (fun q11 => ?_)
  refine b_ws (ws' := [(h0, .inr (3, [.int 0, .ref q0, .ref q1, .int 0, .ref q2, .ref q3, .ref q4, .ref q5, .ref q6, .ref q7, .ref q8, .ref q9, .ref q10, .null, .null, .int 0, .int 0, .null, .null, .null, .null, .int 0, .int 0, .null])), (q0, ia ar 8), (q1, ia ar 8), (q2, ia ar 6), (q3, ia ar 6), (q4, ia ar 6), (q5, ia ar 6), (q6, ia ar 6), (q7, ia ar 6), (q8, ia ar 60), (q9, ia ar 60), (q10, ia ar 60), (q11, ba ar 60)]) rfl ?_
  refine b_putF (pc := 97) (ty := .array .boolean) E hnm gw_M ty_M nm_M 0 rfl rfl 13 (by decide) fl_M_43 rfl rfl rfl rfl rfl (Nat.le_of_ble_eq_true rfl) d_M_init_97 ?_
  refine b_ws (ws' := [(h0, .inr (3, [.int 0, .ref q0, .ref q1, .int 0, .ref q2, .ref q3, .ref q4, .ref q5, .ref q6, .ref q7, .ref q8, .ref q9, .ref q10, .ref q11, .null, .int 0, .int 0, .null, .null, .null, .null, .int 0, .int 0, .null])), (q0, ia ar 8), (q1, ia ar 8), (q2, ia ar 6), (q3, ia ar 6), (q4, ia ar 6), (q5, ia ar 6), (q6, ia ar 6), (q7, ia ar 6), (q8, ia ar 60), (q9, ia ar 60), (q10, ia ar 60), (q11, ba ar 60)]) rfl ?_
  refine b_aload_n (pc := 100) E d_M_init_100 rfl rfl ?_
  refine b_bipush (v := 60) (pc := 101) E d_M_init_101 (by decide) ?_
  refine b_newa (pc := 103) (atype := .int) (ty := .int) (t := 0) (a0 := (60, .inl (fun _ => 0))) E rfl ac_int rfl (fun _ => rfl) (by decide) (by decide) (by decide) (by decide) (by decide) d_M_init_103 (fun q12 => ?_)
  refine b_ws (ws' := [(h0, .inr (3, [.int 0, .ref q0, .ref q1, .int 0, .ref q2, .ref q3, .ref q4, .ref q5, .ref q6, .ref q7, .ref q8, .ref q9, .ref q10, .ref q11, .null, .int 0, .int 0, .null, .null, .null, .null, .int 0, .int 0, .null])), (q0, ia ar 8), (q1, ia ar 8), (q2, ia ar 6), (q3, ia ar 6), (q4, ia ar 6), (q5, ia ar 6), (q6, ia ar 6), (q7, ia ar 6), (q8, ia ar 60), (q9, ia ar 60), (q10, ia ar 60), (q11, ba ar 60), (q12, ia ar 60)]) rfl ?_
  refine b_putF (pc := 105) (ty := .array .int) E hnm gw_M ty_M nm_M 0 rfl rfl 14 (by decide) fl_M_47 rfl rfl rfl rfl rfl (Nat.le_of_ble_eq_true rfl) d_M_init_105 ?_
  refine b_ws (ws' := [(h0, .inr (3, [.int 0, .ref q0, .ref q1, .int 0, .ref q2, .ref q3, .ref q4, .ref q5, .ref q6, .ref q7, .ref q8, .ref q9, .ref q10, .ref q11, .ref q12, .int 0, .int 0, .null, .null, .null, .null, .int 0, .int 0, .null])), (q0, ia ar 8), (q1, ia ar 8), (q2, ia ar 6), (q3, ia ar 6), (q4, ia ar 6), (q5, ia ar 6), (q6, ia ar 6), (q7, ia ar 6), (q8, ia ar 60), (q9, ia ar 60), (q10, ia ar 60), (q11, ba ar 60), (q12, ia ar 60)]) rfl ?_
  refine b_aload_n (pc := 108) E d_M_init_108 rfl rfl ?_
  refine b_bipush (v := 61) (pc := 109) E d_M_init_109 (by decide) ?_
  refine b_newa (pc := 111) (atype := .int) (ty := .int) (t := 0) (a0 := (61, .inl (fun _ => 0))) E rfl ac_int rfl (fun _ => rfl) (by decide) (by decide) (by decide) (by decide) (by decide) d_M_init_111 (fun q13 => ?_)
  refine b_ws (ws' := [(h0, .inr (3, [.int 0, .ref q0, .ref q1, .int 0, .ref q2, .ref q3, .ref q4, .ref q5, .ref q6, .ref q7, .ref q8, .ref q9, .ref q10, .ref q11, .ref q12, .int 0, .int 0, .null, .null, .null, .null, .int 0, .int 0, .null])), (q0, ia ar 8), (q1, ia ar 8), (q2, ia ar 6), (q3, ia ar 6), (q4, ia ar 6), (q5, ia ar 6), (q6, ia ar 6), (q7, ia ar 6), (q8, ia ar 60), (q9, ia ar 60), (q10, ia ar 60), (q11, ba ar 60), (q12, ia ar 60), (q13, ia ar 61)]) rfl ?_
  refine b_putF (pc := 113) (ty := .array .int) E hnm gw_M ty_M nm_M 0 rfl rfl 17 (by decide) fl_M_50 rfl rfl rfl rfl rfl (Nat.le_of_ble_eq_true rfl) d_M_init_113 ?_
  refine b_ws (ws' := [(h0, .inr (3, [.int 0, .ref q0, .ref q1, .int 0, .ref q2, .ref q3, .ref q4, .ref q5, .ref q6, .ref q7, .ref q8, .ref q9, .ref q10, .ref q11, .ref q12, .int 0, .int 0, .ref q13, .null, .null, .null, .int 0, .int 0, .null])), (q0, ia ar 8), (q1, ia ar 8), (q2, ia ar 6), (q3, ia ar 6), (q4, ia ar 6), (q5, ia ar 6), (q6, ia ar 6), (q7, ia ar 6), (q8, ia ar 60), (q9, ia ar 60), (q10, ia ar 60), (q11, ba ar 60), (q12, ia ar 60), (q13, ia ar 61)]) rfl ?_
  refine b_aload_n (pc := 116) E d_M_init_116 rfl rfl ?_
  refine b_bipush (v := 61) (pc := 117) E d_M_init_117 (by decide) ?_
  refine b_newa (pc := 119) (atype := .int) (ty := .int) (t := 0) (a0 := (61, .inl (fun _ => 0))) E rfl ac_int rfl (fun _ => rfl) (by decide) (by decide) (by decide) (by decide) (by decide) d_M_init_119 (fun q14 => ?_)
  refine b_ws (ws' := [(h0, .inr (3, [.int 0, .ref q0, .ref q1, .int 0, .ref q2, .ref q3, .ref q4, .ref q5, .ref q6, .ref q7, .ref q8, .ref q9, .ref q10, .ref q11, .ref q12, .int 0, .int 0, .ref q13, .null, .null, .null, .int 0, .int 0, .null])), (q0, ia ar 8), (q1, ia ar 8), (q2, ia ar 6), (q3, ia ar 6), (q4, ia ar 6), (q5, ia ar 6), (q6, ia ar 6), (q7, ia ar 6), (q8, ia ar 60), (q9, ia ar 60), (q10, ia ar 60), (q11, ba ar 60), (q12, ia ar 60), (q13, ia ar 61), (q14, ia ar 61)]) rfl ?_
  refine b_putF (pc := 121) (ty := .array .int) E hnm gw_M ty_M nm_M 0 rfl rfl 18 (by decide) fl_M_53 rfl rfl rfl rfl rfl (Nat.le_of_ble_eq_true rfl) d_M_init_121 ?_
  refine b_ws (ws' := [(h0, .inr (3, [.int 0, .ref q0, .ref q1, .int 0, .ref q2, .ref q3, .ref q4, .ref q5, .ref q6, .ref q7, .ref q8, .ref q9, .ref q10, .ref q11, .ref q12, .int 0, .int 0, .ref q13, .ref q14, .null, .null, .int 0, .int 0, .null])), (q0, ia ar 8), (q1, ia ar 8), (q2, ia ar 6), (q3, ia ar 6), (q4, ia ar 6), (q5, ia ar 6), (q6, ia ar 6), (q7, ia ar 6), (q8, ia ar 60), (q9, ia ar 60), (q10, ia ar 60), (q11, ba ar 60), (q12, ia ar 60), (q13, ia ar 61), (q14, ia ar 61)]) rfl ?_
  refine b_aload_n (pc := 124) E d_M_init_124 rfl rfl ?_
  refine b_bipush (v := 61) (pc := 125) E d_M_init_125 (by decide) ?_
  refine b_newa (pc := 127) (atype := .int) (ty := .int) (t := 0) (a0 := (61, .inl (fun _ => 0))) E rfl ac_int rfl (fun _ => rfl) (by decide) (by decide) (by decide) (by decide) (by decide) d_M_init_127 (fun q15 => ?_)
  refine b_ws (ws' := [(h0, .inr (3, [.int 0, .ref q0, .ref q1, .int 0, .ref q2, .ref q3, .ref q4, .ref q5, .ref q6, .ref q7, .ref q8, .ref q9, .ref q10, .ref q11, .ref q12, .int 0, .int 0, .ref q13, .ref q14, .null, .null, .int 0, .int 0, .null])), (q0, ia ar 8), (q1, ia ar 8), (q2, ia ar 6), (q3, ia ar 6), (q4, ia ar 6), (q5, ia ar 6), (q6, ia ar 6), (q7, ia ar 6), (q8, ia ar 60), (q9, ia ar 60), (q10, ia ar 60), (q11, ba ar 60), (q12, ia ar 60), (q13, ia ar 61), (q14, ia ar 61), (q15, ia ar 61)]) rfl ?_
  refine b_putF (pc := 129) (ty := .array .int) E hnm gw_M ty_M nm_M 0 rfl rfl 19 (by decide) fl_M_56 rfl rfl rfl rfl rfl (Nat.le_of_ble_eq_true rfl) d_M_init_129 ?_
  refine b_ws (ws' := [(h0, .inr (3, [.int 0, .ref q0, .ref q1, .int 0, .ref q2, .ref q3, .ref q4, .ref q5, .ref q6, .ref q7, .ref q8, .ref q9, .ref q10, .ref q11, .ref q12, .int 0, .int 0, .ref q13, .ref q14, .ref q15, .null, .int 0, .int 0, .null])), (q0, ia ar 8), (q1, ia ar 8), (q2, ia ar 6), (q3, ia ar 6), (q4, ia ar 6), (q5, ia ar 6), (q6, ia ar 6), (q7, ia ar 6), (q8, ia ar 60), (q9, ia ar 60), (q10, ia ar 60), (q11, ba ar 60), (q12, ia ar 60), (q13, ia ar 61), (q14, ia ar 61), (q15, ia ar 61)]) rfl ?_
  refine b_aload_n (pc := 132) E d_M_init_132 rfl rfl ?_
  refine b_bipush (v := 61) (pc := 133) E d_M_init_133 (by decide) ?_
  refine b_newa (pc := 135) (atype := .int) (ty := .int) (t := 0) (a0 := (61, .inl (fun _ => 0))) E rfl ac_int rfl (fun _ => rfl) (by decide) (by decide) (by decide) (by decide) (by decide) d_M_init_135 (fun q16 => ?_)
  refine b_ws (ws' := [(h0, .inr (3, [.int 0, .ref q0, .ref q1, .int 0, .ref q2, .ref q3, .ref q4, .ref q5, .ref q6, .ref q7, .ref q8, .ref q9, .ref q10, .ref q11, .ref q12, .int 0, .int 0, .ref q13, .ref q14, .ref q15, .null, .int 0, .int 0, .null])), (q0, ia ar 8), (q1, ia ar 8), (q2, ia ar 6), (q3, ia ar 6), (q4, ia ar 6), (q5, ia ar 6), (q6, ia ar 6), (q7, ia ar 6), (q8, ia ar 60), (q9, ia ar 60), (q10, ia ar 60), (q11, ba ar 60), (q12, ia ar 60), (q13, ia ar 61), (q14, ia ar 61), (q15, ia ar 61), (q16, ia ar 61)]) rfl ?_
  refine b_putF (pc := 137) (ty := .array .int) E hnm gw_M ty_M nm_M 0 rfl rfl 20 (by decide) fl_M_59 rfl rfl rfl rfl rfl (Nat.le_of_ble_eq_true rfl) d_M_init_137 ?_
  refine b_ws (ws' := [(h0, .inr (3, [.int 0, .ref q0, .ref q1, .int 0, .ref q2, .ref q3, .ref q4, .ref q5, .ref q6, .ref q7, .ref q8, .ref q9, .ref q10, .ref q11, .ref q12, .int 0, .int 0, .ref q13, .ref q14, .ref q15, .ref q16, .int 0, .int 0, .null])), (q0, ia ar 8), (q1, ia ar 8), (q2, ia ar 6), (q3, ia ar 6), (q4, ia ar 6), (q5, ia ar 6), (q6, ia ar 6), (q7, ia ar 6), (q8, ia ar 60), (q9, ia ar 60), (q10, ia ar 60), (q11, ba ar 60), (q12, ia ar 60), (q13, ia ar 61), (q14, ia ar 61), (q15, ia ar 61), (q16, ia ar 61)]) rfl ?_
  refine b_aload_n (pc := 140) E d_M_init_140 rfl rfl ?_
  refine b_sipush (v := 400) (pc := 141) E d_M_init_141 (by decide) ?_
  refine b_newa (pc := 144) (atype := .int) (ty := .int) (t := 0) (a0 := (400, .inl (fun _ => 0))) E rfl ac_int rfl (fun _ => rfl) (by decide) (by decide) (by decide) (by decide) (by decide) d_M_init_144 (fun q17 => ?_)
  refine b_ws (ws' := [(h0, .inr (3, [.int 0, .ref q0, .ref q1, .int 0, .ref q2, .ref q3, .ref q4, .ref q5, .ref q6, .ref q7, .ref q8, .ref q9, .ref q10, .ref q11, .ref q12, .int 0, .int 0, .ref q13, .ref q14, .ref q15, .ref q16, .int 0, .int 0, .null])), (q0, ia ar 8), (q1, ia ar 8), (q2, ia ar 6), (q3, ia ar 6), (q4, ia ar 6), (q5, ia ar 6), (q6, ia ar 6), (q7, ia ar 6), (q8, ia ar 60), (q9, ia ar 60), (q10, ia ar 60), (q11, ba ar 60), (q12, ia ar 60), (q13, ia ar 61), (q14, ia ar 61), (q15, ia ar 61), (q16, ia ar 61), (q17, ia ar 400)]) rfl ?_
  refine b_putF (pc := 146) (ty := .array .int) E hnm gw_M ty_M nm_M 0 rfl rfl 23 (by decide) fl_M_62 rfl rfl rfl rfl rfl (Nat.le_of_ble_eq_true rfl) d_M_init_146 ?_
  refine b_ws (ws' := [(h0, .inr (3, [.int 0, .ref q0, .ref q1, .int 0, .ref q2, .ref q3, .ref q4, .ref q5, .ref q6, .ref q7, .ref q8, .ref q9, .ref q10, .ref q11, .ref q12, .int 0, .int 0, .ref q13, .ref q14, .ref q15, .ref q16, .int 0, .int 0, .ref q17])), (q0, ia ar 8), (q1, ia ar 8), (q2, ia ar 6), (q3, ia ar 6), (q4, ia ar 6), (q5, ia ar 6), (q6, ia ar 6), (q7, ia ar 6), (q8, ia ar 60), (q9, ia ar 60), (q10, ia ar 60), (q11, ba ar 60), (q12, ia ar 60), (q13, ia ar 61), (q14, ia ar 61), (q15, ia ar 61), (q16, ia ar 61), (q17, ia ar 400)]) rfl ?_
  refine b_iconst (v := 0) (pc := 149) E d_M_init_149 (by decide) ?_
  refine b_istore_n (pc := 150) E d_M_init_150 rfl (by decide) ?_
  refine b_ls (ls' := [(1, .int 0), (0, .ref h0)]) rfl ?_
  refine b_iload_n (pc := 151) E d_M_init_151 rfl rfl ?_
  refine b_bipush (v := 8) (pc := 152) E d_M_init_152 (by decide) ?_
  refine b_icmp_ge (tgt := 170) (pc := 154) E d_M_init_154 (by decide) (fun q => absurd q (by decide)) (fun _ => ?_)
  refine b_aload_n (pc := 157) E d_M_init_157 rfl rfl ?_
  refine b_get (pc := 158) E gw_M 0 rfl rfl 2 (by decide) fl_M_13 rfl d_M_init_158 ?_
  refine b_iload_n (pc := 161) E d_M_init_161 rfl rfl ?_
  refine b_iconst (v := (-1)) (pc := 162) E d_M_init_162 (by decide) ?_
  refine b_iast (pc := 163) E 2 rfl (ix_of (by decide) (by decide)) d_M_init_163 ?_
  refine b_ws (ws' := [(h0, .inr (3, [.int 0, .ref q0, .ref q1, .int 0, .ref q2, .ref q3, .ref q4, .ref q5, .ref q6, .ref q7, .ref q8, .ref q9, .ref q10, .ref q11, .ref q12, .int 0, .int 0, .ref q13, .ref q14, .ref q15, .ref q16, .int 0, .int 0, .ref q17])), (q0, ia ar 8), (q1, ha ar 1), (q2, ia ar 6), (q3, ia ar 6), (q4, ia ar 6), (q5, ia ar 6), (q6, ia ar 6), (q7, ia ar 6), (q8, ia ar 60), (q9, ia ar 60), (q10, ia ar 60), (q11, ba ar 60), (q12, ia ar 60), (q13, ia ar 61), (q14, ia ar 61), (q15, ia ar 61), (q16, ia ar 61), (q17, ia ar 400)]) rfl ?_
  refine b_iinc (pc := 164) E d_M_init_164 rfl (by decide) ?_
  refine b_ls (ls' := [(1, .int 1), (0, .ref h0)]) rfl ?_
  refine b_goto (tgt := 151) (pc := 167) E d_M_init_167 (by decide) ?_
  refine b_iload_n (pc := 151) E d_M_init_151 rfl rfl ?_
  refine b_bipush (v := 8) (pc := 152) E d_M_init_152 (by decide) ?_
  refine b_icmp_ge (tgt := 170) (pc := 154) E d_M_init_154 (by decide) (fun q => absurd q (by decide)) (fun _ => ?_)
  refine b_aload_n (pc := 157) E d_M_init_157 rfl rfl ?_
  refine b_get (pc := 158) E gw_M 0 rfl rfl 2 (by decide) fl_M_13 rfl d_M_init_158 ?_
  refine b_iload_n (pc := 161) E d_M_init_161 rfl rfl ?_
  refine b_iconst (v := (-1)) (pc := 162) E d_M_init_162 (by decide) ?_
  refine b_iast (pc := 163) E 2 rfl (ix_of (by decide) (by decide)) d_M_init_163 ?_
  refine b_ws (ws' := [(h0, .inr (3, [.int 0, .ref q0, .ref q1, .int 0, .ref q2, .ref q3, .ref q4, .ref q5, .ref q6, .ref q7, .ref q8, .ref q9, .ref q10, .ref q11, .ref q12, .int 0, .int 0, .ref q13, .ref q14, .ref q15, .ref q16, .int 0, .int 0, .ref q17])), (q0, ia ar 8), (q1, ha ar 2), (q2, ia ar 6), (q3, ia ar 6), (q4, ia ar 6), (q5, ia ar 6), (q6, ia ar 6), (q7, ia ar 6), (q8, ia ar 60), (q9, ia ar 60), (q10, ia ar 60), (q11, ba ar 60), (q12, ia ar 60), (q13, ia ar 61), (q14, ia ar 61), (q15, ia ar 61), (q16, ia ar 61), (q17, ia ar 400)]) rfl ?_
  refine b_iinc (pc := 164) E d_M_init_164 rfl (by decide) ?_
  refine b_ls (ls' := [(1, .int 2), (0, .ref h0)]) rfl ?_
  refine b_goto (tgt := 151) (pc := 167) E d_M_init_167 (by decide) ?_
  refine b_iload_n (pc := 151) E d_M_init_151 rfl rfl ?_
  refine b_bipush (v := 8) (pc := 152) E d_M_init_152 (by decide) ?_
  refine b_icmp_ge (tgt := 170) (pc := 154) E d_M_init_154 (by decide) (fun q => absurd q (by decide)) (fun _ => ?_)
  refine b_aload_n (pc := 157) E d_M_init_157 rfl rfl ?_
  refine b_get (pc := 158) E gw_M 0 rfl rfl 2 (by decide) fl_M_13 rfl d_M_init_158 ?_
  refine b_iload_n (pc := 161) E d_M_init_161 rfl rfl ?_
  refine b_iconst (v := (-1)) (pc := 162) E d_M_init_162 (by decide) ?_
  refine b_iast (pc := 163) E 2 rfl (ix_of (by decide) (by decide)) d_M_init_163 ?_
  refine b_ws (ws' := [(h0, .inr (3, [.int 0, .ref q0, .ref q1, .int 0, .ref q2, .ref q3, .ref q4, .ref q5, .ref q6, .ref q7, .ref q8, .ref q9, .ref q10, .ref q11, .ref q12, .int 0, .int 0, .ref q13, .ref q14, .ref q15, .ref q16, .int 0, .int 0, .ref q17])), (q0, ia ar 8), (q1, ha ar 3), (q2, ia ar 6), (q3, ia ar 6), (q4, ia ar 6), (q5, ia ar 6), (q6, ia ar 6), (q7, ia ar 6), (q8, ia ar 60), (q9, ia ar 60), (q10, ia ar 60), (q11, ba ar 60), (q12, ia ar 60), (q13, ia ar 61), (q14, ia ar 61), (q15, ia ar 61), (q16, ia ar 61), (q17, ia ar 400)]) rfl ?_
  refine b_iinc (pc := 164) E d_M_init_164 rfl (by decide) ?_
  refine b_ls (ls' := [(1, .int 3), (0, .ref h0)]) rfl ?_
  refine b_goto (tgt := 151) (pc := 167) E d_M_init_167 (by decide) ?_
  refine b_iload_n (pc := 151) E d_M_init_151 rfl rfl ?_
  refine b_bipush (v := 8) (pc := 152) E d_M_init_152 (by decide) ?_
  refine b_icmp_ge (tgt := 170) (pc := 154) E d_M_init_154 (by decide) (fun q => absurd q (by decide)) (fun _ => ?_)
  refine b_aload_n (pc := 157) E d_M_init_157 rfl rfl ?_
  refine b_get (pc := 158) E gw_M 0 rfl rfl 2 (by decide) fl_M_13 rfl d_M_init_158 ?_
  refine b_iload_n (pc := 161) E d_M_init_161 rfl rfl ?_
  refine b_iconst (v := (-1)) (pc := 162) E d_M_init_162 (by decide) ?_
  refine b_iast (pc := 163) E 2 rfl (ix_of (by decide) (by decide)) d_M_init_163 ?_
  refine b_ws (ws' := [(h0, .inr (3, [.int 0, .ref q0, .ref q1, .int 0, .ref q2, .ref q3, .ref q4, .ref q5, .ref q6, .ref q7, .ref q8, .ref q9, .ref q10, .ref q11, .ref q12, .int 0, .int 0, .ref q13, .ref q14, .ref q15, .ref q16, .int 0, .int 0, .ref q17])), (q0, ia ar 8), (q1, ha ar 4), (q2, ia ar 6), (q3, ia ar 6), (q4, ia ar 6), (q5, ia ar 6), (q6, ia ar 6), (q7, ia ar 6), (q8, ia ar 60), (q9, ia ar 60), (q10, ia ar 60), (q11, ba ar 60), (q12, ia ar 60), (q13, ia ar 61), (q14, ia ar 61), (q15, ia ar 61), (q16, ia ar 61), (q17, ia ar 400)]) rfl ?_
  refine b_iinc (pc := 164) E d_M_init_164 rfl (by decide) ?_
  refine b_ls (ls' := [(1, .int 4), (0, .ref h0)]) rfl ?_
  refine b_goto (tgt := 151) (pc := 167) E d_M_init_167 (by decide) ?_
  refine b_iload_n (pc := 151) E d_M_init_151 rfl rfl ?_
  refine b_bipush (v := 8) (pc := 152) E d_M_init_152 (by decide) ?_
  refine b_icmp_ge (tgt := 170) (pc := 154) E d_M_init_154 (by decide) (fun q => absurd q (by decide)) (fun _ => ?_)
  refine b_aload_n (pc := 157) E d_M_init_157 rfl rfl ?_
  refine b_get (pc := 158) E gw_M 0 rfl rfl 2 (by decide) fl_M_13 rfl d_M_init_158 ?_
  refine b_iload_n (pc := 161) E d_M_init_161 rfl rfl ?_
  refine b_iconst (v := (-1)) (pc := 162) E d_M_init_162 (by decide) ?_
  refine b_iast (pc := 163) E 2 rfl (ix_of (by decide) (by decide)) d_M_init_163 ?_
  refine b_ws (ws' := [(h0, .inr (3, [.int 0, .ref q0, .ref q1, .int 0, .ref q2, .ref q3, .ref q4, .ref q5, .ref q6, .ref q7, .ref q8, .ref q9, .ref q10, .ref q11, .ref q12, .int 0, .int 0, .ref q13, .ref q14, .ref q15, .ref q16, .int 0, .int 0, .ref q17])), (q0, ia ar 8), (q1, ha ar 5), (q2, ia ar 6), (q3, ia ar 6), (q4, ia ar 6), (q5, ia ar 6), (q6, ia ar 6), (q7, ia ar 6), (q8, ia ar 60), (q9, ia ar 60), (q10, ia ar 60), (q11, ba ar 60), (q12, ia ar 60), (q13, ia ar 61), (q14, ia ar 61), (q15, ia ar 61), (q16, ia ar 61), (q17, ia ar 400)]) rfl ?_
  refine b_iinc (pc := 164) E d_M_init_164 rfl (by decide) ?_
  refine b_ls (ls' := [(1, .int 5), (0, .ref h0)]) rfl ?_
  refine b_goto (tgt := 151) (pc := 167) E d_M_init_167 (by decide) ?_
  refine b_iload_n (pc := 151) E d_M_init_151 rfl rfl ?_
  refine b_bipush (v := 8) (pc := 152) E d_M_init_152 (by decide) ?_
  refine b_icmp_ge (tgt := 170) (pc := 154) E d_M_init_154 (by decide) (fun q => absurd q (by decide)) (fun _ => ?_)
  refine b_aload_n (pc := 157) E d_M_init_157 rfl rfl ?_
  refine b_get (pc := 158) E gw_M 0 rfl rfl 2 (by decide) fl_M_13 rfl d_M_init_158 ?_
  refine b_iload_n (pc := 161) E d_M_init_161 rfl rfl ?_
  refine b_iconst (v := (-1)) (pc := 162) E d_M_init_162 (by decide) ?_
  refine b_iast (pc := 163) E 2 rfl (ix_of (by decide) (by decide)) d_M_init_163 ?_
  refine b_ws (ws' := [(h0, .inr (3, [.int 0, .ref q0, .ref q1, .int 0, .ref q2, .ref q3, .ref q4, .ref q5, .ref q6, .ref q7, .ref q8, .ref q9, .ref q10, .ref q11, .ref q12, .int 0, .int 0, .ref q13, .ref q14, .ref q15, .ref q16, .int 0, .int 0, .ref q17])), (q0, ia ar 8), (q1, ha ar 6), (q2, ia ar 6), (q3, ia ar 6), (q4, ia ar 6), (q5, ia ar 6), (q6, ia ar 6), (q7, ia ar 6), (q8, ia ar 60), (q9, ia ar 60), (q10, ia ar 60), (q11, ba ar 60), (q12, ia ar 60), (q13, ia ar 61), (q14, ia ar 61), (q15, ia ar 61), (q16, ia ar 61), (q17, ia ar 400)]) rfl ?_
  refine b_iinc (pc := 164) E d_M_init_164 rfl (by decide) ?_
  refine b_ls (ls' := [(1, .int 6), (0, .ref h0)]) rfl ?_
  refine b_goto (tgt := 151) (pc := 167) E d_M_init_167 (by decide) ?_
  refine b_iload_n (pc := 151) E d_M_init_151 rfl rfl ?_
  refine b_bipush (v := 8) (pc := 152) E d_M_init_152 (by decide) ?_
  refine b_icmp_ge (tgt := 170) (pc := 154) E d_M_init_154 (by decide) (fun q => absurd q (by decide)) (fun _ => ?_)
  refine b_aload_n (pc := 157) E d_M_init_157 rfl rfl ?_
  refine b_get (pc := 158) E gw_M 0 rfl rfl 2 (by decide) fl_M_13 rfl d_M_init_158 ?_
  refine b_iload_n (pc := 161) E d_M_init_161 rfl rfl ?_
  refine b_iconst (v := (-1)) (pc := 162) E d_M_init_162 (by decide) ?_
  refine b_iast (pc := 163) E 2 rfl (ix_of (by decide) (by decide)) d_M_init_163 ?_
  refine b_ws (ws' := [(h0, .inr (3, [.int 0, .ref q0, .ref q1, .int 0, .ref q2, .ref q3, .ref q4, .ref q5, .ref q6, .ref q7, .ref q8, .ref q9, .ref q10, .ref q11, .ref q12, .int 0, .int 0, .ref q13, .ref q14, .ref q15, .ref q16, .int 0, .int 0, .ref q17])), (q0, ia ar 8), (q1, ha ar 7), (q2, ia ar 6), (q3, ia ar 6), (q4, ia ar 6), (q5, ia ar 6), (q6, ia ar 6), (q7, ia ar 6), (q8, ia ar 60), (q9, ia ar 60), (q10, ia ar 60), (q11, ba ar 60), (q12, ia ar 60), (q13, ia ar 61), (q14, ia ar 61), (q15, ia ar 61), (q16, ia ar 61), (q17, ia ar 400)]) rfl ?_
  refine b_iinc (pc := 164) E d_M_init_164 rfl (by decide) ?_
  refine b_ls (ls' := [(1, .int 7), (0, .ref h0)]) rfl ?_
  refine b_goto (tgt := 151) (pc := 167) E d_M_init_167 (by decide) ?_
  refine b_iload_n (pc := 151) E d_M_init_151 rfl rfl ?_
  refine b_bipush (v := 8) (pc := 152) E d_M_init_152 (by decide) ?_
  refine b_icmp_ge (tgt := 170) (pc := 154) E d_M_init_154 (by decide) (fun q => absurd q (by decide)) (fun _ => ?_)
  refine b_aload_n (pc := 157) E d_M_init_157 rfl rfl ?_
  refine b_get (pc := 158) E gw_M 0 rfl rfl 2 (by decide) fl_M_13 rfl d_M_init_158 ?_
  refine b_iload_n (pc := 161) E d_M_init_161 rfl rfl ?_
  refine b_iconst (v := (-1)) (pc := 162) E d_M_init_162 (by decide) ?_
  refine b_iast (pc := 163) E 2 rfl (ix_of (by decide) (by decide)) d_M_init_163 ?_
  refine b_ws (ws' := [(h0, .inr (3, [.int 0, .ref q0, .ref q1, .int 0, .ref q2, .ref q3, .ref q4, .ref q5, .ref q6, .ref q7, .ref q8, .ref q9, .ref q10, .ref q11, .ref q12, .int 0, .int 0, .ref q13, .ref q14, .ref q15, .ref q16, .int 0, .int 0, .ref q17])), (q0, ia ar 8), (q1, ha ar 8), (q2, ia ar 6), (q3, ia ar 6), (q4, ia ar 6), (q5, ia ar 6), (q6, ia ar 6), (q7, ia ar 6), (q8, ia ar 60), (q9, ia ar 60), (q10, ia ar 60), (q11, ba ar 60), (q12, ia ar 60), (q13, ia ar 61), (q14, ia ar 61), (q15, ia ar 61), (q16, ia ar 61), (q17, ia ar 400)]) rfl ?_
  refine b_iinc (pc := 164) E d_M_init_164 rfl (by decide) ?_
  refine b_ls (ls' := [(1, .int 8), (0, .ref h0)]) rfl ?_
  refine b_goto (tgt := 151) (pc := 167) E d_M_init_167 (by decide) ?_
  refine b_iload_n (pc := 151) E d_M_init_151 rfl rfl ?_
  refine b_bipush (v := 8) (pc := 152) E d_M_init_152 (by decide) ?_
  refine b_icmp_ge (tgt := 170) (pc := 154) E d_M_init_154 (by decide) (fun _ => ?_) (fun q => absurd (by decide) q)
  exact b_vret (pc := 170) E hr hlk d_M_init_170 (by decide) (by decide) (fun i => match i with | 0 => q0 | 1 => q1 | 2 => q2 | 3 => q3 | 4 => q4 | 5 => q5 | 6 => q6 | 7 => q7 | 8 => q8 | 9 => q9 | 10 => q10 | 11 => q11 | 12 => q12 | 13 => q13 | 14 => q14 | 15 => q15 | 16 => q16 | 17 => q17 | _ => 0) rfl
set_option maxHeartbeats 4000000 in
set_option maxRecDepth 100000 in
theorem c_H_init (l : Launch) (D : va_G) (ar : Nat → ClassId) (h0 : Nat) : Ci l D ar y_H_init prog_1_method_1_code 2 rm_h (fun U => va_Nw (.methodLinkNest "HouseThreads2" 24 y_Q_init "HouseThreads2") U ∧ va_AO "HouseThreads2$Part" U) h0 [] o0_H (fun g => [(h0, .inr (2, [.ref (g 0), .ref (g 1), .ref (g 2), .ref (g 3), .ref (g 8), .int 0, .int 0, .int 0, .int 0, .int 0])), (g 0, ia ar 8), (g 1, ha ar 8), (g 2, pa ar (va_up (va_up (va_up (va_up (va_up (va_up (fun _ => none) 0 (some (g 9))) 1 (some (g 15))) 2 (some (g 21))) 3 (some (g 27))) 4 (some (g 33))) 5 (some (g 39)))), (g 3, .inr (1, [.ref (g 4), .ref (g 5), .ref (g 6), .ref (g 7), .int 0])), (g 4, ia ar 61), (g 5, ia ar 61), (g 6, ia ar 61), (g 7, ia ar 61), (g 8, ia ar 400), (g 9, .inr (0, [.int 0, .int 0, .int 0, .int 0, .int 0, .int 0, .ref (g 10), .ref (g 11), .ref (g 12), .ref (g 13), .ref (g 14)])), (g 10, ia ar 10), (g 11, ia ar 10), (g 12, ia ar 10), (g 13, ba ar 10), (g 14, ia ar 10), (g 15, .inr (0, [.int 1, .int 0, .int 0, .int 0, .int 0, .int 0, .ref (g 16), .ref (g 17), .ref (g 18), .ref (g 19), .ref (g 20)])), (g 16, ia ar 10), (g 17, ia ar 10), (g 18, ia ar 10), (g 19, ba ar 10), (g 20, ia ar 10), (g 21, .inr (0, [.int 2, .int 0, .int 0, .int 0, .int 0, .int 0, .ref (g 22), .ref (g 23), .ref (g 24), .ref (g 25), .ref (g 26)])), (g 22, ia ar 10), (g 23, ia ar 10), (g 24, ia ar 10), (g 25, ba ar 10), (g 26, ia ar 10), (g 27, .inr (0, [.int 3, .int 0, .int 0, .int 0, .int 0, .int 0, .ref (g 28), .ref (g 29), .ref (g 30), .ref (g 31), .ref (g 32)])), (g 28, ia ar 10), (g 29, ia ar 10), (g 30, ia ar 10), (g 31, ba ar 10), (g 32, ia ar 10), (g 33, .inr (0, [.int 4, .int 0, .int 0, .int 0, .int 0, .int 0, .ref (g 34), .ref (g 35), .ref (g 36), .ref (g 37), .ref (g 38)])), (g 34, ia ar 10), (g 35, ia ar 10), (g 36, ia ar 10), (g 37, ba ar 10), (g 38, ia ar 10), (g 39, .inr (0, [.int 5, .int 0, .int 0, .int 0, .int 0, .int 0, .ref (g 40), .ref (g 41), .ref (g 42), .ref (g 43), .ref (g 44)])), (g 40, ia ar 10), (g 41, ia ar 10), (g 42, ia ar 10), (g 43, ba ar 10), (g 44, ia ar 10)]) := by
  refine Ci.of (by decide) rfl (Nat.le_of_ble_eq_true rfl) ?_
  intro p e s m below meth c A E hr hlk hnm hX
  refine b_aload_n (pc := 0) E d_H_init_0 rfl rfl ?_
  refine b_obj (pc := 1) E ml_H_1 d_H_init_1 (by decide) (by decide) im_Object_init cd_Object_init ?_
  refine b_aload_n (pc := 4) E d_H_init_4 rfl rfl ?_
  refine b_bipush (v := 8) (pc := 5) E d_H_init_5 (by decide) ?_
  refine b_newa (pc := 7) (atype := .int) (ty := .int) (t := 0) (a0 := (8, .inl (fun _ => 0))) E rfl ac_int rfl (fun _ => rfl) (by decide) (by decide) (by decide) (by decide) (by decide) d_H_init_7 (fun q0 => ?_)
  refine b_ws (ws' := [(h0, .inr (2, [.null, .null, .null, .null, .null, .int 0, .int 0, .int 0, .int 0, .int 0])), (q0, ia ar 8)]) rfl ?_
  refine b_putF (pc := 9) (ty := .array .int) E hnm gw_H ty_H nm_H 0 rfl rfl 0 (by decide) fl_H_9 rfl rfl rfl rfl rfl (Nat.le_of_ble_eq_true rfl) d_H_init_9 ?_
  refine b_ws (ws' := [(h0, .inr (2, [.ref q0, .null, .null, .null, .null, .int 0, .int 0, .int 0, .int 0, .int 0])), (q0, ia ar 8)]) rfl ?_
  refine b_aload_n (pc := 12) E d_H_init_12 rfl rfl ?_
  refine b_bipush (v := 8) (pc := 13) E d_H_init_13 (by decide) ?_
  refine b_newa (pc := 15) (atype := .int) (ty := .int) (t := 0) (a0 := (8, .inl (fun _ => 0))) E rfl ac_int rfl (fun _ => rfl) (by decide) (by decide) (by decide) (by decide) (by decide) d_H_init_15 (fun q1 => ?_)
  refine b_ws (ws' := [(h0, .inr (2, [.ref q0, .null, .null, .null, .null, .int 0, .int 0, .int 0, .int 0, .int 0])), (q0, ia ar 8), (q1, ia ar 8)]) rfl ?_
  refine b_putF (pc := 17) (ty := .array .int) E hnm gw_H ty_H nm_H 0 rfl rfl 1 (by decide) fl_H_13 rfl rfl rfl rfl rfl (Nat.le_of_ble_eq_true rfl) d_H_init_17 ?_
  refine b_ws (ws' := [(h0, .inr (2, [.ref q0, .ref q1, .null, .null, .null, .int 0, .int 0, .int 0, .int 0, .int 0])), (q0, ia ar 8), (q1, ia ar 8)]) rfl ?_
  refine b_aload_n (pc := 20) E d_H_init_20 rfl rfl ?_
  refine b_bipush (v := 6) (pc := 21) E d_H_init_21 (by decide) ?_
  refine b_newq (pc := 23) (t := 3) (N := 6) E cl_H_16 hX.2 rfl (by decide) (by decide) (by decide) (by decide) (by decide) d_H_init_23 (fun q2 => ?_)
  refine b_ws (ws' := [(h0, .inr (2, [.ref q0, .ref q1, .null, .null, .null, .int 0, .int 0, .int 0, .int 0, .int 0])), (q0, ia ar 8), (q1, ia ar 8), (q2, pa ar (fun _ => none))]) rfl ?_
  refine b_putF (pc := 26) (ty := .array (.object "HouseThreads2$Part")) E hnm gw_H ty_H nm_H 0 rfl rfl 2 (by decide) fl_H_18 rfl rfl rfl rfl rfl (Nat.le_of_ble_eq_true rfl) d_H_init_26 ?_
  refine b_ws (ws' := [(h0, .inr (2, [.ref q0, .ref q1, .ref q2, .null, .null, .int 0, .int 0, .int 0, .int 0, .int 0])), (q0, ia ar 8), (q1, ia ar 8), (q2, pa ar (fun _ => none))]) rfl ?_
  refine b_aload_n (pc := 29) E d_H_init_29 rfl rfl ?_
  refine b_new (pc := 30) (ci := 1) (fs := [.null, .null, .null, .null, .int 0]) E gw_Q ty_Q cl_H_22 ib_Q ii_Q rfl df_Q (by decide) (by decide) d_H_init_30 (fun q3 => ?_)
  refine b_ws (ws' := [(h0, .inr (2, [.ref q0, .ref q1, .ref q2, .null, .null, .int 0, .int 0, .int 0, .int 0, .int 0])), (q0, ia ar 8), (q1, ia ar 8), (q2, pa ar (fun _ => none)), (q3, .inr (1, [.null, .null, .null, .null, .int 0]))]) rfl ?_
  refine b_dup (pc := 33) E d_H_init_33 rfl ?_
  refine b_callIN (pc := 34) (n := 0) (X := fun _ => True) (wr := [(h0, .inr (2, [.ref q0, .ref q1, .ref q2, .null, .null, .int 0, .int 0, .int 0, .int 0, .int 0])), (q0, ia ar 8), (q1, ia ar 8), (q2, pa ar (fun _ => none))]) E (c_Q_init l D ar q3) ⟨by decide, by decide, im_Q_init, ii_Q, cd_Q_init, rfl, by decide, by decide, by decide +kernel⟩ hX.1 (fun _ _ _ => trivial) (fun _ _ _ _ _ => trivial) 4 [0, 1, 2, 3] rfl rfl (by decide) (by decide) rfl rfl (Nat.le_of_ble_eq_true rfl) d_H_init_34 (by decide) (fun g4 => ?_)
  refine b_ws (ws' := [(h0, .inr (2, [.ref q0, .ref q1, .ref q2, .null, .null, .int 0, .int 0, .int 0, .int 0, .int 0])), (q0, ia ar 8), (q1, ia ar 8), (q2, pa ar (fun _ => none)), (q3, .inr (1, [.ref (g4 0), .ref (g4 1), .ref (g4 2), .ref (g4 3), .int 0])), (g4 0, ia ar 61), (g4 1, ia ar 61), (g4 2, ia ar 61), (g4 3, ia ar 61)]) rfl ?_
  refine b_putF (pc := 37) (ty := .object "HouseThreads2$Post") E hnm gw_H ty_H nm_H 0 rfl rfl 3 (by decide) fl_H_25 rfl rfl rfl rfl rfl (Nat.le_of_ble_eq_true rfl) d_H_init_37 ?_
  refine b_ws (ws' := [(h0, .inr (2, [.ref q0, .ref q1, .ref q2, .ref q3, .null, .int 0, .int 0, .int 0, .int 0, .int 0])), (q0, ia ar 8), (q1, ia ar 8), (q2, pa ar (fun _ => none)), (q3, .inr (1, [.ref (g4 0), .ref (g4 1), .ref (g4 2), .ref (g4 3), .int 0])), (g4 0, ia ar 61), (g4 1, ia ar 61), (g4 2, ia ar 61), (g4 3, ia ar 61)]) rfl ?_
  refine b_aload_n (pc := 40) E d_H_init_40 rfl rfl ?_
  refine b_sipush (v := 400) (pc := 41) E d_H_init_41 (by decide) ?_
  refine b_newa (pc := 44) (atype := .int) (ty := .int) (t := 0) (a0 := (400, .inl (fun _ => 0))) E rfl ac_int rfl (fun _ => rfl) (by decide) (by decide) (by decide) (by decide) (by decide) d_H_init_44 (fun q5 => ?_)
  refine b_ws (ws' := [(h0, .inr (2, [.ref q0, .ref q1, .ref q2, .ref q3, .null, .int 0, .int 0, .int 0, .int 0, .int 0])), (q0, ia ar 8), (q1, ia ar 8), (q2, pa ar (fun _ => none)), (q3, .inr (1, [.ref (g4 0), .ref (g4 1), .ref (g4 2), .ref (g4 3), .int 0])), (g4 0, ia ar 61), (g4 1, ia ar 61), (g4 2, ia ar 61), (g4 3, ia ar 61), (q5, ia ar 400)]) rfl ?_
  refine b_putF (pc := 46) (ty := .array .int) E hnm gw_H ty_H nm_H 0 rfl rfl 4 (by decide) fl_H_29 rfl rfl rfl rfl rfl (Nat.le_of_ble_eq_true rfl) d_H_init_46 ?_
  refine b_ws (ws' := [(h0, .inr (2, [.ref q0, .ref q1, .ref q2, .ref q3, .ref q5, .int 0, .int 0, .int 0, .int 0, .int 0])), (q0, ia ar 8), (q1, ia ar 8), (q2, pa ar (fun _ => none)), (q3, .inr (1, [.ref (g4 0), .ref (g4 1), .ref (g4 2), .ref (g4 3), .int 0])), (g4 0, ia ar 61), (g4 1, ia ar 61), (g4 2, ia ar 61), (g4 3, ia ar 61), (q5, ia ar 400)]) rfl ?_
  refine b_iconst (v := 0) (pc := 49) E d_H_init_49 (by decide) ?_
  refine b_istore_n (pc := 50) E d_H_init_50 rfl (by decide) ?_
  refine b_ls (ls' := [(1, .int 0), (0, .ref h0)]) rfl ?_
  refine b_iload_n (pc := 51) E d_H_init_51 rfl rfl ?_
  refine b_bipush (v := 8) (pc := 52) E d_H_init_52 (by decide) ?_
  refine b_icmp_ge (tgt := 70) (pc := 54) E d_H_init_54 (by decide) (fun q => absurd q (by decide)) (fun _ => ?_)
  refine b_aload_n (pc := 57) E d_H_init_57 rfl rfl ?_
  refine b_get (pc := 58) E gw_H 0 rfl rfl 1 (by decide) fl_H_13 rfl d_H_init_58 ?_
  refine b_iload_n (pc := 61) E d_H_init_61 rfl rfl ?_
  refine b_iconst (v := (-1)) (pc := 62) E d_H_init_62 (by decide) ?_
  refine b_iast (pc := 63) E 2 rfl (ix_of (by decide) (by decide)) d_H_init_63 ?_
  refine b_ws (ws' := [(h0, .inr (2, [.ref q0, .ref q1, .ref q2, .ref q3, .ref q5, .int 0, .int 0, .int 0, .int 0, .int 0])), (q0, ia ar 8), (q1, ha ar 1), (q2, pa ar (fun _ => none)), (q3, .inr (1, [.ref (g4 0), .ref (g4 1), .ref (g4 2), .ref (g4 3), .int 0])), (g4 0, ia ar 61), (g4 1, ia ar 61), (g4 2, ia ar 61), (g4 3, ia ar 61), (q5, ia ar 400)]) rfl ?_
  refine b_iinc (pc := 64) E d_H_init_64 rfl (by decide) ?_
  refine b_ls (ls' := [(1, .int 1), (0, .ref h0)]) rfl ?_
  refine b_goto (tgt := 51) (pc := 67) E d_H_init_67 (by decide) ?_
  refine b_iload_n (pc := 51) E d_H_init_51 rfl rfl ?_
  refine b_bipush (v := 8) (pc := 52) E d_H_init_52 (by decide) ?_
  refine b_icmp_ge (tgt := 70) (pc := 54) E d_H_init_54 (by decide) (fun q => absurd q (by decide)) (fun _ => ?_)
  refine b_aload_n (pc := 57) E d_H_init_57 rfl rfl ?_
  refine b_get (pc := 58) E gw_H 0 rfl rfl 1 (by decide) fl_H_13 rfl d_H_init_58 ?_
  refine b_iload_n (pc := 61) E d_H_init_61 rfl rfl ?_
  refine b_iconst (v := (-1)) (pc := 62) E d_H_init_62 (by decide) ?_
  refine b_iast (pc := 63) E 2 rfl (ix_of (by decide) (by decide)) d_H_init_63 ?_
  refine b_ws (ws' := [(h0, .inr (2, [.ref q0, .ref q1, .ref q2, .ref q3, .ref q5, .int 0, .int 0, .int 0, .int 0, .int 0])), (q0, ia ar 8), (q1, ha ar 2), (q2, pa ar (fun _ => none)), (q3, .inr (1, [.ref (g4 0), .ref (g4 1), .ref (g4 2), .ref (g4 3), .int 0])), (g4 0, ia ar 61), (g4 1, ia ar 61), (g4 2, ia ar 61), (g4 3, ia ar 61), (q5, ia ar 400)]) rfl ?_
  refine b_iinc (pc := 64) E d_H_init_64 rfl (by decide) ?_
  refine b_ls (ls' := [(1, .int 2), (0, .ref h0)]) rfl ?_
  refine b_goto (tgt := 51) (pc := 67) E d_H_init_67 (by decide) ?_
  refine b_iload_n (pc := 51) E d_H_init_51 rfl rfl ?_
  refine b_bipush (v := 8) (pc := 52) E d_H_init_52 (by decide) ?_
  refine b_icmp_ge (tgt := 70) (pc := 54) E d_H_init_54 (by decide) (fun q => absurd q (by decide)) (fun _ => ?_)
  refine b_aload_n (pc := 57) E d_H_init_57 rfl rfl ?_
  refine b_get (pc := 58) E gw_H 0 rfl rfl 1 (by decide) fl_H_13 rfl d_H_init_58 ?_
  refine b_iload_n (pc := 61) E d_H_init_61 rfl rfl ?_
  refine b_iconst (v := (-1)) (pc := 62) E d_H_init_62 (by decide) ?_
  refine b_iast (pc := 63) E 2 rfl (ix_of (by decide) (by decide)) d_H_init_63 ?_
  refine b_ws (ws' := [(h0, .inr (2, [.ref q0, .ref q1, .ref q2, .ref q3, .ref q5, .int 0, .int 0, .int 0, .int 0, .int 0])), (q0, ia ar 8), (q1, ha ar 3), (q2, pa ar (fun _ => none)), (q3, .inr (1, [.ref (g4 0), .ref (g4 1), .ref (g4 2), .ref (g4 3), .int 0])), (g4 0, ia ar 61), (g4 1, ia ar 61), (g4 2, ia ar 61), (g4 3, ia ar 61), (q5, ia ar 400)]) rfl ?_
  refine b_iinc (pc := 64) E d_H_init_64 rfl (by decide) ?_
  refine b_ls (ls' := [(1, .int 3), (0, .ref h0)]) rfl ?_
  refine b_goto (tgt := 51) (pc := 67) E d_H_init_67 (by decide) ?_
  refine b_iload_n (pc := 51) E d_H_init_51 rfl rfl ?_
  refine b_bipush (v := 8) (pc := 52) E d_H_init_52 (by decide) ?_
  refine b_icmp_ge (tgt := 70) (pc := 54) E d_H_init_54 (by decide) (fun q => absurd q (by decide)) (fun _ => ?_)
  refine b_aload_n (pc := 57) E d_H_init_57 rfl rfl ?_
  refine b_get (pc := 58) E gw_H 0 rfl rfl 1 (by decide) fl_H_13 rfl d_H_init_58 ?_
  refine b_iload_n (pc := 61) E d_H_init_61 rfl rfl ?_
  refine b_iconst (v := (-1)) (pc := 62) E d_H_init_62 (by decide) ?_
  refine b_iast (pc := 63) E 2 rfl (ix_of (by decide) (by decide)) d_H_init_63 ?_
  refine b_ws (ws' := [(h0, .inr (2, [.ref q0, .ref q1, .ref q2, .ref q3, .ref q5, .int 0, .int 0, .int 0, .int 0, .int 0])), (q0, ia ar 8), (q1, ha ar 4), (q2, pa ar (fun _ => none)), (q3, .inr (1, [.ref (g4 0), .ref (g4 1), .ref (g4 2), .ref (g4 3), .int 0])), (g4 0, ia ar 61), (g4 1, ia ar 61), (g4 2, ia ar 61), (g4 3, ia ar 61), (q5, ia ar 400)]) rfl ?_
  refine b_iinc (pc := 64) E d_H_init_64 rfl (by decide) ?_
  refine b_ls (ls' := [(1, .int 4), (0, .ref h0)]) rfl ?_
  refine b_goto (tgt := 51) (pc := 67) E d_H_init_67 (by decide) ?_
  refine b_iload_n (pc := 51) E d_H_init_51 rfl rfl ?_
  refine b_bipush (v := 8) (pc := 52) E d_H_init_52 (by decide) ?_
  refine b_icmp_ge (tgt := 70) (pc := 54) E d_H_init_54 (by decide) (fun q => absurd q (by decide)) (fun _ => ?_)
  refine b_aload_n (pc := 57) E d_H_init_57 rfl rfl ?_
  refine b_get (pc := 58) E gw_H 0 rfl rfl 1 (by decide) fl_H_13 rfl d_H_init_58 ?_
  refine b_iload_n (pc := 61) E d_H_init_61 rfl rfl ?_
  refine b_iconst (v := (-1)) (pc := 62) E d_H_init_62 (by decide) ?_
  refine b_iast (pc := 63) E 2 rfl (ix_of (by decide) (by decide)) d_H_init_63 ?_
  refine b_ws (ws' := [(h0, .inr (2, [.ref q0, .ref q1, .ref q2, .ref q3, .ref q5, .int 0, .int 0, .int 0, .int 0, .int 0])), (q0, ia ar 8), (q1, ha ar 5), (q2, pa ar (fun _ => none)), (q3, .inr (1, [.ref (g4 0), .ref (g4 1), .ref (g4 2), .ref (g4 3), .int 0])), (g4 0, ia ar 61), (g4 1, ia ar 61), (g4 2, ia ar 61), (g4 3, ia ar 61), (q5, ia ar 400)]) rfl ?_
  refine b_iinc (pc := 64) E d_H_init_64 rfl (by decide) ?_
  refine b_ls (ls' := [(1, .int 5), (0, .ref h0)]) rfl ?_
  refine b_goto (tgt := 51) (pc := 67) E d_H_init_67 (by decide) ?_
  refine b_iload_n (pc := 51) E d_H_init_51 rfl rfl ?_
  refine b_bipush (v := 8) (pc := 52) E d_H_init_52 (by decide) ?_
  refine b_icmp_ge (tgt := 70) (pc := 54) E d_H_init_54 (by decide) (fun q => absurd q (by decide)) (fun _ => ?_)
  refine b_aload_n (pc := 57) E d_H_init_57 rfl rfl ?_
  refine b_get (pc := 58) E gw_H 0 rfl rfl 1 (by decide) fl_H_13 rfl d_H_init_58 ?_
  refine b_iload_n (pc := 61) E d_H_init_61 rfl rfl ?_
  refine b_iconst (v := (-1)) (pc := 62) E d_H_init_62 (by decide) ?_
  refine b_iast (pc := 63) E 2 rfl (ix_of (by decide) (by decide)) d_H_init_63 ?_
  refine b_ws (ws' := [(h0, .inr (2, [.ref q0, .ref q1, .ref q2, .ref q3, .ref q5, .int 0, .int 0, .int 0, .int 0, .int 0])), (q0, ia ar 8), (q1, ha ar 6), (q2, pa ar (fun _ => none)), (q3, .inr (1, [.ref (g4 0), .ref (g4 1), .ref (g4 2), .ref (g4 3), .int 0])), (g4 0, ia ar 61), (g4 1, ia ar 61), (g4 2, ia ar 61), (g4 3, ia ar 61), (q5, ia ar 400)]) rfl ?_
  refine b_iinc (pc := 64) E d_H_init_64 rfl (by decide) ?_
  refine b_ls (ls' := [(1, .int 6), (0, .ref h0)]) rfl ?_
  refine b_goto (tgt := 51) (pc := 67) E d_H_init_67 (by decide) ?_
  refine b_iload_n (pc := 51) E d_H_init_51 rfl rfl ?_
  refine b_bipush (v := 8) (pc := 52) E d_H_init_52 (by decide) ?_
  refine b_icmp_ge (tgt := 70) (pc := 54) E d_H_init_54 (by decide) (fun q => absurd q (by decide)) (fun _ => ?_)
  refine b_aload_n (pc := 57) E d_H_init_57 rfl rfl ?_
  refine b_get (pc := 58) E gw_H 0 rfl rfl 1 (by decide) fl_H_13 rfl d_H_init_58 ?_
  refine b_iload_n (pc := 61) E d_H_init_61 rfl rfl ?_
  refine b_iconst (v := (-1)) (pc := 62) E d_H_init_62 (by decide) ?_
  refine b_iast (pc := 63) E 2 rfl (ix_of (by decide) (by decide)) d_H_init_63 ?_
  refine b_ws (ws' := [(h0, .inr (2, [.ref q0, .ref q1, .ref q2, .ref q3, .ref q5, .int 0, .int 0, .int 0, .int 0, .int 0])), (q0, ia ar 8), (q1, ha ar 7), (q2, pa ar (fun _ => none)), (q3, .inr (1, [.ref (g4 0), .ref (g4 1), .ref (g4 2), .ref (g4 3), .int 0])), (g4 0, ia ar 61), (g4 1, ia ar 61), (g4 2, ia ar 61), (g4 3, ia ar 61), (q5, ia ar 400)]) rfl ?_
  refine b_iinc (pc := 64) E d_H_init_64 rfl (by decide) ?_
  refine b_ls (ls' := [(1, .int 7), (0, .ref h0)]) rfl ?_
  refine b_goto (tgt := 51) (pc := 67) E d_H_init_67 (by decide) ?_
  refine b_iload_n (pc := 51) E d_H_init_51 rfl rfl ?_
  refine b_bipush (v := 8) (pc := 52) E d_H_init_52 (by decide) ?_
  refine b_icmp_ge (tgt := 70) (pc := 54) E d_H_init_54 (by decide) (fun q => absurd q (by decide)) (fun _ => ?_)
  refine b_aload_n (pc := 57) E d_H_init_57 rfl rfl ?_
  refine b_get (pc := 58) E gw_H 0 rfl rfl 1 (by decide) fl_H_13 rfl d_H_init_58 ?_
  refine b_iload_n (pc := 61) E d_H_init_61 rfl rfl ?_
  refine b_iconst (v := (-1)) (pc := 62) E d_H_init_62 (by decide) ?_
  refine b_iast (pc := 63) E 2 rfl (ix_of (by decide) (by decide)) d_H_init_63 ?_
  refine b_ws (ws' := [(h0, .inr (2, [.ref q0, .ref q1, .ref q2, .ref q3, .ref q5, .int 0, .int 0, .int 0, .int 0, .int 0])), (q0, ia ar 8), (q1, ha ar 8), (q2, pa ar (fun _ => none)), (q3, .inr (1, [.ref (g4 0), .ref (g4 1), .ref (g4 2), .ref (g4 3), .int 0])), (g4 0, ia ar 61), (g4 1, ia ar 61), (g4 2, ia ar 61), (g4 3, ia ar 61), (q5, ia ar 400)]) rfl ?_
  refine b_iinc (pc := 64) E d_H_init_64 rfl (by decide) ?_
  refine b_ls (ls' := [(1, .int 8), (0, .ref h0)]) rfl ?_
  refine b_goto (tgt := 51) (pc := 67) E d_H_init_67 (by decide) ?_
  refine b_iload_n (pc := 51) E d_H_init_51 rfl rfl ?_
  refine b_bipush (v := 8) (pc := 52) E d_H_init_52 (by decide) ?_
  refine b_icmp_ge (tgt := 70) (pc := 54) E d_H_init_54 (by decide) (fun _ => ?_) (fun q => absurd (by decide) q)
  refine b_iconst (v := 0) (pc := 70) E d_H_init_70 (by decide) ?_
  refine b_istore_n (pc := 71) E d_H_init_71 rfl (by decide) ?_
  refine b_ls (ls' := [(1, .int 0), (0, .ref h0)]) rfl ?_
  refine b_iload_n (pc := 72) E d_H_init_72 rfl rfl ?_
  refine b_bipush (v := 6) (pc := 73) E d_H_init_73 (by decide) ?_
  refine b_icmp_ge (tgt := 98) (pc := 75) E d_H_init_75 (by decide) (fun q => absurd q (by decide)) (fun _ => ?_)
  refine b_aload_n (pc := 78) E d_H_init_78 rfl rfl ?_
  refine b_get (pc := 79) E gw_H 0 rfl rfl 2 (by decide) fl_H_18 rfl d_H_init_79 ?_
  refine b_iload_n (pc := 82) E d_H_init_82 rfl rfl ?_
  refine b_new (pc := 83) (ci := 0) (fs := [.int 0, .int 0, .int 0, .int 0, .int 0, .int 0, .null, .null, .null, .null, .null]) E gw_P ty_P cl_H_16 ib_P ii_P rfl df_P (by decide) (by decide) d_H_init_83 (fun q6 => ?_)
  refine b_ws (ws' := [(h0, .inr (2, [.ref q0, .ref q1, .ref q2, .ref q3, .ref q5, .int 0, .int 0, .int 0, .int 0, .int 0])), (q0, ia ar 8), (q1, ha ar 8), (q2, pa ar (fun _ => none)), (q3, .inr (1, [.ref (g4 0), .ref (g4 1), .ref (g4 2), .ref (g4 3), .int 0])), (g4 0, ia ar 61), (g4 1, ia ar 61), (g4 2, ia ar 61), (g4 3, ia ar 61), (q5, ia ar 400), (q6, .inr (0, [.int 0, .int 0, .int 0, .int 0, .int 0, .int 0, .null, .null, .null, .null, .null]))]) rfl ?_
  refine b_dup (pc := 86) E d_H_init_86 rfl ?_
  refine b_iload_n (pc := 87) E d_H_init_87 rfl rfl ?_
  refine b_callI (pc := 88) (n := 1) (X := fun _ => True) (wr := [(h0, .inr (2, [.ref q0, .ref q1, .ref q2, .ref q3, .ref q5, .int 0, .int 0, .int 0, .int 0, .int 0])), (q0, ia ar 8), (q1, ha ar 8), (q2, pa ar (fun _ => none)), (q3, .inr (1, [.ref (g4 0), .ref (g4 1), .ref (g4 2), .ref (g4 3), .int 0])), (g4 0, ia ar 61), (g4 1, ia ar 61), (g4 2, ia ar 61), (g4 3, ia ar 61), (q5, ia ar 400)]) E (c_P_init l D ar q6 0) ⟨by decide, by decide, im_P_init, ii_P, cd_P_init, rfl, by decide, by decide, by decide +kernel⟩ ml_H_32 (fun _ _ _ => trivial) (fun _ _ _ _ _ => trivial) 10 [0, 1, 2, 3, 4, 5, 6, 7, 8, 9] rfl rfl (by decide) (by decide) rfl rfl (Nat.le_of_ble_eq_true rfl) d_H_init_88 (by decide) (fun g7 => ?_)
  refine b_ws (ws' := [(h0, .inr (2, [.ref q0, .ref q1, .ref q2, .ref q3, .ref q5, .int 0, .int 0, .int 0, .int 0, .int 0])), (q0, ia ar 8), (q1, ha ar 8), (q2, pa ar (fun _ => none)), (q3, .inr (1, [.ref (g4 0), .ref (g4 1), .ref (g4 2), .ref (g4 3), .int 0])), (g4 0, ia ar 61), (g4 1, ia ar 61), (g4 2, ia ar 61), (g4 3, ia ar 61), (q5, ia ar 400), (q6, .inr (0, [.int 0, .int 0, .int 0, .int 0, .int 0, .int 0, .ref (g7 0), .ref (g7 1), .ref (g7 2), .ref (g7 3), .ref (g7 4)])), (g7 0, ia ar 10), (g7 1, ia ar 10), (g7 2, ia ar 10), (g7 3, ba ar 10), (g7 4, ia ar 10)]) rfl ?_
  refine b_aast (pc := 91) E 3 10 rfl rfl (ix_of (by decide) (by decide)) d_H_init_91 ?_
  refine b_ws (ws' := [(h0, .inr (2, [.ref q0, .ref q1, .ref q2, .ref q3, .ref q5, .int 0, .int 0, .int 0, .int 0, .int 0])), (q0, ia ar 8), (q1, ha ar 8), (q2, pa ar (va_up (fun _ => none) 0 (some (q6)))), (q3, .inr (1, [.ref (g4 0), .ref (g4 1), .ref (g4 2), .ref (g4 3), .int 0])), (g4 0, ia ar 61), (g4 1, ia ar 61), (g4 2, ia ar 61), (g4 3, ia ar 61), (q5, ia ar 400), (q6, .inr (0, [.int 0, .int 0, .int 0, .int 0, .int 0, .int 0, .ref (g7 0), .ref (g7 1), .ref (g7 2), .ref (g7 3), .ref (g7 4)])), (g7 0, ia ar 10), (g7 1, ia ar 10), (g7 2, ia ar 10), (g7 3, ba ar 10), (g7 4, ia ar 10)]) rfl ?_
  refine b_iinc (pc := 92) E d_H_init_92 rfl (by decide) ?_
  refine b_ls (ls' := [(1, .int 1), (0, .ref h0)]) rfl ?_
  refine b_goto (tgt := 72) (pc := 95) E d_H_init_95 (by decide) ?_
  refine b_iload_n (pc := 72) E d_H_init_72 rfl rfl ?_
  refine b_bipush (v := 6) (pc := 73) E d_H_init_73 (by decide) ?_
  refine b_icmp_ge (tgt := 98) (pc := 75) E d_H_init_75 (by decide) (fun q => absurd q (by decide)) (fun _ => ?_)
  refine b_aload_n (pc := 78) E d_H_init_78 rfl rfl ?_
  refine b_get (pc := 79) E gw_H 0 rfl rfl 2 (by decide) fl_H_18 rfl d_H_init_79 ?_
  refine b_iload_n (pc := 82) E d_H_init_82 rfl rfl ?_
  refine b_new (pc := 83) (ci := 0) (fs := [.int 0, .int 0, .int 0, .int 0, .int 0, .int 0, .null, .null, .null, .null, .null]) E gw_P ty_P cl_H_16 ib_P ii_P rfl df_P (by decide) (by decide) d_H_init_83 (fun q8 => ?_)
  refine b_ws (ws' := [(h0, .inr (2, [.ref q0, .ref q1, .ref q2, .ref q3, .ref q5, .int 0, .int 0, .int 0, .int 0, .int 0])), (q0, ia ar 8), (q1, ha ar 8), (q2, pa ar (va_up (fun _ => none) 0 (some (q6)))), (q3, .inr (1, [.ref (g4 0), .ref (g4 1), .ref (g4 2), .ref (g4 3), .int 0])), (g4 0, ia ar 61), (g4 1, ia ar 61), (g4 2, ia ar 61), (g4 3, ia ar 61), (q5, ia ar 400), (q6, .inr (0, [.int 0, .int 0, .int 0, .int 0, .int 0, .int 0, .ref (g7 0), .ref (g7 1), .ref (g7 2), .ref (g7 3), .ref (g7 4)])), (g7 0, ia ar 10), (g7 1, ia ar 10), (g7 2, ia ar 10), (g7 3, ba ar 10), (g7 4, ia ar 10), (q8, .inr (0, [.int 0, .int 0, .int 0, .int 0, .int 0, .int 0, .null, .null, .null, .null, .null]))]) rfl ?_
  refine b_dup (pc := 86) E d_H_init_86 rfl ?_
  refine b_iload_n (pc := 87) E d_H_init_87 rfl rfl ?_
  refine b_callI (pc := 88) (n := 1) (X := fun _ => True) (wr := [(h0, .inr (2, [.ref q0, .ref q1, .ref q2, .ref q3, .ref q5, .int 0, .int 0, .int 0, .int 0, .int 0])), (q0, ia ar 8), (q1, ha ar 8), (q2, pa ar (va_up (fun _ => none) 0 (some (q6)))), (q3, .inr (1, [.ref (g4 0), .ref (g4 1), .ref (g4 2), .ref (g4 3), .int 0])), (g4 0, ia ar 61), (g4 1, ia ar 61), (g4 2, ia ar 61), (g4 3, ia ar 61), (q5, ia ar 400), (q6, .inr (0, [.int 0, .int 0, .int 0, .int 0, .int 0, .int 0, .ref (g7 0), .ref (g7 1), .ref (g7 2), .ref (g7 3), .ref (g7 4)])), (g7 0, ia ar 10), (g7 1, ia ar 10), (g7 2, ia ar 10), (g7 3, ba ar 10), (g7 4, ia ar 10)]) E (c_P_init l D ar q8 1) ⟨by decide, by decide, im_P_init, ii_P, cd_P_init, rfl, by decide, by decide, by decide +kernel⟩ ml_H_32 (fun _ _ _ => trivial) (fun _ _ _ _ _ => trivial) 16 [0, 1, 2, 3, 4, 5, 6, 7, 8, 9, 10, 11, 12, 13, 14, 15] rfl rfl (by decide) (by decide) rfl rfl (Nat.le_of_ble_eq_true rfl) d_H_init_88 (by decide) (fun g9 => ?_)
  refine b_ws (ws' := [(h0, .inr (2, [.ref q0, .ref q1, .ref q2, .ref q3, .ref q5, .int 0, .int 0, .int 0, .int 0, .int 0])), (q0, ia ar 8), (q1, ha ar 8), (q2, pa ar (va_up (fun _ => none) 0 (some (q6)))), (q3, .inr (1, [.ref (g4 0), .ref (g4 1), .ref (g4 2), .ref (g4 3), .int 0])), (g4 0, ia ar 61), (g4 1, ia ar 61), (g4 2, ia ar 61), (g4 3, ia ar 61), (q5, ia ar 400), (q6, .inr (0, [.int 0, .int 0, .int 0, .int 0, .int 0, .int 0, .ref (g7 0), .ref (g7 1), .ref (g7 2), .ref (g7 3), .ref (g7 4)])), (g7 0, ia ar 10), (g7 1, ia ar 10), (g7 2, ia ar 10), (g7 3, ba ar 10), (g7 4, ia ar 10), (q8, .inr (0, [.int 1, .int 0, .int 0, .int 0, .int 0, .int 0, .ref (g9 0), .ref (g9 1), .ref (g9 2), .ref (g9 3), .ref (g9 4)])), (g9 0, ia ar 10), (g9 1, ia ar 10), (g9 2, ia ar 10), (g9 3, ba ar 10), (g9 4, ia ar 10)]) rfl ?_
  refine b_aast (pc := 91) E 3 16 rfl rfl (ix_of (by decide) (by decide)) d_H_init_91 ?_
  refine b_ws (ws' := [(h0, .inr (2, [.ref q0, .ref q1, .ref q2, .ref q3, .ref q5, .int 0, .int 0, .int 0, .int 0, .int 0])), (q0, ia ar 8), (q1, ha ar 8), (q2, pa ar (va_up (va_up (fun _ => none) 0 (some (q6))) 1 (some (q8)))), (q3, .inr (1, [.ref (g4 0), .ref (g4 1), .ref (g4 2), .ref (g4 3), .int 0])), (g4 0, ia ar 61), (g4 1, ia ar 61), (g4 2, ia ar 61), (g4 3, ia ar 61), (q5, ia ar 400), (q6, .inr (0, [.int 0, .int 0, .int 0, .int 0, .int 0, .int 0, .ref (g7 0), .ref (g7 1), .ref (g7 2), .ref (g7 3), .ref (g7 4)])), (g7 0, ia ar 10), (g7 1, ia ar 10), (g7 2, ia ar 10), (g7 3, ba ar 10), (g7 4, ia ar 10), (q8, .inr (0, [.int 1, .int 0, .int 0, .int 0, .int 0, .int 0, .ref (g9 0), .ref (g9 1), .ref (g9 2), .ref (g9 3), .ref (g9 4)])), (g9 0, ia ar 10), (g9 1, ia ar 10), (g9 2, ia ar 10), (g9 3, ba ar 10), (g9 4, ia ar 10)]) rfl ?_
  refine b_iinc (pc := 92) E d_H_init_92 rfl (by decide) ?_
  refine b_ls (ls' := [(1, .int 2), (0, .ref h0)]) rfl ?_
  refine b_goto (tgt := 72) (pc := 95) E d_H_init_95 (by decide) ?_
  refine b_iload_n (pc := 72) E d_H_init_72 rfl rfl ?_
  refine b_bipush (v := 6) (pc := 73) E d_H_init_73 (by decide) ?_
  refine b_icmp_ge (tgt := 98) (pc := 75) E d_H_init_75 (by decide) (fun q => absurd q (by decide)) (fun _ => ?_)
  refine b_aload_n (pc := 78) E d_H_init_78 rfl rfl ?_
  refine b_get (pc := 79) E gw_H 0 rfl rfl 2 (by decide) fl_H_18 rfl d_H_init_79 ?_
  refine b_iload_n (pc := 82) E d_H_init_82 rfl rfl ?_
  refine b_new (pc := 83) (ci := 0) (fs := [.int 0, .int 0, .int 0, .int 0, .int 0, .int 0, .null, .null, .null, .null, .null]) E gw_P ty_P cl_H_16 ib_P ii_P rfl df_P (by decide) (by decide) d_H_init_83 (fun q10 => ?_)
  refine b_ws (ws' := [(h0, .inr (2, [.ref q0, .ref q1, .ref q2, .ref q3, .ref q5, .int 0, .int 0, .int 0, .int 0, .int 0])), (q0, ia ar 8), (q1, ha ar 8), (q2, pa ar (va_up (va_up (fun _ => none) 0 (some (q6))) 1 (some (q8)))), (q3, .inr (1, [.ref (g4 0), .ref (g4 1), .ref (g4 2), .ref (g4 3), .int 0])), (g4 0, ia ar 61), (g4 1, ia ar 61), (g4 2, ia ar 61), (g4 3, ia ar 61), (q5, ia ar 400), (q6, .inr (0, [.int 0, .int 0, .int 0, .int 0, .int 0, .int 0, .ref (g7 0), .ref (g7 1), .ref (g7 2), .ref (g7 3), .ref (g7 4)])), (g7 0, ia ar 10), (g7 1, ia ar 10), (g7 2, ia ar 10), (g7 3, ba ar 10), (g7 4, ia ar 10), (q8, .inr (0, [.int 1, .int 0, .int 0, .int 0, .int 0, .int 0, .ref (g9 0), .ref (g9 1), .ref (g9 2), .ref (g9 3), .ref (g9 4)])), (g9 0, ia ar 10), (g9 1, ia ar 10), (g9 2, ia ar 10), (g9 3, ba ar 10), (g9 4, ia ar 10), (q10, .inr (0, [.int 0, .int 0, .int 0, .int 0, .int 0, .int 0, .null, .null, .null, .null, .null]))]) rfl ?_
  refine b_dup (pc := 86) E d_H_init_86 rfl ?_
  refine b_iload_n (pc := 87) E d_H_init_87 rfl rfl ?_
  refine b_callI (pc := 88) (n := 1) (X := fun _ => True) (wr := [(h0, .inr (2, [.ref q0, .ref q1, .ref q2, .ref q3, .ref q5, .int 0, .int 0, .int 0, .int 0, .int 0])), (q0, ia ar 8), (q1, ha ar 8), (q2, pa ar (va_up (va_up (fun _ => none) 0 (some (q6))) 1 (some (q8)))), (q3, .inr (1, [.ref (g4 0), .ref (g4 1), .ref (g4 2), .ref (g4 3), .int 0])), (g4 0, ia ar 61), (g4 1, ia ar 61), (g4 2, ia ar 61), (g4 3, ia ar 61), (q5, ia ar 400), (q6, .inr (0, [.int 0, .int 0, .int 0, .int 0, .int 0, .int 0, .ref (g7 0), .ref (g7 1), .ref (g7 2), .ref (g7 3), .ref (g7 4)])), (g7 0, ia ar 10), (g7 1, ia ar 10), (g7 2, ia ar 10), (g7 3, ba ar 10), (g7 4, ia ar 10), (q8, .inr (0, [.int 1, .int 0, .int 0, .int 0, .int 0, .int 0, .ref (g9 0), .ref (g9 1), .ref (g9 2), .ref (g9 3), .ref (g9 4)])), (g9 0, ia ar 10), (g9 1, ia ar 10), (g9 2, ia ar 10), (g9 3, ba ar 10), (g9 4, ia ar 10)]) E (c_P_init l D ar q10 2) ⟨by decide, by decide, im_P_init, ii_P, cd_P_init, rfl, by decide, by decide, by decide +kernel⟩ ml_H_32 (fun _ _ _ => trivial) (fun _ _ _ _ _ => trivial) 22 [0, 1, 2, 3, 4, 5, 6, 7, 8, 9, 10, 11, 12, 13, 14, 15, 16, 17, 18, 19, 20, 21] rfl rfl (by decide) (by decide) rfl rfl (Nat.le_of_ble_eq_true rfl) d_H_init_88 (by decide) (fun g11 => ?_)
  refine b_ws (ws' := [(h0, .inr (2, [.ref q0, .ref q1, .ref q2, .ref q3, .ref q5, .int 0, .int 0, .int 0, .int 0, .int 0])), (q0, ia ar 8), (q1, ha ar 8), (q2, pa ar (va_up (va_up (fun _ => none) 0 (some (q6))) 1 (some (q8)))), (q3, .inr (1, [.ref (g4 0), .ref (g4 1), .ref (g4 2), .ref (g4 3), .int 0])), (g4 0, ia ar 61), (g4 1, ia ar 61), (g4 2, ia ar 61), (g4 3, ia ar 61), (q5, ia ar 400), (q6, .inr (0, [.int 0, .int 0, .int 0, .int 0, .int 0, .int 0, .ref (g7 0), .ref (g7 1), .ref (g7 2), .ref (g7 3), .ref (g7 4)])), (g7 0, ia ar 10), (g7 1, ia ar 10), (g7 2, ia ar 10), (g7 3, ba ar 10), (g7 4, ia ar 10), (q8, .inr (0, [.int 1, .int 0, .int 0, .int 0, .int 0, .int 0, .ref (g9 0), .ref (g9 1), .ref (g9 2), .ref (g9 3), .ref (g9 4)])), (g9 0, ia ar 10), (g9 1, ia ar 10), (g9 2, ia ar 10), (g9 3, ba ar 10), (g9 4, ia ar 10), (q10, .inr (0, [.int 2, .int 0, .int 0, .int 0, .int 0, .int 0, .ref (g11 0), .ref (g11 1), .ref (g11 2), .ref (g11 3), .ref (g11 4)])), (g11 0, ia ar 10), (g11 1, ia ar 10), (g11 2, ia ar 10), (g11 3, ba ar 10), (g11 4, ia ar 10)]) rfl ?_
  refine b_aast (pc := 91) E 3 22 rfl rfl (ix_of (by decide) (by decide)) d_H_init_91 ?_
  refine b_ws (ws' := [(h0, .inr (2, [.ref q0, .ref q1, .ref q2, .ref q3, .ref q5, .int 0, .int 0, .int 0, .int 0, .int 0])), (q0, ia ar 8), (q1, ha ar 8), (q2, pa ar (va_up (va_up (va_up (fun _ => none) 0 (some (q6))) 1 (some (q8))) 2 (some (q10)))), (q3, .inr (1, [.ref (g4 0), .ref (g4 1), .ref (g4 2), .ref (g4 3), .int 0])), (g4 0, ia ar 61), (g4 1, ia ar 61), (g4 2, ia ar 61), (g4 3, ia ar 61), (q5, ia ar 400), (q6, .inr (0, [.int 0, .int 0, .int 0, .int 0, .int 0, .int 0, .ref (g7 0), .ref (g7 1), .ref (g7 2), .ref (g7 3), .ref (g7 4)])), (g7 0, ia ar 10), (g7 1, ia ar 10), (g7 2, ia ar 10), (g7 3, ba ar 10), (g7 4, ia ar 10), (q8, .inr (0, [.int 1, .int 0, .int 0, .int 0, .int 0, .int 0, .ref (g9 0), .ref (g9 1), .ref (g9 2), .ref (g9 3), .ref (g9 4)])), (g9 0, ia ar 10), (g9 1, ia ar 10), (g9 2, ia ar 10), (g9 3, ba ar 10), (g9 4, ia ar 10), (q10, .inr (0, [.int 2, .int 0, .int 0, .int 0, .int 0, .int 0, .ref (g11 0), .ref (g11 1), .ref (g11 2), .ref (g11 3), .ref (g11 4)])), (g11 0, ia ar 10), (g11 1, ia ar 10), (g11 2, ia ar 10), (g11 3, ba ar 10), (g11 4, ia ar 10)]) rfl ?_
  refine b_iinc (pc := 92) E d_H_init_92 rfl (by decide) ?_
  refine b_ls (ls' := [(1, .int 3), (0, .ref h0)]) rfl ?_
  refine b_goto (tgt := 72) (pc := 95) E d_H_init_95 (by decide) ?_
  refine b_iload_n (pc := 72) E d_H_init_72 rfl rfl ?_
  refine b_bipush (v := 6) (pc := 73) E d_H_init_73 (by decide) ?_
  refine b_icmp_ge (tgt := 98) (pc := 75) E d_H_init_75 (by decide) (fun q => absurd q (by decide)) (fun _ => ?_)
  refine b_aload_n (pc := 78) E d_H_init_78 rfl rfl ?_
  refine b_get (pc := 79) E gw_H 0 rfl rfl 2 (by decide) fl_H_18 rfl d_H_init_79 ?_
  refine b_iload_n (pc := 82) E d_H_init_82 rfl rfl ?_
  refine b_new (pc := 83) (ci := 0) (fs := [.int 0, .int 0, .int 0, .int 0, .int 0, .int 0, .null, .null, .null, .null, .null]) E gw_P ty_P cl_H_16 ib_P ii_P rfl df_P (by decide) (by decide) d_H_init_83 (fun q12 => ?_)
  refine b_ws (ws' := [(h0, .inr (2, [.ref q0, .ref q1, .ref q2, .ref q3, .ref q5, .int 0, .int 0, .int 0, .int 0, .int 0])), (q0, ia ar 8), (q1, ha ar 8), (q2, pa ar (va_up (va_up (va_up (fun _ => none) 0 (some (q6))) 1 (some (q8))) 2 (some (q10)))), (q3, .inr (1, [.ref (g4 0), .ref (g4 1), .ref (g4 2), .ref (g4 3), .int 0])), (g4 0, ia ar 61), (g4 1, ia ar 61), (g4 2, ia ar 61), (g4 3, ia ar 61), (q5, ia ar 400), (q6, .inr (0, [.int 0, .int 0, .int 0, .int 0, .int 0, .int 0, .ref (g7 0), .ref (g7 1), .ref (g7 2), .ref (g7 3), .ref (g7 4)])), (g7 0, ia ar 10), (g7 1, ia ar 10), (g7 2, ia ar 10), (g7 3, ba ar 10), (g7 4, ia ar 10), (q8, .inr (0, [.int 1, .int 0, .int 0, .int 0, .int 0, .int 0, .ref (g9 0), .ref (g9 1), .ref (g9 2), .ref (g9 3), .ref (g9 4)])), (g9 0, ia ar 10), (g9 1, ia ar 10), (g9 2, ia ar 10), (g9 3, ba ar 10), (g9 4, ia ar 10), (q10, .inr (0, [.int 2, .int 0, .int 0, .int 0, .int 0, .int 0, .ref (g11 0), .ref (g11 1), .ref (g11 2), .ref (g11 3), .ref (g11 4)])), (g11 0, ia ar 10), (g11 1, ia ar 10), (g11 2, ia ar 10), (g11 3, ba ar 10), (g11 4, ia ar 10), (q12, .inr (0, [.int 0, .int 0, .int 0, .int 0, .int 0, .int 0, .null, .null, .null, .null, .null]))]) rfl ?_
  refine b_dup (pc := 86) E d_H_init_86 rfl ?_
  refine b_iload_n (pc := 87) E d_H_init_87 rfl rfl ?_
  refine b_callI (pc := 88) (n := 1) (X := fun _ => True) (wr := [(h0, .inr (2, [.ref q0, .ref q1, .ref q2, .ref q3, .ref q5, .int 0, .int 0, .int 0, .int 0, .int 0])), (q0, ia ar 8), (q1, ha ar 8), (q2, pa ar (va_up (va_up (va_up (fun _ => none) 0 (some (q6))) 1 (some (q8))) 2 (some (q10)))), (q3, .inr (1, [.ref (g4 0), .ref (g4 1), .ref (g4 2), .ref (g4 3), .int 0])), (g4 0, ia ar 61), (g4 1, ia ar 61), (g4 2, ia ar 61), (g4 3, ia ar 61), (q5, ia ar 400), (q6, .inr (0, [.int 0, .int 0, .int 0, .int 0, .int 0, .int 0, .ref (g7 0), .ref (g7 1), .ref (g7 2), .ref (g7 3), .ref (g7 4)])), (g7 0, ia ar 10), (g7 1, ia ar 10), (g7 2, ia ar 10), (g7 3, ba ar 10), (g7 4, ia ar 10), (q8, .inr (0, [.int 1, .int 0, .int 0, .int 0, .int 0, .int 0, .ref (g9 0), .ref (g9 1), .ref (g9 2), .ref (g9 3), .ref (g9 4)])), (g9 0, ia ar 10), (g9 1, ia ar 10), (g9 2, ia ar 10), (g9 3, ba ar 10), (g9 4, ia ar 10), (q10, .inr (0, [.int 2, .int 0, .int 0, .int 0, .int 0, .int 0, .ref (g11 0), .ref (g11 1), .ref (g11 2), .ref (g11 3), .ref (g11 4)])), (g11 0, ia ar 10), (g11 1, ia ar 10), (g11 2, ia ar 10), (g11 3, ba ar 10), (g11 4, ia ar 10)]) E (c_P_init l D ar q12 3) ⟨by decide, by decide, im_P_init, ii_P, cd_P_init, rfl, by decide, by decide, by decide +kernel⟩ ml_H_32 (fun _ _ _ => trivial) (fun _ _ _ _ _ => trivial) 28 [0, 1, 2, 3, 4, 5, 6, 7, 8, 9, 10, 11, 12, 13, 14, 15, 16, 17, 18, 19, 20, 21, 22, 23, 24, 25, 26, 27] rfl rfl (by decide) (by decide) rfl rfl (Nat.le_of_ble_eq_true rfl) d_H_init_88 (by decide) (fun g13 => ?_)
  refine b_ws (ws' := [(h0, .inr (2, [.ref q0, .ref q1, .ref q2, .ref q3, .ref q5, .int 0, .int 0, .int 0, .int 0, .int 0])), (q0, ia ar 8), (q1, ha ar 8), (q2, pa ar (va_up (va_up (va_up (fun _ => none) 0 (some (q6))) 1 (some (q8))) 2 (some (q10)))), (q3, .inr (1, [.ref (g4 0), .ref (g4 1), .ref (g4 2), .ref (g4 3), .int 0])), (g4 0, ia ar 61), (g4 1, ia ar 61), (g4 2, ia ar 61), (g4 3, ia ar 61), (q5, ia ar 400), (q6, .inr (0, [.int 0, .int 0, .int 0, .int 0, .int 0, .int 0, .ref (g7 0), .ref (g7 1), .ref (g7 2), .ref (g7 3), .ref (g7 4)])), (g7 0, ia ar 10), (g7 1, ia ar 10), (g7 2, ia ar 10), (g7 3, ba ar 10), (g7 4, ia ar 10), (q8, .inr (0, [.int 1, .int 0, .int 0, .int 0, .int 0, .int 0, .ref (g9 0), .ref (g9 1), .ref (g9 2), .ref (g9 3), .ref (g9 4)])), (g9 0, ia ar 10), (g9 1, ia ar 10), (g9 2, ia ar 10), (g9 3, ba ar 10), (g9 4, ia ar 10), (q10, .inr (0, [.int 2, .int 0, .int 0, .int 0, .int 0, .int 0, .ref (g11 0), .ref (g11 1), .ref (g11 2), .ref (g11 3), .ref (g11 4)])), (g11 0, ia ar 10), (g11 1, ia ar 10), (g11 2, ia ar 10), (g11 3, ba ar 10), (g11 4, ia ar 10), (q12, .inr (0, [.int 3, .int 0, .int 0, .int 0, .int 0, .int 0, .ref (g13 0), .ref (g13 1), .ref (g13 2), .ref (g13 3), .ref (g13 4)])), (g13 0, ia ar 10), (g13 1, ia ar 10), (g13 2, ia ar 10), (g13 3, ba ar 10), (g13 4, ia ar 10)]) rfl ?_
  refine b_aast (pc := 91) E 3 28 rfl rfl (ix_of (by decide) (by decide)) d_H_init_91 ?_
  refine b_ws (ws' := [(h0, .inr (2, [.ref q0, .ref q1, .ref q2, .ref q3, .ref q5, .int 0, .int 0, .int 0, .int 0, .int 0])), (q0, ia ar 8), (q1, ha ar 8), (q2, pa ar (va_up (va_up (va_up (va_up (fun _ => none) 0 (some (q6))) 1 (some (q8))) 2 (some (q10))) 3 (some (q12)))), (q3, .inr (1, [.ref (g4 0), .ref (g4 1), .ref (g4 2), .ref (g4 3), .int 0])), (g4 0, ia ar 61), (g4 1, ia ar 61), (g4 2, ia ar 61), (g4 3, ia ar 61), (q5, ia ar 400), (q6, .inr (0, [.int 0, .int 0, .int 0, .int 0, .int 0, .int 0, .ref (g7 0), .ref (g7 1), .ref (g7 2), .ref (g7 3), .ref (g7 4)])), (g7 0, ia ar 10), (g7 1, ia ar 10), (g7 2, ia ar 10), (g7 3, ba ar 10), (g7 4, ia ar 10), (q8, .inr (0, [.int 1, .int 0, .int 0, .int 0, .int 0, .int 0, .ref (g9 0), .ref (g9 1), .ref (g9 2), .ref (g9 3), .ref (g9 4)])), (g9 0, ia ar 10), (g9 1, ia ar 10), (g9 2, ia ar 10), (g9 3, ba ar 10), (g9 4, ia ar 10), (q10, .inr (0, [.int 2, .int 0, .int 0, .int 0, .int 0, .int 0, .ref (g11 0), .ref (g11 1), .ref (g11 2), .ref (g11 3), .ref (g11 4)])), (g11 0, ia ar 10), (g11 1, ia ar 10), (g11 2, ia ar 10), (g11 3, ba ar 10), (g11 4, ia ar 10), (q12, .inr (0, [.int 3, .int 0, .int 0, .int 0, .int 0, .int 0, .ref (g13 0), .ref (g13 1), .ref (g13 2), .ref (g13 3), .ref (g13 4)])), (g13 0, ia ar 10), (g13 1, ia ar 10), (g13 2, ia ar 10), (g13 3, ba ar 10), (g13 4, ia ar 10)]) rfl ?_
  refine b_iinc (pc := 92) E d_H_init_92 rfl (by decide) ?_
  refine b_ls (ls' := [(1, .int 4), (0, .ref h0)]) rfl ?_
  refine b_goto (tgt := 72) (pc := 95) E d_H_init_95 (by decide) ?_
  refine b_iload_n (pc := 72) E d_H_init_72 rfl rfl ?_
  refine b_bipush (v := 6) (pc := 73) E d_H_init_73 (by decide) ?_
  refine b_icmp_ge (tgt := 98) (pc := 75) E d_H_init_75 (by decide) (fun q => absurd q (by decide)) (fun _ => ?_)
  refine b_aload_n (pc := 78) E d_H_init_78 rfl rfl ?_
  refine b_get (pc := 79) E gw_H 0 rfl rfl 2 (by decide) fl_H_18 rfl d_H_init_79 ?_
  refine b_iload_n (pc := 82) E d_H_init_82 rfl rfl ?_
  refine b_new (pc := 83) (ci := 0) (fs := [.int 0, .int 0, .int 0, .int 0, .int 0, .int 0, .null, .null, .null, .null, .null]) E gw_P ty_P cl_H_16 ib_P ii_P rfl df_P (by decide) (by decide) d_H_init_83 (fun q14 => ?_)
  refine b_ws (ws' := [(h0, .inr (2, [.ref q0, .ref q1, .ref q2, .ref q3, .ref q5, .int 0, .int 0, .int 0, .int 0, .int 0])), (q0, ia ar 8), (q1, ha ar 8), (q2, pa ar (va_up (va_up (va_up (va_up (fun _ => none) 0 (some (q6))) 1 (some (q8))) 2 (some (q10))) 3 (some (q12)))), (q3, .inr (1, [.ref (g4 0), .ref (g4 1), .ref (g4 2), .ref (g4 3), .int 0])), (g4 0, ia ar 61), (g4 1, ia ar 61), (g4 2, ia ar 61), (g4 3, ia ar 61), (q5, ia ar 400), (q6, .inr (0, [.int 0, .int 0, .int 0, .int 0, .int 0, .int 0, .ref (g7 0), .ref (g7 1), .ref (g7 2), .ref (g7 3), .ref (g7 4)])), (g7 0, ia ar 10), (g7 1, ia ar 10), (g7 2, ia ar 10), (g7 3, ba ar 10), (g7 4, ia ar 10), (q8, .inr (0, [.int 1, .int 0, .int 0, .int 0, .int 0, .int 0, .ref (g9 0), .ref (g9 1), .ref (g9 2), .ref (g9 3), .ref (g9 4)])), (g9 0, ia ar 10), (g9 1, ia ar 10), (g9 2, ia ar 10), (g9 3, ba ar 10), (g9 4, ia ar 10), (q10, .inr (0, [.int 2, .int 0, .int 0, .int 0, .int 0, .int 0, .ref (g11 0), .ref (g11 1), .ref (g11 2), .ref (g11 3), .ref (g11 4)])), (g11 0, ia ar 10), (g11 1, ia ar 10), (g11 2, ia ar 10), (g11 3, ba ar 10), (g11 4, ia ar 10), (q12, .inr (0, [.int 3, .int 0, .int 0, .int 0, .int 0, .int 0, .ref (g13 0), .ref (g13 1), .ref (g13 2), .ref (g13 3), .ref (g13 4)])), (g13 0, ia ar 10), (g13 1, ia ar 10), (g13 2, ia ar 10), (g13 3, ba ar 10), (g13 4, ia ar 10), (q14, .inr (0, [.int 0, .int 0, .int 0, .int 0, .int 0, .int 0, .null, .null, .null, .null, .null]))]) rfl ?_
  refine b_dup (pc := 86) E d_H_init_86 rfl ?_
  refine b_iload_n (pc := 87) E d_H_init_87 rfl rfl ?_
  refine b_callI (pc := 88) (n := 1) (X := fun _ => True) (wr := [(h0, .inr (2, [.ref q0, .ref q1, .ref q2, .ref q3, .ref q5, .int 0, .int 0, .int 0, .int 0, .int 0])), (q0, ia ar 8), (q1, ha ar 8), (q2, pa ar (va_up (va_up (va_up (va_up (fun _ => none) 0 (some (q6))) 1 (some (q8))) 2 (some (q10))) 3 (some (q12)))), (q3, .inr (1, [.ref (g4 0), .ref (g4 1), .ref (g4 2), .ref (g4 3), .int 0])), (g4 0, ia ar 61), (g4 1, ia ar 61), (g4 2, ia ar 61), (g4 3, ia ar 61), (q5, ia ar 400), (q6, .inr (0, [.int 0, .int 0, .int 0, .int 0, .int 0, .int 0, .ref (g7 0), .ref (g7 1), .ref (g7 2), .ref (g7 3), .ref (g7 4)])), (g7 0, ia ar 10), (g7 1, ia ar 10), (g7 2, ia ar 10), (g7 3, ba ar 10), (g7 4, ia ar 10), (q8, .inr (0, [.int 1, .int 0, .int 0, .int 0, .int 0, .int 0, .ref (g9 0), .ref (g9 1), .ref (g9 2), .ref (g9 3), .ref (g9 4)])), (g9 0, ia ar 10), (g9 1, ia ar 10), (g9 2, ia ar 10), (g9 3, ba ar 10), (g9 4, ia ar 10), (q10, .inr (0, [.int 2, .int 0, .int 0, .int 0, .int 0, .int 0, .ref (g11 0), .ref (g11 1), .ref (g11 2), .ref (g11 3), .ref (g11 4)])), (g11 0, ia ar 10), (g11 1, ia ar 10), (g11 2, ia ar 10), (g11 3, ba ar 10), (g11 4, ia ar 10), (q12, .inr (0, [.int 3, .int 0, .int 0, .int 0, .int 0, .int 0, .ref (g13 0), .ref (g13 1), .ref (g13 2), .ref (g13 3), .ref (g13 4)])), (g13 0, ia ar 10), (g13 1, ia ar 10), (g13 2, ia ar 10), (g13 3, ba ar 10), (g13 4, ia ar 10)]) E (c_P_init l D ar q14 4) ⟨by decide, by decide, im_P_init, ii_P, cd_P_init, rfl, by decide, by decide, by decide +kernel⟩ ml_H_32 (fun _ _ _ => trivial) (fun _ _ _ _ _ => trivial) 34 [0, 1, 2, 3, 4, 5, 6, 7, 8, 9, 10, 11, 12, 13, 14, 15, 16, 17, 18, 19, 20, 21, 22, 23, 24, 25, 26, 27, 28, 29, 30, 31, 32, 33] rfl rfl (by decide) (by decide) rfl rfl (Nat.le_of_ble_eq_true rfl) d_H_init_88 (by decide) (fun g15 => ?_)
  refine b_ws (ws' := [(h0, .inr (2, [.ref q0, .ref q1, .ref q2, .ref q3, .ref q5, .int 0, .int 0, .int 0, .int 0, .int 0])), (q0, ia ar 8), (q1, ha ar 8), (q2, pa ar (va_up (va_up (va_up (va_up (fun _ => none) 0 (some (q6))) 1 (some (q8))) 2 (some (q10))) 3 (some (q12)))), (q3, .inr (1, [.ref (g4 0), .ref (g4 1), .ref (g4 2), .ref (g4 3), .int 0])), (g4 0, ia ar 61), (g4 1, ia ar 61), (g4 2, ia ar 61), (g4 3, ia ar 61), (q5, ia ar 400), (q6, .inr (0, [.int 0, .int 0, .int 0, .int 0, .int 0, .int 0, .ref (g7 0), .ref (g7 1), .ref (g7 2), .ref (g7 3), .ref (g7 4)])), (g7 0, ia ar 10), (g7 1, ia ar 10), (g7 2, ia ar 10), (g7 3, ba ar 10), (g7 4, ia ar 10), (q8, .inr (0, [.int 1, .int 0, .int 0, .int 0, .int 0, .int 0, .ref (g9 0), .ref (g9 1), .ref (g9 2), .ref (g9 3), .ref (g9 4)])), (g9 0, ia ar 10), (g9 1, ia ar 10), (g9 2, ia ar 10), (g9 3, ba ar 10), (g9 4, ia ar 10), (q10, .inr (0, [.int 2, .int 0, .int 0, .int 0, .int 0, .int 0, .ref (g11 0), .ref (g11 1), .ref (g11 2), .ref (g11 3), .ref (g11 4)])), (g11 0, ia ar 10), (g11 1, ia ar 10), (g11 2, ia ar 10), (g11 3, ba ar 10), (g11 4, ia ar 10), (q12, .inr (0, [.int 3, .int 0, .int 0, .int 0, .int 0, .int 0, .ref (g13 0), .ref (g13 1), .ref (g13 2), .ref (g13 3), .ref (g13 4)])), (g13 0, ia ar 10), (g13 1, ia ar 10), (g13 2, ia ar 10), (g13 3, ba ar 10), (g13 4, ia ar 10), (q14, .inr (0, [.int 4, .int 0, .int 0, .int 0, .int 0, .int 0, .ref (g15 0), .ref (g15 1), .ref (g15 2), .ref (g15 3), .ref (g15 4)])), (g15 0, ia ar 10), (g15 1, ia ar 10), (g15 2, ia ar 10), (g15 3, ba ar 10), (g15 4, ia ar 10)]) rfl ?_
  refine b_aast (pc := 91) E 3 34 rfl rfl (ix_of (by decide) (by decide)) d_H_init_91 ?_
  refine b_ws (ws' := [(h0, .inr (2, [.ref q0, .ref q1, .ref q2, .ref q3, .ref q5, .int 0, .int 0, .int 0, .int 0, .int 0])), (q0, ia ar 8), (q1, ha ar 8), (q2, pa ar (va_up (va_up (va_up (va_up (va_up (fun _ => none) 0 (some (q6))) 1 (some (q8))) 2 (some (q10))) 3 (some (q12))) 4 (some (q14)))), (q3, .inr (1, [.ref (g4 0), .ref (g4 1), .ref (g4 2), .ref (g4 3), .int 0])), (g4 0, ia ar 61), (g4 1, ia ar 61), (g4 2, ia ar 61), (g4 3, ia ar 61), (q5, ia ar 400), (q6, .inr (0, [.int 0, .int 0, .int 0, .int 0, .int 0, .int 0, .ref (g7 0), .ref (g7 1), .ref (g7 2), .ref (g7 3), .ref (g7 4)])), (g7 0, ia ar 10), (g7 1, ia ar 10), (g7 2, ia ar 10), (g7 3, ba ar 10), (g7 4, ia ar 10), (q8, .inr (0, [.int 1, .int 0, .int 0, .int 0, .int 0, .int 0, .ref (g9 0), .ref (g9 1), .ref (g9 2), .ref (g9 3), .ref (g9 4)])), (g9 0, ia ar 10), (g9 1, ia ar 10), (g9 2, ia ar 10), (g9 3, ba ar 10), (g9 4, ia ar 10), (q10, .inr (0, [.int 2, .int 0, .int 0, .int 0, .int 0, .int 0, .ref (g11 0), .ref (g11 1), .ref (g11 2), .ref (g11 3), .ref (g11 4)])), (g11 0, ia ar 10), (g11 1, ia ar 10), (g11 2, ia ar 10), (g11 3, ba ar 10), (g11 4, ia ar 10), (q12, .inr (0, [.int 3, .int 0, .int 0, .int 0, .int 0, .int 0, .ref (g13 0), .ref (g13 1), .ref (g13 2), .ref (g13 3), .ref (g13 4)])), (g13 0, ia ar 10), (g13 1, ia ar 10), (g13 2, ia ar 10), (g13 3, ba ar 10), (g13 4, ia ar 10), (q14, .inr (0, [.int 4, .int 0, .int 0, .int 0, .int 0, .int 0, .ref (g15 0), .ref (g15 1), .ref (g15 2), .ref (g15 3), .ref (g15 4)])), (g15 0, ia ar 10), (g15 1, ia ar 10), (g15 2, ia ar 10), (g15 3, ba ar 10), (g15 4, ia ar 10)]) rfl ?_
  refine b_iinc (pc := 92) E d_H_init_92 rfl (by decide) ?_
  refine b_ls (ls' := [(1, .int 5), (0, .ref h0)]) rfl ?_
  refine b_goto (tgt := 72) (pc := 95) E d_H_init_95 (by decide) ?_
  refine b_iload_n (pc := 72) E d_H_init_72 rfl rfl ?_
  refine b_bipush (v := 6) (pc := 73) E d_H_init_73 (by decide) ?_
  refine b_icmp_ge (tgt := 98) (pc := 75) E d_H_init_75 (by decide) (fun q => absurd q (by decide)) (fun _ => ?_)
  refine b_aload_n (pc := 78) E d_H_init_78 rfl rfl ?_
  refine b_get (pc := 79) E gw_H 0 rfl rfl 2 (by decide) fl_H_18 rfl d_H_init_79 ?_
  refine b_iload_n (pc := 82) E d_H_init_82 rfl rfl ?_
  refine b_new (pc := 83) (ci := 0) (fs := [.int 0, .int 0, .int 0, .int 0, .int 0, .int 0, .null, .null, .null, .null, .null]) E gw_P ty_P cl_H_16 ib_P ii_P rfl df_P (by decide) (by decide) d_H_init_83 (fun q16 => ?_)
  refine b_ws (ws' := [(h0, .inr (2, [.ref q0, .ref q1, .ref q2, .ref q3, .ref q5, .int 0, .int 0, .int 0, .int 0, .int 0])), (q0, ia ar 8), (q1, ha ar 8), (q2, pa ar (va_up (va_up (va_up (va_up (va_up (fun _ => none) 0 (some (q6))) 1 (some (q8))) 2 (some (q10))) 3 (some (q12))) 4 (some (q14)))), (q3, .inr (1, [.ref (g4 0), .ref (g4 1), .ref (g4 2), .ref (g4 3), .int 0])), (g4 0, ia ar 61), (g4 1, ia ar 61), (g4 2, ia ar 61), (g4 3, ia ar 61), (q5, ia ar 400), (q6, .inr (0, [.int 0, .int 0, .int 0, .int 0, .int 0, .int 0, .ref (g7 0), .ref (g7 1), .ref (g7 2), .ref (g7 3), .ref (g7 4)])), (g7 0, ia ar 10), (g7 1, ia ar 10), (g7 2, ia ar 10), (g7 3, ba ar 10), (g7 4, ia ar 10), (q8, .inr (0, [.int 1, .int 0, .int 0, .int 0, .int 0, .int 0, .ref (g9 0), .ref (g9 1), .ref (g9 2), .ref (g9 3), .ref (g9 4)])), (g9 0, ia ar 10), (g9 1, ia ar 10), (g9 2, ia ar 10), (g9 3, ba ar 10), (g9 4, ia ar 10), (q10, .inr (0, [.int 2, .int 0, .int 0, .int 0, .int 0, .int 0, .ref (g11 0), .ref (g11 1), .ref (g11 2), .ref (g11 3), .ref (g11 4)])), (g11 0, ia ar 10), (g11 1, ia ar 10), (g11 2, ia ar 10), (g11 3, ba ar 10), (g11 4, ia ar 10), (q12, .inr (0, [.int 3, .int 0, .int 0, .int 0, .int 0, .int 0, .ref (g13 0), .ref (g13 1), .ref (g13 2), .ref (g13 3), .ref (g13 4)])), (g13 0, ia ar 10), (g13 1, ia ar 10), (g13 2, ia ar 10), (g13 3, ba ar 10), (g13 4, ia ar 10), (q14, .inr (0, [.int 4, .int 0, .int 0, .int 0, .int 0, .int 0, .ref (g15 0), .ref (g15 1), .ref (g15 2), .ref (g15 3), .ref (g15 4)])), (g15 0, ia ar 10), (g15 1, ia ar 10), (g15 2, ia ar 10), (g15 3, ba ar 10), (g15 4, ia ar 10), (q16, .inr (0, [.int 0, .int 0, .int 0, .int 0, .int 0, .int 0, .null, .null, .null, .null, .null]))]) rfl ?_
  refine b_dup (pc := 86) E d_H_init_86 rfl ?_
  refine b_iload_n (pc := 87) E d_H_init_87 rfl rfl ?_
  refine b_callI (pc := 88) (n := 1) (X := fun _ => True) (wr := [(h0, .inr (2, [.ref q0, .ref q1, .ref q2, .ref q3, .ref q5, .int 0, .int 0, .int 0, .int 0, .int 0])), (q0, ia ar 8), (q1, ha ar 8), (q2, pa ar (va_up (va_up (va_up (va_up (va_up (fun _ => none) 0 (some (q6))) 1 (some (q8))) 2 (some (q10))) 3 (some (q12))) 4 (some (q14)))), (q3, .inr (1, [.ref (g4 0), .ref (g4 1), .ref (g4 2), .ref (g4 3), .int 0])), (g4 0, ia ar 61), (g4 1, ia ar 61), (g4 2, ia ar 61), (g4 3, ia ar 61), (q5, ia ar 400), (q6, .inr (0, [.int 0, .int 0, .int 0, .int 0, .int 0, .int 0, .ref (g7 0), .ref (g7 1), .ref (g7 2), .ref (g7 3), .ref (g7 4)])), (g7 0, ia ar 10), (g7 1, ia ar 10), (g7 2, ia ar 10), (g7 3, ba ar 10), (g7 4, ia ar 10), (q8, .inr (0, [.int 1, .int 0, .int 0, .int 0, .int 0, .int 0, .ref (g9 0), .ref (g9 1), .ref (g9 2), .ref (g9 3), .ref (g9 4)])), (g9 0, ia ar 10), (g9 1, ia ar 10), (g9 2, ia ar 10), (g9 3, ba ar 10), (g9 4, ia ar 10), (q10, .inr (0, [.int 2, .int 0, .int 0, .int 0, .int 0, .int 0, .ref (g11 0), .ref (g11 1), .ref (g11 2), .ref (g11 3), .ref (g11 4)])), (g11 0, ia ar 10), (g11 1, ia ar 10), (g11 2, ia ar 10), (g11 3, ba ar 10), (g11 4, ia ar 10), (q12, .inr (0, [.int 3, .int 0, .int 0, .int 0, .int 0, .int 0, .ref (g13 0), .ref (g13 1), .ref (g13 2), .ref (g13 3), .ref (g13 4)])), (g13 0, ia ar 10), (g13 1, ia ar 10), (g13 2, ia ar 10), (g13 3, ba ar 10), (g13 4, ia ar 10), (q14, .inr (0, [.int 4, .int 0, .int 0, .int 0, .int 0, .int 0, .ref (g15 0), .ref (g15 1), .ref (g15 2), .ref (g15 3), .ref (g15 4)])), (g15 0, ia ar 10), (g15 1, ia ar 10), (g15 2, ia ar 10), (g15 3, ba ar 10), (g15 4, ia ar 10)]) E (c_P_init l D ar q16 5) ⟨by decide, by decide, im_P_init, ii_P, cd_P_init, rfl, by decide, by decide, by decide +kernel⟩ ml_H_32 (fun _ _ _ => trivial) (fun _ _ _ _ _ => trivial) 40 [0, 1, 2, 3, 4, 5, 6, 7, 8, 9, 10, 11, 12, 13, 14, 15, 16, 17, 18, 19, 20, 21, 22, 23, 24, 25, 26, 27, 28, 29, 30, 31, 32, 33, 34, 35, 36, 37, 38, 39] rfl rfl (by decide) (by decide) rfl rfl (Nat.le_of_ble_eq_true rfl) d_H_init_88 (by decide) (fun g17 => ?_)
  refine b_ws (ws' := [(h0, .inr (2, [.ref q0, .ref q1, .ref q2, .ref q3, .ref q5, .int 0, .int 0, .int 0, .int 0, .int 0])), (q0, ia ar 8), (q1, ha ar 8), (q2, pa ar (va_up (va_up (va_up (va_up (va_up (fun _ => none) 0 (some (q6))) 1 (some (q8))) 2 (some (q10))) 3 (some (q12))) 4 (some (q14)))), (q3, .inr (1, [.ref (g4 0), .ref (g4 1), .ref (g4 2), .ref (g4 3), .int 0])), (g4 0, ia ar 61), (g4 1, ia ar 61), (g4 2, ia ar 61), (g4 3, ia ar 61), (q5, ia ar 400), (q6, .inr (0, [.int 0, .int 0, .int 0, .int 0, .int 0, .int 0, .ref (g7 0), .ref (g7 1), .ref (g7 2), .ref (g7 3), .ref (g7 4)])), (g7 0, ia ar 10), (g7 1, ia ar 10), (g7 2, ia ar 10), (g7 3, ba ar 10), (g7 4, ia ar 10), (q8, .inr (0, [.int 1, .int 0, .int 0, .int 0, .int 0, .int 0, .ref (g9 0), .ref (g9 1), .ref (g9 2), .ref (g9 3), .ref (g9 4)])), (g9 0, ia ar 10), (g9 1, ia ar 10), (g9 2, ia ar 10), (g9 3, ba ar 10), (g9 4, ia ar 10), (q10, .inr (0, [.int 2, .int 0, .int 0, .int 0, .int 0, .int 0, .ref (g11 0), .ref (g11 1), .ref (g11 2), .ref (g11 3), .ref (g11 4)])), (g11 0, ia ar 10), (g11 1, ia ar 10), (g11 2, ia ar 10), (g11 3, ba ar 10), (g11 4, ia ar 10), (q12, .inr (0, [.int 3, .int 0, .int 0, .int 0, .int 0, .int 0, .ref (g13 0), .ref (g13 1), .ref (g13 2), .ref (g13 3), .ref (g13 4)])), (g13 0, ia ar 10), (g13 1, ia ar 10), (g13 2, ia ar 10), (g13 3, ba ar 10), (g13 4, ia ar 10), (q14, .inr (0, [.int 4, .int 0, .int 0, .int 0, .int 0, .int 0, .ref (g15 0), .ref (g15 1), .ref (g15 2), .ref (g15 3), .ref (g15 4)])), (g15 0, ia ar 10), (g15 1, ia ar 10), (g15 2, ia ar 10), (g15 3, ba ar 10), (g15 4, ia ar 10), (q16, .inr (0, [.int 5, .int 0, .int 0, .int 0, .int 0, .int 0, .ref (g17 0), .ref (g17 1), .ref (g17 2), .ref (g17 3), .ref (g17 4)])), (g17 0, ia ar 10), (g17 1, ia ar 10), (g17 2, ia ar 10), (g17 3, ba ar 10), (g17 4, ia ar 10)]) rfl ?_
  refine b_aast (pc := 91) E 3 40 rfl rfl (ix_of (by decide) (by decide)) d_H_init_91 ?_
  refine b_ws (ws' := [(h0, .inr (2, [.ref q0, .ref q1, .ref q2, .ref q3, .ref q5, .int 0, .int 0, .int 0, .int 0, .int 0])), (q0, ia ar 8), (q1, ha ar 8), (q2, pa ar (va_up (va_up (va_up (va_up (va_up (va_up (fun _ => none) 0 (some (q6))) 1 (some (q8))) 2 (some (q10))) 3 (some (q12))) 4 (some (q14))) 5 (some (q16)))), (q3, .inr (1, [.ref (g4 0), .ref (g4 1), .ref (g4 2), .ref (g4 3), .int 0])), (g4 0, ia ar 61), (g4 1, ia ar 61), (g4 2, ia ar 61), (g4 3, ia ar 61), (q5, ia ar 400), (q6, .inr (0, [.int 0, .int 0, .int 0, .int 0, .int 0, .int 0, .ref (g7 0), .ref (g7 1), .ref (g7 2), .ref (g7 3), .ref (g7 4)])), (g7 0, ia ar 10), (g7 1, ia ar 10), (g7 2, ia ar 10), (g7 3, ba ar 10), (g7 4, ia ar 10), (q8, .inr (0, [.int 1, .int 0, .int 0, .int 0, .int 0, .int 0, .ref (g9 0), .ref (g9 1), .ref (g9 2), .ref (g9 3), .ref (g9 4)])), (g9 0, ia ar 10), (g9 1, ia ar 10), (g9 2, ia ar 10), (g9 3, ba ar 10), (g9 4, ia ar 10), (q10, .inr (0, [.int 2, .int 0, .int 0, .int 0, .int 0, .int 0, .ref (g11 0), .ref (g11 1), .ref (g11 2), .ref (g11 3), .ref (g11 4)])), (g11 0, ia ar 10), (g11 1, ia ar 10), (g11 2, ia ar 10), (g11 3, ba ar 10), (g11 4, ia ar 10), (q12, .inr (0, [.int 3, .int 0, .int 0, .int 0, .int 0, .int 0, .ref (g13 0), .ref (g13 1), .ref (g13 2), .ref (g13 3), .ref (g13 4)])), (g13 0, ia ar 10), (g13 1, ia ar 10), (g13 2, ia ar 10), (g13 3, ba ar 10), (g13 4, ia ar 10), (q14, .inr (0, [.int 4, .int 0, .int 0, .int 0, .int 0, .int 0, .ref (g15 0), .ref (g15 1), .ref (g15 2), .ref (g15 3), .ref (g15 4)])), (g15 0, ia ar 10), (g15 1, ia ar 10), (g15 2, ia ar 10), (g15 3, ba ar 10), (g15 4, ia ar 10), (q16, .inr (0, [.int 5, .int 0, .int 0, .int 0, .int 0, .int 0, .ref (g17 0), .ref (g17 1), .ref (g17 2), .ref (g17 3), .ref (g17 4)])), (g17 0, ia ar 10), (g17 1, ia ar 10), (g17 2, ia ar 10), (g17 3, ba ar 10), (g17 4, ia ar 10)]) rfl ?_
  refine b_iinc (pc := 92) E d_H_init_92 rfl (by decide) ?_
  refine b_ls (ls' := [(1, .int 6), (0, .ref h0)]) rfl ?_
  refine b_goto (tgt := 72) (pc := 95) E d_H_init_95 (by decide) ?_
  refine b_iload_n (pc := 72) E d_H_init_72 rfl rfl ?_
  refine b_bipush (v := 6) (pc := 73) E d_H_init_73 (by decide) ?_
  refine b_icmp_ge (tgt := 98) (pc := 75) E d_H_init_75 (by decide) (fun _ => ?_) (fun q => absurd (by decide) q)
  exact b_vret (pc := 98) E hr hlk d_H_init_98 (by decide) (by decide) (fun i => match i with | 0 => q0 | 1 => q1 | 2 => q2 | 3 => q3 | 4 => g4 0 | 5 => g4 1 | 6 => g4 2 | 7 => g4 3 | 8 => q5 | 9 => q6 | 10 => g7 0 | 11 => g7 1 | 12 => g7 2 | 13 => g7 3 | 14 => g7 4 | 15 => q8 | 16 => g9 0 | 17 => g9 1 | 18 => g9 2 | 19 => g9 3 | 20 => g9 4 | 21 => q10 | 22 => g11 0 | 23 => g11 1 | 24 => g11 2 | 25 => g11 3 | 26 => g11 4 | 27 => q12 | 28 => g13 0 | 29 => g13 1 | 30 => g13 2 | 31 => g13 3 | 32 => g13 4 | 33 => q14 | 34 => g15 0 | 35 => g15 1 | 36 => g15 2 | 37 => g15 3 | 38 => g15 4 | 39 => q16 | 40 => g17 0 | 41 => g17 1 | 42 => g17 2 | 43 => g17 3 | 44 => g17 4 | _ => 0) rfl
