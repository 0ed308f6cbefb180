theorem b_istore {p : Program} {l : Launch} {e : Env} {R : Room} {s : State} {m : MethodId} {args : Array Value} {below : List Frame} {meth : Method} {c : Code} {Q : State → Prop} {cc : ByteArray} {nL cB sB : Nat} {own : String} {D : va_G} {ar : Nat → ClassId} {A : Nat → Prop} {pc : Nat} {ls : List (Nat × Value)} {st : List Value} {ws : va_W} (E : Bx p s m args c cc nL own D ar A) {i : Nat} {x : Int32} (hd : decode cc pc = .ok (.istore i, 2)) (hn : i < nL) (kk : BW p l e R s m args below meth c D A nL cB sB Q (pc + 2) (ls_set ls i (.int x)) st ws) : BW p l e R s m args below meth c D A nL cB sB Q pc ls (.int x :: st) ws :=
  fun H locs la k0 n0 h1 h2 h3 h4 h5 h6 => lv_istore E.x E.b hd h6 hn rfl (fun la' h6' => kk H locs la' k0 n0 h1 h2 h3 h4 h5 h6')
theorem ar_of {s : State} {args : Array Value} {ty : FieldType} (hp : ∀ C, ty ≠ .object C) (h : (Cond.arrayClass ty).before args s = true) : ∃ cA : ClassId, ArrOfT s cA ty ∧ va_RA s cA ty := by
  obtain ⟨cA, kA, comp, h1, h2, h3⟩ := Cond.arrayClass_spec h
  refine ⟨cA, fun n z => ⟨fun k h => (by cases h), kA, h2, comp, h3⟩, ?_⟩
  cases ty with
  | object C => exact absurd rfl (hp C)
  | _ => exact h1
theorem ar_ob {s : State} {args : Array Value} {C : String} (h : (Cond.arrayOver (.object C)).before args s = true) : ∃ cA : ClassId, ArrOfT s cA (.object C) ∧ va_RA s cA (.object C) := by
  obtain ⟨comp, cA, kA, h1, h2, h3, h4, h5⟩ := Cond.arrayOver_spec h
  exact ⟨cA, fun n z => ⟨fun k h => (by cases h), kA, h3, comp, h4⟩, kA, comp, h3, h4, h1, h5⟩
set_option maxRecDepth 100000 in
theorem in_strs : (wd_strs.all fun q => decide (Cond.stringRef q.1 q.2.1 q.2.2 ∈ lw_tbl) && decide (Cond.exactly (.string q.1 q.2.1) "java/lang/String" ∈ flatC (Jvm.Cond.and given_1 narrow_1))) = true := by decide +kernel
set_option maxRecDepth 100000 in
theorem in_nc : (wd_nc.all fun q => decide (Cond.not (.castable q.1 q.2) ∈ flatC (Jvm.Cond.and given_1 narrow_1))) = true := by decide +kernel
set_option maxRecDepth 100000 in
theorem in_more : (Cond.methodLinkNest "HouseThreads2" 24 y_Q_init "HouseThreads2" ∈ lw_tbl ∧ Cond.arrayOver (.object "HouseThreads2$Part") ∈ lw_tbl) ∧ (Cond.laysStatic "java/lang/Throwable" "UNASSIGNED_STACK" "[Ljava/lang/StackTraceElement;" ∈ lw_tbl ∧ Cond.laysStatic "java/lang/Throwable" "SUPPRESSED_SENTINEL" "Ljava/util/List;" ∈ lw_tbl) ∧ Cond.isRef (.static "java/lang/Throwable" "UNASSIGNED_STACK" "[Ljava/lang/StackTraceElement;") ∈ flatC (Jvm.Cond.and given_1 narrow_1) ∧ Cond.isRef (.static "java/lang/Throwable" "SUPPRESSED_SENTINEL" "Ljava/util/List;") ∈ flatC (Jvm.Cond.and given_1 narrow_1) := by decide +kernel
set_option maxHeartbeats 8000000 in
set_option maxRecDepth 100000 in
/-- the law, from its entry -/
theorem whole_start {p : Program} {e : Env} {s : State} {m : MethodId} {below : List Frame} {meth : Method} {c : Code} (l : Launch) (htr : l.stackTraces = false) {b L : Nat} {xs : Nat → Int32} (hL : L ≤ 2560) (C0 : lw_At p s m meth c b L xs) : W p l e room_1 s m #[Value.ref b] below meth c s.heap [] 0 0 (lw_Z below #[Value.ref b] s) (entryFrame m ([Value.ref b] : List Value).toArray 7) := by
  obtain ⟨hx, hb, hr, hml, hown, hts, hX, hbl, hlocks, hgv⟩ := C0
  have hgs := flat_of_before _ hgv
  have htw : ∀ w ∈ wd_TB, w.before #[Value.ref b] s = true := fun w hw => hts w (List.mem_filter.mp hw).1
  have htg : ∀ w ∈ wg_TB, w.before #[Value.ref b] s = true := fun w hw => htw w (List.mem_filter.mp hw).1
  obtain ⟨cP, iP, kP⟩ := u_known (C := "HouseThreads2$Part") (T := T_P) (N := 11) (n := 11) htw in_P (htw _ ib_P)
  obtain ⟨cQ, iQ, kQ⟩ := u_known (C := "HouseThreads2$Post") (T := T_Q) (N := 5) (n := 5) htw in_Q (htw _ ib_Q)
  obtain ⟨cH, iH, kH⟩ := u_known (C := "HouseThreads2") (T := T_H) (N := 10) (n := 10) htw in_H (htw _ ib_H)
  obtain ⟨cM, iM, kM⟩ := u_known (C := "HouseThreads2Model") (T := T_M) (N := 24) (n := 24) htw in_M (htw _ ib_M)
  obtain ⟨D, hKc⟩ : ∃ D : va_G, ∀ (k : Nat) (q : vw_C), wd_cl[k]? = some q → u_Kn s q.1 q.2.1 q.2.2 (D.1 k) (D.2 k) := by
    refine ⟨(fun k => if k = 0 then cP else if k = 1 then cQ else if k = 2 then cH else cM, fun k => if k = 0 then iP else if k = 1 then iQ else if k = 2 then iH else iM), ?_⟩
    intro k q hq
    match k, hq with
    | 0, hq => cases hq; exact kP
    | 1, hq => cases hq; exact kQ
    | 2, hq => cases hq; exact kH
    | 3, hq => cases hq; exact kM
    | k + 4, hq => simp [wd_cl] at hq
  obtain ⟨a0, h0⟩ := ar_of (ty := .int) (fun _ q => by cases q) (htw _ ac_int)
  obtain ⟨a1, h1⟩ := ar_of (ty := .boolean) (fun _ q => by cases q) (htw _ ac_boolean)
  obtain ⟨a2, h2⟩ := ar_of (ty := .long) (fun _ q => by cases q) (htw _ ac_long)
  have hao := hts _ in_more.1.2
  obtain ⟨a3, h3⟩ := ar_ob hao
  obtain ⟨ar, hKa⟩ : ∃ ar : Nat → ClassId, ∀ (k : Nat) (q : ClassId × FieldType), (wd_tys ar)[k]? = some q → ArrOfT s q.1 q.2 ∧ va_RA s q.1 q.2 := by
    refine ⟨fun k => if k = 0 then a0 else if k = 1 then a1 else if k = 2 then a2 else a3, ?_⟩
    intro k q hq
    match k, hq with
    | 0, hq => cases hq; exact h0
    | 1, hq => cases hq; exact h1
    | 2, hq => cases hq; exact h2
    | 3, hq => cases hq; exact h3
    | k + 4, hq => simp [wd_tys] at hq
  have hK : va_K D wd_cl (wd_tys ar) s := ⟨hKc, hKa⟩
  have hKK : hw_K D ar s := by
    refine ⟨hK, fun q hq => ?_, fun q hq => ?_⟩
    · have z := List.all_eq_true.mp in_strs q hq
      simp only [Bool.and_eq_true, decide_eq_true_eq] at z
      obtain ⟨a, _, _, _, ha, -⟩ := Cond.exactly_spec (hgs _ z.2)
      exact ⟨a, vk_R.of (A := #[Value.ref b]) (hts _ z.1) ha⟩
    · have z := List.all_eq_true.mp in_nc q hq
      simp only [decide_eq_true_eq] at z
      exact va_Nc.of (hgs _ z)
  have E0 : Bx p s m #[Value.ref b] c code 7 "HouseThreads2Law" D ar (fun q : Nat => s.heap.size ≤ q) := ⟨hx, hb, hml, hown, htg, hK, fun _ q => q⟩
  have body : BW p l e room_1 s m #[Value.ref b] below meth c D (fun q : Nat => s.heap.size ≤ q) 7 0 0 (lw_Z below #[Value.ref b] s) 0 [(0, .ref b)] [] [] := by
    refine b_new (pc := 0) (ci := 2) (fs := [.null, .null, .null, .null, .null, .int 0, .int 0, .int 0, .int 0, .int 0]) E0 gw_H ty_H cl_L_8 ib_H ii_H rfl df_H (by decide) (by decide) d_L_law_0 (fun h => ?_)
    refine b_dup (pc := 3) E0 d_L_law_3 rfl ?_
    refine b_callI (pc := 4) (n := 0) (X := fun U => va_Nw (.methodLinkNest "HouseThreads2" 24 y_Q_init "HouseThreads2") U ∧ va_AO "HouseThreads2$Part" U) (wr := []) E0 (c_H_init l D ar h) ⟨by decide, by decide, im_H_init, ii_H, cd_H_init, rfl, by decide, by decide, by decide +kernel⟩ ml_L_58 (fun U hA hW => ⟨va_Nw.warmM hW (va_Nw.of rfl (hts _ in_more.1.1)), (va_AO.of hao).moved hA⟩) (fun U g mk a z => ⟨va_Nw.same rfl rfl z.1, z.2.moved (u := U) (U := U.calling g mk a) (Vm.Alike.refl U.vm)⟩) 0 [] rfl rfl (by decide) (by decide) rfl rfl (Nat.le_of_ble_eq_true rfl) d_L_law_4 (by decide) (fun g => ?_)
    refine b_astore_n (pc := 7) E0 d_L_law_7 rfl (by decide) ?_
    refine b_new (pc := 8) (ci := 3) (fs := [.int 0, .null, .null, .int 0, .null, .null, .null, .null, .null, .null, .null, .null, .null, .null, .null, .int 0, .int 0, .null, .null, .null, .null, .int 0, .int 0, .null]) E0 gw_M ty_M cl_L_59 ib_M ii_M rfl df_M (by decide) (by decide) d_L_law_8 (fun mo => ?_)
    refine b_dup (pc := 11) E0 d_L_law_11 rfl ?_
    refine b_callI (pc := 12) (n := 0) (X := fun _ => True) (wr := [(h, .inr (2, [.ref (g 0), .ref (g 1), .ref (g 2), .ref (g 3), .ref (g 8), .int 0, .int 0, .int 0, .int 0, .int 0])), (g 0, ia ar 8), (g 1, ha ar 8), (g 2, pa ar (va_up (va_up (va_up (va_up (va_up (va_up (fun _ => none) 0 (some (g 9))) 1 (some (g 15))) 2 (some (g 21))) 3 (some (g 27))) 4 (some (g 33))) 5 (some (g 39)))), (g 3, .inr (1, [.ref (g 4), .ref (g 5), .ref (g 6), .ref (g 7), .int 0])), (g 4, ia ar 61), (g 5, ia ar 61), (g 6, ia ar 61), (g 7, ia ar 61), (g 8, ia ar 400), (g 9, .inr (0, [.int 0, .int 0, .int 0, .int 0, .int 0, .int 0, .ref (g 10), .ref (g 11), .ref (g 12), .ref (g 13), .ref (g 14)])), (g 10, ia ar 10), (g 11, ia ar 10), (g 12, ia ar 10), (g 13, ba ar 10), (g 14, ia ar 10), (g 15, .inr (0, [.int 1, .int 0, .int 0, .int 0, .int 0, .int 0, .ref (g 16), .ref (g 17), .ref (g 18), .ref (g 19), .ref (g 20)])), (g 16, ia ar 10), (g 17, ia ar 10), (g 18, ia ar 10), (g 19, ba ar 10), (g 20, ia ar 10), (g 21, .inr (0, [.int 2, .int 0, .int 0, .int 0, .int 0, .int 0, .ref (g 22), .ref (g 23), .ref (g 24), .ref (g 25), .ref (g 26)])), (g 22, ia ar 10), (g 23, ia ar 10), (g 24, ia ar 10), (g 25, ba ar 10), (g 26, ia ar 10), (g 27, .inr (0, [.int 3, .int 0, .int 0, .int 0, .int 0, .int 0, .ref (g 28), .ref (g 29), .ref (g 30), .ref (g 31), .ref (g 32)])), (g 28, ia ar 10), (g 29, ia ar 10), (g 30, ia ar 10), (g 31, ba ar 10), (g 32, ia ar 10), (g 33, .inr (0, [.int 4, .int 0, .int 0, .int 0, .int 0, .int 0, .ref (g 34), .ref (g 35), .ref (g 36), .ref (g 37), .ref (g 38)])), (g 34, ia ar 10), (g 35, ia ar 10), (g 36, ia ar 10), (g 37, ba ar 10), (g 38, ia ar 10), (g 39, .inr (0, [.int 5, .int 0, .int 0, .int 0, .int 0, .int 0, .ref (g 40), .ref (g 41), .ref (g 42), .ref (g 43), .ref (g 44)])), (g 40, ia ar 10), (g 41, ia ar 10), (g 42, ia ar 10), (g 43, ba ar 10), (g 44, ia ar 10)]) E0 (c_M_init l D ar mo) ⟨by decide, by decide, im_M_init, ii_M, cd_M_init, rfl, by decide, by decide, by decide +kernel⟩ ml_L_61 (fun _ _ _ => trivial) (fun _ _ _ _ _ => trivial) 46 [0, 1, 2, 3, 4, 5, 6, 7, 8, 9, 10, 11, 12, 13, 14, 15, 16, 17, 18, 19, 20, 21, 22, 23, 24, 25, 26, 27, 28, 29, 30, 31, 32, 33, 34, 35, 36, 37, 38, 39, 40, 41, 42, 43, 44, 45] rfl rfl (by decide) (by decide) rfl rfl (Nat.le_of_ble_eq_true rfl) d_L_law_12 (by decide) (fun gm => ?_)
    refine b_astore_n (pc := 15) E0 d_L_law_15 rfl (by decide) ?_
    refine b_iconst (v := 1) (pc := 16) E0 d_L_law_16 (by decide) ?_
    refine b_newa (pc := 17) (atype := .long) (ty := .long) (t := 2) (N := 1) (a0 := (1, .inr (.inl (fun _ => (0 : Int32).toInt64)))) E0 rfl ac_long rfl (fun _ => rfl) (by decide) (by decide) (by decide) (by decide) (by decide) d_L_law_17 (fun o => ?_)
    refine b_astore_n (pc := 19) E0 d_L_law_19 rfl (by decide) ?_
    refine b_iconst (v := 0) (pc := 20) E0 d_L_law_20 (by decide) ?_
    refine b_istore (pc := 21) E0 d_L_law_21 (by decide) ?_
    refine b_ws (ws' := ws_L ar h g mo gm o) rfl ?_
    refine b_ls (ls' := [(4, .int 0), (3, .ref o), (2, .ref mo), (1, .ref h), (0, .ref b)]) rfl ?_
    intro H locs la k0 n0 i1 i2 i3 i4 i5 i6
    obtain ⟨hLy, hfr⟩ := ly_L ar h g mo gm o i4
    have hnA : ∀ a : Nat, a < s.heap.size → ¬ hw_A (ly h g mo gm o) true s.heap.size a := fun a ha z => by
      rcases z with ⟨-, f, k, hk, rfl⟩ | z
      · have : s.heap.size ≤ ly h g mo gm o f k := hfr f k hk
        omega
      · omega
    have E : Cx p s m #[Value.ref b] c code 7 "HouseThreads2Law" D ar (ly h g mo gm o) :=
      ⟨hx, hb, hml, hown, htw, hKK, hLy, ⟨vx_Zqof (hts _ in_more.2.1.1) (htw _ ii_Throwable) (hgs _ in_more.2.2.1) hnA, vx_Zqof (hts _ in_more.2.1.2) (htw _ ii_Throwable) (hgs _ in_more.2.2.2) hnA⟩, fun q cell hq hc => absurd hq (hnA q (Array.getElem?_eq_some_iff.mp hc).1)⟩
    exact law_loop E hr hlocks htr hX hbl (hnA b hbl) hfr hL 512 0 _ _ 0 0 M0 (by decide) (by omega) (by omega) (by decide) (by decide) (by decide) M0_J H locs la k0 n0 i1 i2 (ly_H D ar h g mo gm o H i3) ⟨i5.1, fun q z1 z2 => i5.2.1 q z1 (fun z => z2 (Or.inr z)), fun q hq => Or.inr (i5.2.2 q hq)⟩ i6
  have hl := lv_entry ([Value.ref b]) (n := 7) (Nat.le_of_ble_eq_true rfl)
  have K := body s.heap [] _ 0 0 (Nat.le_refl _) (Nat.le_refl _) (fun k q hq => by simp at hq) ⟨fun i j p q hp => by simp at hp, fun k q hq => by simp at hq⟩ va_S.rf hl
  rw [← lg_entry_eq] at K
  exact K
