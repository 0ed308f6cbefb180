/-! CONSTRUCTORS: a walk over a list of cells -/
def wg_TB : List Cond := wd_TB.filter goodWord
theorem wg_of {w : Cond} (h : w ∈ wd_TB) (g : goodWord w = true) : w ∈ wg_TB := List.mem_filter.mpr ⟨h, g⟩
theorem wg_good {w : Cond} (h : w ∈ wg_TB) : (w.onTables && w.keeps) = true ∨ ∃ ty, w = .arrayClass ty := good_of_word (List.mem_filter.mp h).2
def wi_TB (y : MethodName) (cc : ByteArray) (n : Nat) : List Cond := Cond.code y cc n none :: wg_TB
theorem va_RA_inj {U : State} {a b : ClassId} {ty : FieldType} (h1 : va_RA U a ty) (h2 : va_RA U b ty) : a = b := by
  cases ty with
  | object C =>
    obtain ⟨_, _, _, _, _, g1⟩ := h1
    obtain ⟨_, _, _, _, _, g2⟩ := h2
    exact Option.some.inj (g1.symm.trans g2)
  | _ => exact Option.some.inj (Eq.trans (Eq.symm (show U.vm.findClass _ = some a from h1)) (show U.vm.findClass _ = some b from h2))
/-- what stands fast in a constructor -/
def Bx (p : Program) (s : State) (m : MethodId) (args : Array Value) (c : Code) (cc : ByteArray) (nL : Nat) (own : String) (D : va_G) (ar : Nat → ClassId) (A : Nat → Prop) : Prop :=
  p.tables.exec = Jvm.exec ∧ c.code = cc ∧ c.maxLocals = nL ∧ s.vm.findClass own = some m.cls ∧ (∀ w ∈ wg_TB, w.before args s = true) ∧ va_K D wd_cl (wd_tys ar) s ∧ ∀ q, s.heap.size ≤ q → A q
section BXS
variable {p : Program} {s : State} {m : MethodId} {args : Array Value} {c : Code} {cc : ByteArray} {nL : Nat} {own : String} {D : va_G} {ar : Nat → ClassId} {A : Nat → Prop}
theorem Bx.x (E : Bx p s m args c cc nL own D ar A) : p.tables.exec = Jvm.exec := E.1
theorem Bx.b (E : Bx p s m args c cc nL own D ar A) : c.code = cc := E.2.1
theorem Bx.ml (E : Bx p s m args c cc nL own D ar A) : c.maxLocals = nL := E.2.2.1
theorem Bx.ow (E : Bx p s m args c cc nL own D ar A) : s.vm.findClass own = some m.cls := E.2.2.2.1
theorem Bx.ts (E : Bx p s m args c cc nL own D ar A) : ∀ w ∈ wg_TB, w.before args s = true := E.2.2.2.2.1
theorem Bx.K (E : Bx p s m args c cc nL own D ar A) : va_K D wd_cl (wd_tys ar) s := E.2.2.2.2.2.1
theorem Bx.nw (E : Bx p s m args c cc nL own D ar A) : ∀ q, s.heap.size ≤ q → A q := E.2.2.2.2.2.2
theorem Bx.w (E : Bx p s m args c cc nL own D ar A) {w : Cond} (h : w ∈ wd_TB) (g : goodWord w = true) : w.before args s = true := E.ts _ (wg_of h g)
end BXS
def BW (p : Program) (l : Launch) (e : Env) (R : Room) (s : State) (m : MethodId) (args : Array Value) (below : List Frame) (meth : Method) (c : Code) (D : va_G) (A : Nat → Prop) (nL cB sB : Nat) (Q : State → Prop) (pc : Nat) (ls : List (Nat × Value)) (st : List Value) (ws : va_W) : Prop :=
  ∀ (H : Heap) (locs : List Loc) (la : Array Slot) (k0 n0 : Nat), k0 ≤ cB → n0 ≤ sB → va_P D wd_cl ws H → va_D A ws → va_S A s.heap H locs → lv_has la nL ls → W p l e R s m args below meth c H locs k0 n0 Q (F0 m pc la st)
section BWR
variable {p : Program} {l : Launch} {e : Env} {R : Room} {s : State} {m : MethodId} {args : Array Value} {below : List Frame} {meth : Method} {c : Code} {Q : State → Prop} {cc : ByteArray} {nL cB sB : Nat} {own : String} {D : va_G} {ar : Nat → ClassId} {A : Nat → Prop} {pc : Nat} {ls : List (Nat × Value)} {st : List Value} {ws : va_W}
theorem b_ws {ws' : va_W} (h : ws = ws') (kk : BW p l e R s m args below meth c D A nL cB sB Q pc ls st ws') : BW p l e R s m args below meth c D A nL cB sB Q pc ls st ws := h ▸ kk
theorem b_ls {ls' : List (Nat × Value)} (h : ls = ls') (kk : BW p l e R s m args below meth c D A nL cB sB Q pc ls' st ws) : BW p l e R s m args below meth c D A nL cB sB Q pc ls st ws := h ▸ kk
theorem b_aload_n (E : Bx p s m args c cc nL own D ar A) {q : Fin 4} {i : Nat} {x : Nat} (hd : decode cc pc = .ok (.aload_n q, 1)) (hi : (q : Nat) = i) (hl : ls.lookup i = some (.ref x)) (kk : BW p l e R s m args below meth c D A nL cB sB Q (pc + 1) ls (.ref x :: st) ws) : BW p l e R s m args below meth c D A nL cB sB Q pc ls st ws :=
  fun H locs la k0 n0 h1 h2 h3 h4 h5 h6 => lv_aload_n E.x E.b hd hi (ls_at h6 hl) (kk H locs la k0 n0 h1 h2 h3 h4 h5 h6)
theorem b_iload_n (E : Bx p s m args c cc nL own D ar A) {q : Fin 4} {i : Nat} {x : Int32} (hd : decode cc pc = .ok (.iload_n q, 1)) (hi : (q : Nat) = i) (hl : ls.lookup i = some (.int x)) (kk : BW p l e R s m args below meth c D A nL cB sB Q (pc + 1) ls (.int x :: st) ws) : BW p l e R s m args below meth c D A nL cB sB Q pc ls st ws :=
  fun H locs la k0 n0 h1 h2 h3 h4 h5 h6 => lv_iload_n E.x E.b hd hi (ls_at h6 hl) (kk H locs la k0 n0 h1 h2 h3 h4 h5 h6)
theorem b_iconst (E : Bx p s m args c cc nL own D ar A) {n : Int} {v : Int32} (hd : decode cc pc = .ok (.iconst n, 1)) (hv : Int32.ofInt n = v) (kk : BW p l e R s m args below meth c D A nL cB sB Q (pc + 1) ls (.int v :: st) ws) : BW p l e R s m args below meth c D A nL cB sB Q pc ls st ws :=
  fun H locs la k0 n0 h1 h2 h3 h4 h5 h6 => lv_iconst E.x E.b hd hv (kk H locs la k0 n0 h1 h2 h3 h4 h5 h6)
theorem b_bipush (E : Bx p s m args c cc nL own D ar A) {n : Int} {v : Int32} (hd : decode cc pc = .ok (.bipush n, 2)) (hv : (Int8.ofInt n).toInt32 = v) (kk : BW p l e R s m args below meth c D A nL cB sB Q (pc + 2) ls (.int v :: st) ws) : BW p l e R s m args below meth c D A nL cB sB Q pc ls st ws :=
  fun H locs la k0 n0 h1 h2 h3 h4 h5 h6 => lv_bipush E.x E.b hd hv (kk H locs la k0 n0 h1 h2 h3 h4 h5 h6)
theorem b_sipush (E : Bx p s m args c cc nL own D ar A) {n : Int} {v : Int32} (hd : decode cc pc = .ok (.sipush n, 3)) (hv : (Int16.ofInt n).toInt32 = v) (kk : BW p l e R s m args below meth c D A nL cB sB Q (pc + 3) ls (.int v :: st) ws) : BW p l e R s m args below meth c D A nL cB sB Q pc ls st ws :=
  fun H locs la k0 n0 h1 h2 h3 h4 h5 h6 => lv_sipush E.x E.b hd hv (kk H locs la k0 n0 h1 h2 h3 h4 h5 h6)
theorem b_istore_n (E : Bx p s m args c cc nL own D ar A) {q : Fin 4} {i : Nat} {x : Int32} (hd : decode cc pc = .ok (.istore_n q, 1)) (hi : (q : Nat) = i) (hn : i < nL) (kk : BW p l e R s m args below meth c D A nL cB sB Q (pc + 1) (ls_set ls i (.int x)) st ws) : BW p l e R s m args below meth c D A nL cB sB Q pc ls (.int x :: st) ws :=
  fun H locs la k0 n0 h1 h2 h3 h4 h5 h6 => lv_istore_n E.x E.b hd hi h6 hn rfl (fun la' h6' => kk H locs la' k0 n0 h1 h2 h3 h4 h5 h6')
theorem b_astore_n (E : Bx p s m args c cc nL own D ar A) {q : Fin 4} {i : Nat} {x : Nat} (hd : decode cc pc = .ok (.astore_n q, 1)) (hi : (q : Nat) = i) (hn : i < nL) (kk : BW p l e R s m args below meth c D A nL cB sB Q (pc + 1) (ls_set ls i (.ref x)) st ws) : BW p l e R s m args below meth c D A nL cB sB Q pc ls (.ref x :: st) ws :=
  fun H locs la k0 n0 h1 h2 h3 h4 h5 h6 => lv_astore_n E.x E.b hd hi h6 hn rfl (fun la' h6' => kk H locs la' k0 n0 h1 h2 h3 h4 h5 h6')
theorem b_iinc (E : Bx p s m args c cc nL own D ar A) {i : Nat} {n : Int} {x : Int32} (hd : decode cc pc = .ok (.iinc i n, 3)) (hl : ls.lookup i = some (.int x)) (hn : i < nL) (kk : BW p l e R s m args below meth c D A nL cB sB Q (pc + 3) (ls_set ls i (.int (x + Int32.ofInt n))) st ws) : BW p l e R s m args below meth c D A nL cB sB Q pc ls st ws := by
  intro H locs la k0 n0 h1 h2 h3 h4 h5 h6
  obtain ⟨j, hj⟩ := ls_ix hl
  exact lv_iinc E.x E.b hd h6 hj rfl hn rfl (fun la' h6' => kk H locs la' k0 n0 h1 h2 h3 h4 h5 h6')
theorem b_goto (E : Bx p s m args c cc nL own D ar A) {off : Int} {tgt : Nat} (hd : decode cc pc = .ok (.goto off, 3)) (ht : (pc : Int) + off = (tgt : Int)) (kk : BW p l e R s m args below meth c D A nL cB sB Q tgt ls st ws) : BW p l e R s m args below meth c D A nL cB sB Q pc ls st ws :=
  fun H locs la k0 n0 h1 h2 h3 h4 h5 h6 => lv_goto E.x E.b hd ht (kk H locs la k0 n0 h1 h2 h3 h4 h5 h6)
theorem b_icmp_ge (E : Bx p s m args c cc nL own D ar A) {x y : Int32} {off : Int} {tgt : Nat} (hd : decode cc pc = .ok (.if_icmp .ge off, 3)) (ht : (pc : Int) + off = (tgt : Int)) (kt : y ≤ x → BW p l e R s m args below meth c D A nL cB sB Q tgt ls st ws) (kf : ¬ y ≤ x → BW p l e R s m args below meth c D A nL cB sB Q (pc + 3) ls st ws) : BW p l e R s m args below meth c D A nL cB sB Q pc ls (.int y :: .int x :: st) ws :=
  fun H locs la k0 n0 h1 h2 h3 h4 h5 h6 => lv_icmp_ge E.x E.b hd ht (fun q => kt q H locs la k0 n0 h1 h2 h3 h4 h5 h6) (fun q => kf q H locs la k0 n0 h1 h2 h3 h4 h5 h6)
theorem b_dup (E : Bx p s m args c cc nL own D ar A) {v : Value} (hd : decode cc pc = .ok (.dup, 1)) (hv : v.category = 1) (kk : BW p l e R s m args below meth c D A nL cB sB Q (pc + 1) ls (v :: v :: st) ws) : BW p l e R s m args below meth c D A nL cB sB Q pc ls (v :: st) ws :=
  fun H locs la k0 n0 h1 h2 h3 h4 h5 h6 => lv_dup E.x E.b hd hv (kk H locs la k0 n0 h1 h2 h3 h4 h5 h6)
/-- Object.<init> -/
theorem b_obj (E : Bx p s m args c cc nL own D ar A) {a idx : Nat} (hl : Cond.methodLink own idx Lib.objectInit ∈ wd_TB) (hd : decode cc pc = .ok (.invokespecial idx, 3)) (hf : 1 ≤ R.frames) (hlo : (st.map fun v => v.category).sum + 12 ≤ R.locals) (hoi : Cond.instanceMethod Lib.objectInit ∈ wd_TB) (hoc : Cond.code Lib.objectInit ⟨#[0xb1]⟩ 1 none ∈ wd_TB) (kk : BW p l e R s m args below meth c D A nL cB sB Q (pc + 3) ls st ws) : BW p l e R s m args below meth c D A nL cB sB Q pc ls (.ref a :: st) ws := by
  intro H locs la k0 n0 h1 h2 h3 h4 h5 h6
  refine W.objInit E.x E.b E.ow (E.w hl rfl) (E.w hoi rfl) (E.w hoc rfl) rfl (by rw [E.ml]; exact h6.1) rfl hd hf (by simpa [JFrame.monitorRoom] using hlo) ?_
  exact kk H locs la k0 n0 h1 h2 h3 h4 h5 h6
/-- a new array of ints, booleans or longs: all are 0 -/
theorem b_newa (E : Bx p s m args c cc nL own D ar A) {atype : ArrayType} {t : Nat} {ty : FieldType} (hty : newarray.typeOf atype = ty) (harr : Cond.arrayClass ty ∈ wd_TB) (ht : (wd_tys ar)[t]? = some (ar t, ty)) {n : Int32} {N : Nat} {a0 : vp_A} (ha : ∀ cA : ClassId, vp_cell cA a0 = arrV cA N (fun _ => defaultValue ty)) (hn : ¬ n < 0) (hN : n.toNatClampNeg = N) (hb : N * componentBytes ty ≤ 536870912) (hc : cB + 1 ≤ R.cells) (hs : sB + N ≤ R.slots) (hd : decode cc pc = .ok (.newarray atype, 2))
    (kk : ∀ q : Nat, BW p l e R s m args below meth c D A nL (cB + 1) (sB + N) Q (pc + 2) ls (.ref q :: st) (ws ++ [(q, .inl (ar t, a0))])) : BW p l e R s m args below meth c D A nL cB sB Q pc ls (.int n :: st) ws := by
  intro H locs la k0 n0 h1 h2 h3 h4 h5 h6
  refine va_newa E.x E.b (by rw [hty]; exact E.w harr rfl) hty E.K h3 h4 h5 E.nw ha hn hN hb (by omega) (by omega) hd ?_
  intro q cA H1 hK hP hD hS
  have e : cA = ar t := by
    have r1 := (hK.2 (wd_tys ar).length (cA, ty) (by simp)).2
    have r2 := (E.K.2 t _ ht).2
    exact va_RA_inj r1 r2
  subst e
  exact kk q H1 locs la _ _ (by omega) (by omega) hP hD hS h6
/-- a new array of references -/
theorem b_newq (E : Bx p s m args c cc nL own D ar A) {C : String} {idx t : Nat} (hcl : Cond.classLink own idx C ∈ wd_TB) (hov : va_AO C s) (ht : (wd_tys ar)[t]? = some (ar t, .object C)) {n : Int32} {N : Nat} (hn : ¬ n < 0) (hN : n.toNatClampNeg = N) (hb : N * 4 ≤ 536870912) (hc : cB + 1 ≤ R.cells) (hs : sB + N ≤ R.slots) (hd : decode cc pc = .ok (.anewarray idx, 3))
    (kk : ∀ q : Nat, BW p l e R s m args below meth c D A nL (cB + 1) (sB + N) Q (pc + 3) ls (.ref q :: st) (ws ++ [(q, .inl (ar t, N, .inr (.inr (.inr (.inr (fun _ => none))))))])) : BW p l e R s m args below meth c D A nL cB sB Q pc ls (.int n :: st) ws := by
  intro H locs la k0 n0 h1 h2 h3 h4 h5 h6
  refine va_newq E.x E.b E.ow (E.w hcl rfl) hov E.K h3 h4 h5 E.nw hn hN hb (by omega) (by omega) hd ?_
  intro q cA H1 hK hP hD hS
  have e : cA = ar t := by
    have r1 := (hK.2 (wd_tys ar).length (cA, .object C) (by simp)).2
    have r2 := (E.K.2 t _ ht).2
    exact va_RA_inj r1 r2
  subst e
  exact kk q H1 locs la _ _ (by omega) (by omega) hP hD hS h6
/-- a new object -/
theorem b_new (E : Bx p s m args c cc nL own D ar A) {C : String} {T : u_T} {N ci idx : Nat} {ty : Nat → FieldType} (hin : ∀ w ∈ u_ws C T N, w ∈ wg_TB) (hty : ∀ k, k < N → parseFieldDescriptor (T k).2.2.1 = some (ty k)) (hcl : Cond.classLink own idx C ∈ wd_TB) (hinst : Cond.instantiable C N ∈ wd_TB) (hini : Cond.initialized C ∈ wd_TB) (hc : wd_cl[ci]? = some (C, T, N)) {fs : List Value} (hfs : ∀ j, j < N → defaultValue (ty j) = vp_V fs j) (hcB : cB + 1 ≤ R.cells) (hsB : sB + N ≤ R.slots) (hd : decode cc pc = .ok (.new idx, 3))
    (kk : ∀ q : Nat, BW p l e R s m args below meth c D A nL (cB + 1) (sB + N) Q (pc + 3) ls (.ref q :: st) (ws ++ [(q, .inr (ci, fs))])) : BW p l e R s m args below meth c D A nL cB sB Q pc ls st ws := by
  intro H locs la k0 n0 h1 h2 h3 h4 h5 h6
  refine va_new E.x E.b E.ts hin ty hty E.ow (E.w hcl rfl) (E.w hinst rfl) (E.w hini rfl) E.K h3 h4 h5 E.nw hc hfs (by omega) (by omega) hd ?_
  intro q H1 hP hD hS
  exact kk q H1 locs la _ _ (by omega) (by omega) hP hD hS h6
theorem b_put (E : Bx p s m args c cc nL own D ar A) {C : String} {T : u_T} {N ci idx : Nat} {ty0 : Nat → FieldType} (hin : ∀ w ∈ u_ws C T N, w ∈ wg_TB) (hty : ∀ k, k < N → parseFieldDescriptor (T k).2.2.1 = some (ty0 k)) (hnm : ∀ a, a < N → ∀ b, b < N → a ≠ b → (T a).2.1 ≠ (T b).2.1) (q0 : Nat) {a : Nat} {fs : List Value} (he : ws[q0]? = some (a, .inr (ci, fs))) (hc : wd_cl[ci]? = some (C, T, N)) (k : Nat) (hk : k < N) (hlink : Cond.fieldLink own idx (T k).1 (T k).2.1 (T k).2.2.1 ∈ wd_TB) (hfin : (T k).2.2.2 = false) {ty : FieldType} {v : Value} (hdd : parseFieldDescriptor (T k).2.2.1 = some ty) (hn : narrow ty v = v) (hfit : fits ty v = true) (hl : k < fs.length) (hd : decode cc pc = .ok (.putfield idx, 3))
    (kk : BW p l e R s m args below meth c D A nL cB sB Q (pc + 3) ls st (ws.set q0 (a, .inr (ci, fs.set k v)))) : BW p l e R s m args below meth c D A nL cB sB Q pc ls (v :: .ref a :: st) ws := by
  intro H locs la k0 n0 h1 h2 h3 h4 h5 h6
  refine va_put E.x E.b E.ts hin ty0 hty hnm E.ow E.K h3 h4 h5 q0 he hc k hk (E.w hlink rfl) (fun _ h => h) hfin hdd hn hfit hl hd ?_
  intro H1 locs1 hP hD hS
  exact kk H1 locs1 la k0 n0 h1 h2 hP hD hS h6
theorem b_putF (E : Bx p s m args c cc nL own D ar A) (hname : meth.name = "<init>") {C : String} {T : u_T} {N ci idx : Nat} {ty0 : Nat → FieldType} (hin : ∀ w ∈ u_ws C T N, w ∈ wg_TB) (hty : ∀ k, k < N → parseFieldDescriptor (T k).2.2.1 = some (ty0 k)) (hnm : ∀ a, a < N → ∀ b, b < N → a ≠ b → (T a).2.1 ≠ (T b).2.1) (q0 : Nat) {a : Nat} {fs : List Value} (he : ws[q0]? = some (a, .inr (ci, fs))) (hc : wd_cl[ci]? = some (C, T, N)) (k : Nat) (hk : k < N) (hlink : Cond.fieldLink own idx (T k).1 (T k).2.1 (T k).2.2.1 ∈ wd_TB) (hfin : (T k).2.2.2 = true) (hdecl : (T k).1 = own) {ty : FieldType} {v : Value} (hdd : parseFieldDescriptor (T k).2.2.1 = some ty) (hn : narrow ty v = v) (hfit : fits ty v = true) (hl : k < fs.length) (hd : decode cc pc = .ok (.putfield idx, 3))
    (kk : BW p l e R s m args below meth c D A nL cB sB Q (pc + 3) ls st (ws.set q0 (a, .inr (ci, fs.set k v)))) : BW p l e R s m args below meth c D A nL cB sB Q pc ls (v :: .ref a :: st) ws := by
  intro H locs la k0 n0 h1 h2 h3 h4 h5 h6
  refine va_putF E.x E.b E.ts hin ty0 hty hnm E.ow E.K h3 h4 h5 q0 he hc k hk (E.w hlink rfl) (fun _ h => h) hfin hname hdecl hdd hn hfit hl hd ?_
  intro H1 locs1 hP hD hS
  exact kk H1 locs1 la k0 n0 h1 h2 hP hD hS h6
theorem b_get (E : Bx p s m args c cc nL own D ar A) {C : String} {T : u_T} {N ci idx : Nat} (hin : ∀ w ∈ u_ws C T N, w ∈ wg_TB) (q0 : Nat) {a : Nat} {fs : List Value} (he : ws[q0]? = some (a, .inr (ci, fs))) (hc : wd_cl[ci]? = some (C, T, N)) (k : Nat) (hk : k < N) (hlink : Cond.fieldLink own idx (T k).1 (T k).2.1 (T k).2.2.1 ∈ wd_TB) {v : Value} (hv : fs[k]? = some v) (hd : decode cc pc = .ok (.getfield idx, 3))
    (kk : BW p l e R s m args below meth c D A nL cB sB Q (pc + 3) ls (v :: st) ws) : BW p l e R s m args below meth c D A nL cB sB Q pc ls (.ref a :: st) ws := by
  intro H locs la k0 n0 h1 h2 h3 h4 h5 h6
  exact va_get E.x E.b E.ts hin E.ow E.K h3 q0 he hc k hk (E.w hlink rfl) (fun _ h => h) hv hd (kk H locs la k0 n0 h1 h2 h3 h4 h5 h6)
theorem b_iast (E : Bx p s m args c cc nL own D ar A) (q0 : Nat) {a n : Nat} {f : Nat → Int32} (ha : ws[q0]? = some (a, .inl (ar 0, n, .inl f))) {i x : Int32} (hin : vp_in i n) (hd : decode cc pc = .ok (.iastore, 1))
    (kk : BW p l e R s m args below meth c D A nL cB sB Q (pc + 1) ls st (ws.set q0 (a, .inl (ar 0, n, .inl (upd f i.toNatClampNeg x))))) : BW p l e R s m args below meth c D A nL cB sB Q pc ls (.int x :: .int i :: .ref a :: st) ws := by
  intro H locs la k0 n0 h1 h2 h3 h4 h5 h6
  refine va_iast E.x E.b E.K h3 h4 h5 q0 0 ha rfl hin hd ?_
  intro H1 locs1 hP hD hS
  exact kk H1 locs1 la k0 n0 h1 h2 hP hD hS h6
theorem b_aast (E : Bx p s m args c cc nL own D ar A) (q0 qk : Nat) {a n v : Nat} {vs : List Value} {f : Nat → Option Nat} (ha : ws[q0]? = some (a, .inl (ar 3, n, .inr (.inr (.inr (.inr f)))))) (hv : ws[qk]? = some (v, .inr (0, vs))) {i : Int32} (hin : vp_in i n) (hd : decode cc pc = .ok (.aastore, 1))
    (kk : BW p l e R s m args below meth c D A nL cB sB Q (pc + 1) ls st (ws.set q0 (a, .inl (ar 3, n, .inr (.inr (.inr (.inr (va_up f i.toNatClampNeg (some v))))))))) : BW p l e R s m args below meth c D A nL cB sB Q pc ls (.ref v :: .int i :: .ref a :: st) ws := by
  intro H locs la k0 n0 h1 h2 h3 h4 h5 h6
  refine va_astq E.x E.b E.K h3 h4 h5 q0 3 qk 0 (r := ("HouseThreads2$Part", T_P, 11)) ha rfl hv rfl hin hd ?_
  intro H1 locs1 hP hD hS
  exact kk H1 locs1 la k0 n0 h1 h2 hP hD hS h6
/-- a constructor's contract: from its own cell w0 at h0 to the cells P g, the others of them at g 0, g 1 .. -/
def Ci (l : Launch) (D : va_G) (ar : Nat → ClassId) (y : MethodName) (cc : ByteArray) (maxL : Nat) (rm : Room) (X : State → Prop) (h0 : Nat) (As : List Value) (w0 : va_E) (P : (Nat → Nat) → va_W) : Prop :=
  ∀ sz : Nat, Met l y (wi_TB y cc maxL) rm (va_Pc (.ref h0 :: As) (fun U => U.heap.size = sz ∧ va_P D wd_cl [(h0, w0)] U.heap ∧ va_K D wd_cl (wd_tys ar) U ∧ X U))
    (va_Qv (fun _ : Unit => True) (fun _ t => ∃ g : Nat → Nat, va_P D wd_cl (P g) t.heap ∧ va_D (va_A [(h0, w0)] sz) (P g)) (va_A [(h0, w0)] sz)) rm.cells rm.slots (va_A [(h0, w0)] sz)
theorem Ci.of {y : MethodName} {cc : ByteArray} {maxL : Nat} {rm : Room} {X : State → Prop} {h0 : Nat} {As : List Value} {w0 : va_E} {P : (Nat → Nat) → va_W} (hy : plainName y.cls = true) (hyn : y.name = "<init>") (hlen : (lg_sl (.ref h0 :: As)).length ≤ maxL)
    (body : ∀ (p : Program) (e : Env) (s : State) (m : MethodId) (below : List Frame) (meth : Method) (c : Code) (A : Nat → Prop), Bx p s m (Value.ref h0 :: As).toArray c cc maxL y.cls D ar A → meth.sig.returnType = none → meth.locks = false → meth.name = "<init>" → X s →
      BW p l e rm s m (Value.ref h0 :: As).toArray below meth c D A maxL 0 0 (MQ below (va_Qv (fun _ : Unit => True) (fun _ t => ∃ g : Nat → Nat, va_P D wd_cl (P g) t.heap ∧ va_D A (P g)) A) (Value.ref h0 :: As).toArray s rm.cells rm.slots A) 0 (lv_args 0 (.ref h0 :: As)) [] [(h0, w0)]) : Ci l D ar y cc maxL rm X h0 As w0 P := by
  intro sz
  refine Met.ofW (cc := cc) (maxL := maxL) (ret := none) hy rfl ?_
  intro p e s m args below meth c s₁ B hml hv
  obtain ⟨rfl, hsz, hP, hK, hX⟩ := hv
  subst hsz
  have hts := atoms_spec (ws := wi_TB y cc maxL) B.pre
  have E : Bx p s m (Value.ref h0 :: As).toArray c cc maxL y.cls D ar (va_A [(h0, w0)] s.heap.size) := ⟨B.exec, B.bytes, hml, findClass_of_methodNamed B.named, fun w hw => hts w (List.mem_cons_of_mem _ hw), hK, fun q h => Or.inr h⟩
  have hD : va_D (va_A [(h0, w0)] s.heap.size) [(h0, w0)] := ⟨fun i j a b ha hb _ => by
    have h1 := (List.getElem?_eq_some_iff.mp ha).1
    have h2 := (List.getElem?_eq_some_iff.mp hb).1
    simp at h1 h2
    omega, fun k q hk => Or.inl ⟨k, q.2, hk⟩⟩
  have hl := lv_entry (.ref h0 :: As) (n := maxL) hlen
  have K := body p e s m below meth c _ E B.returns B.notSynchronized ((name_of_methodNamed B.named B.method).1.trans hyn) hX s.heap [] _ 0 0 (Nat.le_refl _) (Nat.le_refl _) hP hD va_S.rf hl
  rw [← lg_entry_eq] at K
  exact K
/-- its end -/
theorem b_vret (E : Bx p s m args c cc nL own D ar A) {P : (Nat → Nat) → va_W} {mc ms : Nat} (hr : meth.sig.returnType = none) (hlk : meth.locks = false) (hd : decode cc pc = .ok (.return_, 1)) (hc : cB ≤ mc) (hs : sB ≤ ms) (g : Nat → Nat) (hP : ws = P g) :
    BW p l e R s m args below meth c D A nL cB sB (MQ below (va_Qv (fun _ : Unit => True) (fun _ t => ∃ g : Nat → Nat, va_P D wd_cl (P g) t.heap ∧ va_D A (P g)) A) args s mc ms A) pc ls [] ws := by
  subst hP
  intro H locs la k0 n0 h1 h2 h3 h4 h5 h6
  refine W.widen (k := mc) (n := ms) (by omega) (by omega) ?_
  exact W.vret E.x E.b hr (fun t ht hW => ⟨⟨(), rfl, trivial, g, by rw [ht]; exact h3, h4⟩, h5.F ht⟩) h5.2.2 hd hlk
/-- what a constructor's call site needs -/
def OkI (R : Room) (y : MethodName) (cc : ByteArray) (maxL : Nat) (rm : Room) (n : Nat) : Prop :=
  rm.frames + 1 ≤ R.frames ∧ 8 + (maxL + 11) + rm.locals ≤ R.locals ∧ Cond.instanceMethod y ∈ wd_TB ∧ Cond.initialized y.cls ∈ wd_TB ∧ Cond.code y cc maxL none ∈ wd_TB ∧ y.name = "<init>" ∧ (y.cls ≠ "java/lang/invoke/MethodHandle" ∧ y.cls ≠ "java/lang/invoke/VarHandle" ∧ (parseMethodDescriptor y.desc).map (fun d => d.parameters.length) = some n)
theorem wi_good {y : MethodName} {cc : ByteArray} {maxL : Nat} (h : Cond.code y cc maxL none ∈ wd_TB) : GoodIn wg_TB (wi_TB y cc maxL) := fun w hw => by
  rcases List.mem_cons.mp hw with rfl | hw
  · exact ⟨wg_of h rfl, good_of_word rfl⟩
  · exact ⟨hw, wg_good hw⟩
theorem ci_pre {X : State → Prop} {h0 : Nat} {As : List Value} {w0 : va_E} {H : Heap} (hK : va_K D wd_cl (wd_tys ar) s) (hX : ∀ U : State, s.vm.Alike U.vm → s.WarmedH U.vm → X U) (hXb : ∀ (U : State) (g : JFrame) (mk : MethodId) (a : Array Value), X U → X (U.calling g mk a)) (hP : va_P D wd_cl [(h0, w0)] H) : PreS s H (va_Pc (.ref h0 :: As) (fun U => U.heap.size = H.size ∧ va_P D wd_cl [(h0, w0)] U.heap ∧ va_K D wd_cl (wd_tys ar) U ∧ X U)) (.ref h0 :: As) :=
  ⟨fun a U g mk q => by
    obtain ⟨q0, q1, q2, q3, q4⟩ := q
    exact ⟨q0, q1, q2, va_K.moved (u := U) (U := U.calling g mk a) (Vm.Alike.refl U.vm) q3, hXb U g mk a q4⟩,
   fun U hU hW => ⟨rfl, by rw [hU], by rw [hU]; exact hP, va_K.moved hW.alike hK, hX U hW.alike hW⟩⟩
/-- behind the call -/
theorem b_call0 (E : Bx p s m args c cc nL own D ar A) {y : MethodName} {ccY : ByteArray} {maxL : Nat} {rm : Room} {X : State → Prop} {h0 : Nat} {As : List Value} {w0 : va_E} {P : (Nat → Nat) → va_W} {stk : List Value} (i0 : Nat) (isR : List Nat) {wr : va_W} (hi : ws[i0]? = some (h0, w0)) (hR : isR.map (fun i => ws[i]?) = wr.map some) (hn : va_nd isR = true) (hdis : ∀ i ∈ isR, i ∉ [i0])
    (run : ∀ (H : Heap) (locs : List Loc) (la : Array Slot) (k0 n0 : Nat), k0 ≤ cB → n0 ≤ sB → va_P D wd_cl [(h0, w0)] H → lv_has la nL ls → va_Run p l e R s m args below meth c H locs k0 n0 rm.cells rm.slots (F0 m pc la stk) st (va_Qv (fun _ : Unit => True) (fun _ t => ∃ g : Nat → Nat, va_P D wd_cl (P g) t.heap ∧ va_D (va_A [(h0, w0)] H.size) (P g)) (va_A [(h0, w0)] H.size) (Value.ref h0 :: As).toArray) (va_A [(h0, w0)] H.size))
    (kk : ∀ g : Nat → Nat, BW p l e R s m args below meth c D A nL (cB + rm.cells) (sB + rm.slots) Q (pc + 3) ls st (wr ++ P g)) : BW p l e R s m args below meth c D A nL cB sB Q pc ls stk ws := by
  intro H locs la k0 n0 h1 h2 h3 h4 h5 h6
  have hC : [i0].map (fun i => ws[i]?) = ([(h0, w0)] : va_W).map some := by simp [hi]
  have hPc : va_P D wd_cl [(h0, w0)] H := fun k q hq => by
    have hz : k < 1 := (List.getElem?_eq_some_iff.mp hq).1
    rw [show k = 0 by omega] at hq
    cases hq
    exact h3 i0 _ hi
  have hF := va_free (wc := [(h0, w0)]) h4 h5 E.nw [i0] hC
  refine va_callv (run H locs la k0 n0 h1 h2 hPc h6) h5 (fun q _ h => hF q h) hF ?_
  intro u t H1 locs1 ht hvm _ hB hz1 hk1 hS
  obtain ⟨g, hP1, hD1⟩ := hB
  rw [ht] at hP1
  obtain ⟨hP, hD⟩ := va_join h3 h4 [i0] isR hC hR hn hdis hk1 hF hP1 hD1
  exact kk g H1 locs1 la _ _ (Nat.add_le_add_right h1 _) (Nat.add_le_add_right h2 _) hP hD hS h6
theorem b_callI (E : Bx p s m args c cc nL own D ar A) {y : MethodName} {ccY : ByteArray} {maxL idx n : Nat} {rm : Room} {X : State → Prop} {h0 : Nat} {As : List Value} {w0 : va_E} {P : (Nat → Nat) → va_W} {stk : List Value} (hCi : Ci l D ar y ccY maxL rm X h0 As w0 P) (ok : OkI R y ccY maxL rm n) (hl : Cond.methodLink own idx y ∈ wd_TB) (hX : ∀ U : State, s.vm.Alike U.vm → s.WarmedH U.vm → X U) (hXb : ∀ (U : State) (g : JFrame) (mk : MethodId) (a : Array Value), X U → X (U.calling g mk a)) (i0 : Nat) (isR : List Nat) {wr : va_W} (hi : ws[i0]? = some (h0, w0)) (hR : isR.map (fun i => ws[i]?) = wr.map some) (hnd : va_nd isR = true) (hdis : ∀ i ∈ isR, i ∉ [i0])
    (hna : As.length = n) (hst : stk = As.reverse ++ .ref h0 :: st) (hrm : (st.map fun v => v.category).sum ≤ 8) (hd : decode cc pc = .ok (.invokespecial idx, 3)) (hcb : cB + rm.cells ≤ R.cells ∧ sB + rm.slots ≤ R.slots)
    (kk : ∀ g : Nat → Nat, BW p l e R s m args below meth c D A nL (cB + rm.cells) (sB + rm.slots) Q (pc + 3) ls st (wr ++ P g)) : BW p l e R s m args below meth c D A nL cB sB Q pc ls stk ws := by
  obtain ⟨o1, o2, o3, o4, o5, o6, o7⟩ := ok
  refine b_call0 E i0 isR hi hR hnd hdis (As := As) (y := y) (ccY := ccY) (maxL := maxL) (X := X) ?_ kk
  intro H locs la k0 n0 h1 h2 hP h6
  exact va_runI ⟨E.x, E.b, E.ml, E.ow, E.ts⟩ (hCi H.size) (cwI n E.ts (wi_good o5) rfl rfl rfl (E.w o4 rfl) (E.w hl rfl) (E.w o3 rfl) o6 o7 ⟨o1, o2⟩) (ci_pre E.K hX hXb hP) rfl hna h6.1 hst (by simpa [JFrame.monitorRoom] using hrm) hd ⟨by omega, by omega⟩
theorem b_callIN (E : Bx p s m args c cc nL own D ar A) {y : MethodName} {host : String} {ccY : ByteArray} {maxL idx n : Nat} {rm : Room} {X : State → Prop} {h0 : Nat} {As : List Value} {w0 : va_E} {P : (Nat → Nat) → va_W} {stk : List Value} (hCi : Ci l D ar y ccY maxL rm X h0 As w0 P) (ok : OkI R y ccY maxL rm n) (hl : va_Nw (.methodLinkNest own idx y host) s) (hX : ∀ U : State, s.vm.Alike U.vm → s.WarmedH U.vm → X U) (hXb : ∀ (U : State) (g : JFrame) (mk : MethodId) (a : Array Value), X U → X (U.calling g mk a)) (i0 : Nat) (isR : List Nat) {wr : va_W} (hi : ws[i0]? = some (h0, w0)) (hR : isR.map (fun i => ws[i]?) = wr.map some) (hnd : va_nd isR = true) (hdis : ∀ i ∈ isR, i ∉ [i0])
    (hna : As.length = n) (hst : stk = As.reverse ++ .ref h0 :: st) (hrm : (st.map fun v => v.category).sum ≤ 8) (hd : decode cc pc = .ok (.invokespecial idx, 3)) (hcb : cB + rm.cells ≤ R.cells ∧ sB + rm.slots ≤ R.slots)
    (kk : ∀ g : Nat → Nat, BW p l e R s m args below meth c D A nL (cB + rm.cells) (sB + rm.slots) Q (pc + 3) ls st (wr ++ P g)) : BW p l e R s m args below meth c D A nL cB sB Q pc ls stk ws := by
  obtain ⟨o1, o2, o3, o4, o5, o6, o7⟩ := ok
  refine b_call0 E i0 isR hi hR hnd hdis (As := As) (y := y) (ccY := ccY) (maxL := maxL) (X := X) ?_ kk
  intro H locs la k0 n0 h1 h2 hP h6
  exact va_runIN ⟨E.x, E.b, E.ml, E.ow, E.ts⟩ (hCi H.size) ⟨va_cnB n E.ts (wi_good o5) rfl rfl rfl hl (E.w o4 rfl) o7 ⟨o1, o2⟩, o6, E.w o3 rfl⟩ (ci_pre E.K hX hXb hP) rfl hna h6.1 hst (by simpa [JFrame.monitorRoom] using hrm) hd ⟨by omega, by omega⟩
end BWR
