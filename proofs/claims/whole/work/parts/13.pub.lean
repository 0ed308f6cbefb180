/-! 'throw new X("text")' where X's constructor hands the text up by another entry of its pool than 7 (NoSuchElementException: 13) -/
section NX
variable {p : Program} {l : Launch} {e : Env} {R : Room} {s : State} {m : MethodId} {args : Array Value} {below : List Frame} {meth : Method} {c : Code} {T0 : State} {locs : List Loc} {cells slots : Nat}
set_option maxHeartbeats 2000000 in
theorem nx_ctor (X : Stand p l e R s m args below meth c T0 locs cells slots) (hexec : p.tables.exec = Jvm.exec) (htr : e.platform.stackTraces = false) {own xn : String} {names : List String} {ic ix : Nat} {rx : ByteArray}
    (x0 : decode rx 0 = .ok (.aload_n 0, 1)) (x1 : decode rx 1 = .ok (.aload_n 1, 1)) (x2 : decode rx 2 = .ok (.invokespecial ix, 3)) (x5 : decode rx 5 = .ok (.return_, 1))
    (hown : s.vm.findClass own = some m.cls) (hx : Bundle.fit xn = true) (hns : ∀ n ∈ names, Bundle.fit n = true) (ha : ∀ w ∈ Bundle.ownAtomsX own ic xn ix rx names, w.before args s = true)
    (hlocs : ∀ z ∈ locs, ∀ cell, s.heap[z.base]? = some cell → cell.vm.isStatics = false)
    {q : Addr} {cX : ClassId} {kX : Class} (hfX : s.vm.findClass xn = some cX) (hkX : s.vm.classes[cX]? = some kX) (hcell : T0.heap[q]? = some (freshCell cX kX)) (hq : s.heap.size ≤ q) {ms : Value} (hms : ms.isRef = true)
    {g : JFrame} (hg : g.method = m) (hsz : g.locals.size = c.maxLocals) (hlk : g.locked = none) (hen : g.entered = []) {rest : List Value} (hstk : g.stack = ms :: .ref q :: .ref q :: rest)
    (hd6 : decode c.code g.pc = .ok (.invokespecial ic, 3)) (hd9 : decode c.code (g.pc + 3) = .ok (.athrow, 1)) (hout : ∀ z ∈ c.exceptionTable.toList, covers z (g.pc + 3) = false)
    (hfr : names.length + 3 < R.frames) (hlo : 2 * g.monitorRoom + ((Value.ref q :: rest).map fun v => v.category).sum + (13 * (names.length + 1) + 42) ≤ R.locals) (hlocks : meth.locks = false) :
    ∃ U : State, Steps p.tables e below (T0.setTop g) U ∧ U.status = .running ∧ Ended U below (.threw q) ∧ s.WarmedH U.vm ∧ s.sameButNew ({ U with vm := s.vm } : State) locs cells slots ∧ ∃ ce : Cell, U.heap[q]? = some ce ∧ ce.vm = .none ∧ s.vm.findClass xn = some ce.cls := by
  have hm1 : e.platform.frameOwnsMonitors = true := by rw [X.admits.platform]
  have hm2 : e.platform.finalization = false := by rw [X.admits.platform]
  have hpl : e.platform.magicAccessors = ({} : Platform).magicAccessors := by rw [X.admits.platform]
  have at' : ∀ w, w ∈ Bundle.ownAtomsX own ic xn ix rx names → w.holds args s none s [] = true := ha
  obtain ⟨T, Z0, LT, -, Y⟩ := ThrowableC.of_atoms (args := args) hm1 hm2 hpl (fun w hw => ha w (by simp [Bundle.ownAtomsX, hw]))
  obtain ⟨Z, MM, LZ, LM, hZ⟩ := Init0T.ofS_atoms (args := args) hpl LT Y (fun w hw => ha w (by simp [Bundle.ownAtomsX, hw]))
  obtain ⟨P1, Ps, hlen, L1, LPs, hP1, hup1, hup⟩ := Bundle.chainSX (args := args) hpl hZ x0 x1 x2 x5 names xn hx hns (fun w hw => ha w (by simp [Bundle.ownAtomsX, hw]))
  have hfP : s.vm.findClass xn = some P1.m.cls := findClass_of_methodNamed hP1
  cases Option.some.inj (hfX.symm.trans hfP)
  obtain ⟨c1, kY, hc1, hkY, hkd, -, -, -⟩ := Cond.instantiable_spec (at' (.instantiable xn 6) (by simp [Bundle.ownAtomsX]))
  cases Option.some.inj (hc1.symm.trans hfP)
  cases Option.some.inj (hkX.symm.trans hkY)
  have sel : ∀ {y : MethodName} {mk : MethodId}, Cond.selects xn y y ∈ Bundle.ownAtomsX own ic xn ix rx names → s.methodNamed? y = some mk → (y.cls ≠ "java/lang/invoke/MethodHandle" ∧ y.cls ≠ "java/lang/invoke/VarHandle") → selectMethod e.platform s.vm P1.m.cls mk = .method mk := by
    intro y mk hin hnm hne
    obtain ⟨c2, r2, m2, q1, q2, q3, q4, -⟩ := Cond.selects_spec (at' _ hin)
    cases Option.some.inj (q1.symm.trans hfP)
    cases Option.some.inj (q2.symm.trans (State.methodFound?_of_named hnm hne))
    cases Option.some.inj (q3.symm.trans hnm)
    rw [Launch.admits_selectMethod X.admits]
    exact q4
  obtain ⟨cS, hcS, hiS⟩ := Y.statics
  obtain ⟨u0, hu0⟩ := Cond.staticRefV Y.unassigned LT.unassignedStatic LT.statics hcS hiS (at' (.isRef (.static Bundle.tN "UNASSIGNED_STACK" Bundle.steD)) (by simp [Bundle.ownAtomsX]))
  obtain ⟨sen, hsen⟩ := Cond.staticRefV Y.sentinel LT.sentinelStatic LT.statics hcS hiS (at' (.isRef (.static Bundle.tN "SUPPRESSED_SENTINEL" Bundle.listD)) (by simp [Bundle.ownAtomsX]))
  obtain ⟨j1, j2, fB, b1, b2, b3, b4, -, b5, b6, b7⟩ := Cond.ownField (t := .object "java/lang/Object") Y.found LT.cls (by decide +kernel) (at' (.fieldLink Bundle.tN 198 Bundle.tN "backtrace" "Ljava/lang/Object;") (by simp [Bundle.ownAtomsX])) (at' (.lays Bundle.tN Bundle.tN "backtrace" "Ljava/lang/Object;") (by simp [Bundle.ownAtomsX])) e.platform hpl
  obtain ⟨cS', hcS', e1, -, hk⟩ := X.same.2.2.2.2.2 T.aS cS hcS
  have off : ∀ i, (⟨T.aS, i⟩ : Loc) ∉ locs := fun i hm => by
    have z := hlocs _ hm cS hcS
    rw [hiS] at z; cases z
  have hkn : cS'.vm ≠ .unknown := by
    rw [e1]
    intro z
    rw [show cS.vm = .unknown from z] at hiS
    cases hiS
  have hne : T.aS ≠ q := Nat.ne_of_lt (Nat.lt_of_lt_of_le (Array.getElem?_eq_some_iff.mp hcS).1 hq)
  obtain ⟨iM, hM⟩ := Y.msg
  obtain ⟨tC, dC, g1, g2⟩ := Cond.laysAt hfP hkX Y.cause (at' (.lays xn Bundle.tN "cause" "Ljava/lang/Throwable;") (by simp [Bundle.ownAtomsX]))
  obtain ⟨tS, dS, g3, g4⟩ := Cond.laysAt hfP hkX Y.stack (at' (.lays xn Bundle.tN "stackTrace" Bundle.steD) (by simp [Bundle.ownAtomsX]))
  obtain ⟨tP, dP, g5, g6⟩ := Cond.laysAt hfP hkX Y.supp (at' (.lays xn Bundle.tN "suppressedExceptions" Bundle.listD) (by simp [Bundle.ownAtomsX]))
  obtain ⟨tM, -⟩ := Cond.laysAt hfP hkX hM (at' (.lays xn Bundle.tN "detailMessage" "Ljava/lang/String;") (by simp [Bundle.ownAtomsX]))
  obtain ⟨tB, dB, g7, g8⟩ := Cond.laysAt hfP hkX b7 (at' (.lays xn Bundle.tN "backtrace" "Ljava/lang/Object;") (by simp [Bundle.ownAtomsX]))
  have n1 := Cond.laysApart g7 g1 g8 g2 (by rw [b5, Y.causeName]; decide)
  have n2 := Cond.laysApart g7 g3 g8 g4 (by rw [b5, Y.stackName]; decide)
  have n3 := Cond.laysApart g7 g5 g8 g6 (by rw [b5, Y.suppName]; decide)
  have hskip : SkipFacts T e.platform s (fun u => u) u0 ((preparedCellV T.toThrowableT (freshCell P1.m.cls kX) q u0 sen).withEntry T0.cur) := by
    refine ⟨{ ci198 := j1, i198 := j2, fBack := fB }, ⟨b1, b2, b3, b4⟩, ?_, fun _ _ => rfl⟩
    have z := fresh_default (c := P1.m.cls) tB
    rw [b6] at z
    simpa [preparedCellV, Cell.setSlot, Cell.withEntry, Array.getElem?_setIfInBounds, n1, n2, n3, n1.symm, n2.symm, n3.symm, defaultValue] using z
  have hco : (Cond.code (Bundle.initS xn) rx 2 none).before args s = true := ha _ (by cases names <;> simp [Bundle.ownAtomsX, Bundle.chainSAtomsX, Bundle.passSAtoms])
  have hio : (Cond.instanceMethod (Bundle.initS xn)).before args s = true := ha _ (by cases names <;> simp [Bundle.ownAtomsX, Bundle.chainSAtomsX, Bundle.passSAtoms])
  obtain ⟨tm, _, _, _, vm1, hnm, -, -, -, -, -, -, -, hW1, st1⟩ := Steps.initColdS (tb := p.tables) (e := e) (below := below) (s := s) (U := T0) X.here hexec X.warmed hpl hown (t := Bundle.initS xn) rfl rfl (Bundle.fit_spec hx).2 (at' (.methodLink own ic (Bundle.initS xn)) (by simp [Bundle.ownAtomsX])) hio hco (f := g) hg (a := q) (msg := ms) (rest := .ref q :: rest) hstk hd6
  cases Option.some.inj (hnm.symm.trans hP1)
  obtain ⟨vm2, X2, st2⟩ := (X.noted hW1).ctorMessageOffV hexec (g := { g with stack := .ref q :: rest }) hg hsz T LT Z LZ MM LM (P1 :: Ps)
    (fun P hP => (List.mem_cons.mp hP).elim (fun z => z ▸ L1) (LPs P)) ⟨hup1, hup⟩ (u0 := u0) (sen := sen) (self := q) hms (cell := freshCell P1.m.cls kX) (cellS := cS') hcell (fun _ => by simp) (by simp) rfl rfl
    (sel (by simp [Bundle.ownAtomsX]) Y.fill0 (by decide)) (sel (by simp [Bundle.ownAtomsX]) Y.fill (by decide)) hcS' hne hkn (by rw [hk _ (off _)]; exact hu0) (by rw [hk _ (off _)]; exact hsen)
    (Takes.of_laid hkX hkd tC (by rw [Y.causeType]; rfl)) (Takes.of_laid hkX hkd tS (by rw [Y.stackType]; exact fits_refV_array _ u0)) (Takes.of_laid hkX hkd tP (by rw [Y.suppType]; exact fits_refV_object _ sen)) (Takes.of_laid hkX hkd tM (by rw [Y.msgType]; exact fits_refV_object _ ⟨ms, hms⟩))
    Y.objLocals hskip htr [] hd6 (by simp only [List.length_cons, hlen]; omega) (by simp only [List.length_cons, hlen]; exact hlo)
  obtain ⟨w1, w2, w3, w4, w5⟩ := X2.athrowLeaves hexec (g := { g with stack := .ref q :: rest, pc := g.pc + 3 }) hg hlk hen hout (a := q) (rest := rest) rfl hd9 hlocks
  have hlt : q < ((T0.setVm vm1).setVm vm2).heap.size := (Array.getElem?_eq_some_iff.mp hcell).1
  refine ⟨_, st1 _ (fun acts => by rw [doInvoke_state]; exact st2 _ w1), w2, w3, w4, w5.weaken (fun y hy hl => ?_) (Nat.le_refl _) (Nat.le_refl _), _, heapAt_setCell_self (s := (T0.setVm vm1).setVm vm2) _ hlt, rfl, hfP⟩
  rcases List.mem_append.mp hy with z | z
  · exact z
  · have hb : y.base = q := by
      simp only [List.mem_cons, List.not_mem_nil, or_false] at z
      rcases z with rfl | rfl | rfl | rfl | rfl <;> rfl
    rw [hb] at hl
    exact absurd hl (Nat.not_lt.mpr hq)
end NX
section NXA
variable {p : Program} {l : Launch} {e : Env} {R : Room} {s : State} {m : MethodId} {args : Array Value} {below : List Frame} {meth : Method} {c : Code} {Q : State → Prop} {cc : ByteArray} {nL cB sB : Nat} {own : String} {D : va_G} {ar : Nat → ClassId} {lay : Nat → Nat → Nat} {wr : Bool} {pc : Nat} {ls : List (Nat × Value)} {st : List Value} {M : hm_M}
theorem a_throwX (E : Cx p s m args c cc nL own D ar lay) {idx si ic mc ms ix : Nat} {rx : ByteArray} {XN tx : String} {names : List String} {wr0 : Bool} {res : hr_T} (htr : l.stackTraces = false) (hlk : meth.locks = false) (hno : c.exceptionTable.isEmpty = true) (hH0 : hw_H D ar lay M s.heap)
    (x0 : decode rx 0 = .ok (.aload_n 0, 1)) (x1 : decode rx 1 = .ok (.aload_n 1, 1)) (x2 : decode rx 2 = .ok (.invokespecial ix, 3)) (x5 : decode rx 5 = .ok (.return_, 1))
    (hd0 : decode cc pc = .ok (.new idx, 3)) (hd1 : decode cc (pc + 3) = .ok (.dup, 1)) (hd2 : decode cc (pc + 4) = .ok (.ldc si, 2)) (hd3 : decode cc (pc + 6) = .ok (.invokespecial ic, 3)) (hd4 : decode cc (pc + 9) = .ok (.athrow, 1))
    (hcl : Cond.classLink own idx XN ∈ wd_TB) (hins : Cond.instantiable XN 6 ∈ wd_TB) (hini : Cond.initialized XN ∈ wd_TB) (hstr : (own, si, tx) ∈ wd_strs) (hfX : Bundle.fit XN = true) (hfn : ∀ n ∈ names, Bundle.fit n = true)
    (hat : (Bundle.ownAtomsX own ic XN ix rx names).all wd_ow = true)
    (hfr : names.length + 3 < R.frames) (hlo : 1 + (st.map fun v => v.category).sum + (13 * (names.length + 1) + 42) ≤ R.locals) (hcR : cB + 1 ≤ R.cells) (hsR : sB + 6 ≤ R.slots) (hmc : cB + 1 ≤ mc) (hms : sB + 6 ≤ ms) (hres : res = .inr XN) :
    AW p l e R s m args below meth c D ar lay false nL cB sB (MQX below (fun _ st o t => CQ D ar lay M s.heap.size wr0 res st o t) args s mc ms (hw_A lay wr0 s.heap.size)) pc ls st M := by
  subst hres
  intro H locs la k0 n0 h1 h2 h3 h4 h5
  refine va_forget (fun q hq => by
    rcases h4.2.2 q hq with ⟨h, -⟩ | h
    · cases h
    · exact h) ?_
  refine W.newc E.x E.b E.ow (E.ts _ hcl) (E.ts _ hins) (E.ts _ hini) rfl hd0 (by omega) (by omega) ?_
  intro cC kC f1 f2 f3 f4
  refine W.eq (g2 := F0 m (pc + 3) la (.ref H.size :: st)) rfl ?_
  refine lv_dup E.x E.b hd1 rfl ?_
  obtain ⟨a, ha⟩ := E.K.2.1 _ hstr
  refine va_ldcS E.x E.b E.ow ha hd2 ?_
  intro T hT X
  obtain ⟨U, u1, u2, u3, u4, u5, ce, u6, u7, u8⟩ := nx_ctor X E.x ((show e.platform.stackTraces = l.stackTraces by rw [X.admits.platform]).trans htr) x0 x1 x2 x5 E.ow hfX hfn (fun w hw => wd_ow_at E.ts E.Z (List.all_eq_true.mp hat w hw)) (fun x hx => by cases hx) (q := H.size) (cX := cC) (kX := kC) f1 f2 (by rw [hT]; simp [freshCell]) h4.1 (ms := .ref a) rfl
    (g := F0 m (pc + 3 + 1 + 2) la (.ref a :: .ref H.size :: .ref H.size :: st)) rfl (by rw [E.ml]; exact h5.1) rfl rfl (rest := st) rfl (by rw [E.b]; exact hd3) (by rw [E.b]; exact hd4) (fun x hx => by
      have : c.exceptionTable.toList = [] := by simpa [Array.isEmpty_iff] using hno
      rw [this] at hx; cases hx) hfr (by simpa [JFrame.monitorRoom, Value.category] using hlo) hlk
  have hold : ∀ q : Nat, q < s.heap.size → U.heap[q]? = s.heap[q]? := fun q hq => by
    have hc : s.heap[q]? = some s.heap[q] := Array.getElem?_eq_getElem hq
    rw [hc]
    exact u5.old_cell hc
  exact ⟨U, u1, .threw H.size, u2, u3, ⟨⟨H.size, ce, rfl, u6, u7, u8, hH0.kept fun f k hk => hold _ (hH0.lt hk)⟩, u5.2.1, fun q a _ => hold q a⟩, [], ⟨u4, u5.mono (by omega) (by omega)⟩, fun q h => by cases h⟩
end NXA

theorem str_H_37 : ("HouseThreads2", 37, "a rank is 0 to 9") ∈ wd_strs := by decide +kernel
theorem str_H_48 : ("HouseThreads2", 48, "no room for another part") ∈ wd_strs := by decide +kernel
theorem str_H_175 : ("HouseThreads2", 175, "no such part") ∈ wd_strs := by decide +kernel
theorem str_H_62 : ("HouseThreads2", 62, "no such kind of step, or its numbers are out of range") ∈ wd_strs := by decide +kernel
theorem str_H_72 : ("HouseThreads2", 72, "the part is not ready at the start of its act") ∈ wd_strs := by decide +kernel
theorem str_H_78 : ("HouseThreads2", 78, "no room for another step") ∈ wd_strs := by decide +kernel
theorem str_H_83 : ("HouseThreads2", 83, "the act has no such step") ∈ wd_strs := by decide +kernel
theorem str_H_97 : ("HouseThreads2", 97, "the part is done, failed or ended") ∈ wd_strs := by decide +kernel
theorem str_H_103 : ("HouseThreads2", 103, "rounds are 0 to 50") ∈ wd_strs := by decide +kernel
theorem str_H_178 : ("HouseThreads2", 178, "no such message") ∈ wd_strs := by decide +kernel
theorem str_H_113 : ("HouseThreads2", 113, "the message is not lost") ∈ wd_strs := by decide +kernel
theorem str_H_118 : ("HouseThreads2", 118, "the part neither waits nor listens") ∈ wd_strs := by decide +kernel
theorem str_H_124 : ("HouseThreads2", 124, "the part is neither done nor failed") ∈ wd_strs := by decide +kernel
theorem str_H_129 : ("HouseThreads2", 129, "no such step is told of") ∈ wd_strs := by decide +kernel
theorem str_H_135 : ("HouseThreads2", 135, "a place is 0 to 7, what is 0 or 1") ∈ wd_strs := by decide +kernel
theorem str_H_143 : ("HouseThreads2", 143, "what is 0 to 3") ∈ wd_strs := by decide +kernel
theorem str_H_156 : ("HouseThreads2", 156, "what is 0 to 6") ∈ wd_strs := by decide +kernel
theorem oa_H_39 : (Bundle.ownAtoms "HouseThreads2" 39 "java/lang/IllegalArgumentException" ["java/lang/RuntimeException", "java/lang/Exception"]).all wd_ow = true := by decide +kernel
theorem oa_H_50 : (Bundle.ownAtoms "HouseThreads2" 50 "java/lang/UnsupportedOperationException" ["java/lang/RuntimeException", "java/lang/Exception"]).all wd_ow = true := by decide +kernel
theorem oa_H_74 : (Bundle.ownAtoms "HouseThreads2" 74 "java/lang/IllegalStateException" ["java/lang/RuntimeException", "java/lang/Exception"]).all wd_ow = true := by decide +kernel
theorem oa_H_177 : (Bundle.ownAtomsX "HouseThreads2" 177 "java/util/NoSuchElementException" 13 prog_13_method_4_code ["java/lang/RuntimeException", "java/lang/Exception"]).all wd_ow = true := by decide +kernel
theorem isPart_in {M : hm_M} (hI : IvC M) {x : Int32} (h : ¬ f_isPart M x = 0) : vp_in x 6 ∧ x.toInt < (M 0 0 5).toInt ∧ 0 ≤ x.toInt := by
  unfold f_isPart at h
  by_cases h1 : x < 0
  · simp [h1] at h
  · by_cases h2 : M 0 0 5 ≤ x
    · simp [h1, h2] at h
    · have a1 := ge_n 0 (by decide) h1
      have a2 := Int32.lt_iff_toInt_lt.mp (Int32.not_le.mp h2)
      have := hI.pc
      exact ⟨ix_of (by omega) (by omega), a2, by omega⟩
set_option maxHeartbeats 4000000 in
set_option maxRecDepth 100000 in
theorem c_H_existingPart_no (l : Launch) (D : va_G) (ar : Nat → ClassId) (lay : Nat → Nat → Nat) (M : hm_M) (x : Int32) (htr : l.stackTraces = false) (h : f_isPart M x = 0) : Ct l D ar lay y_H_existingPart rm_x false [.ref (lay 0 0), .int x] M (.inr "java/util/NoSuchElementException") := by
  refine Ct.of (cc := prog_1_method_17_code) (maxL := 2) (ret := (some (.object "HouseThreads2$Part"))) (by decide) cd_H_existingPart (Nat.le_of_ble_eq_true rfl) ?_
  intro p e s m below meth c E hr hlk hno hH
  refine a_aload_n (pc := 0) E d_H_existingPart_0 rfl rfl ?_
  refine a_iload_n (pc := 1) E d_H_existingPart_1 rfl rfl ?_
  refine b_VI (pc := 2) (n := 1) E (c_H_isPart l D ar lay _ _) ⟨by decide, by decide, ml_H_170, im_H_isPart, sl_H_isPart, ii_H, cd_H_isPart, ⟨by decide, by decide⟩, by decide +kernel⟩ rfl (by decide) rfl rfl (by decide) rfl (Nat.le_of_ble_eq_true rfl) d_H_existingPart_2 (by decide) ?_
  refine a_if_ne (tgt := 18) (pc := 5) E d_H_existingPart_5 (by decide) (fun c_5 => ?_) (fun c_5 => ?_)
  · exact absurd h c_5
  · exact a_throwX (pc := 8) E htr hlk hno hH (ix := 13) (rx := prog_13_method_4_code) (by decide +kernel) (by decide +kernel) (by decide +kernel) (by decide +kernel) d_H_existingPart_8 d_H_existingPart_11 d_H_existingPart_12 d_H_existingPart_14 d_H_existingPart_17 cl_H_173 ib_NoSuchElementException ii_NoSuchElementException str_H_175 (by decide) (by decide) oa_H_177 (by decide) (by decide) (by decide) (by decide) (by decide) (by decide) (by simp [h, c_5])
set_option maxHeartbeats 4000000 in
set_option maxRecDepth 100000 in
theorem c_H_existingPart_ok (l : Launch) (D : va_G) (ar : Nat → ClassId) (lay : Nat → Nat → Nat) (M : hm_M) (x : Int32) (hI : IvC M) (h : ¬ f_isPart M x = 0) : Ct l D ar lay y_H_existingPart rm_x false [.ref (lay 0 0), .int x] M (.inl (some (.ref (lay 10 x.toNatClampNeg)), M)) := by
  refine Ct.of (cc := prog_1_method_17_code) (maxL := 2) (ret := (some (.object "HouseThreads2$Part"))) (by decide) cd_H_existingPart (Nat.le_of_ble_eq_true rfl) ?_
  intro p e s m below meth c E hr hlk hno hH
  refine a_aload_n (pc := 0) E d_H_existingPart_0 rfl rfl ?_
  refine a_iload_n (pc := 1) E d_H_existingPart_1 rfl rfl ?_
  refine b_VI (pc := 2) (n := 1) E (c_H_isPart l D ar lay _ _) ⟨by decide, by decide, ml_H_170, im_H_isPart, sl_H_isPart, ii_H, cd_H_isPart, ⟨by decide, by decide⟩, by decide +kernel⟩ rfl (by decide) rfl rfl (by decide) rfl (Nat.le_of_ble_eq_true rfl) d_H_existingPart_2 (by decide) ?_
  refine a_if_ne (tgt := 18) (pc := 5) E d_H_existingPart_5 (by decide) (fun c_5 => ?_) (fun c_5 => ?_)
  · refine a_aload_n (pc := 18) E d_H_existingPart_18 rfl rfl ?_
    refine g_H_2 (pc := 19) E d_H_existingPart_19 fl_H_18 ?_
    refine a_iload_n (pc := 22) E d_H_existingPart_22 rfl rfl ?_
    refine r_3 (pc := 23) E d_H_existingPart_23 (isPart_in hI h).1 ?_
    exact a_aret (pc := 24) E hr hlk d_H_existingPart_24 (by decide) (by decide) (by decide) rfl
  · exact absurd c_5 h
def f_isMsg (M : hm_M) (x : Int32) : Int32 := if x < 1 then 0 else if x ≤ M 4 0 4 then 1 else 0
theorem isMsg_in {M : hm_M} (hI : IvC M) {x : Int32} (h : ¬ f_isMsg M x = 0) : vp_in x 61 := by
  unfold f_isMsg at h
  by_cases h1 : x < 1
  · simp [h1] at h
  · by_cases h2 : x ≤ M 4 0 4
    · have a1 := ge_n 1 (by decide) h1
      have a2 := Int32.le_iff_toInt_le.mp h2
      have := hI.sent
      exact ix_of (by omega) (by omega)
    · simp [h1, h2] at h
set_option maxHeartbeats 4000000 in
set_option maxRecDepth 100000 in
theorem c_H_checkMessage_no (l : Launch) (D : va_G) (ar : Nat → ClassId) (lay : Nat → Nat → Nat) (M : hm_M) (x : Int32) (htr : l.stackTraces = false) (h : f_isMsg M x = 0) : Ct l D ar lay y_H_checkMessage rm_x false [.ref (lay 0 0), .int x] M (.inr "java/util/NoSuchElementException") := by
  refine Ct.of (cc := prog_1_method_18_code) (maxL := 2) (ret := none) (by decide) cd_H_checkMessage (Nat.le_of_ble_eq_true rfl) ?_
  intro p e s m below meth c E hr hlk hno hH
  refine a_iload_n (pc := 0) E d_H_checkMessage_0 rfl rfl ?_
  refine a_iconst (v := 1) (pc := 1) E d_H_checkMessage_1 (by decide) ?_
  refine a_icmp_lt (tgt := 16) (pc := 2) E d_H_checkMessage_2 (by decide) (fun c_2 => ?_) (fun c_2 => ?_)
  · exact a_throwX (pc := 16) E htr hlk hno hH (ix := 13) (rx := prog_13_method_4_code) (by decide +kernel) (by decide +kernel) (by decide +kernel) (by decide +kernel) d_H_checkMessage_16 d_H_checkMessage_19 d_H_checkMessage_20 d_H_checkMessage_22 d_H_checkMessage_25 cl_H_173 ib_NoSuchElementException ii_NoSuchElementException str_H_178 (by decide) (by decide) oa_H_177 (by decide) (by decide) (by decide) (by decide) (by decide) (by decide) (by simp [h, c_2])
  · refine a_iload_n (pc := 5) E d_H_checkMessage_5 rfl rfl ?_
    refine a_aload_n (pc := 6) E d_H_checkMessage_6 rfl rfl ?_
    refine g_H_3 (pc := 7) E d_H_checkMessage_7 fl_H_25 ?_
    refine g_Q_4 (pc := 10) E d_H_checkMessage_10 fl_H_158 ?_
    refine a_icmp_le (tgt := 26) (pc := 13) E d_H_checkMessage_13 (by decide) (fun c_13 => ?_) (fun c_13 => ?_)
    · exact absurd h (by simp [f_isMsg, c_2, c_13])
    · exact a_throwX (pc := 16) E htr hlk hno hH (ix := 13) (rx := prog_13_method_4_code) (by decide +kernel) (by decide +kernel) (by decide +kernel) (by decide +kernel) d_H_checkMessage_16 d_H_checkMessage_19 d_H_checkMessage_20 d_H_checkMessage_22 d_H_checkMessage_25 cl_H_173 ib_NoSuchElementException ii_NoSuchElementException str_H_178 (by decide) (by decide) oa_H_177 (by decide) (by decide) (by decide) (by decide) (by decide) (by decide) (by simp [h, c_2, c_13])
set_option maxHeartbeats 4000000 in
set_option maxRecDepth 100000 in
theorem c_H_checkMessage_ok (l : Launch) (D : va_G) (ar : Nat → ClassId) (lay : Nat → Nat → Nat) (M : hm_M) (x : Int32) (h : ¬ f_isMsg M x = 0) : Ct l D ar lay y_H_checkMessage rm_x false [.ref (lay 0 0), .int x] M (.inl (none, M)) := by
  refine Ct.of (cc := prog_1_method_18_code) (maxL := 2) (ret := none) (by decide) cd_H_checkMessage (Nat.le_of_ble_eq_true rfl) ?_
  intro p e s m below meth c E hr hlk hno hH
  refine a_iload_n (pc := 0) E d_H_checkMessage_0 rfl rfl ?_
  refine a_iconst (v := 1) (pc := 1) E d_H_checkMessage_1 (by decide) ?_
  refine a_icmp_lt (tgt := 16) (pc := 2) E d_H_checkMessage_2 (by decide) (fun c_2 => ?_) (fun c_2 => ?_)
  · exact absurd (by simp [f_isMsg, c_2]) h
  · refine a_iload_n (pc := 5) E d_H_checkMessage_5 rfl rfl ?_
    refine a_aload_n (pc := 6) E d_H_checkMessage_6 rfl rfl ?_
    refine g_H_3 (pc := 7) E d_H_checkMessage_7 fl_H_25 ?_
    refine g_Q_4 (pc := 10) E d_H_checkMessage_10 fl_H_158 ?_
    refine a_icmp_le (tgt := 26) (pc := 13) E d_H_checkMessage_13 (by decide) (fun c_13 => ?_) (fun c_13 => ?_)
    · exact a_vret (pc := 26) E hr hlk d_H_checkMessage_26 (by decide) (by decide) (by decide) rfl
    · exact absurd (by simp [f_isMsg, c_2, c_13]) h
set_option maxHeartbeats 4000000 in
set_option maxRecDepth 100000 in
theorem c_P_append_no (l : Launch) (D : va_G) (ar : Nat → ClassId) (lay : Nat → Nat → Nat) (M : hm_M) (k : Nat) (kd a b : Int32) (hk : k < 6) (h : ¬ M 10 k 4 < 10) : Ct l D ar lay y_P_append rm_0 false [.ref (lay 10 k), .int kd, .int a, .int b] M (.inl (some (.int 0), M)) := by
  refine Ct.of (cc := prog_2_method_2_code) (maxL := 4) (ret := (some .boolean)) (by decide) cd_P_append (Nat.le_of_ble_eq_true rfl) ?_
  intro p e s m below meth c E hr hlk hno hH
  refine a_aload_n (pc := 0) E d_P_append_0 rfl rfl ?_
  refine g_P_4 (pc := 1) E (by assumption) d_P_append_1 fl_P_35 ?_
  refine a_bipush (v := 10) (pc := 4) E d_P_append_4 (by decide) ?_
  refine a_icmp_lt (tgt := 11) (pc := 6) E d_P_append_6 (by decide) (fun c_6 => ?_) (fun c_6 => ?_)
  · exact absurd c_6 h
  · refine a_iconst (v := 0) (pc := 9) E d_P_append_9 (by decide) ?_
    exact a_iret (pc := 10) E hr hlk rfl d_P_append_10 (by decide) (by decide) (by decide) rfl
theorem c_P_append_ok (l : Launch) (D : va_G) (ar : Nat → ClassId) (lay : Nat → Nat → Nat) (M : hm_M) (k : Nat) (kd a b : Int32) (hk : k < 6) (h4 : 0 ≤ (M 10 k 4).toInt) (h : M 10 k 4 < 10) : Ct l D ar lay y_P_append rm_0 true [.ref (lay 10 k), .int kd, .int a, .int b] M (.inl (some (.int 1), f_append M k kd a b)) := by
  have := c_P_append l D ar lay M k kd a b hk h4
  simpa only [if_pos h] using this
def r_part (M : hm_M) (x : Int32) : hr_T := if x < 0 then .inr "java/lang/IllegalArgumentException" else if x ≤ 9 then (if M 0 0 5 < 6 then .inl (some (.int (M 0 0 5 + 1 - 1)), hm_up (hm_up M 10 (M 0 0 5).toNatClampNeg 1 x) 0 0 5 (M 0 0 5 + 1)) else .inr "java/lang/UnsupportedOperationException") else .inr "java/lang/IllegalArgumentException"
def r_step (M : hm_M) (q kd a b : Int32) : hr_T := if f_isPart M q = 0 then .inr "java/util/NoSuchElementException" else if f_isStep M kd a b = 0 then .inr "java/lang/IllegalArgumentException" else if M 10 q.toNatClampNeg 3 = 0 then (if M 10 q.toNatClampNeg 2 = 0 then (if M 10 q.toNatClampNeg 4 < 10 then .inl (some (.int (M 10 q.toNatClampNeg 4 + 1)), f_append M q.toNatClampNeg kd a b) else .inr "java/lang/UnsupportedOperationException") else .inr "java/lang/IllegalStateException") else .inr "java/lang/IllegalStateException"
def r_fails (M : hm_M) (q i on : Int32) : hr_T := if f_isPart M q = 0 then .inr "java/util/NoSuchElementException" else if i < 0 then .inr "java/lang/IllegalArgumentException" else if i < M 10 q.toNatClampNeg 4 then .inl (none, hm_up M 14 q.toNatClampNeg i.toNatClampNeg on) else .inr "java/lang/IllegalArgumentException"
def r_losing (M : hm_M) (on : Int32) : hr_T := .inl (none, hm_up M 0 0 9 on)
def r_turn (M : hm_M) (q : Int32) : hr_T := if f_isPart M q = 0 then .inr "java/util/NoSuchElementException" else if f_may M q.toNatClampNeg = 0 then .inr "java/lang/IllegalStateException" else .inl (some (.int (f_turn M q.toNatClampNeg 10 q.toNatClampNeg 2)), f_turn M q.toNatClampNeg)
def r_again (M : hm_M) (x : Int32) : hr_T := if f_isMsg M x = 0 then .inr "java/util/NoSuchElementException" else if M 6 0 x.toNatClampNeg = 2 then .inl (some (.int (M 8 0 x.toNatClampNeg)), hm_up M 6 0 x.toNatClampNeg 0) else .inr "java/lang/IllegalStateException"
def r_interrupt (M : hm_M) (q : Int32) : hr_T := if f_isPart M q = 0 then .inr "java/util/NoSuchElementException" else if M 10 q.toNatClampNeg 2 = 1 then .inl (some (.int (M 10 q.toNatClampNeg 3)), f_undo M q.toNatClampNeg 0) else if M 10 q.toNatClampNeg 2 = 2 then .inl (some (.int (M 10 q.toNatClampNeg 3)), f_undo M q.toNatClampNeg 0) else .inr "java/lang/IllegalStateException"
def f_restart (M : hm_M) (k : Nat) : hm_M := hm_up (hm_up M 10 k 2 0) 10 k 3 0
def r_restart (M : hm_M) (q : Int32) : hr_T := if f_isPart M q = 0 then .inr "java/util/NoSuchElementException" else if M 10 q.toNatClampNeg 2 = 3 then .inl (none, f_restart M q.toNatClampNeg) else if M 10 q.toNatClampNeg 2 = 4 then .inl (none, f_restart M q.toNatClampNeg) else .inr "java/lang/IllegalStateException"
def r_log (M : hm_M) (i : Int32) : hr_T := if i < 0 then .inr "java/lang/IllegalArgumentException" else if i < M 0 0 6 then .inl (some (.int (M 5 0 i.toNatClampNeg)), M) else .inr "java/lang/IllegalArgumentException"
def r_place (M : hm_M) (q w : Int32) : hr_T := if f_isPlace q = 0 then .inr "java/lang/IllegalArgumentException" else if w < 0 then .inr "java/lang/IllegalArgumentException" else if w ≤ 1 then .inl (some (.int (if w = 0 then M 1 0 q.toNatClampNeg else M 2 0 q.toNatClampNeg)), M) else .inr "java/lang/IllegalArgumentException"
def r_message (M : hm_M) (x w : Int32) : hr_T := if f_isMsg M x = 0 then .inr "java/util/NoSuchElementException" else if w = 0 then .inl (some (.int (M 6 0 x.toNatClampNeg)), M) else if w = 1 then .inl (some (.int (M 7 0 x.toNatClampNeg)), M) else if w = 2 then .inl (some (.int (M 8 0 x.toNatClampNeg)), M) else if w = 3 then .inl (some (.int (M 9 0 x.toNatClampNeg)), M) else .inr "java/lang/IllegalArgumentException"
def r_told (M : hm_M) (q w : Int32) : hr_T := if f_isPart M q = 0 then .inr "java/util/NoSuchElementException" else if w = 0 then .inl (some (.int (M 10 q.toNatClampNeg 2)), M) else if w = 1 then .inl (some (.int (M 10 q.toNatClampNeg 1)), M) else if w = 2 then .inl (some (.int (M 10 q.toNatClampNeg 4)), M) else if w = 3 then .inl (some (.int (M 10 q.toNatClampNeg 3)), M) else if w = 4 then .inl (some (.int (f_await M q.toNatClampNeg)), M) else if w = 5 then .inl (some (.int (f_held M (M 10 q.toNatClampNeg 0) 8 0 0)), M) else if w = 6 then .inl (some (.int (M 10 q.toNatClampNeg 5)), M) else .inr "java/lang/IllegalArgumentException"
def f_count (M : hm_M) (w : Int32) : Int32 := if w = 0 then M 0 0 5 else if w = 1 then M 4 0 4 else if w = 2 then M 0 0 7 else if w = 3 then M 0 0 8 else if w = 4 then f_done M (M 0 0 5).toNatClampNeg 0 0 else if w = 5 then f_way M (M 4 0 4).toNatClampNeg 1 0 else -1
theorem sw_out4 {x : Int32} (h0 : ¬ x = 0) (h1 : ¬ x = 1) (h2 : ¬ x = 2) (h3 : ¬ x = 3) : x.toInt < 0 ∨ 3 < x.toInt := by
  have a0 := lv_neT h0 (a := 0) (by decide)
  have a1 := lv_neT h1 (a := 1) (by decide)
  have a2 := lv_neT h2 (a := 2) (by decide)
  have a3 := lv_neT h3 (a := 3) (by decide)
  omega
theorem sw_out6 {x : Int32} (h0 : ¬ x = 0) (h1 : ¬ x = 1) (h2 : ¬ x = 2) (h3 : ¬ x = 3) (h4 : ¬ x = 4) (h5 : ¬ x = 5) : x.toInt < 0 ∨ 5 < x.toInt := by
  have a0 := lv_neT h0 (a := 0) (by decide)
  have a1 := lv_neT h1 (a := 1) (by decide)
  have a2 := lv_neT h2 (a := 2) (by decide)
  have a3 := lv_neT h3 (a := 3) (by decide)
  have a4 := lv_neT h4 (a := 4) (by decide)
  have a5 := lv_neT h5 (a := 5) (by decide)
  omega
theorem sw_out7 {x : Int32} (h0 : ¬ x = 0) (h1 : ¬ x = 1) (h2 : ¬ x = 2) (h3 : ¬ x = 3) (h4 : ¬ x = 4) (h5 : ¬ x = 5) (h6 : ¬ x = 6) : x.toInt < 0 ∨ 6 < x.toInt := by
  have a0 := lv_neT h0 (a := 0) (by decide)
  have a1 := lv_neT h1 (a := 1) (by decide)
  have a2 := lv_neT h2 (a := 2) (by decide)
  have a3 := lv_neT h3 (a := 3) (by decide)
  have a4 := lv_neT h4 (a := 4) (by decide)
  have a5 := lv_neT h5 (a := 5) (by decide)
  have a6 := lv_neT h6 (a := 6) (by decide)
  omega
set_option maxHeartbeats 4000000 in
set_option maxRecDepth 100000 in
theorem c_H_part (l : Launch) (D : va_G) (ar : Nat → ClassId) (lay : Nat → Nat → Nat) (M : hm_M) (x : Int32) (htr : l.stackTraces = false) (hI : IvC M) : Ct l D ar lay y_H_part rm_p true [.ref (lay 0 0), .int x] M (r_part M x) := by
  refine Ct.of (cc := prog_1_method_2_code) (maxL := 2) (ret := (some .int)) (by decide) cd_H_part (Nat.le_of_ble_eq_true rfl) ?_
  intro p e s m below meth c E hr hlk hno hH
  refine a_iload_n (pc := 0) E d_H_part_0 rfl rfl ?_
  refine a_if_lt (tgt := 10) (pc := 1) E d_H_part_1 (by decide) (fun c_1 => ?_) (fun c_1 => ?_)
  · exact a_throw (pc := 10) E htr hlk hno hH d_H_part_10 d_H_part_13 d_H_part_14 d_H_part_16 d_H_part_19 cl_H_35 ib_IllegalArgumentException ii_IllegalArgumentException str_H_37 (by decide) (by decide) oa_H_39 (by decide) (by decide) (by decide) (by decide) (by decide) (by decide) (by simp [r_part, c_1])
  · refine a_iload_n (pc := 4) E d_H_part_4 rfl rfl ?_
    refine a_bipush (v := 9) (pc := 5) E d_H_part_5 (by decide) ?_
    refine a_icmp_le (tgt := 20) (pc := 7) E d_H_part_7 (by decide) (fun c_7 => ?_) (fun c_7 => ?_)
    · refine a_aload_n (pc := 20) E d_H_part_20 rfl rfl ?_
      refine g_H_5 (pc := 21) E d_H_part_21 fl_H_42 ?_
      refine a_bipush (v := 6) (pc := 24) E d_H_part_24 (by decide) ?_
      refine a_icmp_lt (tgt := 39) (pc := 26) E d_H_part_26 (by decide) (fun c_26 => ?_) (fun c_26 => ?_)
      · refine a_aload_n (pc := 39) E d_H_part_39 rfl rfl ?_
        refine g_H_2 (pc := 40) E d_H_part_40 fl_H_18 ?_
        refine a_aload_n (pc := 43) E d_H_part_43 rfl rfl ?_
        refine g_H_5 (pc := 44) E d_H_part_44 fl_H_42 ?_
        refine r_3 (pc := 47) E d_H_part_47 (ix_of hI.pc.1 (lt_n 6 (by decide) c_26)) ?_
        refine a_iload_n (pc := 48) E d_H_part_48 rfl rfl ?_
        refine a_wr ?_
        refine p_P_1 (pc := 49) E (vp_nn (ix_of hI.pc.1 (lt_n 6 (by decide) c_26))) d_H_part_49 fl_H_51 ?_
        refine a_aload_n (pc := 52) E d_H_part_52 rfl rfl ?_
        refine a_dup (pc := 53) E d_H_part_53 rfl ?_
        refine g_H_5 (pc := 54) E d_H_part_54 fl_H_42 ?_
        refine a_iconst (v := 1) (pc := 57) E d_H_part_57 (by decide) ?_
        refine a_iadd (pc := 58) E d_H_part_58 ?_
        refine p_H_5 (pc := 59) E d_H_part_59 fl_H_42 ?_
        refine a_aload_n (pc := 62) E d_H_part_62 rfl rfl ?_
        refine g_H_5 (pc := 63) E d_H_part_63 fl_H_42 ?_
        refine a_iconst (v := 1) (pc := 66) E d_H_part_66 (by decide) ?_
        refine a_isub (pc := 67) E d_H_part_67 ?_
        exact a_iret (pc := 68) E hr hlk rfl d_H_part_68 (by decide) (by decide) (by decide) (by simp [r_part, hm_up_at, c_1, c_7, c_26])
      · exact a_throw (pc := 29) E htr hlk hno hH d_H_part_29 d_H_part_32 d_H_part_33 d_H_part_35 d_H_part_38 cl_H_46 ib_UnsupportedOperationException ii_UnsupportedOperationException str_H_48 (by decide) (by decide) oa_H_50 (by decide) (by decide) (by decide) (by decide) (by decide) (by decide) (by simp [r_part, c_1, c_7, c_26])
    · exact a_throw (pc := 10) E htr hlk hno hH d_H_part_10 d_H_part_13 d_H_part_14 d_H_part_16 d_H_part_19 cl_H_35 ib_IllegalArgumentException ii_IllegalArgumentException str_H_37 (by decide) (by decide) oa_H_39 (by decide) (by decide) (by decide) (by decide) (by decide) (by decide) (by simp [r_part, c_1, c_7])
set_option maxHeartbeats 4000000 in
set_option maxRecDepth 100000 in
theorem c_H_step (l : Launch) (D : va_G) (ar : Nat → ClassId) (lay : Nat → Nat → Nat) (M : hm_M) (q kd a b : Int32) (htr : l.stackTraces = false) (hI : IvC M) : Ct l D ar lay y_H_step rm_p true [.ref (lay 0 0), .int q, .int kd, .int a, .int b] M (r_step M q kd a b) := by
  refine Ct.of (cc := prog_1_method_3_code) (maxL := 6) (ret := (some .int)) (by decide) cd_H_step (Nat.le_of_ble_eq_true rfl) ?_
  intro p e s m below meth c E hr hlk hno hH
  by_cases h10 : M 10 q.toNatClampNeg 4 < 10
  · skip
    refine a_aload_n (pc := 0) E d_H_step_0 rfl rfl ?_
    refine a_iload_n (pc := 1) E d_H_step_1 rfl rfl ?_
    by_cases hp : f_isPart M q = 0
    · exact a_callVT (pc := 2) (n := 1) E hlk hno (c_H_existingPart_no l D ar lay _ _ htr hp) ⟨by decide, by decide, ml_H_54, im_H_existingPart, sl_H_existingPart, ii_H, cd_H_existingPart, ⟨by decide, by decide⟩, by decide +kernel⟩ rfl (by decide) rfl rfl rfl (Nat.le_of_ble_eq_true rfl) d_H_step_2 (by decide) (by decide) (by decide) rfl (by simp [r_step, h10, hp])
    refine b_VA (pc := 2) (n := 1) E (c_H_existingPart_ok l D ar lay _ _ hI hp) ⟨by decide, by decide, ml_H_54, im_H_existingPart, sl_H_existingPart, ii_H, cd_H_existingPart, ⟨by decide, by decide⟩, by decide +kernel⟩ rfl (by decide) rfl rfl (by decide) rfl (Nat.le_of_ble_eq_true rfl) d_H_step_2 (by decide) ?_
    have hk := vp_nn (isPart_in hI hp).1
    refine a_astore (pc := 5) E d_H_step_5 (by decide) ?_
    refine a_aload_n (pc := 7) E d_H_step_7 rfl rfl ?_
    refine a_iload_n (pc := 8) E d_H_step_8 rfl rfl ?_
    refine a_iload_n (pc := 9) E d_H_step_9 rfl rfl ?_
    refine a_iload (pc := 10) E d_H_step_10 rfl ?_
    refine b_VI (pc := 12) (n := 3) E (c_H_isStep l D ar lay _ _ _ _) ⟨by decide, by decide, ml_H_58, im_H_isStep, sl_H_isStep, ii_H, cd_H_isStep, ⟨by decide, by decide⟩, by decide +kernel⟩ rfl (by decide) rfl rfl (by decide) rfl (Nat.le_of_ble_eq_true rfl) d_H_step_12 (by decide) ?_
    refine a_if_ne (tgt := 28) (pc := 15) E d_H_step_15 (by decide) (fun c_15 => ?_) (fun c_15 => ?_)
    · refine a_aload (pc := 28) E d_H_step_28 rfl ?_
      refine g_P_3 (pc := 30) E hk d_H_step_30 fl_H_64 ?_
      refine a_if_ne (tgt := 44) (pc := 33) E d_H_step_33 (by decide) (fun c_33 => ?_) (fun c_33 => ?_)
      · exact a_throw (pc := 44) E htr hlk hno hH d_H_step_44 d_H_step_47 d_H_step_48 d_H_step_50 d_H_step_53 cl_H_70 ib_IllegalStateException ii_IllegalStateException str_H_72 (by decide) (by decide) oa_H_74 (by decide) (by decide) (by decide) (by decide) (by decide) (by decide) (by simp [r_step, f_append, h10, hp, c_15, c_33, h10])
      · refine a_aload (pc := 36) E d_H_step_36 rfl ?_
        refine g_P_2 (pc := 38) E hk d_H_step_38 fl_H_67 ?_
        refine a_if_eq (tgt := 54) (pc := 41) E d_H_step_41 (by decide) (fun c_41 => ?_) (fun c_41 => ?_)
        · refine a_aload (pc := 54) E d_H_step_54 rfl ?_
          refine a_iload_n (pc := 56) E d_H_step_56 rfl rfl ?_
          refine a_iload_n (pc := 57) E d_H_step_57 rfl rfl ?_
          refine a_iload (pc := 58) E d_H_step_58 rfl ?_
          refine a_wr ?_
          refine b_VI (pc := 60) (n := 3) E (c_P_append_ok l D ar lay _ _ _ _ _ hk (by have := hI.at hk; omega) h10) ⟨by decide, by decide, ml_H_75, im_P_append, sl_P_append, ii_P, cd_P_append, ⟨by decide, by decide⟩, by decide +kernel⟩ rfl hk rfl rfl (by decide) rfl (Nat.le_of_ble_eq_true rfl) d_H_step_60 (by decide) ?_
          refine a_if_ne (tgt := 76) (pc := 63) E d_H_step_63 (by decide) (fun c_63 => ?_) (fun c_63 => ?_)
          · refine a_aload (pc := 76) E d_H_step_76 rfl ?_
            refine g_P_4 (pc := 78) E hk d_H_step_78 fl_H_80 ?_
            exact a_iret (pc := 81) E hr hlk rfl d_H_step_81 (by decide) (by decide) (by decide) (by simp [r_step, hm_up_at, f_append, h10, hp, c_15, c_33, c_41, c_63])
          · exact absurd c_63 (by decide)
        · exact a_throw (pc := 44) E htr hlk hno hH d_H_step_44 d_H_step_47 d_H_step_48 d_H_step_50 d_H_step_53 cl_H_70 ib_IllegalStateException ii_IllegalStateException str_H_72 (by decide) (by decide) oa_H_74 (by decide) (by decide) (by decide) (by decide) (by decide) (by decide) (by simp [r_step, f_append, h10, hp, c_15, c_33, c_41])
    · exact a_throw (pc := 18) E htr hlk hno hH d_H_step_18 d_H_step_21 d_H_step_22 d_H_step_24 d_H_step_27 cl_H_35 ib_IllegalArgumentException ii_IllegalArgumentException str_H_62 (by decide) (by decide) oa_H_39 (by decide) (by decide) (by decide) (by decide) (by decide) (by decide) (by simp [r_step, f_append, h10, hp, c_15])
  · skip
    refine a_aload_n (pc := 0) E d_H_step_0 rfl rfl ?_
    refine a_iload_n (pc := 1) E d_H_step_1 rfl rfl ?_
    by_cases hp : f_isPart M q = 0
    · exact a_callVT (pc := 2) (n := 1) E hlk hno (c_H_existingPart_no l D ar lay _ _ htr hp) ⟨by decide, by decide, ml_H_54, im_H_existingPart, sl_H_existingPart, ii_H, cd_H_existingPart, ⟨by decide, by decide⟩, by decide +kernel⟩ rfl (by decide) rfl rfl rfl (Nat.le_of_ble_eq_true rfl) d_H_step_2 (by decide) (by decide) (by decide) rfl (by simp [r_step, h10, hp])
    refine b_VA (pc := 2) (n := 1) E (c_H_existingPart_ok l D ar lay _ _ hI hp) ⟨by decide, by decide, ml_H_54, im_H_existingPart, sl_H_existingPart, ii_H, cd_H_existingPart, ⟨by decide, by decide⟩, by decide +kernel⟩ rfl (by decide) rfl rfl (by decide) rfl (Nat.le_of_ble_eq_true rfl) d_H_step_2 (by decide) ?_
    have hk := vp_nn (isPart_in hI hp).1
    refine a_astore (pc := 5) E d_H_step_5 (by decide) ?_
    refine a_aload_n (pc := 7) E d_H_step_7 rfl rfl ?_
    refine a_iload_n (pc := 8) E d_H_step_8 rfl rfl ?_
    refine a_iload_n (pc := 9) E d_H_step_9 rfl rfl ?_
    refine a_iload (pc := 10) E d_H_step_10 rfl ?_
    refine b_VI (pc := 12) (n := 3) E (c_H_isStep l D ar lay _ _ _ _) ⟨by decide, by decide, ml_H_58, im_H_isStep, sl_H_isStep, ii_H, cd_H_isStep, ⟨by decide, by decide⟩, by decide +kernel⟩ rfl (by decide) rfl rfl (by decide) rfl (Nat.le_of_ble_eq_true rfl) d_H_step_12 (by decide) ?_
    refine a_if_ne (tgt := 28) (pc := 15) E d_H_step_15 (by decide) (fun c_15 => ?_) (fun c_15 => ?_)
    · refine a_aload (pc := 28) E d_H_step_28 rfl ?_
      refine g_P_3 (pc := 30) E hk d_H_step_30 fl_H_64 ?_
      refine a_if_ne (tgt := 44) (pc := 33) E d_H_step_33 (by decide) (fun c_33 => ?_) (fun c_33 => ?_)
      · exact a_throw (pc := 44) E htr hlk hno hH d_H_step_44 d_H_step_47 d_H_step_48 d_H_step_50 d_H_step_53 cl_H_70 ib_IllegalStateException ii_IllegalStateException str_H_72 (by decide) (by decide) oa_H_74 (by decide) (by decide) (by decide) (by decide) (by decide) (by decide) (by simp [r_step, h10, hp, c_15, c_33])
      · refine a_aload (pc := 36) E d_H_step_36 rfl ?_
        refine g_P_2 (pc := 38) E hk d_H_step_38 fl_H_67 ?_
        refine a_if_eq (tgt := 54) (pc := 41) E d_H_step_41 (by decide) (fun c_41 => ?_) (fun c_41 => ?_)
        · refine a_aload (pc := 54) E d_H_step_54 rfl ?_
          refine a_iload_n (pc := 56) E d_H_step_56 rfl rfl ?_
          refine a_iload_n (pc := 57) E d_H_step_57 rfl rfl ?_
          refine a_iload (pc := 58) E d_H_step_58 rfl ?_
          refine b_VI (pc := 60) (n := 3) E (c_P_append_no l D ar lay _ _ _ _ _ hk h10) ⟨by decide, by decide, ml_H_75, im_P_append, sl_P_append, ii_P, cd_P_append, ⟨by decide, by decide⟩, by decide +kernel⟩ rfl hk rfl rfl (by decide) rfl (Nat.le_of_ble_eq_true rfl) d_H_step_60 (by decide) ?_
          refine a_if_ne (tgt := 76) (pc := 63) E d_H_step_63 (by decide) (fun c_63 => ?_) (fun c_63 => ?_)
          · exact absurd rfl c_63
          · exact a_throw (pc := 66) E htr hlk hno hH d_H_step_66 d_H_step_69 d_H_step_70 d_H_step_72 d_H_step_75 cl_H_46 ib_UnsupportedOperationException ii_UnsupportedOperationException str_H_78 (by decide) (by decide) oa_H_50 (by decide) (by decide) (by decide) (by decide) (by decide) (by decide) (by simp [r_step, h10, hp, c_15, c_33, c_41, c_63])
        · exact a_throw (pc := 44) E htr hlk hno hH d_H_step_44 d_H_step_47 d_H_step_48 d_H_step_50 d_H_step_53 cl_H_70 ib_IllegalStateException ii_IllegalStateException str_H_72 (by decide) (by decide) oa_H_74 (by decide) (by decide) (by decide) (by decide) (by decide) (by decide) (by simp [r_step, h10, hp, c_15, c_33, c_41])
    · exact a_throw (pc := 18) E htr hlk hno hH d_H_step_18 d_H_step_21 d_H_step_22 d_H_step_24 d_H_step_27 cl_H_35 ib_IllegalArgumentException ii_IllegalArgumentException str_H_62 (by decide) (by decide) oa_H_39 (by decide) (by decide) (by decide) (by decide) (by decide) (by decide) (by simp [r_step, h10, hp, c_15])
set_option maxHeartbeats 4000000 in
set_option maxRecDepth 100000 in
theorem c_H_fails (l : Launch) (D : va_G) (ar : Nat → ClassId) (lay : Nat → Nat → Nat) (M : hm_M) (q i on : Int32) (htr : l.stackTraces = false) (hI : IvC M) (hon : narrow .boolean (.int on) = .int on) : Ct l D ar lay y_H_fails rm_p true [.ref (lay 0 0), .int q, .int i, .int on] M (r_fails M q i on) := by
  refine Ct.of (cc := prog_1_method_4_code) (maxL := 5) (ret := none) (by decide) cd_H_fails (Nat.le_of_ble_eq_true rfl) ?_
  intro p e s m below meth c E hr hlk hno hH
  refine a_aload_n (pc := 0) E d_H_fails_0 rfl rfl ?_
  refine a_iload_n (pc := 1) E d_H_fails_1 rfl rfl ?_
  by_cases hp : f_isPart M q = 0
  · exact a_callVT (pc := 2) (n := 1) E hlk hno (c_H_existingPart_no l D ar lay _ _ htr hp) ⟨by decide, by decide, ml_H_54, im_H_existingPart, sl_H_existingPart, ii_H, cd_H_existingPart, ⟨by decide, by decide⟩, by decide +kernel⟩ rfl (by decide) rfl rfl rfl (Nat.le_of_ble_eq_true rfl) d_H_fails_2 (by decide) (by decide) (by decide) rfl (by simp [r_fails, hp])
  refine b_VA (pc := 2) (n := 1) E (c_H_existingPart_ok l D ar lay _ _ hI hp) ⟨by decide, by decide, ml_H_54, im_H_existingPart, sl_H_existingPart, ii_H, cd_H_existingPart, ⟨by decide, by decide⟩, by decide +kernel⟩ rfl (by decide) rfl rfl (by decide) rfl (Nat.le_of_ble_eq_true rfl) d_H_fails_2 (by decide) ?_
  have hk := vp_nn (isPart_in hI hp).1
  refine a_astore (pc := 5) E d_H_fails_5 (by decide) ?_
  refine a_iload_n (pc := 7) E d_H_fails_7 rfl rfl ?_
  refine a_if_lt (tgt := 20) (pc := 8) E d_H_fails_8 (by decide) (fun c_8 => ?_) (fun c_8 => ?_)
  · exact a_throw (pc := 20) E htr hlk hno hH d_H_fails_20 d_H_fails_23 d_H_fails_24 d_H_fails_26 d_H_fails_29 cl_H_35 ib_IllegalArgumentException ii_IllegalArgumentException str_H_83 (by decide) (by decide) oa_H_39 (by decide) (by decide) (by decide) (by decide) (by decide) (by decide) (by simp [r_fails, hp, c_8])
  · refine a_iload_n (pc := 11) E d_H_fails_11 rfl rfl ?_
    refine a_aload (pc := 12) E d_H_fails_12 rfl ?_
    refine g_P_4 (pc := 14) E hk d_H_fails_14 fl_H_80 ?_
    refine a_icmp_lt (tgt := 30) (pc := 17) E d_H_fails_17 (by decide) (fun c_17 => ?_) (fun c_17 => ?_)
    · refine a_aload (pc := 30) E d_H_fails_30 rfl ?_
      refine g_P_9 (pc := 32) E hk d_H_fails_32 fl_H_85 ?_
      refine a_iload_n (pc := 35) E d_H_fails_35 rfl rfl ?_
      refine a_iload_n (pc := 36) E d_H_fails_36 rfl rfl ?_
      refine a_wr ?_
      refine s_14 (pc := 37) E hk d_H_fails_37 (ix_of (ge_n 0 (by decide) c_8) (by have := Int32.lt_iff_toInt_lt.mp c_17; have := hI.at hk; omega)) hon ?_
      exact a_vret (pc := 38) E hr hlk d_H_fails_38 (by decide) (by decide) (by decide) (by simp [r_fails, hm_up_at, hp, c_8, c_17])
    · exact a_throw (pc := 20) E htr hlk hno hH d_H_fails_20 d_H_fails_23 d_H_fails_24 d_H_fails_26 d_H_fails_29 cl_H_35 ib_IllegalArgumentException ii_IllegalArgumentException str_H_83 (by decide) (by decide) oa_H_39 (by decide) (by decide) (by decide) (by decide) (by decide) (by decide) (by simp [r_fails, hp, c_8, c_17])
set_option maxHeartbeats 4000000 in
set_option maxRecDepth 100000 in
theorem c_H_losing (l : Launch) (D : va_G) (ar : Nat → ClassId) (lay : Nat → Nat → Nat) (M : hm_M) (on : Int32) (hon : narrow .boolean (.int on) = .int on) (hon2 : fits .boolean (.int on) = true) : Ct l D ar lay y_H_losing rm_p true [.ref (lay 0 0), .int on] M (r_losing M on) := by
  refine Ct.of (cc := prog_1_method_5_code) (maxL := 2) (ret := none) (by decide) cd_H_losing (Nat.le_of_ble_eq_true rfl) ?_
  intro p e s m below meth c E hr hlk hno hH
  refine a_aload_n (pc := 0) E d_H_losing_0 rfl rfl ?_
  refine a_iload_n (pc := 1) E d_H_losing_1 rfl rfl ?_
  refine a_wr ?_
  refine p_H_9 (pc := 2) E d_H_losing_2 fl_H_89 hon hon2 ?_
  exact a_vret (pc := 5) E hr hlk d_H_losing_5 (by decide) (by decide) (by decide) rfl
set_option maxHeartbeats 4000000 in
set_option maxRecDepth 100000 in
theorem c_H_turn (l : Launch) (D : va_G) (ar : Nat → ClassId) (lay : Nat → Nat → Nat) (M : hm_M) (q : Int32) (htr : l.stackTraces = false) (hI : IvC M) : Ct l D ar lay y_H_turn rm_p true [.ref (lay 0 0), .int q] M (r_turn M q) := by
  refine Ct.of (cc := prog_1_method_6_code) (maxL := 3) (ret := (some .int)) (by decide) cd_H_turn (Nat.le_of_ble_eq_true rfl) ?_
  intro p e s m below meth c E hr hlk hno hH
  refine a_aload_n (pc := 0) E d_H_turn_0 rfl rfl ?_
  refine a_iload_n (pc := 1) E d_H_turn_1 rfl rfl ?_
  by_cases hp : f_isPart M q = 0
  · exact a_callVT (pc := 2) (n := 1) E hlk hno (c_H_existingPart_no l D ar lay _ _ htr hp) ⟨by decide, by decide, ml_H_54, im_H_existingPart, sl_H_existingPart, ii_H, cd_H_existingPart, ⟨by decide, by decide⟩, by decide +kernel⟩ rfl (by decide) rfl rfl rfl (Nat.le_of_ble_eq_true rfl) d_H_turn_2 (by decide) (by decide) (by decide) rfl (by simp [r_turn, hp])
  refine b_VA (pc := 2) (n := 1) E (c_H_existingPart_ok l D ar lay _ _ hI hp) ⟨by decide, by decide, ml_H_54, im_H_existingPart, sl_H_existingPart, ii_H, cd_H_existingPart, ⟨by decide, by decide⟩, by decide +kernel⟩ rfl (by decide) rfl rfl (by decide) rfl (Nat.le_of_ble_eq_true rfl) d_H_turn_2 (by decide) ?_
  have hk := vp_nn (isPart_in hI hp).1
  refine a_astore_n (pc := 5) E d_H_turn_5 rfl (by decide) ?_
  refine a_aload_n (pc := 6) E d_H_turn_6 rfl rfl ?_
  refine b_VI (pc := 7) (n := 0) E (c_P_mayHaveTurn l D ar lay _ _ hk) ⟨by decide, by decide, ml_H_93, im_P_mayHaveTurn, sl_P_mayHaveTurn, ii_P, cd_P_mayHaveTurn, ⟨by decide, by decide⟩, by decide +kernel⟩ rfl hk rfl rfl (by decide) rfl (Nat.le_of_ble_eq_true rfl) d_H_turn_7 (by decide) ?_
  refine a_if_ne (tgt := 23) (pc := 10) E d_H_turn_10 (by decide) (fun c_10 => ?_) (fun c_10 => ?_)
  · refine a_aload_n (pc := 23) E d_H_turn_23 rfl rfl ?_
    refine a_aload_n (pc := 24) E d_H_turn_24 rfl rfl ?_
    refine a_wr ?_
    refine b_VZ (pc := 25) (n := 1) E (c_H_takeTurn l D ar lay _ _ hk hI) ⟨by decide, by decide, ml_H_99, im_H_takeTurn, sl_H_takeTurn, ii_H, cd_H_takeTurn, ⟨by decide, by decide⟩, by decide +kernel⟩ rfl (by decide) rfl rfl (by decide) rfl (Nat.le_of_ble_eq_true rfl) d_H_turn_25 (by decide) ?_
    refine a_aload_n (pc := 28) E d_H_turn_28 rfl rfl ?_
    refine g_P_2 (pc := 29) E hk d_H_turn_29 fl_H_67 ?_
    exact a_iret (pc := 32) E hr hlk rfl d_H_turn_32 (by decide) (by decide) (by decide) (by simp [r_turn, hm_up_at, hp, c_10])
  · exact a_throw (pc := 13) E htr hlk hno hH d_H_turn_13 d_H_turn_16 d_H_turn_17 d_H_turn_19 d_H_turn_22 cl_H_70 ib_IllegalStateException ii_IllegalStateException str_H_97 (by decide) (by decide) oa_H_74 (by decide) (by decide) (by decide) (by decide) (by decide) (by decide) (by simp [r_turn, hp, c_10])
set_option maxHeartbeats 4000000 in
set_option maxRecDepth 100000 in
theorem c_H_again (l : Launch) (D : va_G) (ar : Nat → ClassId) (lay : Nat → Nat → Nat) (M : hm_M) (x : Int32) (htr : l.stackTraces = false) (hI : IvC M) : Ct l D ar lay y_H_again rm_p true [.ref (lay 0 0), .int x] M (r_again M x) := by
  refine Ct.of (cc := prog_1_method_8_code) (maxL := 2) (ret := (some .int)) (by decide) cd_H_again (Nat.le_of_ble_eq_true rfl) ?_
  intro p e s m below meth c E hr hlk hno hH
  refine a_aload_n (pc := 0) E d_H_again_0 rfl rfl ?_
  refine a_iload_n (pc := 1) E d_H_again_1 rfl rfl ?_
  by_cases hp : f_isMsg M x = 0
  · exact a_callVT (pc := 2) (n := 1) E hlk hno (c_H_checkMessage_no l D ar lay _ _ htr hp) ⟨by decide, by decide, ml_H_108, im_H_checkMessage, sl_H_checkMessage, ii_H, cd_H_checkMessage, ⟨by decide, by decide⟩, by decide +kernel⟩ rfl (by decide) rfl rfl rfl (Nat.le_of_ble_eq_true rfl) d_H_again_2 (by decide) (by decide) (by decide) rfl (by simp [r_again, hp])
  refine b_VZ (pc := 2) (n := 1) E (c_H_checkMessage_ok l D ar lay _ _ hp) ⟨by decide, by decide, ml_H_108, im_H_checkMessage, sl_H_checkMessage, ii_H, cd_H_checkMessage, ⟨by decide, by decide⟩, by decide +kernel⟩ rfl (by decide) rfl rfl (by decide) rfl (Nat.le_of_ble_eq_true rfl) d_H_again_2 (by decide) ?_
  have hx := isMsg_in hI hp
  refine a_aload_n (pc := 5) E d_H_again_5 rfl rfl ?_
  refine g_H_3 (pc := 6) E d_H_again_6 fl_H_25 ?_
  refine g_Q_0 (pc := 9) E d_H_again_9 fl_H_111 ?_
  refine a_iload_n (pc := 12) E d_H_again_12 rfl rfl ?_
  refine r_6 (pc := 13) E d_H_again_13 hx ?_
  refine a_iconst (v := 2) (pc := 14) E d_H_again_14 (by decide) ?_
  refine a_icmp_eq (tgt := 28) (pc := 15) E d_H_again_15 (by decide) (fun c_15 => ?_) (fun c_15 => ?_)
  · refine a_aload_n (pc := 28) E d_H_again_28 rfl rfl ?_
    refine g_H_3 (pc := 29) E d_H_again_29 fl_H_25 ?_
    refine g_Q_0 (pc := 32) E d_H_again_32 fl_H_111 ?_
    refine a_iload_n (pc := 35) E d_H_again_35 rfl rfl ?_
    refine a_iconst (v := 0) (pc := 36) E d_H_again_36 (by decide) ?_
    refine a_wr ?_
    refine s_6 (pc := 37) E d_H_again_37 hx ?_
    refine a_aload_n (pc := 38) E d_H_again_38 rfl rfl ?_
    refine g_H_3 (pc := 39) E d_H_again_39 fl_H_25 ?_
    refine g_Q_2 (pc := 42) E d_H_again_42 fl_H_115 ?_
    refine a_iload_n (pc := 45) E d_H_again_45 rfl rfl ?_
    refine r_8 (pc := 46) E d_H_again_46 hx ?_
    exact a_iret (pc := 47) E hr hlk rfl d_H_again_47 (by decide) (by decide) (by decide) (by simp [r_again, hm_up_at, hp, c_15])
  · exact a_throw (pc := 18) E htr hlk hno hH d_H_again_18 d_H_again_21 d_H_again_22 d_H_again_24 d_H_again_27 cl_H_70 ib_IllegalStateException ii_IllegalStateException str_H_113 (by decide) (by decide) oa_H_74 (by decide) (by decide) (by decide) (by decide) (by decide) (by decide) (by simp [r_again, hp, c_15])
set_option maxHeartbeats 4000000 in
set_option maxRecDepth 100000 in
theorem c_H_interrupt (l : Launch) (D : va_G) (ar : Nat → ClassId) (lay : Nat → Nat → Nat) (M : hm_M) (q : Int32) (htr : l.stackTraces = false) (hI : IvC M) : Ct l D ar lay y_H_interrupt rm_p true [.ref (lay 0 0), .int q] M (r_interrupt M q) := by
  refine Ct.of (cc := prog_1_method_9_code) (maxL := 3) (ret := (some .int)) (by decide) cd_H_interrupt (Nat.le_of_ble_eq_true rfl) ?_
  intro p e s m below meth c E hr hlk hno hH
  refine a_aload_n (pc := 0) E d_H_interrupt_0 rfl rfl ?_
  refine a_iload_n (pc := 1) E d_H_interrupt_1 rfl rfl ?_
  by_cases hp : f_isPart M q = 0
  · exact a_callVT (pc := 2) (n := 1) E hlk hno (c_H_existingPart_no l D ar lay _ _ htr hp) ⟨by decide, by decide, ml_H_54, im_H_existingPart, sl_H_existingPart, ii_H, cd_H_existingPart, ⟨by decide, by decide⟩, by decide +kernel⟩ rfl (by decide) rfl rfl rfl (Nat.le_of_ble_eq_true rfl) d_H_interrupt_2 (by decide) (by decide) (by decide) rfl (by simp [r_interrupt, hp])
  refine b_VA (pc := 2) (n := 1) E (c_H_existingPart_ok l D ar lay _ _ hI hp) ⟨by decide, by decide, ml_H_54, im_H_existingPart, sl_H_existingPart, ii_H, cd_H_existingPart, ⟨by decide, by decide⟩, by decide +kernel⟩ rfl (by decide) rfl rfl (by decide) rfl (Nat.le_of_ble_eq_true rfl) d_H_interrupt_2 (by decide) ?_
  have hk := vp_nn (isPart_in hI hp).1
  refine a_astore_n (pc := 5) E d_H_interrupt_5 rfl (by decide) ?_
  refine a_aload_n (pc := 6) E d_H_interrupt_6 rfl rfl ?_
  refine g_P_2 (pc := 7) E hk d_H_interrupt_7 fl_H_67 ?_
  refine a_iconst (v := 1) (pc := 10) E d_H_interrupt_10 (by decide) ?_
  refine a_icmp_eq (tgt := 32) (pc := 11) E d_H_interrupt_11 (by decide) (fun c_11 => ?_) (fun c_11 => ?_)
  · refine a_aload_n (pc := 32) E d_H_interrupt_32 rfl rfl ?_
    refine a_aload_n (pc := 33) E d_H_interrupt_33 rfl rfl ?_
    refine a_iconst (v := 0) (pc := 34) E d_H_interrupt_34 (by decide) ?_
    refine a_wr ?_
    refine b_VI (pc := 35) (n := 2) E (c_H_undo l D ar lay _ _ 0 hk hI) ⟨by decide, by decide, ml_H_120, im_H_undo, sl_H_undo, ii_H, cd_H_undo, ⟨by decide, by decide⟩, by decide +kernel⟩ rfl (by decide) rfl rfl (by decide) rfl (Nat.le_of_ble_eq_true rfl) d_H_interrupt_35 (by decide) ?_
    exact a_iret (pc := 38) E hr hlk rfl d_H_interrupt_38 (by decide) (by decide) (by decide) (by simp [r_interrupt, hm_up_at, hp, c_11])
  · refine a_aload_n (pc := 14) E d_H_interrupt_14 rfl rfl ?_
    refine g_P_2 (pc := 15) E hk d_H_interrupt_15 fl_H_67 ?_
    refine a_iconst (v := 2) (pc := 18) E d_H_interrupt_18 (by decide) ?_
    refine a_icmp_eq (tgt := 32) (pc := 19) E d_H_interrupt_19 (by decide) (fun c_19 => ?_) (fun c_19 => ?_)
    · refine a_aload_n (pc := 32) E d_H_interrupt_32 rfl rfl ?_
      refine a_aload_n (pc := 33) E d_H_interrupt_33 rfl rfl ?_
      refine a_iconst (v := 0) (pc := 34) E d_H_interrupt_34 (by decide) ?_
      refine a_wr ?_
      refine b_VI (pc := 35) (n := 2) E (c_H_undo l D ar lay _ _ 0 hk hI) ⟨by decide, by decide, ml_H_120, im_H_undo, sl_H_undo, ii_H, cd_H_undo, ⟨by decide, by decide⟩, by decide +kernel⟩ rfl (by decide) rfl rfl (by decide) rfl (Nat.le_of_ble_eq_true rfl) d_H_interrupt_35 (by decide) ?_
      exact a_iret (pc := 38) E hr hlk rfl d_H_interrupt_38 (by decide) (by decide) (by decide) (by simp [r_interrupt, hm_up_at, hp, c_11, c_19])
    · exact a_throw (pc := 22) E htr hlk hno hH d_H_interrupt_22 d_H_interrupt_25 d_H_interrupt_26 d_H_interrupt_28 d_H_interrupt_31 cl_H_70 ib_IllegalStateException ii_IllegalStateException str_H_118 (by decide) (by decide) oa_H_74 (by decide) (by decide) (by decide) (by decide) (by decide) (by decide) (by simp [r_interrupt, hp, c_11, c_19])
set_option maxHeartbeats 4000000 in
set_option maxRecDepth 100000 in
theorem c_H_restart (l : Launch) (D : va_G) (ar : Nat → ClassId) (lay : Nat → Nat → Nat) (M : hm_M) (q : Int32) (htr : l.stackTraces = false) (hI : IvC M) : Ct l D ar lay y_H_restart rm_p true [.ref (lay 0 0), .int q] M (r_restart M q) := by
  refine Ct.of (cc := prog_1_method_10_code) (maxL := 3) (ret := none) (by decide) cd_H_restart (Nat.le_of_ble_eq_true rfl) ?_
  intro p e s m below meth c E hr hlk hno hH
  refine a_aload_n (pc := 0) E d_H_restart_0 rfl rfl ?_
  refine a_iload_n (pc := 1) E d_H_restart_1 rfl rfl ?_
  by_cases hp : f_isPart M q = 0
  · exact a_callVT (pc := 2) (n := 1) E hlk hno (c_H_existingPart_no l D ar lay _ _ htr hp) ⟨by decide, by decide, ml_H_54, im_H_existingPart, sl_H_existingPart, ii_H, cd_H_existingPart, ⟨by decide, by decide⟩, by decide +kernel⟩ rfl (by decide) rfl rfl rfl (Nat.le_of_ble_eq_true rfl) d_H_restart_2 (by decide) (by decide) (by decide) rfl (by simp [r_restart, hp])
  refine b_VA (pc := 2) (n := 1) E (c_H_existingPart_ok l D ar lay _ _ hI hp) ⟨by decide, by decide, ml_H_54, im_H_existingPart, sl_H_existingPart, ii_H, cd_H_existingPart, ⟨by decide, by decide⟩, by decide +kernel⟩ rfl (by decide) rfl rfl (by decide) rfl (Nat.le_of_ble_eq_true rfl) d_H_restart_2 (by decide) ?_
  have hk := vp_nn (isPart_in hI hp).1
  refine a_astore_n (pc := 5) E d_H_restart_5 rfl (by decide) ?_
  refine a_aload_n (pc := 6) E d_H_restart_6 rfl rfl ?_
  refine g_P_2 (pc := 7) E hk d_H_restart_7 fl_H_67 ?_
  refine a_iconst (v := 3) (pc := 10) E d_H_restart_10 (by decide) ?_
  refine a_icmp_eq (tgt := 32) (pc := 11) E d_H_restart_11 (by decide) (fun c_11 => ?_) (fun c_11 => ?_)
  · refine a_aload_n (pc := 32) E d_H_restart_32 rfl rfl ?_
    refine a_iconst (v := 0) (pc := 33) E d_H_restart_33 (by decide) ?_
    refine a_wr ?_
    refine p_P_2 (pc := 34) E hk d_H_restart_34 fl_H_67 ?_
    refine a_aload_n (pc := 37) E d_H_restart_37 rfl rfl ?_
    refine a_iconst (v := 0) (pc := 38) E d_H_restart_38 (by decide) ?_
    refine p_P_3 (pc := 39) E hk d_H_restart_39 fl_H_64 ?_
    exact a_vret (pc := 42) E hr hlk d_H_restart_42 (by decide) (by decide) (by decide) (by simp [r_restart, hm_up_at, f_restart, hp, c_11])
  · refine a_aload_n (pc := 14) E d_H_restart_14 rfl rfl ?_
    refine g_P_2 (pc := 15) E hk d_H_restart_15 fl_H_67 ?_
    refine a_iconst (v := 4) (pc := 18) E d_H_restart_18 (by decide) ?_
    refine a_icmp_eq (tgt := 32) (pc := 19) E d_H_restart_19 (by decide) (fun c_19 => ?_) (fun c_19 => ?_)
    · refine a_aload_n (pc := 32) E d_H_restart_32 rfl rfl ?_
      refine a_iconst (v := 0) (pc := 33) E d_H_restart_33 (by decide) ?_
      refine a_wr ?_
      refine p_P_2 (pc := 34) E hk d_H_restart_34 fl_H_67 ?_
      refine a_aload_n (pc := 37) E d_H_restart_37 rfl rfl ?_
      refine a_iconst (v := 0) (pc := 38) E d_H_restart_38 (by decide) ?_
      refine p_P_3 (pc := 39) E hk d_H_restart_39 fl_H_64 ?_
      exact a_vret (pc := 42) E hr hlk d_H_restart_42 (by decide) (by decide) (by decide) (by simp [r_restart, hm_up_at, f_restart, hp, c_11, c_19])
    · exact a_throw (pc := 22) E htr hlk hno hH d_H_restart_22 d_H_restart_25 d_H_restart_26 d_H_restart_28 d_H_restart_31 cl_H_70 ib_IllegalStateException ii_IllegalStateException str_H_124 (by decide) (by decide) oa_H_74 (by decide) (by decide) (by decide) (by decide) (by decide) (by decide) (by simp [r_restart, f_restart, hp, c_11, c_19])
set_option maxHeartbeats 4000000 in
set_option maxRecDepth 100000 in
theorem c_H_log (l : Launch) (D : va_G) (ar : Nat → ClassId) (lay : Nat → Nat → Nat) (M : hm_M) (i : Int32) (htr : l.stackTraces = false) (hI : IvC M) : Ct l D ar lay y_H_log rm_p false [.ref (lay 0 0), .int i] M (r_log M i) := by
  refine Ct.of (cc := prog_1_method_12_code) (maxL := 2) (ret := (some .int)) (by decide) cd_H_log (Nat.le_of_ble_eq_true rfl) ?_
  intro p e s m below meth c E hr hlk hno hH
  refine a_iload_n (pc := 0) E d_H_log_0 rfl rfl ?_
  refine a_if_lt (tgt := 12) (pc := 1) E d_H_log_1 (by decide) (fun c_1 => ?_) (fun c_1 => ?_)
  · exact a_throw (pc := 12) E htr hlk hno hH d_H_log_12 d_H_log_15 d_H_log_16 d_H_log_18 d_H_log_21 cl_H_35 ib_IllegalArgumentException ii_IllegalArgumentException str_H_129 (by decide) (by decide) oa_H_39 (by decide) (by decide) (by decide) (by decide) (by decide) (by decide) (by simp [r_log, c_1])
  · refine a_iload_n (pc := 4) E d_H_log_4 rfl rfl ?_
    refine a_aload_n (pc := 5) E d_H_log_5 rfl rfl ?_
    refine g_H_6 (pc := 6) E d_H_log_6 fl_H_126 ?_
    refine a_icmp_lt (tgt := 22) (pc := 9) E d_H_log_9 (by decide) (fun c_9 => ?_) (fun c_9 => ?_)
    · refine a_aload_n (pc := 22) E d_H_log_22 rfl rfl ?_
      refine g_H_4 (pc := 23) E d_H_log_23 fl_H_29 ?_
      refine a_iload_n (pc := 26) E d_H_log_26 rfl rfl ?_
      refine r_5 (pc := 27) E d_H_log_27 (ix_of (ge_n 0 (by decide) c_1) (by have := Int32.lt_iff_toInt_lt.mp c_9; have := hI.lc; omega)) ?_
      exact a_iret (pc := 28) E hr hlk rfl d_H_log_28 (by decide) (by decide) (by decide) (by simp [r_log, hm_up_at, c_1, c_9])
    · exact a_throw (pc := 12) E htr hlk hno hH d_H_log_12 d_H_log_15 d_H_log_16 d_H_log_18 d_H_log_21 cl_H_35 ib_IllegalArgumentException ii_IllegalArgumentException str_H_129 (by decide) (by decide) oa_H_39 (by decide) (by decide) (by decide) (by decide) (by decide) (by decide) (by simp [r_log, c_1, c_9])
theorem isPlace_in {x : Int32} (h : ¬ f_isPlace x = 0) : vp_in x 8 := by
  unfold f_isPlace at h
  by_cases h1 : x < 0
  · simp [h1] at h
  · by_cases h2 : 8 ≤ x
    · simp [h1, h2] at h
    · exact ix_of (ge_n 0 (by decide) h1) (lt_n 8 (by decide) (Int32.not_le.mp h2))
set_option maxHeartbeats 4000000 in
set_option maxRecDepth 100000 in
theorem c_H_place (l : Launch) (D : va_G) (ar : Nat → ClassId) (lay : Nat → Nat → Nat) (M : hm_M) (q w : Int32) (htr : l.stackTraces = false) : Ct l D ar lay y_H_place rm_p false [.ref (lay 0 0), .int q, .int w] M (r_place M q w) := by
  refine Ct.of (cc := prog_1_method_13_code) (maxL := 3) (ret := (some .int)) (by decide) cd_H_place (Nat.le_of_ble_eq_true rfl) ?_
  intro p e s m below meth c E hr hlk hno hH
  refine a_iload_n (pc := 0) E d_H_place_0 rfl rfl ?_
  refine b_SI (pc := 1) (n := 1) E (c_H_isPlace l D ar lay _ _) ⟨by decide, by decide, ml_H_131, ss_H_isPlace, ii_H, ⟨by decide, by decide⟩, by decide +kernel⟩ cd_H_isPlace rfl (by decide) rfl (Nat.le_of_ble_eq_true rfl) d_H_place_1 (by decide) ?_
  refine a_if_eq (tgt := 16) (pc := 4) E d_H_place_4 (by decide) (fun c_4 => ?_) (fun c_4 => ?_)
  · exact a_throw (pc := 16) E htr hlk hno hH d_H_place_16 d_H_place_19 d_H_place_20 d_H_place_22 d_H_place_25 cl_H_35 ib_IllegalArgumentException ii_IllegalArgumentException str_H_135 (by decide) (by decide) oa_H_39 (by decide) (by decide) (by decide) (by decide) (by decide) (by decide) (by simp [r_place, c_4])
  · refine a_iload_n (pc := 7) E d_H_place_7 rfl rfl ?_
    refine a_if_lt (tgt := 16) (pc := 8) E d_H_place_8 (by decide) (fun c_8 => ?_) (fun c_8 => ?_)
    · exact a_throw (pc := 16) E htr hlk hno hH d_H_place_16 d_H_place_19 d_H_place_20 d_H_place_22 d_H_place_25 cl_H_35 ib_IllegalArgumentException ii_IllegalArgumentException str_H_135 (by decide) (by decide) oa_H_39 (by decide) (by decide) (by decide) (by decide) (by decide) (by decide) (by simp [r_place, c_4, c_8])
    · refine a_iload_n (pc := 11) E d_H_place_11 rfl rfl ?_
      refine a_iconst (v := 1) (pc := 12) E d_H_place_12 (by decide) ?_
      refine a_icmp_le (tgt := 26) (pc := 13) E d_H_place_13 (by decide) (fun c_13 => ?_) (fun c_13 => ?_)
      · refine a_iload_n (pc := 26) E d_H_place_26 rfl rfl ?_
        refine a_if_ne (tgt := 39) (pc := 27) E d_H_place_27 (by decide) (fun c_27 => ?_) (fun c_27 => ?_)
        · refine a_aload_n (pc := 39) E d_H_place_39 rfl rfl ?_
          refine g_H_1 (pc := 40) E d_H_place_40 fl_H_13 ?_
          refine a_iload_n (pc := 43) E d_H_place_43 rfl rfl ?_
          refine r_2 (pc := 44) E d_H_place_44 (isPlace_in c_4) ?_
          exact a_iret (pc := 45) E hr hlk rfl d_H_place_45 (by decide) (by decide) (by decide) (by simp [r_place, hm_up_at, c_4, c_8, c_13, c_27])
        · refine a_aload_n (pc := 30) E d_H_place_30 rfl rfl ?_
          refine g_H_0 (pc := 31) E d_H_place_31 fl_H_9 ?_
          refine a_iload_n (pc := 34) E d_H_place_34 rfl rfl ?_
          refine r_1 (pc := 35) E d_H_place_35 (isPlace_in c_4) ?_
          refine a_goto (tgt := 45) (pc := 36) E d_H_place_36 (by decide) ?_
          exact a_iret (pc := 45) E hr hlk rfl d_H_place_45 (by decide) (by decide) (by decide) (by simp [r_place, hm_up_at, c_4, c_8, c_13, c_27])
      · exact a_throw (pc := 16) E htr hlk hno hH d_H_place_16 d_H_place_19 d_H_place_20 d_H_place_22 d_H_place_25 cl_H_35 ib_IllegalArgumentException ii_IllegalArgumentException str_H_135 (by decide) (by decide) oa_H_39 (by decide) (by decide) (by decide) (by decide) (by decide) (by decide) (by simp [r_place, c_4, c_8, c_13])
set_option maxHeartbeats 4000000 in
set_option maxRecDepth 100000 in
theorem c_H_message (l : Launch) (D : va_G) (ar : Nat → ClassId) (lay : Nat → Nat → Nat) (M : hm_M) (x w : Int32) (htr : l.stackTraces = false) (hI : IvC M) : Ct l D ar lay y_H_message rm_p false [.ref (lay 0 0), .int x, .int w] M (r_message M x w) := by
  refine Ct.of (cc := prog_1_method_14_code) (maxL := 3) (ret := (some .int)) (by decide) cd_H_message (Nat.le_of_ble_eq_true rfl) ?_
  intro p e s m below meth c E hr hlk hno hH
  refine a_aload_n (pc := 0) E d_H_message_0 rfl rfl ?_
  refine a_iload_n (pc := 1) E d_H_message_1 rfl rfl ?_
  by_cases hp : f_isMsg M x = 0
  · exact a_callVT (pc := 2) (n := 1) E hlk hno (c_H_checkMessage_no l D ar lay _ _ htr hp) ⟨by decide, by decide, ml_H_108, im_H_checkMessage, sl_H_checkMessage, ii_H, cd_H_checkMessage, ⟨by decide, by decide⟩, by decide +kernel⟩ rfl (by decide) rfl rfl rfl (Nat.le_of_ble_eq_true rfl) d_H_message_2 (by decide) (by decide) (by decide) rfl (by simp [r_message, hp])
  refine b_VZ (pc := 2) (n := 1) E (c_H_checkMessage_ok l D ar lay _ _ hp) ⟨by decide, by decide, ml_H_108, im_H_checkMessage, sl_H_checkMessage, ii_H, cd_H_checkMessage, ⟨by decide, by decide⟩, by decide +kernel⟩ rfl (by decide) rfl rfl (by decide) rfl (Nat.le_of_ble_eq_true rfl) d_H_message_2 (by decide) ?_
  have hx := isMsg_in hI hp
  refine a_iload_n (pc := 5) E d_H_message_5 rfl rfl ?_
  by_cases c_6_0 : w = 0
  · refine a_tableIn (tgt := 36) (off := 30) (pc := 6) E d_H_message_6 (by rw [c_6_0]; decide) (by rw [c_6_0]; decide) (by rw [c_6_0]; rfl) (by decide) ?_
    refine a_aload_n (pc := 36) E d_H_message_36 rfl rfl ?_
    refine g_H_3 (pc := 37) E d_H_message_37 fl_H_25 ?_
    refine g_Q_0 (pc := 40) E d_H_message_40 fl_H_111 ?_
    refine a_iload_n (pc := 43) E d_H_message_43 rfl rfl ?_
    refine r_6 (pc := 44) E d_H_message_44 hx ?_
    exact a_iret (pc := 45) E hr hlk rfl d_H_message_45 (by decide) (by decide) (by decide) (by simp [r_message, hm_up_at, hp, c_6_0])
  by_cases c_6_1 : w = 1
  · refine a_tableIn (tgt := 46) (off := 40) (pc := 6) E d_H_message_6 (by rw [c_6_1]; decide) (by rw [c_6_1]; decide) (by rw [c_6_1]; rfl) (by decide) ?_
    refine a_aload_n (pc := 46) E d_H_message_46 rfl rfl ?_
    refine g_H_3 (pc := 47) E d_H_message_47 fl_H_25 ?_
    refine g_Q_1 (pc := 50) E d_H_message_50 fl_H_137 ?_
    refine a_iload_n (pc := 53) E d_H_message_53 rfl rfl ?_
    refine r_7 (pc := 54) E d_H_message_54 hx ?_
    exact a_iret (pc := 55) E hr hlk rfl d_H_message_55 (by decide) (by decide) (by decide) (by simp [r_message, hm_up_at, hp, c_6_0, c_6_1])
  by_cases c_6_2 : w = 2
  · refine a_tableIn (tgt := 56) (off := 50) (pc := 6) E d_H_message_6 (by rw [c_6_2]; decide) (by rw [c_6_2]; decide) (by rw [c_6_2]; rfl) (by decide) ?_
    refine a_aload_n (pc := 56) E d_H_message_56 rfl rfl ?_
    refine g_H_3 (pc := 57) E d_H_message_57 fl_H_25 ?_
    refine g_Q_2 (pc := 60) E d_H_message_60 fl_H_115 ?_
    refine a_iload_n (pc := 63) E d_H_message_63 rfl rfl ?_
    refine r_8 (pc := 64) E d_H_message_64 hx ?_
    exact a_iret (pc := 65) E hr hlk rfl d_H_message_65 (by decide) (by decide) (by decide) (by simp [r_message, hm_up_at, hp, c_6_0, c_6_1, c_6_2])
  by_cases c_6_3 : w = 3
  · refine a_tableIn (tgt := 66) (off := 60) (pc := 6) E d_H_message_6 (by rw [c_6_3]; decide) (by rw [c_6_3]; decide) (by rw [c_6_3]; rfl) (by decide) ?_
    refine a_aload_n (pc := 66) E d_H_message_66 rfl rfl ?_
    refine g_H_3 (pc := 67) E d_H_message_67 fl_H_25 ?_
    refine g_Q_3 (pc := 70) E d_H_message_70 fl_H_140 ?_
    refine a_iload_n (pc := 73) E d_H_message_73 rfl rfl ?_
    refine r_9 (pc := 74) E d_H_message_74 hx ?_
    exact a_iret (pc := 75) E hr hlk rfl d_H_message_75 (by decide) (by decide) (by decide) (by simp [r_message, hm_up_at, hp, c_6_0, c_6_1, c_6_2, c_6_3])
  refine a_tableOut (tgt := 76) (pc := 6) E d_H_message_6 (sw_out4 c_6_0 c_6_1 c_6_2 c_6_3) (by decide) ?_
  exact a_throw (pc := 76) E htr hlk hno hH d_H_message_76 d_H_message_79 d_H_message_80 d_H_message_82 d_H_message_85 cl_H_35 ib_IllegalArgumentException ii_IllegalArgumentException str_H_143 (by decide) (by decide) oa_H_39 (by decide) (by decide) (by decide) (by decide) (by decide) (by decide) (by simp [r_message, hp, c_6_0, c_6_1, c_6_2, c_6_3])
set_option maxHeartbeats 4000000 in
set_option maxRecDepth 100000 in
theorem c_H_told (l : Launch) (D : va_G) (ar : Nat → ClassId) (lay : Nat → Nat → Nat) (M : hm_M) (q w : Int32) (htr : l.stackTraces = false) (hI : IvC M) : Ct l D ar lay y_H_told rm_p false [.ref (lay 0 0), .int q, .int w] M (r_told M q w) := by
  refine Ct.of (cc := prog_1_method_15_code) (maxL := 4) (ret := (some .int)) (by decide) cd_H_told (Nat.le_of_ble_eq_true rfl) ?_
  intro p e s m below meth c E hr hlk hno hH
  refine a_aload_n (pc := 0) E d_H_told_0 rfl rfl ?_
  refine a_iload_n (pc := 1) E d_H_told_1 rfl rfl ?_
  by_cases hp : f_isPart M q = 0
  · exact a_callVT (pc := 2) (n := 1) E hlk hno (c_H_existingPart_no l D ar lay _ _ htr hp) ⟨by decide, by decide, ml_H_54, im_H_existingPart, sl_H_existingPart, ii_H, cd_H_existingPart, ⟨by decide, by decide⟩, by decide +kernel⟩ rfl (by decide) rfl rfl rfl (Nat.le_of_ble_eq_true rfl) d_H_told_2 (by decide) (by decide) (by decide) rfl (by simp [r_told, hp])
  refine b_VA (pc := 2) (n := 1) E (c_H_existingPart_ok l D ar lay _ _ hI hp) ⟨by decide, by decide, ml_H_54, im_H_existingPart, sl_H_existingPart, ii_H, cd_H_existingPart, ⟨by decide, by decide⟩, by decide +kernel⟩ rfl (by decide) rfl rfl (by decide) rfl (Nat.le_of_ble_eq_true rfl) d_H_told_2 (by decide) ?_
  have hk := vp_nn (isPart_in hI hp).1
  refine a_astore_n (pc := 5) E d_H_told_5 rfl (by decide) ?_
  refine a_iload_n (pc := 6) E d_H_told_6 rfl rfl ?_
  by_cases c_7_0 : w = 0
  · refine a_tableIn (tgt := 48) (off := 41) (pc := 7) E d_H_told_7 (by rw [c_7_0]; decide) (by rw [c_7_0]; decide) (by rw [c_7_0]; rfl) (by decide) ?_
    refine a_aload_n (pc := 48) E d_H_told_48 rfl rfl ?_
    refine g_P_2 (pc := 49) E hk d_H_told_49 fl_H_67 ?_
    exact a_iret (pc := 52) E hr hlk rfl d_H_told_52 (by decide) (by decide) (by decide) (by simp [r_told, hm_up_at, hp, c_7_0])
  by_cases c_7_1 : w = 1
  · refine a_tableIn (tgt := 53) (off := 46) (pc := 7) E d_H_told_7 (by rw [c_7_1]; decide) (by rw [c_7_1]; decide) (by rw [c_7_1]; rfl) (by decide) ?_
    refine a_aload_n (pc := 53) E d_H_told_53 rfl rfl ?_
    refine g_P_1 (pc := 54) E hk d_H_told_54 fl_H_51 ?_
    exact a_iret (pc := 57) E hr hlk rfl d_H_told_57 (by decide) (by decide) (by decide) (by simp [r_told, hm_up_at, hp, c_7_0, c_7_1])
  by_cases c_7_2 : w = 2
  · refine a_tableIn (tgt := 58) (off := 51) (pc := 7) E d_H_told_7 (by rw [c_7_2]; decide) (by rw [c_7_2]; decide) (by rw [c_7_2]; rfl) (by decide) ?_
    refine a_aload_n (pc := 58) E d_H_told_58 rfl rfl ?_
    refine g_P_4 (pc := 59) E hk d_H_told_59 fl_H_80 ?_
    exact a_iret (pc := 62) E hr hlk rfl d_H_told_62 (by decide) (by decide) (by decide) (by simp [r_told, hm_up_at, hp, c_7_0, c_7_1, c_7_2])
  by_cases c_7_3 : w = 3
  · refine a_tableIn (tgt := 63) (off := 56) (pc := 7) E d_H_told_7 (by rw [c_7_3]; decide) (by rw [c_7_3]; decide) (by rw [c_7_3]; rfl) (by decide) ?_
    refine a_aload_n (pc := 63) E d_H_told_63 rfl rfl ?_
    refine g_P_3 (pc := 64) E hk d_H_told_64 fl_H_64 ?_
    exact a_iret (pc := 67) E hr hlk rfl d_H_told_67 (by decide) (by decide) (by decide) (by simp [r_told, hm_up_at, hp, c_7_0, c_7_1, c_7_2, c_7_3])
  by_cases c_7_4 : w = 4
  · refine a_tableIn (tgt := 68) (off := 61) (pc := 7) E d_H_told_7 (by rw [c_7_4]; decide) (by rw [c_7_4]; decide) (by rw [c_7_4]; rfl) (by decide) ?_
    refine a_aload_n (pc := 68) E d_H_told_68 rfl rfl ?_
    refine b_VI (pc := 69) (n := 0) E (c_P_awaitedPlace l D ar lay _ _ hk (hI.at hk).1 (hI.at hk).2.2) ⟨by decide, by decide, ml_H_145, im_P_awaitedPlace, sl_P_awaitedPlace, ii_P, cd_P_awaitedPlace, ⟨by decide, by decide⟩, by decide +kernel⟩ rfl hk rfl rfl (by decide) rfl (Nat.le_of_ble_eq_true rfl) d_H_told_69 (by decide) ?_
    exact a_iret (pc := 72) E hr hlk rfl d_H_told_72 (by decide) (by decide) (by decide) (by simp [r_told, hm_up_at, hp, c_7_0, c_7_1, c_7_2, c_7_3, c_7_4])
  by_cases c_7_5 : w = 5
  · refine a_tableIn (tgt := 73) (off := 66) (pc := 7) E d_H_told_7 (by rw [c_7_5]; decide) (by rw [c_7_5]; decide) (by rw [c_7_5]; rfl) (by decide) ?_
    refine a_aload_n (pc := 73) E d_H_told_73 rfl rfl ?_
    refine a_aload_n (pc := 74) E d_H_told_74 rfl rfl ?_
    refine b_VI (pc := 75) (n := 1) E (c_H_heldPlaces l D ar lay _ _ hk) ⟨by decide, by decide, ml_H_149, im_H_heldPlaces, sl_H_heldPlaces, ii_H, cd_H_heldPlaces, ⟨by decide, by decide⟩, by decide +kernel⟩ rfl (by decide) rfl rfl (by decide) rfl (Nat.le_of_ble_eq_true rfl) d_H_told_75 (by decide) ?_
    exact a_iret (pc := 78) E hr hlk rfl d_H_told_78 (by decide) (by decide) (by decide) (by simp [r_told, hm_up_at, hp, c_7_0, c_7_1, c_7_2, c_7_3, c_7_4, c_7_5])
  by_cases c_7_6 : w = 6
  · refine a_tableIn (tgt := 79) (off := 72) (pc := 7) E d_H_told_7 (by rw [c_7_6]; decide) (by rw [c_7_6]; decide) (by rw [c_7_6]; rfl) (by decide) ?_
    refine a_aload_n (pc := 79) E d_H_told_79 rfl rfl ?_
    refine g_P_5 (pc := 80) E hk d_H_told_80 fl_H_153 ?_
    exact a_iret (pc := 83) E hr hlk rfl d_H_told_83 (by decide) (by decide) (by decide) (by simp [r_told, hm_up_at, hp, c_7_0, c_7_1, c_7_2, c_7_3, c_7_4, c_7_5, c_7_6])
  refine a_tableOut (tgt := 84) (pc := 7) E d_H_told_7 (sw_out7 c_7_0 c_7_1 c_7_2 c_7_3 c_7_4 c_7_5 c_7_6) (by decide) ?_
  exact a_throw (pc := 84) E htr hlk hno hH d_H_told_84 d_H_told_87 d_H_told_88 d_H_told_90 d_H_told_93 cl_H_35 ib_IllegalArgumentException ii_IllegalArgumentException str_H_156 (by decide) (by decide) oa_H_39 (by decide) (by decide) (by decide) (by decide) (by decide) (by decide) (by simp [r_told, hp, c_7_0, c_7_1, c_7_2, c_7_3, c_7_4, c_7_5, c_7_6])
set_option maxHeartbeats 4000000 in
set_option maxRecDepth 100000 in
theorem c_H_count (l : Launch) (D : va_G) (ar : Nat → ClassId) (lay : Nat → Nat → Nat) (M : hm_M) (w : Int32) (hI : IvC M) : Ct l D ar lay y_H_count rm_p false [.ref (lay 0 0), .int w] M (.inl (some (.int (f_count M w)), M)) := by
  refine Ct.of (cc := prog_1_method_16_code) (maxL := 2) (ret := (some .int)) (by decide) cd_H_count (Nat.le_of_ble_eq_true rfl) ?_
  intro p e s m below meth c E hr hlk hno hH
  refine a_iload_n (pc := 0) E d_H_count_0 rfl rfl ?_
  by_cases c_1_0 : w = 0
  · refine a_tableIn (tgt := 40) (off := 39) (pc := 1) E d_H_count_1 (by rw [c_1_0]; decide) (by rw [c_1_0]; decide) (by rw [c_1_0]; rfl) (by decide) ?_
    refine a_aload_n (pc := 40) E d_H_count_40 rfl rfl ?_
    refine g_H_5 (pc := 41) E d_H_count_41 fl_H_42 ?_
    exact a_iret (pc := 44) E hr hlk rfl d_H_count_44 (by decide) (by decide) (by decide) (by simp [f_count, hm_up_at, c_1_0])
  by_cases c_1_1 : w = 1
  · refine a_tableIn (tgt := 45) (off := 44) (pc := 1) E d_H_count_1 (by rw [c_1_1]; decide) (by rw [c_1_1]; decide) (by rw [c_1_1]; rfl) (by decide) ?_
    refine a_aload_n (pc := 45) E d_H_count_45 rfl rfl ?_
    refine g_H_3 (pc := 46) E d_H_count_46 fl_H_25 ?_
    refine g_Q_4 (pc := 49) E d_H_count_49 fl_H_158 ?_
    exact a_iret (pc := 52) E hr hlk rfl d_H_count_52 (by decide) (by decide) (by decide) (by simp [f_count, hm_up_at, c_1_0, c_1_1])
  by_cases c_1_2 : w = 2
  · refine a_tableIn (tgt := 53) (off := 52) (pc := 1) E d_H_count_1 (by rw [c_1_2]; decide) (by rw [c_1_2]; decide) (by rw [c_1_2]; rfl) (by decide) ?_
    refine a_aload_n (pc := 53) E d_H_count_53 rfl rfl ?_
    refine g_H_7 (pc := 54) E d_H_count_54 fl_H_105 ?_
    exact a_iret (pc := 57) E hr hlk rfl d_H_count_57 (by decide) (by decide) (by decide) (by simp [f_count, hm_up_at, c_1_0, c_1_1, c_1_2])
  by_cases c_1_3 : w = 3
  · refine a_tableIn (tgt := 58) (off := 57) (pc := 1) E d_H_count_1 (by rw [c_1_3]; decide) (by rw [c_1_3]; decide) (by rw [c_1_3]; rfl) (by decide) ?_
    refine a_aload_n (pc := 58) E d_H_count_58 rfl rfl ?_
    refine g_H_8 (pc := 59) E d_H_count_59 fl_H_161 ?_
    exact a_iret (pc := 62) E hr hlk rfl d_H_count_62 (by decide) (by decide) (by decide) (by simp [f_count, hm_up_at, c_1_0, c_1_1, c_1_2, c_1_3])
  by_cases c_1_4 : w = 4
  · refine a_tableIn (tgt := 63) (off := 62) (pc := 1) E d_H_count_1 (by rw [c_1_4]; decide) (by rw [c_1_4]; decide) (by rw [c_1_4]; rfl) (by decide) ?_
    refine a_aload_n (pc := 63) E d_H_count_63 rfl rfl ?_
    refine b_VI (pc := 64) (n := 0) E (c_H_doneParts l D ar lay _ hI) ⟨by decide, by decide, ml_H_164, im_H_doneParts, sl_H_doneParts, ii_H, cd_H_doneParts, ⟨by decide, by decide⟩, by decide +kernel⟩ rfl (by decide) rfl rfl (by decide) rfl (Nat.le_of_ble_eq_true rfl) d_H_count_64 (by decide) ?_
    exact a_iret (pc := 67) E hr hlk rfl d_H_count_67 (by decide) (by decide) (by decide) (by simp [f_count, hm_up_at, c_1_0, c_1_1, c_1_2, c_1_3, c_1_4])
  by_cases c_1_5 : w = 5
  · refine a_tableIn (tgt := 68) (off := 67) (pc := 1) E d_H_count_1 (by rw [c_1_5]; decide) (by rw [c_1_5]; decide) (by rw [c_1_5]; rfl) (by decide) ?_
    refine a_aload_n (pc := 68) E d_H_count_68 rfl rfl ?_
    refine g_H_3 (pc := 69) E d_H_count_69 fl_H_25 ?_
    refine b_VI (pc := 72) (n := 0) E (c_Q_onTheirWay l D ar lay _ hI.sent) ⟨by decide, by decide, ml_H_167, im_Q_onTheirWay, sl_Q_onTheirWay, ii_Q, cd_Q_onTheirWay, ⟨by decide, by decide⟩, by decide +kernel⟩ rfl (by decide) rfl rfl (by decide) rfl (Nat.le_of_ble_eq_true rfl) d_H_count_72 (by decide) ?_
    exact a_iret (pc := 75) E hr hlk rfl d_H_count_75 (by decide) (by decide) (by decide) (by simp [f_count, hm_up_at, c_1_0, c_1_1, c_1_2, c_1_3, c_1_4, c_1_5])
  refine a_tableOut (tgt := 76) (pc := 1) E d_H_count_1 (sw_out6 c_1_0 c_1_1 c_1_2 c_1_3 c_1_4 c_1_5) (by decide) ?_
  refine a_iconst (v := (-1)) (pc := 76) E d_H_count_76 (by decide) ?_
  exact a_iret (pc := 77) E hr hlk rfl d_H_count_77 (by decide) (by decide) (by decide) (by simp [f_count, hm_up_at, c_1_0, c_1_1, c_1_2, c_1_3, c_1_4, c_1_5])
