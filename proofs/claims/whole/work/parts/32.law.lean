/-! THE CLAIM OUT OF ONE WALK OF THE LAW'S BODY. Your part is whole_start (and what it stands on); all else here is the same for every law, but numbers. -/
def R_law : String := "HouseThreads2Law"
def lw_P (b : Addr) (xs : List Int32) (args : Array Value) (s : State) : Prop := args = #[.ref b] ∧ s.IntsAt b xs ∧ xs.length ≤ 2560 ∧ (Jvm.Cond.and given_1 narrow_1).before args s = true
def lw_Q (_ : Array Value) (s : State) (o : Outcome) (t : State) : Prop := o = .returned (some (.int 1)) ∧ Framed s o t [] 601024 7293034
def lw_Z (below : List Frame) (a : Array Value) (s : State) : State → Prop := fun t => ∃ o, t.status = .running ∧ Ended t below o ∧ lw_Q a s o t
/-- the law's own end, with 1 on the stack, nothing written that was there before, its room as the claim has it -/
theorem lw_ret {p : Program} {l : Launch} {e : Env} {s : State} {m : MethodId} {below : List Frame} {meth : Method} {c : Code} {b : Nat} (hx : p.tables.exec = Jvm.exec) (hb : c.code = code) (hr : meth.sig.returnType = ret) (hlocks : meth.locks = false) {pc : Nat} {H : Heap} {ls : Array Slot} (hdg : decode code pc = .ok (.ireturn, 1)) : W p l e room_1 s m #[Value.ref b] below meth c H [] 601024 7293034 (lw_Z below #[Value.ref b] s) (F0 m pc ls [.int 1]) := by
  intro T hT X
  obtain ⟨fs, hret, hrun, hended, hW, hframe⟩ := X.leave (v := some (.int 1)) (hlocks := hlocks) (fun h => by rw [hr] at h; cases h)
  have hmeth' : T.vm.method? m = some meth := X.method'
  refine ⟨T.setFrames fs, ?_, .returned (some (.int 1)), hrun, hended, rfl, ⟨_, rfl⟩, hW, hframe⟩
  jvm_step X.here [X.here.top, hx, hb, hdg, hmeth', hr, ret, narrow_b1]
  (try refine ⟨rfl, ?_⟩); (try refine ⟨rfl, ?_⟩)
  first | (intro acts; rw [hret _ acts rfl rfl rfl]) | rw [hret _ _ rfl rfl rfl]
  exact Steps.refl _
/-- what holds at the law's entry: the machine, the code, the tables' words (any of lw_tbl by 'hts w (by decide +kernel)'), the script of L ints xs at the cell b, what the Statement gives of the start (any of its parts by flat_of_before) -/
def lw_At (p : Program) (s : State) (m : MethodId) (meth : Method) (c : Code) (b L : Nat) (xs : Nat → Int32) : Prop :=
  p.tables.exec = Jvm.exec ∧ c.code = code ∧ meth.sig.returnType = ret ∧ c.maxLocals = 7 ∧ s.vm.findClass R_law = some m.cls ∧ (∀ w ∈ lw_tbl, w.before #[Value.ref b] s = true) ∧ va_X b L xs s s.heap ∧ b < s.heap.size ∧ meth.locks = false ∧ (Jvm.Cond.and given_1 narrow_1).before #[Value.ref b] s = true
section LAWR
variable {p : Program} {l : Launch} {e : Env} {R : Room} {s : State} {m : MethodId} {args : Array Value} {below : List Frame} {meth : Method} {c : Code} {Q : State → Prop} {cc : ByteArray} {nL cB sB : Nat} {own : String} {D : va_G} {ar : Nat → ClassId} {lay : Nat → Nat → Nat} {wr : Bool} {pc : Nat} {ls : List (Nat × Value)} {st : List Value} {M : hm_M}
/-- the script is read -/
theorem r_S (E : Cx p s m args c cc nL own D ar lay) {b L : Nat} {xs : Nat → Int32} {i : Int32} (hd : decode cc pc = .ok (.iaload, 1)) (hin : vp_in i L ∧ va_X b L xs s s.heap ∧ b < s.heap.size ∧ ¬ hw_A lay true s.heap.size b) (kk : AW p l e R s m args below meth c D ar lay wr nL cB sB Q (pc + 1) ls (.int (xs i.toNatClampNeg) :: st) M) : AW p l e R s m args below meth c D ar lay wr nL cB sB Q pc ls (.int i :: .ref b :: st) M :=
  fun H locs la k0 n0 h1 h2 h3 h4 h5 => va_sld E.x E.b hin.2.1 hin.2.2.1 (fun z => hin.2.2.2 (z.mono (fun _ => rfl) (Nat.le_refl _))) h4 hin.1 hd (kk H locs la k0 n0 h1 h2 h3 h4 h5)
theorem a_slen (E : Cx p s m args c cc nL own D ar lay) {b L : Nat} {xs : Nat → Int32} (hd : decode cc pc = .ok (.arraylength, 1)) (hX : va_X b L xs s s.heap) (hbl : b < s.heap.size) (hbA : ¬ hw_A lay true s.heap.size b) (kk : AW p l e R s m args below meth c D ar lay wr nL cB sB Q (pc + 1) ls (.int (Int32.ofNat L) :: st) M) : AW p l e R s m args below meth c D ar lay wr nL cB sB Q pc ls (.ref b :: st) M :=
  fun H locs la k0 n0 h1 h2 h3 h4 h5 => va_slen E.x E.b hX hbl (fun z => hbA (z.mono (fun _ => rfl) (Nat.le_refl _))) h4 hd (kk H locs la k0 n0 h1 h2 h3 h4 h5)
theorem b_SW (E : Cx p s m args c cc nL own D ar lay) {idx n maxL : Nat} {y : MethodName} {ccY : ByteArray} {ret : Option FieldType} {hds : List (Nat × Nat × Nat × Nat)} {rm : Room} {wr1 : Bool} {As : List Value} {v : Int32} {M' : hm_M} {stk : List Value} (hC : Ct l D ar lay y rm wr1 As M (.inl (some (.int v), M'))) (ok : OkS R own idx y maxL rm n) (hcode : Cond.codeWith y ccY maxL ret hds ∈ wd_TB) (hn : As.length = n) (hw : wr1 = true → wr = true) (hst : stk = As.reverse ++ st) (hrm : (st.map fun v => v.category).sum ≤ 8) (hd : decode cc pc = .ok (.invokestatic idx, 3)) (hcb : cB + rm.cells ≤ R.cells ∧ sB + rm.slots ≤ R.slots)
    (kk : AW p l e R s m args below meth c D ar lay wr nL (cB + rm.cells) (sB + rm.slots) Q (pc + 3) ls (.int v :: st) M') : AW p l e R s m args below meth c D ar lay wr nL cB sB Q pc ls stk M := a_callSW E hC ok hcode hn hw hst hrm hd hcb kk
end LAWR
theorem a_end {p : Program} {l : Launch} {e : Env} {s : State} {m : MethodId} {below : List Frame} {meth : Method} {c : Code} {b cB sB : Nat} {D : va_G} {ar : Nat → ClassId} {lay : Nat → Nat → Nat} {ls : List (Nat × Value)} {M : hm_M} (E : Cx p s m #[Value.ref b] c code 7 "HouseThreads2Law" D ar lay) (hr : meth.sig.returnType = ret) (hlk : meth.locks = false) (hfr : ∀ f k : Nat, k < wd_cnt f → s.heap.size ≤ lay f k) (hc : cB ≤ 601024) (hs : sB ≤ 7293034) :
    AW p l e room_1 s m #[Value.ref b] below meth c D ar lay true 7 cB sB (lw_Z below #[Value.ref b] s) 940 ls [.int 1] M := by
  intro H locs la k0 n0 h1 h2 h3 h4 h5
  refine va_forget (fun q hq => ?_) (W.widen (k := 601024) (n := 7293034) (by omega) (by omega) (lw_ret E.x E.b hr hlk d_L_law_940))
  rcases h4.2.2 q hq with ⟨-, f, k, hk, e⟩ | h
  · rw [e]; exact hfr f k hk
  · exact h
theorem sub5 : ∀ L : Nat, L < 2561 → (Int32.ofNat L - 5).toInt = (L : Int) - 5 := by
  intro L hL
  have h1 : (Int32.ofNat L).toInt = (L : Int) := nI_toInt (by omega)
  have h5 : (5 : Int32).toInt = 5 := rfl
  rw [Int32.toInt_sub, h1, h5]
  exact Int.bmod_eq_of_le (by omega) (by omega)
theorem nI_5 (it : Nat) : nI (5 * it) + Int32.ofInt 5 = nI (5 * (it + 1)) := by
  rw [show Int32.ofInt 5 = nI 5 from rfl, nI_add, Nat.mul_succ]
theorem sw_out15 {x : Int32} (h0 : ¬ x = 0) (h1 : ¬ x = 1) (h2 : ¬ x = 2) (h3 : ¬ x = 3) (h4 : ¬ x = 4) (h5 : ¬ x = 5) (h6 : ¬ x = 6) (h7 : ¬ x = 7) (h8 : ¬ x = 8) (h9 : ¬ x = 9) (h10 : ¬ x = 10) (h11 : ¬ x = 11) (h12 : ¬ x = 12) (h13 : ¬ x = 13) (h14 : ¬ x = 14) : x.toInt < 0 ∨ 14 < x.toInt := by
  have a0 := lv_neT h0 (a := 0) (by decide)
  have a1 := lv_neT h1 (a := 1) (by decide)
  have a2 := lv_neT h2 (a := 2) (by decide)
  have a3 := lv_neT h3 (a := 3) (by decide)
  have a4 := lv_neT h4 (a := 4) (by decide)
  have a5 := lv_neT h5 (a := 5) (by decide)
  have a6 := lv_neT h6 (a := 6) (by decide)
  have a7 := lv_neT h7 (a := 7) (by decide)
  have a8 := lv_neT h8 (a := 8) (by decide)
  have a9 := lv_neT h9 (a := 9) (by decide)
  have a10 := lv_neT h10 (a := 10) (by decide)
  have a11 := lv_neT h11 (a := 11) (by decide)
  have a12 := lv_neT h12 (a := 12) (by decide)
  have a13 := lv_neT h13 (a := 13) (by decide)
  have a14 := lv_neT h14 (a := 14) (by decide)
  omega
set_option maxHeartbeats 8000000 in
set_option maxRecDepth 100000 in
/-- the law's loop: class and reference stay side by side -/
theorem law_loop {p : Program} {l : Launch} {e : Env} {s : State} {m : MethodId} {below : List Frame} {meth : Method} {c : Code} {b L : Nat} {xs : Nat → Int32} {D : va_G} {ar : Nat → ClassId} {lay : Nat → Nat → Nat} (E : Cx p s m #[Value.ref b] c code 7 "HouseThreads2Law" D ar lay) (hr : meth.sig.returnType = ret) (hlk : meth.locks = false) (htr : l.stackTraces = false) (hX : va_X b L xs s s.heap) (hbl : b < s.heap.size) (hbA : ¬ hw_A lay true s.heap.size b) (hfr : ∀ f k : Nat, k < wd_cnt f → s.heap.size ≤ lay f k) (hL : L ≤ 2560) :
    ∀ (n it cB sB : Nat) (x : Int32) (B : Int) (M : hm_M), x = nI (5 * it) → 5 * it ≤ L → L ≤ 5 * it + 5 * n → cB + 8 * n ≤ 601024 → sB + 48 * n ≤ 7293034 → B + 300 * n ≤ 800000 → LJ B M →
      AW p l e room_1 s m #[Value.ref b] below meth c D ar lay true 7 cB sB (lw_Z below #[Value.ref b] s) 23 [(4, .int x), (3, .ref (lay 40 0)), (2, .ref (lay 20 0)), (1, .ref (lay 0 0)), (0, .ref b)] [] M := by
  intro n
  induction n with
  | zero =>
    intro it cB sB x B M hx hit hn hc hs hB hJ
    refine a_iload (pc := 23) E d_L_law_23 rfl ?_
    refine a_aload_n (pc := 25) E d_L_law_25 rfl rfl ?_
    refine a_slen (pc := 26) E d_L_law_26 hX hbl hbA ?_
    refine a_iconst (v := 5) (pc := 27) E d_L_law_27 (by decide) ?_
    refine a_isub (pc := 28) E d_L_law_28 ?_
    refine a_icmp_gt (tgt := 939) (pc := 29) E d_L_law_29 (by decide) (fun c_29 => ?_) (fun c_29 => ?_)
    · refine a_iconst (v := 1) (pc := 939) E d_L_law_939 (by decide) ?_
      exact a_end E hr hlk hfr (by omega) (by omega)
    · refine absurd (Int32.lt_iff_toInt_lt.mpr ?_) c_29
      rw [sub5 L (by omega), hx, nI_toInt (by omega)]
      omega
  | succ n ih =>
    intro it cB sB x B M hx hit hn hc hs hB hJ
    refine a_iload (pc := 23) E d_L_law_23 rfl ?_
    refine a_aload_n (pc := 25) E d_L_law_25 rfl rfl ?_
    refine a_slen (pc := 26) E d_L_law_26 hX hbl hbA ?_
    refine a_iconst (v := 5) (pc := 27) E d_L_law_27 (by decide) ?_
    refine a_isub (pc := 28) E d_L_law_28 ?_
    refine a_icmp_gt (tgt := 939) (pc := 29) E d_L_law_29 (by decide) (fun c_29 => ?_) (fun c_29 => ?_)
    · refine a_iconst (v := 1) (pc := 939) E d_L_law_939 (by decide) ?_
      exact a_end E hr hlk hfr (by omega) (by omega)
    · have h5L : 5 * it + 5 ≤ L := by
        have q := Int32.le_iff_toInt_le.mp (Int32.not_lt.mp c_29)
        rw [sub5 L (by omega), hx, nI_toInt (by omega)] at q
        omega
      have hv0 : vp_in x L := by rw [hx]; exact vp_in_nI (by omega) (by omega)
      have hv1 : vp_in (x + 1) L := by rw [hx, show (1 : Int32) = nI 1 from rfl, nI_add]; exact vp_in_nI (by omega) (by omega)
      have hv2 : vp_in (x + 2) L := by rw [hx, show (2 : Int32) = nI 2 from rfl, nI_add]; exact vp_in_nI (by omega) (by omega)
      have hv3 : vp_in (x + 3) L := by rw [hx, show (3 : Int32) = nI 3 from rfl, nI_add]; exact vp_in_nI (by omega) (by omega)
      have hv4 : vp_in (x + 4) L := by rw [hx, show (4 : Int32) = nI 4 from rfl, nI_add]; exact vp_in_nI (by omega) (by omega)
      refine a_aload_n (pc := 32) E d_L_law_32 rfl rfl ?_
      refine a_iload (pc := 33) E d_L_law_33 rfl ?_
      refine r_S (pc := 35) E d_L_law_35 ⟨by assumption, hX, hbl, hbA⟩ ?_
      refine a_bipush (v := 15) (pc := 36) E d_L_law_36 (by decide) ?_
      refine a_iand (pc := 38) E d_L_law_38 ?_
      by_cases c_39_0 : xs (x).toNatClampNeg &&& 15 = 0
      · refine a_tableIn (tgt := 112) (off := 73) (pc := 39) E d_L_law_39 (by rw [c_39_0]; decide) (by rw [c_39_0]; decide) (by rw [c_39_0]; rfl) (by decide) ?_
        obtain ⟨k, M1, v, M2, hc1, hc2, h3, h4, h5⟩ := z_part l D ar lay hJ htr (xs (x + 1).toNatClampNeg)
        refine a_aload_n (pc := 112) E d_L_law_112 rfl rfl ?_
        refine a_aload_n (pc := 113) E d_L_law_113 rfl rfl ?_
        refine a_iload (pc := 114) E d_L_law_114 rfl ?_
        refine a_iconst (v := 1) (pc := 116) E d_L_law_116 (by decide) ?_
        refine a_iadd (pc := 117) E d_L_law_117 ?_
        refine r_S (pc := 118) E d_L_law_118 ⟨by assumption, hX, hbl, hbA⟩ ?_
        refine a_aload_n (pc := 119) E d_L_law_119 rfl rfl ?_
        refine b_SW (pc := 120) (n := 3) E (hc1) ⟨by decide, by decide, ml_L_62, ss_L_part, ii_L, ⟨by decide, by decide⟩, by decide +kernel⟩ cw_L_part rfl (by decide) rfl (Nat.le_of_ble_eq_true rfl) d_L_law_120 ⟨by show cB + 4 ≤ 601024; omega, by show sB + 24 ≤ 7293034; omega⟩ ?_
        refine a_istore (pc := 123) E d_L_law_123 (by decide) ?_
        refine a_aload_n (pc := 125) E d_L_law_125 rfl rfl ?_
        refine a_aload_n (pc := 126) E d_L_law_126 rfl rfl ?_
        refine a_iload (pc := 127) E d_L_law_127 rfl ?_
        refine a_iconst (v := 1) (pc := 129) E d_L_law_129 (by decide) ?_
        refine a_iadd (pc := 130) E d_L_law_130 ?_
        refine r_S (pc := 131) E d_L_law_131 ⟨by assumption, hX, hbl, hbA⟩ ?_
        refine b_VI (pc := 132) (n := 1) E (hc2) ⟨by decide, by decide, ml_L_67, im_M_part, sl_M_part, ii_M, cd_M_part, ⟨by decide, by decide⟩, by decide +kernel⟩ rfl (by decide) rfl rfl (by decide) rfl (Nat.le_of_ble_eq_true rfl) d_L_law_132 ⟨by show cB + 4 + 4 ≤ 601024; omega, by show sB + 24 + 24 ≤ 7293034; omega⟩ ?_
        refine a_istore (pc := 135) E d_L_law_135 (by decide) ?_
        refine a_aload_n (pc := 137) E d_L_law_137 rfl rfl ?_
        refine b_VI (pc := 138) (n := 0) E (c_M_thrown l D ar lay _) ⟨by decide, by decide, ml_L_68, im_M_thrown, sl_M_thrown, ii_M, cd_M_thrown, ⟨by decide, by decide⟩, by decide +kernel⟩ rfl (by decide) rfl rfl (by decide) rfl (Nat.le_of_ble_eq_true rfl) d_L_law_138 ⟨by show cB + 4 + 4 + 0 ≤ 601024; omega, by show sB + 24 + 24 + 0 ≤ 7293034; omega⟩ ?_
        refine a_iload (pc := 141) E d_L_law_141 rfl ?_
        refine a_icmp_eq (tgt := 148) (pc := 143) E d_L_law_143 (by decide) (fun c_143 => ?_) (fun c_143 => ?_)
        · refine a_iload (pc := 148) E d_L_law_148 rfl ?_
          refine a_if_ne (tgt := 165) (pc := 150) E d_L_law_150 (by decide) (fun c_150 => ?_) (fun c_150 => ?_)
          · refine a_goto (tgt := 933) (pc := 165) E d_L_law_165 (by decide) ?_
            refine a_iinc (pc := 933) E d_L_law_933 rfl (by decide) ?_
            refine a_goto (tgt := 23) (pc := 936) E d_L_law_936 (by decide) ?_
            exact a_ls5 (ih (it + 1) _ _ _ (B + 300) _ (by rw [hx]; exact nI_5 it) (by omega) (by omega) (by simp only [rm_w, rm_p, rm_0]; omega) (by simp only [rm_w, rm_p, rm_0]; omega) (by omega) h5) rfl rfl rfl rfl rfl
          · refine a_aload_n (pc := 153) E d_L_law_153 rfl rfl ?_
            refine a_iconst (v := 0) (pc := 154) E d_L_law_154 (by decide) ?_
            refine r_40 (pc := 155) E d_L_law_155 (ix_of (by decide) (by decide)) ?_
            refine a_iload (pc := 156) E d_L_law_156 rfl ?_
            refine a_i2l (pc := 158) E d_L_law_158 ?_
            refine a_lcmp (pc := 159) E d_L_law_159 (fun r_159 e_159 => ?_)
            refine a_if_eq (tgt := 165) (pc := 160) E d_L_law_160 (by decide) (fun c_160 => ?_) (fun c_160 => ?_)
            · refine a_goto (tgt := 933) (pc := 165) E d_L_law_165 (by decide) ?_
              refine a_iinc (pc := 933) E d_L_law_933 rfl (by decide) ?_
              refine a_goto (tgt := 23) (pc := 936) E d_L_law_936 (by decide) ?_
              exact a_ls5 (ih (it + 1) _ _ _ (B + 300) _ (by rw [hx]; exact nI_5 it) (by omega) (by omega) (by simp only [rm_w, rm_p, rm_0]; omega) (by simp only [rm_w, rm_p, rm_0]; omega) (by omega) h5) rfl rfl rfl rfl rfl
            · exact absurd (e_159.mpr (congrArg Int32.toInt64 (h4 c_150))) c_160
        · exact absurd h3 c_143
      by_cases c_39_1 : xs (x).toNatClampNeg &&& 15 = 1
      · refine a_tableIn (tgt := 168) (off := 129) (pc := 39) E d_L_law_39 (by rw [c_39_1]; decide) (by rw [c_39_1]; decide) (by rw [c_39_1]; rfl) (by decide) ?_
        obtain ⟨k, M1, v, M2, hc1, hc2, h3, h4, h5⟩ := z_step l D ar lay hJ htr (xs (x + 1).toNatClampNeg) (xs (x + 2).toNatClampNeg) (xs (x + 3).toNatClampNeg) (xs (x + 4).toNatClampNeg)
        refine a_aload_n (pc := 168) E d_L_law_168 rfl rfl ?_
        refine a_aload_n (pc := 169) E d_L_law_169 rfl rfl ?_
        refine a_iload (pc := 170) E d_L_law_170 rfl ?_
        refine a_iconst (v := 1) (pc := 172) E d_L_law_172 (by decide) ?_
        refine a_iadd (pc := 173) E d_L_law_173 ?_
        refine r_S (pc := 174) E d_L_law_174 ⟨by assumption, hX, hbl, hbA⟩ ?_
        refine a_aload_n (pc := 175) E d_L_law_175 rfl rfl ?_
        refine a_iload (pc := 176) E d_L_law_176 rfl ?_
        refine a_iconst (v := 2) (pc := 178) E d_L_law_178 (by decide) ?_
        refine a_iadd (pc := 179) E d_L_law_179 ?_
        refine r_S (pc := 180) E d_L_law_180 ⟨by assumption, hX, hbl, hbA⟩ ?_
        refine a_aload_n (pc := 181) E d_L_law_181 rfl rfl ?_
        refine a_iload (pc := 182) E d_L_law_182 rfl ?_
        refine a_iconst (v := 3) (pc := 184) E d_L_law_184 (by decide) ?_
        refine a_iadd (pc := 185) E d_L_law_185 ?_
        refine r_S (pc := 186) E d_L_law_186 ⟨by assumption, hX, hbl, hbA⟩ ?_
        refine a_aload_n (pc := 187) E d_L_law_187 rfl rfl ?_
        refine a_iload (pc := 188) E d_L_law_188 rfl ?_
        refine a_iconst (v := 4) (pc := 190) E d_L_law_190 (by decide) ?_
        refine a_iadd (pc := 191) E d_L_law_191 ?_
        refine r_S (pc := 192) E d_L_law_192 ⟨by assumption, hX, hbl, hbA⟩ ?_
        refine a_aload_n (pc := 193) E d_L_law_193 rfl rfl ?_
        refine b_SW (pc := 194) (n := 6) E (hc1) ⟨by decide, by decide, ml_L_72, ss_L_step, ii_L, ⟨by decide, by decide⟩, by decide +kernel⟩ cw_L_step rfl (by decide) rfl (Nat.le_of_ble_eq_true rfl) d_L_law_194 ⟨by show cB + 4 ≤ 601024; omega, by show sB + 24 ≤ 7293034; omega⟩ ?_
        refine a_istore (pc := 197) E d_L_law_197 (by decide) ?_
        refine a_aload_n (pc := 199) E d_L_law_199 rfl rfl ?_
        refine a_aload_n (pc := 200) E d_L_law_200 rfl rfl ?_
        refine a_iload (pc := 201) E d_L_law_201 rfl ?_
        refine a_iconst (v := 1) (pc := 203) E d_L_law_203 (by decide) ?_
        refine a_iadd (pc := 204) E d_L_law_204 ?_
        refine r_S (pc := 205) E d_L_law_205 ⟨by assumption, hX, hbl, hbA⟩ ?_
        refine a_aload_n (pc := 206) E d_L_law_206 rfl rfl ?_
        refine a_iload (pc := 207) E d_L_law_207 rfl ?_
        refine a_iconst (v := 2) (pc := 209) E d_L_law_209 (by decide) ?_
        refine a_iadd (pc := 210) E d_L_law_210 ?_
        refine r_S (pc := 211) E d_L_law_211 ⟨by assumption, hX, hbl, hbA⟩ ?_
        refine a_aload_n (pc := 212) E d_L_law_212 rfl rfl ?_
        refine a_iload (pc := 213) E d_L_law_213 rfl ?_
        refine a_iconst (v := 3) (pc := 215) E d_L_law_215 (by decide) ?_
        refine a_iadd (pc := 216) E d_L_law_216 ?_
        refine r_S (pc := 217) E d_L_law_217 ⟨by assumption, hX, hbl, hbA⟩ ?_
        refine a_aload_n (pc := 218) E d_L_law_218 rfl rfl ?_
        refine a_iload (pc := 219) E d_L_law_219 rfl ?_
        refine a_iconst (v := 4) (pc := 221) E d_L_law_221 (by decide) ?_
        refine a_iadd (pc := 222) E d_L_law_222 ?_
        refine r_S (pc := 223) E d_L_law_223 ⟨by assumption, hX, hbl, hbA⟩ ?_
        refine b_VI (pc := 224) (n := 4) E (hc2) ⟨by decide, by decide, ml_L_75, im_M_step, sl_M_step, ii_M, cd_M_step, ⟨by decide, by decide⟩, by decide +kernel⟩ rfl (by decide) rfl rfl (by decide) rfl (Nat.le_of_ble_eq_true rfl) d_L_law_224 ⟨by show cB + 4 + 4 ≤ 601024; omega, by show sB + 24 + 24 ≤ 7293034; omega⟩ ?_
        refine a_istore (pc := 227) E d_L_law_227 (by decide) ?_
        refine a_aload_n (pc := 229) E d_L_law_229 rfl rfl ?_
        refine b_VI (pc := 230) (n := 0) E (c_M_thrown l D ar lay _) ⟨by decide, by decide, ml_L_68, im_M_thrown, sl_M_thrown, ii_M, cd_M_thrown, ⟨by decide, by decide⟩, by decide +kernel⟩ rfl (by decide) rfl rfl (by decide) rfl (Nat.le_of_ble_eq_true rfl) d_L_law_230 ⟨by show cB + 4 + 4 + 0 ≤ 601024; omega, by show sB + 24 + 24 + 0 ≤ 7293034; omega⟩ ?_
        refine a_iload (pc := 233) E d_L_law_233 rfl ?_
        refine a_icmp_eq (tgt := 240) (pc := 235) E d_L_law_235 (by decide) (fun c_235 => ?_) (fun c_235 => ?_)
        · refine a_iload (pc := 240) E d_L_law_240 rfl ?_
          refine a_if_ne (tgt := 257) (pc := 242) E d_L_law_242 (by decide) (fun c_242 => ?_) (fun c_242 => ?_)
          · refine a_goto (tgt := 933) (pc := 257) E d_L_law_257 (by decide) ?_
            refine a_iinc (pc := 933) E d_L_law_933 rfl (by decide) ?_
            refine a_goto (tgt := 23) (pc := 936) E d_L_law_936 (by decide) ?_
            exact a_ls5 (ih (it + 1) _ _ _ (B + 300) _ (by rw [hx]; exact nI_5 it) (by omega) (by omega) (by simp only [rm_w, rm_p, rm_0]; omega) (by simp only [rm_w, rm_p, rm_0]; omega) (by omega) h5) rfl rfl rfl rfl rfl
          · refine a_aload_n (pc := 245) E d_L_law_245 rfl rfl ?_
            refine a_iconst (v := 0) (pc := 246) E d_L_law_246 (by decide) ?_
            refine r_40 (pc := 247) E d_L_law_247 (ix_of (by decide) (by decide)) ?_
            refine a_iload (pc := 248) E d_L_law_248 rfl ?_
            refine a_i2l (pc := 250) E d_L_law_250 ?_
            refine a_lcmp (pc := 251) E d_L_law_251 (fun r_251 e_251 => ?_)
            refine a_if_eq (tgt := 257) (pc := 252) E d_L_law_252 (by decide) (fun c_252 => ?_) (fun c_252 => ?_)
            · refine a_goto (tgt := 933) (pc := 257) E d_L_law_257 (by decide) ?_
              refine a_iinc (pc := 933) E d_L_law_933 rfl (by decide) ?_
              refine a_goto (tgt := 23) (pc := 936) E d_L_law_936 (by decide) ?_
              exact a_ls5 (ih (it + 1) _ _ _ (B + 300) _ (by rw [hx]; exact nI_5 it) (by omega) (by omega) (by simp only [rm_w, rm_p, rm_0]; omega) (by simp only [rm_w, rm_p, rm_0]; omega) (by omega) h5) rfl rfl rfl rfl rfl
            · exact absurd (e_251.mpr (congrArg Int32.toInt64 (h4 c_242))) c_252
        · exact absurd h3 c_235
      by_cases c_39_2 : xs (x).toNatClampNeg &&& 15 = 2
      · refine a_tableIn (tgt := 260) (off := 221) (pc := 39) E d_L_law_39 (by rw [c_39_2]; decide) (by rw [c_39_2]; decide) (by rw [c_39_2]; rfl) (by decide) ?_
        by_cases h0 : (xs (x + 3).toNatClampNeg) = 0
        · obtain ⟨k, M1, M2, hc1, hc2, h3, h5⟩ := z_fails l D ar lay hJ htr (xs (x + 1).toNatClampNeg) (xs (x + 2).toNatClampNeg) 0 rfl
          refine a_aload_n (pc := 260) E d_L_law_260 rfl rfl ?_
          refine a_aload_n (pc := 261) E d_L_law_261 rfl rfl ?_
          refine a_iload (pc := 262) E d_L_law_262 rfl ?_
          refine a_iconst (v := 1) (pc := 264) E d_L_law_264 (by decide) ?_
          refine a_iadd (pc := 265) E d_L_law_265 ?_
          refine r_S (pc := 266) E d_L_law_266 ⟨by assumption, hX, hbl, hbA⟩ ?_
          refine a_aload_n (pc := 267) E d_L_law_267 rfl rfl ?_
          refine a_iload (pc := 268) E d_L_law_268 rfl ?_
          refine a_iconst (v := 2) (pc := 270) E d_L_law_270 (by decide) ?_
          refine a_iadd (pc := 271) E d_L_law_271 ?_
          refine r_S (pc := 272) E d_L_law_272 ⟨by assumption, hX, hbl, hbA⟩ ?_
          refine a_aload_n (pc := 273) E d_L_law_273 rfl rfl ?_
          refine a_iload (pc := 274) E d_L_law_274 rfl ?_
          refine a_iconst (v := 3) (pc := 276) E d_L_law_276 (by decide) ?_
          refine a_iadd (pc := 277) E d_L_law_277 ?_
          refine r_S (pc := 278) E d_L_law_278 ⟨by assumption, hX, hbl, hbA⟩ ?_
          refine a_if_eq (tgt := 286) (pc := 279) E d_L_law_279 (by decide) (fun c_279 => ?_) (fun c_279 => ?_)
          · refine a_iconst (v := 0) (pc := 286) E d_L_law_286 (by decide) ?_
            refine b_SW (pc := 287) (n := 4) E (hc1) ⟨by decide, by decide, ml_L_76, ss_L_fails, ii_L, ⟨by decide, by decide⟩, by decide +kernel⟩ cw_L_fails rfl (by decide) rfl (Nat.le_of_ble_eq_true rfl) d_L_law_287 ⟨by show cB + 4 ≤ 601024; omega, by show sB + 24 ≤ 7293034; omega⟩ ?_
            refine a_istore (pc := 290) E d_L_law_290 (by decide) ?_
            refine a_aload_n (pc := 292) E d_L_law_292 rfl rfl ?_
            refine a_aload_n (pc := 293) E d_L_law_293 rfl rfl ?_
            refine a_iload (pc := 294) E d_L_law_294 rfl ?_
            refine a_iconst (v := 1) (pc := 296) E d_L_law_296 (by decide) ?_
            refine a_iadd (pc := 297) E d_L_law_297 ?_
            refine r_S (pc := 298) E d_L_law_298 ⟨by assumption, hX, hbl, hbA⟩ ?_
            refine a_aload_n (pc := 299) E d_L_law_299 rfl rfl ?_
            refine a_iload (pc := 300) E d_L_law_300 rfl ?_
            refine a_iconst (v := 2) (pc := 302) E d_L_law_302 (by decide) ?_
            refine a_iadd (pc := 303) E d_L_law_303 ?_
            refine r_S (pc := 304) E d_L_law_304 ⟨by assumption, hX, hbl, hbA⟩ ?_
            refine a_aload_n (pc := 305) E d_L_law_305 rfl rfl ?_
            refine a_iload (pc := 306) E d_L_law_306 rfl ?_
            refine a_iconst (v := 3) (pc := 308) E d_L_law_308 (by decide) ?_
            refine a_iadd (pc := 309) E d_L_law_309 ?_
            refine r_S (pc := 310) E d_L_law_310 ⟨by assumption, hX, hbl, hbA⟩ ?_
            refine a_if_eq (tgt := 318) (pc := 311) E d_L_law_311 (by decide) (fun c_311 => ?_) (fun c_311 => ?_)
            · refine a_iconst (v := 0) (pc := 318) E d_L_law_318 (by decide) ?_
              refine b_VZ (pc := 319) (n := 3) E (hc2) ⟨by decide, by decide, ml_L_79, im_M_fails, sl_M_fails, ii_M, cd_M_fails, ⟨by decide, by decide⟩, by decide +kernel⟩ rfl (by decide) rfl rfl (by decide) rfl (Nat.le_of_ble_eq_true rfl) d_L_law_319 ⟨by show cB + 4 + 4 ≤ 601024; omega, by show sB + 24 + 24 ≤ 7293034; omega⟩ ?_
              refine a_aload_n (pc := 322) E d_L_law_322 rfl rfl ?_
              refine b_VI (pc := 323) (n := 0) E (c_M_thrown l D ar lay _) ⟨by decide, by decide, ml_L_68, im_M_thrown, sl_M_thrown, ii_M, cd_M_thrown, ⟨by decide, by decide⟩, by decide +kernel⟩ rfl (by decide) rfl rfl (by decide) rfl (Nat.le_of_ble_eq_true rfl) d_L_law_323 ⟨by show cB + 4 + 4 + 0 ≤ 601024; omega, by show sB + 24 + 24 + 0 ≤ 7293034; omega⟩ ?_
              refine a_iload (pc := 326) E d_L_law_326 rfl ?_
              refine a_icmp_eq (tgt := 333) (pc := 328) E d_L_law_328 (by decide) (fun c_328 => ?_) (fun c_328 => ?_)
              · refine a_goto (tgt := 933) (pc := 333) E d_L_law_333 (by decide) ?_
                refine a_iinc (pc := 933) E d_L_law_933 rfl (by decide) ?_
                refine a_goto (tgt := 23) (pc := 936) E d_L_law_936 (by decide) ?_
                exact a_ls5 (ih (it + 1) _ _ _ (B + 300) _ (by rw [hx]; exact nI_5 it) (by omega) (by omega) (by simp only [rm_w, rm_p, rm_0]; omega) (by simp only [rm_w, rm_p, rm_0]; omega) (by omega) h5) rfl rfl rfl rfl rfl
              · exact absurd h3 c_328
            · exact absurd h0 c_311
          · exact absurd h0 c_279
        · obtain ⟨k, M1, M2, hc1, hc2, h3, h5⟩ := z_fails l D ar lay hJ htr (xs (x + 1).toNatClampNeg) (xs (x + 2).toNatClampNeg) 1 rfl
          refine a_aload_n (pc := 260) E d_L_law_260 rfl rfl ?_
          refine a_aload_n (pc := 261) E d_L_law_261 rfl rfl ?_
          refine a_iload (pc := 262) E d_L_law_262 rfl ?_
          refine a_iconst (v := 1) (pc := 264) E d_L_law_264 (by decide) ?_
          refine a_iadd (pc := 265) E d_L_law_265 ?_
          refine r_S (pc := 266) E d_L_law_266 ⟨by assumption, hX, hbl, hbA⟩ ?_
          refine a_aload_n (pc := 267) E d_L_law_267 rfl rfl ?_
          refine a_iload (pc := 268) E d_L_law_268 rfl ?_
          refine a_iconst (v := 2) (pc := 270) E d_L_law_270 (by decide) ?_
          refine a_iadd (pc := 271) E d_L_law_271 ?_
          refine r_S (pc := 272) E d_L_law_272 ⟨by assumption, hX, hbl, hbA⟩ ?_
          refine a_aload_n (pc := 273) E d_L_law_273 rfl rfl ?_
          refine a_iload (pc := 274) E d_L_law_274 rfl ?_
          refine a_iconst (v := 3) (pc := 276) E d_L_law_276 (by decide) ?_
          refine a_iadd (pc := 277) E d_L_law_277 ?_
          refine r_S (pc := 278) E d_L_law_278 ⟨by assumption, hX, hbl, hbA⟩ ?_
          refine a_if_eq (tgt := 286) (pc := 279) E d_L_law_279 (by decide) (fun c_279 => ?_) (fun c_279 => ?_)
          · exact absurd c_279 h0
          · refine a_iconst (v := 1) (pc := 282) E d_L_law_282 (by decide) ?_
            refine a_goto (tgt := 287) (pc := 283) E d_L_law_283 (by decide) ?_
            refine b_SW (pc := 287) (n := 4) E (hc1) ⟨by decide, by decide, ml_L_76, ss_L_fails, ii_L, ⟨by decide, by decide⟩, by decide +kernel⟩ cw_L_fails rfl (by decide) rfl (Nat.le_of_ble_eq_true rfl) d_L_law_287 ⟨by show cB + 4 ≤ 601024; omega, by show sB + 24 ≤ 7293034; omega⟩ ?_
            refine a_istore (pc := 290) E d_L_law_290 (by decide) ?_
            refine a_aload_n (pc := 292) E d_L_law_292 rfl rfl ?_
            refine a_aload_n (pc := 293) E d_L_law_293 rfl rfl ?_
            refine a_iload (pc := 294) E d_L_law_294 rfl ?_
            refine a_iconst (v := 1) (pc := 296) E d_L_law_296 (by decide) ?_
            refine a_iadd (pc := 297) E d_L_law_297 ?_
            refine r_S (pc := 298) E d_L_law_298 ⟨by assumption, hX, hbl, hbA⟩ ?_
            refine a_aload_n (pc := 299) E d_L_law_299 rfl rfl ?_
            refine a_iload (pc := 300) E d_L_law_300 rfl ?_
            refine a_iconst (v := 2) (pc := 302) E d_L_law_302 (by decide) ?_
            refine a_iadd (pc := 303) E d_L_law_303 ?_
            refine r_S (pc := 304) E d_L_law_304 ⟨by assumption, hX, hbl, hbA⟩ ?_
            refine a_aload_n (pc := 305) E d_L_law_305 rfl rfl ?_
            refine a_iload (pc := 306) E d_L_law_306 rfl ?_
            refine a_iconst (v := 3) (pc := 308) E d_L_law_308 (by decide) ?_
            refine a_iadd (pc := 309) E d_L_law_309 ?_
            refine r_S (pc := 310) E d_L_law_310 ⟨by assumption, hX, hbl, hbA⟩ ?_
            refine a_if_eq (tgt := 318) (pc := 311) E d_L_law_311 (by decide) (fun c_311 => ?_) (fun c_311 => ?_)
            · exact absurd c_311 h0
            · refine a_iconst (v := 1) (pc := 314) E d_L_law_314 (by decide) ?_
              refine a_goto (tgt := 319) (pc := 315) E d_L_law_315 (by decide) ?_
              refine b_VZ (pc := 319) (n := 3) E (hc2) ⟨by decide, by decide, ml_L_79, im_M_fails, sl_M_fails, ii_M, cd_M_fails, ⟨by decide, by decide⟩, by decide +kernel⟩ rfl (by decide) rfl rfl (by decide) rfl (Nat.le_of_ble_eq_true rfl) d_L_law_319 ⟨by show cB + 4 + 4 ≤ 601024; omega, by show sB + 24 + 24 ≤ 7293034; omega⟩ ?_
              refine a_aload_n (pc := 322) E d_L_law_322 rfl rfl ?_
              refine b_VI (pc := 323) (n := 0) E (c_M_thrown l D ar lay _) ⟨by decide, by decide, ml_L_68, im_M_thrown, sl_M_thrown, ii_M, cd_M_thrown, ⟨by decide, by decide⟩, by decide +kernel⟩ rfl (by decide) rfl rfl (by decide) rfl (Nat.le_of_ble_eq_true rfl) d_L_law_323 ⟨by show cB + 4 + 4 + 0 ≤ 601024; omega, by show sB + 24 + 24 + 0 ≤ 7293034; omega⟩ ?_
              refine a_iload (pc := 326) E d_L_law_326 rfl ?_
              refine a_icmp_eq (tgt := 333) (pc := 328) E d_L_law_328 (by decide) (fun c_328 => ?_) (fun c_328 => ?_)
              · refine a_goto (tgt := 933) (pc := 333) E d_L_law_333 (by decide) ?_
                refine a_iinc (pc := 933) E d_L_law_933 rfl (by decide) ?_
                refine a_goto (tgt := 23) (pc := 936) E d_L_law_936 (by decide) ?_
                exact a_ls5 (ih (it + 1) _ _ _ (B + 300) _ (by rw [hx]; exact nI_5 it) (by omega) (by omega) (by simp only [rm_w, rm_p, rm_0]; omega) (by simp only [rm_w, rm_p, rm_0]; omega) (by omega) h5) rfl rfl rfl rfl rfl
              · exact absurd h3 c_328
      by_cases c_39_3 : xs (x).toNatClampNeg &&& 15 = 3
      · refine a_tableIn (tgt := 336) (off := 297) (pc := 39) E d_L_law_39 (by rw [c_39_3]; decide) (by rw [c_39_3]; decide) (by rw [c_39_3]; rfl) (by decide) ?_
        by_cases h0 : (xs (x + 1).toNatClampNeg) = 0
        · obtain ⟨M1, M2, hc1, hc2, h5⟩ := z_losing l D ar lay hJ 0 rfl rfl
          refine a_aload_n (pc := 336) E d_L_law_336 rfl rfl ?_
          refine a_aload_n (pc := 337) E d_L_law_337 rfl rfl ?_
          refine a_iload (pc := 338) E d_L_law_338 rfl ?_
          refine a_iconst (v := 1) (pc := 340) E d_L_law_340 (by decide) ?_
          refine a_iadd (pc := 341) E d_L_law_341 ?_
          refine r_S (pc := 342) E d_L_law_342 ⟨by assumption, hX, hbl, hbA⟩ ?_
          refine a_if_eq (tgt := 350) (pc := 343) E d_L_law_343 (by decide) (fun c_343 => ?_) (fun c_343 => ?_)
          · refine a_iconst (v := 0) (pc := 350) E d_L_law_350 (by decide) ?_
            refine b_VZ (pc := 351) (n := 1) E (hc1) ⟨by decide, by decide, ml_L_80, im_H_losing, sl_H_losing, ii_H, cd_H_losing, ⟨by decide, by decide⟩, by decide +kernel⟩ rfl (by decide) rfl rfl (by decide) rfl (Nat.le_of_ble_eq_true rfl) d_L_law_351 ⟨by show cB + 4 ≤ 601024; omega, by show sB + 24 ≤ 7293034; omega⟩ ?_
            refine a_aload_n (pc := 354) E d_L_law_354 rfl rfl ?_
            refine a_aload_n (pc := 355) E d_L_law_355 rfl rfl ?_
            refine a_iload (pc := 356) E d_L_law_356 rfl ?_
            refine a_iconst (v := 1) (pc := 358) E d_L_law_358 (by decide) ?_
            refine a_iadd (pc := 359) E d_L_law_359 ?_
            refine r_S (pc := 360) E d_L_law_360 ⟨by assumption, hX, hbl, hbA⟩ ?_
            refine a_if_eq (tgt := 368) (pc := 361) E d_L_law_361 (by decide) (fun c_361 => ?_) (fun c_361 => ?_)
            · refine a_iconst (v := 0) (pc := 368) E d_L_law_368 (by decide) ?_
              refine b_VZ (pc := 369) (n := 1) E (hc2) ⟨by decide, by decide, ml_L_84, im_M_losing, sl_M_losing, ii_M, cd_M_losing, ⟨by decide, by decide⟩, by decide +kernel⟩ rfl (by decide) rfl rfl (by decide) rfl (Nat.le_of_ble_eq_true rfl) d_L_law_369 ⟨by show cB + 4 + 4 ≤ 601024; omega, by show sB + 24 + 24 ≤ 7293034; omega⟩ ?_
              refine a_goto (tgt := 933) (pc := 372) E d_L_law_372 (by decide) ?_
              refine a_iinc (pc := 933) E d_L_law_933 rfl (by decide) ?_
              refine a_goto (tgt := 23) (pc := 936) E d_L_law_936 (by decide) ?_
              exact a_ls5 (ih (it + 1) _ _ _ (B + 300) _ (by rw [hx]; exact nI_5 it) (by omega) (by omega) (by simp only [rm_w, rm_p, rm_0]; omega) (by simp only [rm_w, rm_p, rm_0]; omega) (by omega) h5) rfl rfl rfl rfl rfl
            · exact absurd h0 c_361
          · exact absurd h0 c_343
        · obtain ⟨M1, M2, hc1, hc2, h5⟩ := z_losing l D ar lay hJ 1 rfl rfl
          refine a_aload_n (pc := 336) E d_L_law_336 rfl rfl ?_
          refine a_aload_n (pc := 337) E d_L_law_337 rfl rfl ?_
          refine a_iload (pc := 338) E d_L_law_338 rfl ?_
          refine a_iconst (v := 1) (pc := 340) E d_L_law_340 (by decide) ?_
          refine a_iadd (pc := 341) E d_L_law_341 ?_
          refine r_S (pc := 342) E d_L_law_342 ⟨by assumption, hX, hbl, hbA⟩ ?_
          refine a_if_eq (tgt := 350) (pc := 343) E d_L_law_343 (by decide) (fun c_343 => ?_) (fun c_343 => ?_)
          · exact absurd c_343 h0
          · refine a_iconst (v := 1) (pc := 346) E d_L_law_346 (by decide) ?_
            refine a_goto (tgt := 351) (pc := 347) E d_L_law_347 (by decide) ?_
            refine b_VZ (pc := 351) (n := 1) E (hc1) ⟨by decide, by decide, ml_L_80, im_H_losing, sl_H_losing, ii_H, cd_H_losing, ⟨by decide, by decide⟩, by decide +kernel⟩ rfl (by decide) rfl rfl (by decide) rfl (Nat.le_of_ble_eq_true rfl) d_L_law_351 ⟨by show cB + 4 ≤ 601024; omega, by show sB + 24 ≤ 7293034; omega⟩ ?_
            refine a_aload_n (pc := 354) E d_L_law_354 rfl rfl ?_
            refine a_aload_n (pc := 355) E d_L_law_355 rfl rfl ?_
            refine a_iload (pc := 356) E d_L_law_356 rfl ?_
            refine a_iconst (v := 1) (pc := 358) E d_L_law_358 (by decide) ?_
            refine a_iadd (pc := 359) E d_L_law_359 ?_
            refine r_S (pc := 360) E d_L_law_360 ⟨by assumption, hX, hbl, hbA⟩ ?_
            refine a_if_eq (tgt := 368) (pc := 361) E d_L_law_361 (by decide) (fun c_361 => ?_) (fun c_361 => ?_)
            · exact absurd c_361 h0
            · refine a_iconst (v := 1) (pc := 364) E d_L_law_364 (by decide) ?_
              refine a_goto (tgt := 369) (pc := 365) E d_L_law_365 (by decide) ?_
              refine b_VZ (pc := 369) (n := 1) E (hc2) ⟨by decide, by decide, ml_L_84, im_M_losing, sl_M_losing, ii_M, cd_M_losing, ⟨by decide, by decide⟩, by decide +kernel⟩ rfl (by decide) rfl rfl (by decide) rfl (Nat.le_of_ble_eq_true rfl) d_L_law_369 ⟨by show cB + 4 + 4 ≤ 601024; omega, by show sB + 24 + 24 ≤ 7293034; omega⟩ ?_
              refine a_goto (tgt := 933) (pc := 372) E d_L_law_372 (by decide) ?_
              refine a_iinc (pc := 933) E d_L_law_933 rfl (by decide) ?_
              refine a_goto (tgt := 23) (pc := 936) E d_L_law_936 (by decide) ?_
              exact a_ls5 (ih (it + 1) _ _ _ (B + 300) _ (by rw [hx]; exact nI_5 it) (by omega) (by omega) (by simp only [rm_w, rm_p, rm_0]; omega) (by simp only [rm_w, rm_p, rm_0]; omega) (by omega) h5) rfl rfl rfl rfl rfl
      by_cases c_39_4 : xs (x).toNatClampNeg &&& 15 = 4
      · refine a_tableIn (tgt := 375) (off := 336) (pc := 39) E d_L_law_39 (by rw [c_39_4]; decide) (by rw [c_39_4]; decide) (by rw [c_39_4]; rfl) (by decide) ?_
        obtain ⟨k, M1, v, M2, hc1, hc2, h3, h4, h5⟩ := z_turn l D ar lay hJ htr (by omega) (xs (x + 1).toNatClampNeg)
        refine a_aload_n (pc := 375) E d_L_law_375 rfl rfl ?_
        refine a_aload_n (pc := 376) E d_L_law_376 rfl rfl ?_
        refine a_iload (pc := 377) E d_L_law_377 rfl ?_
        refine a_iconst (v := 1) (pc := 379) E d_L_law_379 (by decide) ?_
        refine a_iadd (pc := 380) E d_L_law_380 ?_
        refine r_S (pc := 381) E d_L_law_381 ⟨by assumption, hX, hbl, hbA⟩ ?_
        refine a_aload_n (pc := 382) E d_L_law_382 rfl rfl ?_
        refine b_SW (pc := 383) (n := 3) E (hc1) ⟨by decide, by decide, ml_L_85, ss_L_turn, ii_L, ⟨by decide, by decide⟩, by decide +kernel⟩ cw_L_turn rfl (by decide) rfl (Nat.le_of_ble_eq_true rfl) d_L_law_383 ⟨by show cB + 4 ≤ 601024; omega, by show sB + 24 ≤ 7293034; omega⟩ ?_
        refine a_istore (pc := 386) E d_L_law_386 (by decide) ?_
        refine a_aload_n (pc := 388) E d_L_law_388 rfl rfl ?_
        refine a_aload_n (pc := 389) E d_L_law_389 rfl rfl ?_
        refine a_iload (pc := 390) E d_L_law_390 rfl ?_
        refine a_iconst (v := 1) (pc := 392) E d_L_law_392 (by decide) ?_
        refine a_iadd (pc := 393) E d_L_law_393 ?_
        refine r_S (pc := 394) E d_L_law_394 ⟨by assumption, hX, hbl, hbA⟩ ?_
        refine b_VI (pc := 395) (n := 1) E (hc2) ⟨by decide, by decide, ml_L_87, im_M_turn, sl_M_turn, ii_M, cd_M_turn, ⟨by decide, by decide⟩, by decide +kernel⟩ rfl (by decide) rfl rfl (by decide) rfl (Nat.le_of_ble_eq_true rfl) d_L_law_395 ⟨by show cB + 4 + 4 ≤ 601024; omega, by show sB + 24 + 24 ≤ 7293034; omega⟩ ?_
        refine a_istore (pc := 398) E d_L_law_398 (by decide) ?_
        refine a_aload_n (pc := 400) E d_L_law_400 rfl rfl ?_
        refine b_VI (pc := 401) (n := 0) E (c_M_thrown l D ar lay _) ⟨by decide, by decide, ml_L_68, im_M_thrown, sl_M_thrown, ii_M, cd_M_thrown, ⟨by decide, by decide⟩, by decide +kernel⟩ rfl (by decide) rfl rfl (by decide) rfl (Nat.le_of_ble_eq_true rfl) d_L_law_401 ⟨by show cB + 4 + 4 + 0 ≤ 601024; omega, by show sB + 24 + 24 + 0 ≤ 7293034; omega⟩ ?_
        refine a_iload (pc := 404) E d_L_law_404 rfl ?_
        refine a_icmp_eq (tgt := 411) (pc := 406) E d_L_law_406 (by decide) (fun c_406 => ?_) (fun c_406 => ?_)
        · refine a_iload (pc := 411) E d_L_law_411 rfl ?_
          refine a_if_ne (tgt := 428) (pc := 413) E d_L_law_413 (by decide) (fun c_413 => ?_) (fun c_413 => ?_)
          · refine a_goto (tgt := 933) (pc := 428) E d_L_law_428 (by decide) ?_
            refine a_iinc (pc := 933) E d_L_law_933 rfl (by decide) ?_
            refine a_goto (tgt := 23) (pc := 936) E d_L_law_936 (by decide) ?_
            exact a_ls5 (ih (it + 1) _ _ _ (B + 300) _ (by rw [hx]; exact nI_5 it) (by omega) (by omega) (by simp only [rm_w, rm_p, rm_0]; omega) (by simp only [rm_w, rm_p, rm_0]; omega) (by omega) h5) rfl rfl rfl rfl rfl
          · refine a_aload_n (pc := 416) E d_L_law_416 rfl rfl ?_
            refine a_iconst (v := 0) (pc := 417) E d_L_law_417 (by decide) ?_
            refine r_40 (pc := 418) E d_L_law_418 (ix_of (by decide) (by decide)) ?_
            refine a_iload (pc := 419) E d_L_law_419 rfl ?_
            refine a_i2l (pc := 421) E d_L_law_421 ?_
            refine a_lcmp (pc := 422) E d_L_law_422 (fun r_422 e_422 => ?_)
            refine a_if_eq (tgt := 428) (pc := 423) E d_L_law_423 (by decide) (fun c_423 => ?_) (fun c_423 => ?_)
            · refine a_goto (tgt := 933) (pc := 428) E d_L_law_428 (by decide) ?_
              refine a_iinc (pc := 933) E d_L_law_933 rfl (by decide) ?_
              refine a_goto (tgt := 23) (pc := 936) E d_L_law_936 (by decide) ?_
              exact a_ls5 (ih (it + 1) _ _ _ (B + 300) _ (by rw [hx]; exact nI_5 it) (by omega) (by omega) (by simp only [rm_w, rm_p, rm_0]; omega) (by simp only [rm_w, rm_p, rm_0]; omega) (by omega) h5) rfl rfl rfl rfl rfl
            · exact absurd (e_422.mpr (congrArg Int32.toInt64 (h4 c_413))) c_423
        · exact absurd h3 c_406
      by_cases c_39_5 : xs (x).toNatClampNeg &&& 15 = 5
      · refine a_tableIn (tgt := 431) (off := 392) (pc := 39) E d_L_law_39 (by rw [c_39_5]; decide) (by rw [c_39_5]; decide) (by rw [c_39_5]; rfl) (by decide) ?_
        obtain ⟨k, M1, v, M2, hc1, hc2, h3, h4, h5⟩ := z_run l D ar lay hJ htr (by omega) (xs (x + 1).toNatClampNeg)
        refine a_aload_n (pc := 431) E d_L_law_431 rfl rfl ?_
        refine a_aload_n (pc := 432) E d_L_law_432 rfl rfl ?_
        refine a_iload (pc := 433) E d_L_law_433 rfl ?_
        refine a_iconst (v := 1) (pc := 435) E d_L_law_435 (by decide) ?_
        refine a_iadd (pc := 436) E d_L_law_436 ?_
        refine r_S (pc := 437) E d_L_law_437 ⟨by assumption, hX, hbl, hbA⟩ ?_
        refine a_aload_n (pc := 438) E d_L_law_438 rfl rfl ?_
        refine b_SW (pc := 439) (n := 3) E (hc1) ⟨by decide, by decide, ml_L_88, ss_L_run, ii_L, ⟨by decide, by decide⟩, by decide +kernel⟩ cw_L_run rfl (by decide) rfl (Nat.le_of_ble_eq_true rfl) d_L_law_439 ⟨by show cB + 4 ≤ 601024; omega, by show sB + 24 ≤ 7293034; omega⟩ ?_
        refine a_istore (pc := 442) E d_L_law_442 (by decide) ?_
        refine a_aload_n (pc := 444) E d_L_law_444 rfl rfl ?_
        refine a_aload_n (pc := 445) E d_L_law_445 rfl rfl ?_
        refine a_iload (pc := 446) E d_L_law_446 rfl ?_
        refine a_iconst (v := 1) (pc := 448) E d_L_law_448 (by decide) ?_
        refine a_iadd (pc := 449) E d_L_law_449 ?_
        refine r_S (pc := 450) E d_L_law_450 ⟨by assumption, hX, hbl, hbA⟩ ?_
        refine b_VI (pc := 451) (n := 1) E (hc2) ⟨by decide, by decide, ml_L_90, im_M_run, sl_M_run, ii_M, cd_M_run, ⟨by decide, by decide⟩, by decide +kernel⟩ rfl (by decide) rfl rfl (by decide) rfl (Nat.le_of_ble_eq_true rfl) d_L_law_451 ⟨by show cB + 4 + 4 ≤ 601024; omega, by show sB + 24 + 24 ≤ 7293034; omega⟩ ?_
        refine a_istore (pc := 454) E d_L_law_454 (by decide) ?_
        refine a_aload_n (pc := 456) E d_L_law_456 rfl rfl ?_
        refine b_VI (pc := 457) (n := 0) E (c_M_thrown l D ar lay _) ⟨by decide, by decide, ml_L_68, im_M_thrown, sl_M_thrown, ii_M, cd_M_thrown, ⟨by decide, by decide⟩, by decide +kernel⟩ rfl (by decide) rfl rfl (by decide) rfl (Nat.le_of_ble_eq_true rfl) d_L_law_457 ⟨by show cB + 4 + 4 + 0 ≤ 601024; omega, by show sB + 24 + 24 + 0 ≤ 7293034; omega⟩ ?_
        refine a_iload (pc := 460) E d_L_law_460 rfl ?_
        refine a_icmp_eq (tgt := 467) (pc := 462) E d_L_law_462 (by decide) (fun c_462 => ?_) (fun c_462 => ?_)
        · refine a_iload (pc := 467) E d_L_law_467 rfl ?_
          refine a_if_ne (tgt := 484) (pc := 469) E d_L_law_469 (by decide) (fun c_469 => ?_) (fun c_469 => ?_)
          · refine a_goto (tgt := 933) (pc := 484) E d_L_law_484 (by decide) ?_
            refine a_iinc (pc := 933) E d_L_law_933 rfl (by decide) ?_
            refine a_goto (tgt := 23) (pc := 936) E d_L_law_936 (by decide) ?_
            exact a_ls5 (ih (it + 1) _ _ _ (B + 300) _ (by rw [hx]; exact nI_5 it) (by omega) (by omega) (by simp only [rm_w, rm_p, rm_0]; omega) (by simp only [rm_w, rm_p, rm_0]; omega) (by omega) h5) rfl rfl rfl rfl rfl
          · refine a_aload_n (pc := 472) E d_L_law_472 rfl rfl ?_
            refine a_iconst (v := 0) (pc := 473) E d_L_law_473 (by decide) ?_
            refine r_40 (pc := 474) E d_L_law_474 (ix_of (by decide) (by decide)) ?_
            refine a_iload (pc := 475) E d_L_law_475 rfl ?_
            refine a_i2l (pc := 477) E d_L_law_477 ?_
            refine a_lcmp (pc := 478) E d_L_law_478 (fun r_478 e_478 => ?_)
            refine a_if_eq (tgt := 484) (pc := 479) E d_L_law_479 (by decide) (fun c_479 => ?_) (fun c_479 => ?_)
            · refine a_goto (tgt := 933) (pc := 484) E d_L_law_484 (by decide) ?_
              refine a_iinc (pc := 933) E d_L_law_933 rfl (by decide) ?_
              refine a_goto (tgt := 23) (pc := 936) E d_L_law_936 (by decide) ?_
              exact a_ls5 (ih (it + 1) _ _ _ (B + 300) _ (by rw [hx]; exact nI_5 it) (by omega) (by omega) (by simp only [rm_w, rm_p, rm_0]; omega) (by simp only [rm_w, rm_p, rm_0]; omega) (by omega) h5) rfl rfl rfl rfl rfl
            · exact absurd (e_478.mpr (congrArg Int32.toInt64 (h4 c_469))) c_479
        · exact absurd h3 c_462
      by_cases c_39_6 : xs (x).toNatClampNeg &&& 15 = 6
      · refine a_tableIn (tgt := 487) (off := 448) (pc := 39) E d_L_law_39 (by rw [c_39_6]; decide) (by rw [c_39_6]; decide) (by rw [c_39_6]; rfl) (by decide) ?_
        obtain ⟨k, M1, v, M2, hc1, hc2, h3, h4, h5⟩ := z_again l D ar lay hJ htr (xs (x + 1).toNatClampNeg)
        refine a_aload_n (pc := 487) E d_L_law_487 rfl rfl ?_
        refine a_aload_n (pc := 488) E d_L_law_488 rfl rfl ?_
        refine a_iload (pc := 489) E d_L_law_489 rfl ?_
        refine a_iconst (v := 1) (pc := 491) E d_L_law_491 (by decide) ?_
        refine a_iadd (pc := 492) E d_L_law_492 ?_
        refine r_S (pc := 493) E d_L_law_493 ⟨by assumption, hX, hbl, hbA⟩ ?_
        refine a_aload_n (pc := 494) E d_L_law_494 rfl rfl ?_
        refine b_SW (pc := 495) (n := 3) E (hc1) ⟨by decide, by decide, ml_L_91, ss_L_again, ii_L, ⟨by decide, by decide⟩, by decide +kernel⟩ cw_L_again rfl (by decide) rfl (Nat.le_of_ble_eq_true rfl) d_L_law_495 ⟨by show cB + 4 ≤ 601024; omega, by show sB + 24 ≤ 7293034; omega⟩ ?_
        refine a_istore (pc := 498) E d_L_law_498 (by decide) ?_
        refine a_aload_n (pc := 500) E d_L_law_500 rfl rfl ?_
        refine a_aload_n (pc := 501) E d_L_law_501 rfl rfl ?_
        refine a_iload (pc := 502) E d_L_law_502 rfl ?_
        refine a_iconst (v := 1) (pc := 504) E d_L_law_504 (by decide) ?_
        refine a_iadd (pc := 505) E d_L_law_505 ?_
        refine r_S (pc := 506) E d_L_law_506 ⟨by assumption, hX, hbl, hbA⟩ ?_
        refine b_VI (pc := 507) (n := 1) E (hc2) ⟨by decide, by decide, ml_L_93, im_M_again, sl_M_again, ii_M, cd_M_again, ⟨by decide, by decide⟩, by decide +kernel⟩ rfl (by decide) rfl rfl (by decide) rfl (Nat.le_of_ble_eq_true rfl) d_L_law_507 ⟨by show cB + 4 + 4 ≤ 601024; omega, by show sB + 24 + 24 ≤ 7293034; omega⟩ ?_
        refine a_istore (pc := 510) E d_L_law_510 (by decide) ?_
        refine a_aload_n (pc := 512) E d_L_law_512 rfl rfl ?_
        refine b_VI (pc := 513) (n := 0) E (c_M_thrown l D ar lay _) ⟨by decide, by decide, ml_L_68, im_M_thrown, sl_M_thrown, ii_M, cd_M_thrown, ⟨by decide, by decide⟩, by decide +kernel⟩ rfl (by decide) rfl rfl (by decide) rfl (Nat.le_of_ble_eq_true rfl) d_L_law_513 ⟨by show cB + 4 + 4 + 0 ≤ 601024; omega, by show sB + 24 + 24 + 0 ≤ 7293034; omega⟩ ?_
        refine a_iload (pc := 516) E d_L_law_516 rfl ?_
        refine a_icmp_eq (tgt := 523) (pc := 518) E d_L_law_518 (by decide) (fun c_518 => ?_) (fun c_518 => ?_)
        · refine a_iload (pc := 523) E d_L_law_523 rfl ?_
          refine a_if_ne (tgt := 540) (pc := 525) E d_L_law_525 (by decide) (fun c_525 => ?_) (fun c_525 => ?_)
          · refine a_goto (tgt := 933) (pc := 540) E d_L_law_540 (by decide) ?_
            refine a_iinc (pc := 933) E d_L_law_933 rfl (by decide) ?_
            refine a_goto (tgt := 23) (pc := 936) E d_L_law_936 (by decide) ?_
            exact a_ls5 (ih (it + 1) _ _ _ (B + 300) _ (by rw [hx]; exact nI_5 it) (by omega) (by omega) (by simp only [rm_w, rm_p, rm_0]; omega) (by simp only [rm_w, rm_p, rm_0]; omega) (by omega) h5) rfl rfl rfl rfl rfl
          · refine a_aload_n (pc := 528) E d_L_law_528 rfl rfl ?_
            refine a_iconst (v := 0) (pc := 529) E d_L_law_529 (by decide) ?_
            refine r_40 (pc := 530) E d_L_law_530 (ix_of (by decide) (by decide)) ?_
            refine a_iload (pc := 531) E d_L_law_531 rfl ?_
            refine a_i2l (pc := 533) E d_L_law_533 ?_
            refine a_lcmp (pc := 534) E d_L_law_534 (fun r_534 e_534 => ?_)
            refine a_if_eq (tgt := 540) (pc := 535) E d_L_law_535 (by decide) (fun c_535 => ?_) (fun c_535 => ?_)
            · refine a_goto (tgt := 933) (pc := 540) E d_L_law_540 (by decide) ?_
              refine a_iinc (pc := 933) E d_L_law_933 rfl (by decide) ?_
              refine a_goto (tgt := 23) (pc := 936) E d_L_law_936 (by decide) ?_
              exact a_ls5 (ih (it + 1) _ _ _ (B + 300) _ (by rw [hx]; exact nI_5 it) (by omega) (by omega) (by simp only [rm_w, rm_p, rm_0]; omega) (by simp only [rm_w, rm_p, rm_0]; omega) (by omega) h5) rfl rfl rfl rfl rfl
            · exact absurd (e_534.mpr (congrArg Int32.toInt64 (h4 c_525))) c_535
        · exact absurd h3 c_518
      by_cases c_39_7 : xs (x).toNatClampNeg &&& 15 = 7
      · refine a_tableIn (tgt := 543) (off := 504) (pc := 39) E d_L_law_39 (by rw [c_39_7]; decide) (by rw [c_39_7]; decide) (by rw [c_39_7]; rfl) (by decide) ?_
        obtain ⟨k, M1, v, M2, hc1, hc2, h3, h4, h5⟩ := z_interrupt l D ar lay hJ htr (xs (x + 1).toNatClampNeg)
        refine a_aload_n (pc := 543) E d_L_law_543 rfl rfl ?_
        refine a_aload_n (pc := 544) E d_L_law_544 rfl rfl ?_
        refine a_iload (pc := 545) E d_L_law_545 rfl ?_
        refine a_iconst (v := 1) (pc := 547) E d_L_law_547 (by decide) ?_
        refine a_iadd (pc := 548) E d_L_law_548 ?_
        refine r_S (pc := 549) E d_L_law_549 ⟨by assumption, hX, hbl, hbA⟩ ?_
        refine a_aload_n (pc := 550) E d_L_law_550 rfl rfl ?_
        refine b_SW (pc := 551) (n := 3) E (hc1) ⟨by decide, by decide, ml_L_94, ss_L_interrupt, ii_L, ⟨by decide, by decide⟩, by decide +kernel⟩ cw_L_interrupt rfl (by decide) rfl (Nat.le_of_ble_eq_true rfl) d_L_law_551 ⟨by show cB + 4 ≤ 601024; omega, by show sB + 24 ≤ 7293034; omega⟩ ?_
        refine a_istore (pc := 554) E d_L_law_554 (by decide) ?_
        refine a_aload_n (pc := 556) E d_L_law_556 rfl rfl ?_
        refine a_aload_n (pc := 557) E d_L_law_557 rfl rfl ?_
        refine a_iload (pc := 558) E d_L_law_558 rfl ?_
        refine a_iconst (v := 1) (pc := 560) E d_L_law_560 (by decide) ?_
        refine a_iadd (pc := 561) E d_L_law_561 ?_
        refine r_S (pc := 562) E d_L_law_562 ⟨by assumption, hX, hbl, hbA⟩ ?_
        refine b_VI (pc := 563) (n := 1) E (hc2) ⟨by decide, by decide, ml_L_96, im_M_interrupt, sl_M_interrupt, ii_M, cd_M_interrupt, ⟨by decide, by decide⟩, by decide +kernel⟩ rfl (by decide) rfl rfl (by decide) rfl (Nat.le_of_ble_eq_true rfl) d_L_law_563 ⟨by show cB + 4 + 4 ≤ 601024; omega, by show sB + 24 + 24 ≤ 7293034; omega⟩ ?_
        refine a_istore (pc := 566) E d_L_law_566 (by decide) ?_
        refine a_aload_n (pc := 568) E d_L_law_568 rfl rfl ?_
        refine b_VI (pc := 569) (n := 0) E (c_M_thrown l D ar lay _) ⟨by decide, by decide, ml_L_68, im_M_thrown, sl_M_thrown, ii_M, cd_M_thrown, ⟨by decide, by decide⟩, by decide +kernel⟩ rfl (by decide) rfl rfl (by decide) rfl (Nat.le_of_ble_eq_true rfl) d_L_law_569 ⟨by show cB + 4 + 4 + 0 ≤ 601024; omega, by show sB + 24 + 24 + 0 ≤ 7293034; omega⟩ ?_
        refine a_iload (pc := 572) E d_L_law_572 rfl ?_
        refine a_icmp_eq (tgt := 579) (pc := 574) E d_L_law_574 (by decide) (fun c_574 => ?_) (fun c_574 => ?_)
        · refine a_iload (pc := 579) E d_L_law_579 rfl ?_
          refine a_if_ne (tgt := 596) (pc := 581) E d_L_law_581 (by decide) (fun c_581 => ?_) (fun c_581 => ?_)
          · refine a_goto (tgt := 933) (pc := 596) E d_L_law_596 (by decide) ?_
            refine a_iinc (pc := 933) E d_L_law_933 rfl (by decide) ?_
            refine a_goto (tgt := 23) (pc := 936) E d_L_law_936 (by decide) ?_
            exact a_ls5 (ih (it + 1) _ _ _ (B + 300) _ (by rw [hx]; exact nI_5 it) (by omega) (by omega) (by simp only [rm_w, rm_p, rm_0]; omega) (by simp only [rm_w, rm_p, rm_0]; omega) (by omega) h5) rfl rfl rfl rfl rfl
          · refine a_aload_n (pc := 584) E d_L_law_584 rfl rfl ?_
            refine a_iconst (v := 0) (pc := 585) E d_L_law_585 (by decide) ?_
            refine r_40 (pc := 586) E d_L_law_586 (ix_of (by decide) (by decide)) ?_
            refine a_iload (pc := 587) E d_L_law_587 rfl ?_
            refine a_i2l (pc := 589) E d_L_law_589 ?_
            refine a_lcmp (pc := 590) E d_L_law_590 (fun r_590 e_590 => ?_)
            refine a_if_eq (tgt := 596) (pc := 591) E d_L_law_591 (by decide) (fun c_591 => ?_) (fun c_591 => ?_)
            · refine a_goto (tgt := 933) (pc := 596) E d_L_law_596 (by decide) ?_
              refine a_iinc (pc := 933) E d_L_law_933 rfl (by decide) ?_
              refine a_goto (tgt := 23) (pc := 936) E d_L_law_936 (by decide) ?_
              exact a_ls5 (ih (it + 1) _ _ _ (B + 300) _ (by rw [hx]; exact nI_5 it) (by omega) (by omega) (by simp only [rm_w, rm_p, rm_0]; omega) (by simp only [rm_w, rm_p, rm_0]; omega) (by omega) h5) rfl rfl rfl rfl rfl
            · exact absurd (e_590.mpr (congrArg Int32.toInt64 (h4 c_581))) c_591
        · exact absurd h3 c_574
      by_cases c_39_8 : xs (x).toNatClampNeg &&& 15 = 8
      · refine a_tableIn (tgt := 599) (off := 560) (pc := 39) E d_L_law_39 (by rw [c_39_8]; decide) (by rw [c_39_8]; decide) (by rw [c_39_8]; rfl) (by decide) ?_
        obtain ⟨k, M1, M2, hc1, hc2, h3, h5⟩ := z_restart l D ar lay hJ htr (xs (x + 1).toNatClampNeg)
        refine a_aload_n (pc := 599) E d_L_law_599 rfl rfl ?_
        refine a_aload_n (pc := 600) E d_L_law_600 rfl rfl ?_
        refine a_iload (pc := 601) E d_L_law_601 rfl ?_
        refine a_iconst (v := 1) (pc := 603) E d_L_law_603 (by decide) ?_
        refine a_iadd (pc := 604) E d_L_law_604 ?_
        refine r_S (pc := 605) E d_L_law_605 ⟨by assumption, hX, hbl, hbA⟩ ?_
        refine b_SW (pc := 606) (n := 2) E (hc1) ⟨by decide, by decide, ml_L_97, ss_L_restart, ii_L, ⟨by decide, by decide⟩, by decide +kernel⟩ cw_L_restart rfl (by decide) rfl (Nat.le_of_ble_eq_true rfl) d_L_law_606 ⟨by show cB + 4 ≤ 601024; omega, by show sB + 24 ≤ 7293034; omega⟩ ?_
        refine a_istore (pc := 609) E d_L_law_609 (by decide) ?_
        refine a_aload_n (pc := 611) E d_L_law_611 rfl rfl ?_
        refine a_aload_n (pc := 612) E d_L_law_612 rfl rfl ?_
        refine a_iload (pc := 613) E d_L_law_613 rfl ?_
        refine a_iconst (v := 1) (pc := 615) E d_L_law_615 (by decide) ?_
        refine a_iadd (pc := 616) E d_L_law_616 ?_
        refine r_S (pc := 617) E d_L_law_617 ⟨by assumption, hX, hbl, hbA⟩ ?_
        refine b_VZ (pc := 618) (n := 1) E (hc2) ⟨by decide, by decide, ml_L_100, im_M_restart, sl_M_restart, ii_M, cd_M_restart, ⟨by decide, by decide⟩, by decide +kernel⟩ rfl (by decide) rfl rfl (by decide) rfl (Nat.le_of_ble_eq_true rfl) d_L_law_618 ⟨by show cB + 4 + 4 ≤ 601024; omega, by show sB + 24 + 24 ≤ 7293034; omega⟩ ?_
        refine a_aload_n (pc := 621) E d_L_law_621 rfl rfl ?_
        refine b_VI (pc := 622) (n := 0) E (c_M_thrown l D ar lay _) ⟨by decide, by decide, ml_L_68, im_M_thrown, sl_M_thrown, ii_M, cd_M_thrown, ⟨by decide, by decide⟩, by decide +kernel⟩ rfl (by decide) rfl rfl (by decide) rfl (Nat.le_of_ble_eq_true rfl) d_L_law_622 ⟨by show cB + 4 + 4 + 0 ≤ 601024; omega, by show sB + 24 + 24 + 0 ≤ 7293034; omega⟩ ?_
        refine a_iload (pc := 625) E d_L_law_625 rfl ?_
        refine a_icmp_eq (tgt := 632) (pc := 627) E d_L_law_627 (by decide) (fun c_627 => ?_) (fun c_627 => ?_)
        · refine a_goto (tgt := 933) (pc := 632) E d_L_law_632 (by decide) ?_
          refine a_iinc (pc := 933) E d_L_law_933 rfl (by decide) ?_
          refine a_goto (tgt := 23) (pc := 936) E d_L_law_936 (by decide) ?_
          exact a_ls5 (ih (it + 1) _ _ _ (B + 300) _ (by rw [hx]; exact nI_5 it) (by omega) (by omega) (by simp only [rm_w, rm_p, rm_0]; omega) (by simp only [rm_w, rm_p, rm_0]; omega) (by omega) h5) rfl rfl rfl rfl rfl
        · exact absurd h3 c_627
      by_cases c_39_9 : xs (x).toNatClampNeg &&& 15 = 9
      · refine a_tableIn (tgt := 635) (off := 596) (pc := 39) E d_L_law_39 (by rw [c_39_9]; decide) (by rw [c_39_9]; decide) (by rw [c_39_9]; rfl) (by decide) ?_
        obtain ⟨w, M1, v, M2, hc1, hc2, h3, h5⟩ := z_close l D ar lay hJ
        refine a_aload_n (pc := 635) E d_L_law_635 rfl rfl ?_
        refine b_VI (pc := 636) (n := 0) E (hc1) ⟨by decide, by decide, ml_L_101, im_H_close, sl_H_close, ii_H, cd_H_close, ⟨by decide, by decide⟩, by decide +kernel⟩ rfl (by decide) rfl rfl (by decide) rfl (Nat.le_of_ble_eq_true rfl) d_L_law_636 ⟨by show cB + 4 ≤ 601024; omega, by show sB + 24 ≤ 7293034; omega⟩ ?_
        refine a_aload_n (pc := 639) E d_L_law_639 rfl rfl ?_
        refine b_VI (pc := 640) (n := 0) E (hc2) ⟨by decide, by decide, ml_L_104, im_M_close, sl_M_close, ii_M, cd_M_close, ⟨by decide, by decide⟩, by decide +kernel⟩ rfl (by decide) rfl rfl (by decide) rfl (Nat.le_of_ble_eq_true rfl) d_L_law_640 ⟨by show cB + 4 + 4 ≤ 601024; omega, by show sB + 24 + 24 ≤ 7293034; omega⟩ ?_
        refine a_icmp_eq (tgt := 933) (pc := 643) E d_L_law_643 (by decide) (fun c_643 => ?_) (fun c_643 => ?_)
        · refine a_iinc (pc := 933) E d_L_law_933 rfl (by decide) ?_
          refine a_goto (tgt := 23) (pc := 936) E d_L_law_936 (by decide) ?_
          exact a_ls5 (ih (it + 1) _ _ _ (B + 300) _ (by rw [hx]; exact nI_5 it) (by omega) (by omega) (by simp only [rm_w, rm_p, rm_0]; omega) (by simp only [rm_w, rm_p, rm_0]; omega) (by omega) h5) rfl rfl rfl rfl rfl
        · exact absurd h3.symm c_643
      by_cases c_39_10 : xs (x).toNatClampNeg &&& 15 = 10
      · refine a_tableIn (tgt := 648) (off := 609) (pc := 39) E d_L_law_39 (by rw [c_39_10]; decide) (by rw [c_39_10]; decide) (by rw [c_39_10]; rfl) (by decide) ?_
        obtain ⟨k, M1, v, M2, hc1, hc2, h3, h4, h5⟩ := z_log l D ar lay hJ htr (xs (x + 1).toNatClampNeg)
        refine a_aload_n (pc := 648) E d_L_law_648 rfl rfl ?_
        refine a_aload_n (pc := 649) E d_L_law_649 rfl rfl ?_
        refine a_iload (pc := 650) E d_L_law_650 rfl ?_
        refine a_iconst (v := 1) (pc := 652) E d_L_law_652 (by decide) ?_
        refine a_iadd (pc := 653) E d_L_law_653 ?_
        refine r_S (pc := 654) E d_L_law_654 ⟨by assumption, hX, hbl, hbA⟩ ?_
        refine a_aload_n (pc := 655) E d_L_law_655 rfl rfl ?_
        refine b_SW (pc := 656) (n := 3) E (hc1) ⟨by decide, by decide, ml_L_105, ss_L_log, ii_L, ⟨by decide, by decide⟩, by decide +kernel⟩ cw_L_log rfl (by decide) rfl (Nat.le_of_ble_eq_true rfl) d_L_law_656 ⟨by show cB + 4 ≤ 601024; omega, by show sB + 24 ≤ 7293034; omega⟩ ?_
        refine a_istore (pc := 659) E d_L_law_659 (by decide) ?_
        refine a_aload_n (pc := 661) E d_L_law_661 rfl rfl ?_
        refine a_aload_n (pc := 662) E d_L_law_662 rfl rfl ?_
        refine a_iload (pc := 663) E d_L_law_663 rfl ?_
        refine a_iconst (v := 1) (pc := 665) E d_L_law_665 (by decide) ?_
        refine a_iadd (pc := 666) E d_L_law_666 ?_
        refine r_S (pc := 667) E d_L_law_667 ⟨by assumption, hX, hbl, hbA⟩ ?_
        refine b_VI (pc := 668) (n := 1) E (hc2) ⟨by decide, by decide, ml_L_107, im_M_log, sl_M_log, ii_M, cd_M_log, ⟨by decide, by decide⟩, by decide +kernel⟩ rfl (by decide) rfl rfl (by decide) rfl (Nat.le_of_ble_eq_true rfl) d_L_law_668 ⟨by show cB + 4 + 4 ≤ 601024; omega, by show sB + 24 + 24 ≤ 7293034; omega⟩ ?_
        refine a_istore (pc := 671) E d_L_law_671 (by decide) ?_
        refine a_aload_n (pc := 673) E d_L_law_673 rfl rfl ?_
        refine b_VI (pc := 674) (n := 0) E (c_M_thrown l D ar lay _) ⟨by decide, by decide, ml_L_68, im_M_thrown, sl_M_thrown, ii_M, cd_M_thrown, ⟨by decide, by decide⟩, by decide +kernel⟩ rfl (by decide) rfl rfl (by decide) rfl (Nat.le_of_ble_eq_true rfl) d_L_law_674 ⟨by show cB + 4 + 4 + 0 ≤ 601024; omega, by show sB + 24 + 24 + 0 ≤ 7293034; omega⟩ ?_
        refine a_iload (pc := 677) E d_L_law_677 rfl ?_
        refine a_icmp_eq (tgt := 684) (pc := 679) E d_L_law_679 (by decide) (fun c_679 => ?_) (fun c_679 => ?_)
        · refine a_iload (pc := 684) E d_L_law_684 rfl ?_
          refine a_if_ne (tgt := 701) (pc := 686) E d_L_law_686 (by decide) (fun c_686 => ?_) (fun c_686 => ?_)
          · refine a_goto (tgt := 933) (pc := 701) E d_L_law_701 (by decide) ?_
            refine a_iinc (pc := 933) E d_L_law_933 rfl (by decide) ?_
            refine a_goto (tgt := 23) (pc := 936) E d_L_law_936 (by decide) ?_
            exact a_ls5 (ih (it + 1) _ _ _ (B + 300) _ (by rw [hx]; exact nI_5 it) (by omega) (by omega) (by simp only [rm_w, rm_p, rm_0]; omega) (by simp only [rm_w, rm_p, rm_0]; omega) (by omega) h5) rfl rfl rfl rfl rfl
          · refine a_aload_n (pc := 689) E d_L_law_689 rfl rfl ?_
            refine a_iconst (v := 0) (pc := 690) E d_L_law_690 (by decide) ?_
            refine r_40 (pc := 691) E d_L_law_691 (ix_of (by decide) (by decide)) ?_
            refine a_iload (pc := 692) E d_L_law_692 rfl ?_
            refine a_i2l (pc := 694) E d_L_law_694 ?_
            refine a_lcmp (pc := 695) E d_L_law_695 (fun r_695 e_695 => ?_)
            refine a_if_eq (tgt := 701) (pc := 696) E d_L_law_696 (by decide) (fun c_696 => ?_) (fun c_696 => ?_)
            · refine a_goto (tgt := 933) (pc := 701) E d_L_law_701 (by decide) ?_
              refine a_iinc (pc := 933) E d_L_law_933 rfl (by decide) ?_
              refine a_goto (tgt := 23) (pc := 936) E d_L_law_936 (by decide) ?_
              exact a_ls5 (ih (it + 1) _ _ _ (B + 300) _ (by rw [hx]; exact nI_5 it) (by omega) (by omega) (by simp only [rm_w, rm_p, rm_0]; omega) (by simp only [rm_w, rm_p, rm_0]; omega) (by omega) h5) rfl rfl rfl rfl rfl
            · exact absurd (e_695.mpr (congrArg Int32.toInt64 (h4 c_686))) c_696
        · exact absurd h3 c_679
      by_cases c_39_11 : xs (x).toNatClampNeg &&& 15 = 11
      · refine a_tableIn (tgt := 704) (off := 665) (pc := 39) E d_L_law_39 (by rw [c_39_11]; decide) (by rw [c_39_11]; decide) (by rw [c_39_11]; rfl) (by decide) ?_
        obtain ⟨k, M1, v, M2, hc1, hc2, h3, h4, h5⟩ := z_place l D ar lay hJ htr (xs (x + 1).toNatClampNeg) (xs (x + 2).toNatClampNeg)
        refine a_aload_n (pc := 704) E d_L_law_704 rfl rfl ?_
        refine a_aload_n (pc := 705) E d_L_law_705 rfl rfl ?_
        refine a_iload (pc := 706) E d_L_law_706 rfl ?_
        refine a_iconst (v := 1) (pc := 708) E d_L_law_708 (by decide) ?_
        refine a_iadd (pc := 709) E d_L_law_709 ?_
        refine r_S (pc := 710) E d_L_law_710 ⟨by assumption, hX, hbl, hbA⟩ ?_
        refine a_aload_n (pc := 711) E d_L_law_711 rfl rfl ?_
        refine a_iload (pc := 712) E d_L_law_712 rfl ?_
        refine a_iconst (v := 2) (pc := 714) E d_L_law_714 (by decide) ?_
        refine a_iadd (pc := 715) E d_L_law_715 ?_
        refine r_S (pc := 716) E d_L_law_716 ⟨by assumption, hX, hbl, hbA⟩ ?_
        refine a_aload_n (pc := 717) E d_L_law_717 rfl rfl ?_
        refine b_SW (pc := 718) (n := 4) E (hc1) ⟨by decide, by decide, ml_L_108, ss_L_place, ii_L, ⟨by decide, by decide⟩, by decide +kernel⟩ cw_L_place rfl (by decide) rfl (Nat.le_of_ble_eq_true rfl) d_L_law_718 ⟨by show cB + 4 ≤ 601024; omega, by show sB + 24 ≤ 7293034; omega⟩ ?_
        refine a_istore (pc := 721) E d_L_law_721 (by decide) ?_
        refine a_aload_n (pc := 723) E d_L_law_723 rfl rfl ?_
        refine a_aload_n (pc := 724) E d_L_law_724 rfl rfl ?_
        refine a_iload (pc := 725) E d_L_law_725 rfl ?_
        refine a_iconst (v := 1) (pc := 727) E d_L_law_727 (by decide) ?_
        refine a_iadd (pc := 728) E d_L_law_728 ?_
        refine r_S (pc := 729) E d_L_law_729 ⟨by assumption, hX, hbl, hbA⟩ ?_
        refine a_aload_n (pc := 730) E d_L_law_730 rfl rfl ?_
        refine a_iload (pc := 731) E d_L_law_731 rfl ?_
        refine a_iconst (v := 2) (pc := 733) E d_L_law_733 (by decide) ?_
        refine a_iadd (pc := 734) E d_L_law_734 ?_
        refine r_S (pc := 735) E d_L_law_735 ⟨by assumption, hX, hbl, hbA⟩ ?_
        refine b_VI (pc := 736) (n := 2) E (hc2) ⟨by decide, by decide, ml_L_111, im_M_place, sl_M_place, ii_M, cd_M_place, ⟨by decide, by decide⟩, by decide +kernel⟩ rfl (by decide) rfl rfl (by decide) rfl (Nat.le_of_ble_eq_true rfl) d_L_law_736 ⟨by show cB + 4 + 4 ≤ 601024; omega, by show sB + 24 + 24 ≤ 7293034; omega⟩ ?_
        refine a_istore (pc := 739) E d_L_law_739 (by decide) ?_
        refine a_aload_n (pc := 741) E d_L_law_741 rfl rfl ?_
        refine b_VI (pc := 742) (n := 0) E (c_M_thrown l D ar lay _) ⟨by decide, by decide, ml_L_68, im_M_thrown, sl_M_thrown, ii_M, cd_M_thrown, ⟨by decide, by decide⟩, by decide +kernel⟩ rfl (by decide) rfl rfl (by decide) rfl (Nat.le_of_ble_eq_true rfl) d_L_law_742 ⟨by show cB + 4 + 4 + 0 ≤ 601024; omega, by show sB + 24 + 24 + 0 ≤ 7293034; omega⟩ ?_
        refine a_iload (pc := 745) E d_L_law_745 rfl ?_
        refine a_icmp_eq (tgt := 752) (pc := 747) E d_L_law_747 (by decide) (fun c_747 => ?_) (fun c_747 => ?_)
        · refine a_iload (pc := 752) E d_L_law_752 rfl ?_
          refine a_if_ne (tgt := 769) (pc := 754) E d_L_law_754 (by decide) (fun c_754 => ?_) (fun c_754 => ?_)
          · refine a_goto (tgt := 933) (pc := 769) E d_L_law_769 (by decide) ?_
            refine a_iinc (pc := 933) E d_L_law_933 rfl (by decide) ?_
            refine a_goto (tgt := 23) (pc := 936) E d_L_law_936 (by decide) ?_
            exact a_ls5 (ih (it + 1) _ _ _ (B + 300) _ (by rw [hx]; exact nI_5 it) (by omega) (by omega) (by simp only [rm_w, rm_p, rm_0]; omega) (by simp only [rm_w, rm_p, rm_0]; omega) (by omega) h5) rfl rfl rfl rfl rfl
          · refine a_aload_n (pc := 757) E d_L_law_757 rfl rfl ?_
            refine a_iconst (v := 0) (pc := 758) E d_L_law_758 (by decide) ?_
            refine r_40 (pc := 759) E d_L_law_759 (ix_of (by decide) (by decide)) ?_
            refine a_iload (pc := 760) E d_L_law_760 rfl ?_
            refine a_i2l (pc := 762) E d_L_law_762 ?_
            refine a_lcmp (pc := 763) E d_L_law_763 (fun r_763 e_763 => ?_)
            refine a_if_eq (tgt := 769) (pc := 764) E d_L_law_764 (by decide) (fun c_764 => ?_) (fun c_764 => ?_)
            · refine a_goto (tgt := 933) (pc := 769) E d_L_law_769 (by decide) ?_
              refine a_iinc (pc := 933) E d_L_law_933 rfl (by decide) ?_
              refine a_goto (tgt := 23) (pc := 936) E d_L_law_936 (by decide) ?_
              exact a_ls5 (ih (it + 1) _ _ _ (B + 300) _ (by rw [hx]; exact nI_5 it) (by omega) (by omega) (by simp only [rm_w, rm_p, rm_0]; omega) (by simp only [rm_w, rm_p, rm_0]; omega) (by omega) h5) rfl rfl rfl rfl rfl
            · exact absurd (e_763.mpr (congrArg Int32.toInt64 (h4 c_754))) c_764
        · exact absurd h3 c_747
      by_cases c_39_12 : xs (x).toNatClampNeg &&& 15 = 12
      · refine a_tableIn (tgt := 772) (off := 733) (pc := 39) E d_L_law_39 (by rw [c_39_12]; decide) (by rw [c_39_12]; decide) (by rw [c_39_12]; rfl) (by decide) ?_
        obtain ⟨k, M1, v, M2, hc1, hc2, h3, h4, h5⟩ := z_message l D ar lay hJ htr (xs (x + 1).toNatClampNeg) (xs (x + 2).toNatClampNeg)
        refine a_aload_n (pc := 772) E d_L_law_772 rfl rfl ?_
        refine a_aload_n (pc := 773) E d_L_law_773 rfl rfl ?_
        refine a_iload (pc := 774) E d_L_law_774 rfl ?_
        refine a_iconst (v := 1) (pc := 776) E d_L_law_776 (by decide) ?_
        refine a_iadd (pc := 777) E d_L_law_777 ?_
        refine r_S (pc := 778) E d_L_law_778 ⟨by assumption, hX, hbl, hbA⟩ ?_
        refine a_aload_n (pc := 779) E d_L_law_779 rfl rfl ?_
        refine a_iload (pc := 780) E d_L_law_780 rfl ?_
        refine a_iconst (v := 2) (pc := 782) E d_L_law_782 (by decide) ?_
        refine a_iadd (pc := 783) E d_L_law_783 ?_
        refine r_S (pc := 784) E d_L_law_784 ⟨by assumption, hX, hbl, hbA⟩ ?_
        refine a_aload_n (pc := 785) E d_L_law_785 rfl rfl ?_
        refine b_SW (pc := 786) (n := 4) E (hc1) ⟨by decide, by decide, ml_L_112, ss_L_message, ii_L, ⟨by decide, by decide⟩, by decide +kernel⟩ cw_L_message rfl (by decide) rfl (Nat.le_of_ble_eq_true rfl) d_L_law_786 ⟨by show cB + 4 ≤ 601024; omega, by show sB + 24 ≤ 7293034; omega⟩ ?_
        refine a_istore (pc := 789) E d_L_law_789 (by decide) ?_
        refine a_aload_n (pc := 791) E d_L_law_791 rfl rfl ?_
        refine a_aload_n (pc := 792) E d_L_law_792 rfl rfl ?_
        refine a_iload (pc := 793) E d_L_law_793 rfl ?_
        refine a_iconst (v := 1) (pc := 795) E d_L_law_795 (by decide) ?_
        refine a_iadd (pc := 796) E d_L_law_796 ?_
        refine r_S (pc := 797) E d_L_law_797 ⟨by assumption, hX, hbl, hbA⟩ ?_
        refine a_aload_n (pc := 798) E d_L_law_798 rfl rfl ?_
        refine a_iload (pc := 799) E d_L_law_799 rfl ?_
        refine a_iconst (v := 2) (pc := 801) E d_L_law_801 (by decide) ?_
        refine a_iadd (pc := 802) E d_L_law_802 ?_
        refine r_S (pc := 803) E d_L_law_803 ⟨by assumption, hX, hbl, hbA⟩ ?_
        refine b_VI (pc := 804) (n := 2) E (hc2) ⟨by decide, by decide, ml_L_114, im_M_message, sl_M_message, ii_M, cd_M_message, ⟨by decide, by decide⟩, by decide +kernel⟩ rfl (by decide) rfl rfl (by decide) rfl (Nat.le_of_ble_eq_true rfl) d_L_law_804 ⟨by show cB + 4 + 4 ≤ 601024; omega, by show sB + 24 + 24 ≤ 7293034; omega⟩ ?_
        refine a_istore (pc := 807) E d_L_law_807 (by decide) ?_
        refine a_aload_n (pc := 809) E d_L_law_809 rfl rfl ?_
        refine b_VI (pc := 810) (n := 0) E (c_M_thrown l D ar lay _) ⟨by decide, by decide, ml_L_68, im_M_thrown, sl_M_thrown, ii_M, cd_M_thrown, ⟨by decide, by decide⟩, by decide +kernel⟩ rfl (by decide) rfl rfl (by decide) rfl (Nat.le_of_ble_eq_true rfl) d_L_law_810 ⟨by show cB + 4 + 4 + 0 ≤ 601024; omega, by show sB + 24 + 24 + 0 ≤ 7293034; omega⟩ ?_
        refine a_iload (pc := 813) E d_L_law_813 rfl ?_
        refine a_icmp_eq (tgt := 820) (pc := 815) E d_L_law_815 (by decide) (fun c_815 => ?_) (fun c_815 => ?_)
        · refine a_iload (pc := 820) E d_L_law_820 rfl ?_
          refine a_if_ne (tgt := 837) (pc := 822) E d_L_law_822 (by decide) (fun c_822 => ?_) (fun c_822 => ?_)
          · refine a_goto (tgt := 933) (pc := 837) E d_L_law_837 (by decide) ?_
            refine a_iinc (pc := 933) E d_L_law_933 rfl (by decide) ?_
            refine a_goto (tgt := 23) (pc := 936) E d_L_law_936 (by decide) ?_
            exact a_ls5 (ih (it + 1) _ _ _ (B + 300) _ (by rw [hx]; exact nI_5 it) (by omega) (by omega) (by simp only [rm_w, rm_p, rm_0]; omega) (by simp only [rm_w, rm_p, rm_0]; omega) (by omega) h5) rfl rfl rfl rfl rfl
          · refine a_aload_n (pc := 825) E d_L_law_825 rfl rfl ?_
            refine a_iconst (v := 0) (pc := 826) E d_L_law_826 (by decide) ?_
            refine r_40 (pc := 827) E d_L_law_827 (ix_of (by decide) (by decide)) ?_
            refine a_iload (pc := 828) E d_L_law_828 rfl ?_
            refine a_i2l (pc := 830) E d_L_law_830 ?_
            refine a_lcmp (pc := 831) E d_L_law_831 (fun r_831 e_831 => ?_)
            refine a_if_eq (tgt := 837) (pc := 832) E d_L_law_832 (by decide) (fun c_832 => ?_) (fun c_832 => ?_)
            · refine a_goto (tgt := 933) (pc := 837) E d_L_law_837 (by decide) ?_
              refine a_iinc (pc := 933) E d_L_law_933 rfl (by decide) ?_
              refine a_goto (tgt := 23) (pc := 936) E d_L_law_936 (by decide) ?_
              exact a_ls5 (ih (it + 1) _ _ _ (B + 300) _ (by rw [hx]; exact nI_5 it) (by omega) (by omega) (by simp only [rm_w, rm_p, rm_0]; omega) (by simp only [rm_w, rm_p, rm_0]; omega) (by omega) h5) rfl rfl rfl rfl rfl
            · exact absurd (e_831.mpr (congrArg Int32.toInt64 (h4 c_822))) c_832
        · exact absurd h3 c_815
      by_cases c_39_13 : xs (x).toNatClampNeg &&& 15 = 13
      · refine a_tableIn (tgt := 840) (off := 801) (pc := 39) E d_L_law_39 (by rw [c_39_13]; decide) (by rw [c_39_13]; decide) (by rw [c_39_13]; rfl) (by decide) ?_
        obtain ⟨k, M1, v, M2, hc1, hc2, h3, h4, h5⟩ := z_told l D ar lay hJ htr (xs (x + 1).toNatClampNeg) (xs (x + 2).toNatClampNeg)
        refine a_aload_n (pc := 840) E d_L_law_840 rfl rfl ?_
        refine a_aload_n (pc := 841) E d_L_law_841 rfl rfl ?_
        refine a_iload (pc := 842) E d_L_law_842 rfl ?_
        refine a_iconst (v := 1) (pc := 844) E d_L_law_844 (by decide) ?_
        refine a_iadd (pc := 845) E d_L_law_845 ?_
        refine r_S (pc := 846) E d_L_law_846 ⟨by assumption, hX, hbl, hbA⟩ ?_
        refine a_aload_n (pc := 847) E d_L_law_847 rfl rfl ?_
        refine a_iload (pc := 848) E d_L_law_848 rfl ?_
        refine a_iconst (v := 2) (pc := 850) E d_L_law_850 (by decide) ?_
        refine a_iadd (pc := 851) E d_L_law_851 ?_
        refine r_S (pc := 852) E d_L_law_852 ⟨by assumption, hX, hbl, hbA⟩ ?_
        refine a_aload_n (pc := 853) E d_L_law_853 rfl rfl ?_
        refine b_SW (pc := 854) (n := 4) E (hc1) ⟨by decide, by decide, ml_L_115, ss_L_told, ii_L, ⟨by decide, by decide⟩, by decide +kernel⟩ cw_L_told rfl (by decide) rfl (Nat.le_of_ble_eq_true rfl) d_L_law_854 ⟨by show cB + 4 ≤ 601024; omega, by show sB + 24 ≤ 7293034; omega⟩ ?_
        refine a_istore (pc := 857) E d_L_law_857 (by decide) ?_
        refine a_aload_n (pc := 859) E d_L_law_859 rfl rfl ?_
        refine a_aload_n (pc := 860) E d_L_law_860 rfl rfl ?_
        refine a_iload (pc := 861) E d_L_law_861 rfl ?_
        refine a_iconst (v := 1) (pc := 863) E d_L_law_863 (by decide) ?_
        refine a_iadd (pc := 864) E d_L_law_864 ?_
        refine r_S (pc := 865) E d_L_law_865 ⟨by assumption, hX, hbl, hbA⟩ ?_
        refine a_aload_n (pc := 866) E d_L_law_866 rfl rfl ?_
        refine a_iload (pc := 867) E d_L_law_867 rfl ?_
        refine a_iconst (v := 2) (pc := 869) E d_L_law_869 (by decide) ?_
        refine a_iadd (pc := 870) E d_L_law_870 ?_
        refine r_S (pc := 871) E d_L_law_871 ⟨by assumption, hX, hbl, hbA⟩ ?_
        refine b_VI (pc := 872) (n := 2) E (hc2) ⟨by decide, by decide, ml_L_117, im_M_told, sl_M_told, ii_M, cd_M_told, ⟨by decide, by decide⟩, by decide +kernel⟩ rfl (by decide) rfl rfl (by decide) rfl (Nat.le_of_ble_eq_true rfl) d_L_law_872 ⟨by show cB + 4 + 4 ≤ 601024; omega, by show sB + 24 + 24 ≤ 7293034; omega⟩ ?_
        refine a_istore (pc := 875) E d_L_law_875 (by decide) ?_
        refine a_aload_n (pc := 877) E d_L_law_877 rfl rfl ?_
        refine b_VI (pc := 878) (n := 0) E (c_M_thrown l D ar lay _) ⟨by decide, by decide, ml_L_68, im_M_thrown, sl_M_thrown, ii_M, cd_M_thrown, ⟨by decide, by decide⟩, by decide +kernel⟩ rfl (by decide) rfl rfl (by decide) rfl (Nat.le_of_ble_eq_true rfl) d_L_law_878 ⟨by show cB + 4 + 4 + 0 ≤ 601024; omega, by show sB + 24 + 24 + 0 ≤ 7293034; omega⟩ ?_
        refine a_iload (pc := 881) E d_L_law_881 rfl ?_
        refine a_icmp_eq (tgt := 888) (pc := 883) E d_L_law_883 (by decide) (fun c_883 => ?_) (fun c_883 => ?_)
        · refine a_iload (pc := 888) E d_L_law_888 rfl ?_
          refine a_if_ne (tgt := 905) (pc := 890) E d_L_law_890 (by decide) (fun c_890 => ?_) (fun c_890 => ?_)
          · refine a_goto (tgt := 933) (pc := 905) E d_L_law_905 (by decide) ?_
            refine a_iinc (pc := 933) E d_L_law_933 rfl (by decide) ?_
            refine a_goto (tgt := 23) (pc := 936) E d_L_law_936 (by decide) ?_
            exact a_ls5 (ih (it + 1) _ _ _ (B + 300) _ (by rw [hx]; exact nI_5 it) (by omega) (by omega) (by simp only [rm_w, rm_p, rm_0]; omega) (by simp only [rm_w, rm_p, rm_0]; omega) (by omega) h5) rfl rfl rfl rfl rfl
          · refine a_aload_n (pc := 893) E d_L_law_893 rfl rfl ?_
            refine a_iconst (v := 0) (pc := 894) E d_L_law_894 (by decide) ?_
            refine r_40 (pc := 895) E d_L_law_895 (ix_of (by decide) (by decide)) ?_
            refine a_iload (pc := 896) E d_L_law_896 rfl ?_
            refine a_i2l (pc := 898) E d_L_law_898 ?_
            refine a_lcmp (pc := 899) E d_L_law_899 (fun r_899 e_899 => ?_)
            refine a_if_eq (tgt := 905) (pc := 900) E d_L_law_900 (by decide) (fun c_900 => ?_) (fun c_900 => ?_)
            · refine a_goto (tgt := 933) (pc := 905) E d_L_law_905 (by decide) ?_
              refine a_iinc (pc := 933) E d_L_law_933 rfl (by decide) ?_
              refine a_goto (tgt := 23) (pc := 936) E d_L_law_936 (by decide) ?_
              exact a_ls5 (ih (it + 1) _ _ _ (B + 300) _ (by rw [hx]; exact nI_5 it) (by omega) (by omega) (by simp only [rm_w, rm_p, rm_0]; omega) (by simp only [rm_w, rm_p, rm_0]; omega) (by omega) h5) rfl rfl rfl rfl rfl
            · exact absurd (e_899.mpr (congrArg Int32.toInt64 (h4 c_890))) c_900
        · exact absurd h3 c_883
      by_cases c_39_14 : xs (x).toNatClampNeg &&& 15 = 14
      · refine a_tableIn (tgt := 908) (off := 869) (pc := 39) E d_L_law_39 (by rw [c_39_14]; decide) (by rw [c_39_14]; decide) (by rw [c_39_14]; rfl) (by decide) ?_
        obtain ⟨w, v, M2, hc1, hc2, h3, h5⟩ := z_count l D ar lay hJ (xs (x + 1).toNatClampNeg)
        refine a_aload_n (pc := 908) E d_L_law_908 rfl rfl ?_
        refine a_aload_n (pc := 909) E d_L_law_909 rfl rfl ?_
        refine a_iload (pc := 910) E d_L_law_910 rfl ?_
        refine a_iconst (v := 1) (pc := 912) E d_L_law_912 (by decide) ?_
        refine a_iadd (pc := 913) E d_L_law_913 ?_
        refine r_S (pc := 914) E d_L_law_914 ⟨by assumption, hX, hbl, hbA⟩ ?_
        refine b_VI (pc := 915) (n := 1) E (hc1) ⟨by decide, by decide, ml_L_118, im_H_count, sl_H_count, ii_H, cd_H_count, ⟨by decide, by decide⟩, by decide +kernel⟩ rfl (by decide) rfl rfl (by decide) rfl (Nat.le_of_ble_eq_true rfl) d_L_law_915 ⟨by show cB + 4 ≤ 601024; omega, by show sB + 24 ≤ 7293034; omega⟩ ?_
        refine a_aload_n (pc := 918) E d_L_law_918 rfl rfl ?_
        refine a_aload_n (pc := 919) E d_L_law_919 rfl rfl ?_
        refine a_iload (pc := 920) E d_L_law_920 rfl ?_
        refine a_iconst (v := 1) (pc := 922) E d_L_law_922 (by decide) ?_
        refine a_iadd (pc := 923) E d_L_law_923 ?_
        refine r_S (pc := 924) E d_L_law_924 ⟨by assumption, hX, hbl, hbA⟩ ?_
        refine b_VI (pc := 925) (n := 1) E (hc2) ⟨by decide, by decide, ml_L_121, im_M_count, sl_M_count, ii_M, cd_M_count, ⟨by decide, by decide⟩, by decide +kernel⟩ rfl (by decide) rfl rfl (by decide) rfl (Nat.le_of_ble_eq_true rfl) d_L_law_925 ⟨by show cB + 4 + 4 ≤ 601024; omega, by show sB + 24 + 24 ≤ 7293034; omega⟩ ?_
        refine a_icmp_eq (tgt := 933) (pc := 928) E d_L_law_928 (by decide) (fun c_928 => ?_) (fun c_928 => ?_)
        · refine a_iinc (pc := 933) E d_L_law_933 rfl (by decide) ?_
          refine a_goto (tgt := 23) (pc := 936) E d_L_law_936 (by decide) ?_
          exact a_ls5 (ih (it + 1) _ _ _ (B + 300) _ (by rw [hx]; exact nI_5 it) (by omega) (by omega) (by simp only [rm_w, rm_p, rm_0]; omega) (by simp only [rm_w, rm_p, rm_0]; omega) (by omega) h5) rfl rfl rfl rfl rfl
        · exact absurd h3.symm c_928
      refine a_tableOut (tgt := 933) (pc := 39) E d_L_law_39 (sw_out15 c_39_0 c_39_1 c_39_2 c_39_3 c_39_4 c_39_5 c_39_6 c_39_7 c_39_8 c_39_9 c_39_10 c_39_11 c_39_12 c_39_13 c_39_14) (by decide) ?_
      refine a_iinc (pc := 933) E d_L_law_933 rfl (by decide) ?_
      refine a_goto (tgt := 23) (pc := 936) E d_L_law_936 (by decide) ?_
      exact a_ls5 (ih (it + 1) _ _ _ B _ (by rw [hx]; exact nI_5 it) (by omega) (by omega) (by omega) (by omega) (by omega) hJ) rfl rfl rfl rfl rfl
