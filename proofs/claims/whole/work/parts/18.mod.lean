def g_step2 (M : hm_M) (x w : Nat) : Nat := if M 23 0 x < M 23 0 w then x else if M 23 0 x = M 23 0 w then (if nI x ≤ nI w then w else x) else w
def g_next (M : hm_M) (x : Nat) : Int32 := if M 27 0 x = -1 then -1 else M 22 0 (M 27 0 x).toNatClampNeg
def g_ringL (M : hm_M) (k : Nat) : Nat → Nat → Int32 → Nat × Int32
  | 0, w, x => (w, x)
  | n + 1, w, x => if x = -1 then (w, x) else if x = nI k then (w, x) else g_ringL M k n (g_step2 M x.toNatClampNeg w) (g_next M x.toNatClampNeg)
def g_brkO (M : hm_M) (k : Nat) (r : Nat × Int32) : hm_M := if r.2 = nI k then hm_up (g_undo M r.1 0) 20 0 22 (M 20 0 22 + 1) else M
def g_brk (M : hm_M) (k : Nat) : hm_M := g_brkO M k (g_ringL M k 6 k (M 22 0 (M 27 0 k).toNatClampNeg))
theorem ab_hold {M : hm_M} (j : Nat) : ab M 2 0 j = M 22 0 j := by simp [ab]
theorem IvM.nextIn {M : hm_M} (h : IvM M) {x : Nat} (hx : x < 6) : g_next M x = -1 ∨ vp_in (g_next M x) 6 := by
  unfold g_next
  rcases h.wr hx with q | q
  · simp [q]
  · split
    · exact Or.inl rfl
    · have := h.C.hold (j := (M 27 0 x).toNatClampNeg) (by rw [nn_eq]; omega)
      rw [ab_hold] at this
      exact this.imp id (fun z => ix_of z.1 z.2)
theorem g_step2_lt {M : hm_M} {x w : Nat} (hx : x < 6) (hw : w < 6) : g_step2 M x w < 6 := by
  unfold g_step2
  split
  · exact hx
  · split
    · split
      · exact hw
      · exact hx
    · exact hw
theorem g_undo_20 {M : hm_M} {k : Nat} {st : Int32} {j : Nat} : g_undo M k st 20 0 j = M 20 0 j := by
  unfold g_undo
  rw [hm_up_fam (by decide), hm_up_fam (by decide), hm_up_fam (by decide), hm_up_fam (by decide), g_rel_ne _ _ _ _ 20 (by decide), g_tbL_ne _ _ (by decide) (by decide)]
theorem nI_m1 {k : Nat} (h : k < 2 ^ 31) : ¬ (-1 : Int32) = nI k := fun q => by
  have := congrArg Int32.toInt q
  rw [nI_toInt h] at this
  have e : (-1 : Int32).toInt = -1 := by decide
  omega
set_option maxHeartbeats 4000000 in
set_option maxRecDepth 100000 in
theorem c_M_breakRing (l : Launch) (D : va_G) (ar : Nat → ClassId) (lay : Nat → Nat → Nat) (M : hm_M) (k : Nat) (hk : k < 6) (hI : IvM M) (ha : vp_in (M 27 0 k) 8) : Ct l D ar lay y_M_breakRing rm_2 true [.ref (lay 20 0), .int (nI k)] M (.inl (none, g_brk M k)) := by
  refine Ct.of (cc := prog_5_method_13_code) (maxL := 5) (ret := none) (by decide) cd_M_breakRing (Nat.le_of_ble_eq_true rfl) ?_
  intro p e s m below meth c E hr hlk hno hH
  have hkk : vp_in (nI k) 6 := vp_in_nI hk (by decide)
  have ek : (nI k).toNatClampNeg = k := nI_clamp (by omega)
  obtain ⟨gR, hgR⟩ : ∃ z, z = g_ringL M k 6 k (M 22 0 (M 27 0 k).toNatClampNeg) := ⟨_, rfl⟩
  have hgB : g_brk M k = g_brkO M k gR := by rw [hgR]; rfl
  have loop : ∀ (n : Nat) (i w : Nat) (y x : Int32), i + n = 6 → y = nI i → w < 6 → (x = -1 ∨ vp_in x 6) → g_ringL M k n w x = gR → AW p l e rm_2 s m [(.ref (lay 20 0) : Value), (.int (nI k) : Value)].toArray below meth c D ar lay true 5 0 0 (MQX below (fun _ st o t => CQ D ar lay M s.heap.size true (.inl (none, g_brk M k)) st o t) [(.ref (lay 20 0) : Value), (.int (nI k) : Value)].toArray s rm_2.cells rm_2.slots (hw_A lay true s.heap.size)) 17 [(4, .int y), (3, .int x), (2, .int (nI w)), (0, .ref (lay 20 0)), (1, .int (nI k))] [] M := by
    intro n
    induction n with
    | zero =>
      intro i w y x hi hy hw0 hxr he
      have he : (w, x) = gR := he
      refine a_iload (pc := 17) E d_M_breakRing_17 rfl ?_
      refine a_bipush (v := 6) (pc := 19) E d_M_breakRing_19 (by decide) ?_
      refine a_icmp_ge (tgt := 103) (pc := 21) E d_M_breakRing_21 (by decide) (fun c_21 => ?_) (fun c_21 => ?_)
      · refine a_iload_n (pc := 103) E d_M_breakRing_103 rfl rfl ?_
        refine a_iload_n (pc := 104) E d_M_breakRing_104 rfl rfl ?_
        refine a_icmp_eq (tgt := 109) (pc := 105) E d_M_breakRing_105 (by decide) (fun c_105 => ?_) (fun c_105 => ?_)
        · have heq : (w, x).2 = nI k := c_105
          refine a_aload_n (pc := 109) E d_M_breakRing_109 rfl rfl ?_
          refine a_iload_n (pc := 110) E d_M_breakRing_110 rfl rfl ?_
          refine a_iconst (v := 0) (pc := 111) E d_M_breakRing_111 (by decide) ?_
          refine b_VZ (pc := 112) (n := 2) E (c_M_undo l D ar lay _ w 0 hw0 hI.C) ⟨by decide, by decide, ml_M_94, im_M_undo, sl_M_undo, ii_M, cd_M_undo, ⟨by decide, by decide⟩, by decide +kernel⟩ rfl (by decide) rfl rfl (by decide) rfl (Nat.le_of_ble_eq_true rfl) d_M_breakRing_112 (by decide) ?_
          refine a_aload_n (pc := 115) E d_M_breakRing_115 rfl rfl ?_
          refine a_dup (pc := 116) E d_M_breakRing_116 rfl ?_
          refine g_M_22 (pc := 117) E d_M_breakRing_117 fl_M_98 ?_
          refine a_iconst (v := 1) (pc := 120) E d_M_breakRing_120 (by decide) ?_
          refine a_iadd (pc := 121) E d_M_breakRing_121 ?_
          refine p_M_22 (pc := 122) E d_M_breakRing_122 fl_M_98 ?_
          exact a_vret (pc := 125) E hr hlk d_M_breakRing_125 (by decide) (by decide) (by decide) (by rw [hgB, ← he, g_brkO, if_pos heq]; simp [hm_up_at, g_undo_20])
        · have hne : ¬ (w, x).2 = nI k := c_105
          exact a_vret (pc := 108) E hr hlk d_M_breakRing_108 (by decide) (by decide) (by decide) (by rw [hgB, ← he, g_brkO, if_neg hne])
      · exact absurd (by rw [hy]; exact nI_le (a := 6) (b := i) (by omega) (by omega)) c_21
    | succ n ih =>
      intro i w y x hi hy hw0 hxr he
      by_cases hx1 : x = -1
      · subst hx1
        rw [g_ringL, if_pos rfl] at he
        refine a_iload (pc := 17) E d_M_breakRing_17 rfl ?_
        refine a_bipush (v := 6) (pc := 19) E d_M_breakRing_19 (by decide) ?_
        refine a_icmp_ge (tgt := 103) (pc := 21) E d_M_breakRing_21 (by decide) (fun c_21 => ?_) (fun c_21 => ?_)
        · exact absurd c_21 (by rw [hy]; exact nI_ge (a := i) (b := 6) (by omega) (by decide))
        · refine a_iload_n (pc := 24) E d_M_breakRing_24 rfl rfl ?_
          refine a_iconst (v := (-1)) (pc := 25) E d_M_breakRing_25 (by decide) ?_
          refine a_icmp_eq (tgt := 103) (pc := 26) E d_M_breakRing_26 (by decide) (fun c_26 => ?_) (fun c_26 => ?_)
          · refine a_iload_n (pc := 103) E d_M_breakRing_103 rfl rfl ?_
            refine a_iload_n (pc := 104) E d_M_breakRing_104 rfl rfl ?_
            refine a_icmp_eq (tgt := 109) (pc := 105) E d_M_breakRing_105 (by decide) (fun c_105 => ?_) (fun c_105 => ?_)
            · exact absurd c_105 (nI_m1 (by omega))
            · have hne : ¬ (w, (-1 : Int32)).2 = nI k := c_105
              exact a_vret (pc := 108) E hr hlk d_M_breakRing_108 (by decide) (by decide) (by decide) (by rw [hgB, ← he, g_brkO, if_neg hne])
          · exact absurd rfl c_26
      · obtain ⟨xk, hxk, rfl⟩ : ∃ xk, xk < 6 ∧ x = nI xk := vp_in_of (hxr.resolve_left hx1) (by decide)
        have hxi : vp_in (nI xk) 6 := vp_in_nI hxk (by decide)
        have hwi : vp_in (nI w) 6 := vp_in_nI hw0 (by decide)
        have exk : (nI xk).toNatClampNeg = xk := nI_clamp (by omega)
        have ewk : (nI w).toNatClampNeg = w := nI_clamp (by omega)
        have hwx : ¬ M 27 0 xk = -1 → vp_in (M 27 0 xk) 8 := fun q => by rcases hI.wr hxk with z | z; exact absurd z q; exact ix_of z.1 z.2
        have hnx := hI.nextIn hxk
        refine a_iload (pc := 17) E d_M_breakRing_17 rfl ?_
        refine a_bipush (v := 6) (pc := 19) E d_M_breakRing_19 (by decide) ?_
        refine a_icmp_ge (tgt := 103) (pc := 21) E d_M_breakRing_21 (by decide) (fun c_21 => ?_) (fun c_21 => ?_)
        · exact absurd c_21 (by rw [hy]; exact nI_ge (a := i) (b := 6) (by omega) (by decide))
        · refine a_iload_n (pc := 24) E d_M_breakRing_24 rfl rfl ?_
          refine a_iconst (v := (-1)) (pc := 25) E d_M_breakRing_25 (by decide) ?_
          refine a_icmp_eq (tgt := 103) (pc := 26) E d_M_breakRing_26 (by decide) (fun c_26 => ?_) (fun c_26 => ?_)
          · exact absurd c_26.symm (nI_m1 (by omega))
          · refine a_iload_n (pc := 29) E d_M_breakRing_29 rfl rfl ?_
            refine a_iload_n (pc := 30) E d_M_breakRing_30 rfl rfl ?_
            refine a_icmp_eq (tgt := 103) (pc := 31) E d_M_breakRing_31 (by decide) (fun c_31 => ?_) (fun c_31 => ?_)
            · rw [g_ringL, if_neg hx1, if_pos c_31] at he
              refine a_iload_n (pc := 103) E d_M_breakRing_103 rfl rfl ?_
              refine a_iload_n (pc := 104) E d_M_breakRing_104 rfl rfl ?_
              refine a_icmp_eq (tgt := 109) (pc := 105) E d_M_breakRing_105 (by decide) (fun c_105 => ?_) (fun c_105 => ?_)
              · have heq : (w, nI xk).2 = nI k := c_105
                refine a_aload_n (pc := 109) E d_M_breakRing_109 rfl rfl ?_
                refine a_iload_n (pc := 110) E d_M_breakRing_110 rfl rfl ?_
                refine a_iconst (v := 0) (pc := 111) E d_M_breakRing_111 (by decide) ?_
                refine b_VZ (pc := 112) (n := 2) E (c_M_undo l D ar lay _ w 0 hw0 hI.C) ⟨by decide, by decide, ml_M_94, im_M_undo, sl_M_undo, ii_M, cd_M_undo, ⟨by decide, by decide⟩, by decide +kernel⟩ rfl (by decide) rfl rfl (by decide) rfl (Nat.le_of_ble_eq_true rfl) d_M_breakRing_112 (by decide) ?_
                refine a_aload_n (pc := 115) E d_M_breakRing_115 rfl rfl ?_
                refine a_dup (pc := 116) E d_M_breakRing_116 rfl ?_
                refine g_M_22 (pc := 117) E d_M_breakRing_117 fl_M_98 ?_
                refine a_iconst (v := 1) (pc := 120) E d_M_breakRing_120 (by decide) ?_
                refine a_iadd (pc := 121) E d_M_breakRing_121 ?_
                refine p_M_22 (pc := 122) E d_M_breakRing_122 fl_M_98 ?_
                exact a_vret (pc := 125) E hr hlk d_M_breakRing_125 (by decide) (by decide) (by decide) (by rw [hgB, ← he, g_brkO, if_pos heq]; simp [hm_up_at, g_undo_20])
              · exact absurd c_31 c_105
            · refine a_aload_n (pc := 34) E d_M_breakRing_34 rfl rfl ?_
              refine g_M_4 (pc := 35) E d_M_breakRing_35 fl_M_16 ?_
              refine a_iload_n (pc := 38) E d_M_breakRing_38 rfl rfl ?_
              refine r_23 (pc := 39) E d_M_breakRing_39 hxi ?_
              refine a_aload_n (pc := 40) E d_M_breakRing_40 rfl rfl ?_
              refine g_M_4 (pc := 41) E d_M_breakRing_41 fl_M_16 ?_
              refine a_iload_n (pc := 44) E d_M_breakRing_44 rfl rfl ?_
              refine r_23 (pc := 45) E d_M_breakRing_45 hwi ?_
              refine a_icmp_lt (tgt := 69) (pc := 46) E d_M_breakRing_46 (by decide) (fun c_46 => ?_) (fun c_46 => ?_)
              · rw [exk, ewk] at c_46
                refine a_iload_n (pc := 69) E d_M_breakRing_69 rfl rfl ?_
                refine a_istore_n (pc := 70) E d_M_breakRing_70 rfl (by decide) ?_
                refine a_aload_n (pc := 71) E d_M_breakRing_71 rfl rfl ?_
                refine g_M_8 (pc := 72) E d_M_breakRing_72 fl_M_28 ?_
                refine a_iload_n (pc := 75) E d_M_breakRing_75 rfl rfl ?_
                refine r_27 (pc := 76) E d_M_breakRing_76 hxi ?_
                refine a_iconst (v := (-1)) (pc := 77) E d_M_breakRing_77 (by decide) ?_
                refine a_icmp_ne (tgt := 85) (pc := 78) E d_M_breakRing_78 (by decide) (fun c_78 => ?_) (fun c_78 => ?_)
                · rw [exk] at c_78
                  refine a_aload_n (pc := 85) E d_M_breakRing_85 rfl rfl ?_
                  refine g_M_2 (pc := 86) E d_M_breakRing_86 fl_M_13 ?_
                  refine a_aload_n (pc := 89) E d_M_breakRing_89 rfl rfl ?_
                  refine g_M_8 (pc := 90) E d_M_breakRing_90 fl_M_28 ?_
                  refine a_iload_n (pc := 93) E d_M_breakRing_93 rfl rfl ?_
                  refine r_27 (pc := 94) E d_M_breakRing_94 hxi ?_
                  refine r_22 (pc := 95) E d_M_breakRing_95 (by rw [exk]; exact hwx c_78) ?_
                  refine a_istore_n (pc := 96) E d_M_breakRing_96 rfl (by decide) ?_
                  refine a_iinc (pc := 97) E d_M_breakRing_97 rfl (by decide) ?_
                  refine a_goto (tgt := 17) (pc := 100) E d_M_breakRing_100 (by decide) ?_
                  exact a_ls5 (ih (i + 1) _ _ _ (by omega) (by rw [hy]; exact nI_1 i) (by assumption) (by first | exact Or.inl rfl | (rw [exk]; have z := hnx; rw [g_next, if_neg c_78] at z; exact z)) (by rw [← he]; rw [g_ringL, if_neg hx1, if_neg c_31, exk]; simp [g_step2, g_next, exk, c_46, c_78])) rfl rfl rfl rfl rfl
                · rw [exk] at c_78
                  refine a_iconst (v := (-1)) (pc := 81) E d_M_breakRing_81 (by decide) ?_
                  refine a_goto (tgt := 96) (pc := 82) E d_M_breakRing_82 (by decide) ?_
                  refine a_istore_n (pc := 96) E d_M_breakRing_96 rfl (by decide) ?_
                  refine a_iinc (pc := 97) E d_M_breakRing_97 rfl (by decide) ?_
                  refine a_goto (tgt := 17) (pc := 100) E d_M_breakRing_100 (by decide) ?_
                  exact a_ls5 (ih (i + 1) _ _ _ (by omega) (by rw [hy]; exact nI_1 i) (by assumption) (by first | exact Or.inl rfl | (rw [exk]; have z := hnx; rw [g_next, if_neg c_78] at z; exact z)) (by rw [← he]; rw [g_ringL, if_neg hx1, if_neg c_31, exk]; simp [g_step2, g_next, exk, c_46, c_78])) rfl rfl rfl rfl rfl
              · rw [exk, ewk] at c_46
                refine a_aload_n (pc := 49) E d_M_breakRing_49 rfl rfl ?_
                refine g_M_4 (pc := 50) E d_M_breakRing_50 fl_M_16 ?_
                refine a_iload_n (pc := 53) E d_M_breakRing_53 rfl rfl ?_
                refine r_23 (pc := 54) E d_M_breakRing_54 hxi ?_
                refine a_aload_n (pc := 55) E d_M_breakRing_55 rfl rfl ?_
                refine g_M_4 (pc := 56) E d_M_breakRing_56 fl_M_16 ?_
                refine a_iload_n (pc := 59) E d_M_breakRing_59 rfl rfl ?_
                refine r_23 (pc := 60) E d_M_breakRing_60 hwi ?_
                refine a_icmp_ne (tgt := 71) (pc := 61) E d_M_breakRing_61 (by decide) (fun c_61 => ?_) (fun c_61 => ?_)
                · rw [exk, ewk] at c_61
                  refine a_aload_n (pc := 71) E d_M_breakRing_71 rfl rfl ?_
                  refine g_M_8 (pc := 72) E d_M_breakRing_72 fl_M_28 ?_
                  refine a_iload_n (pc := 75) E d_M_breakRing_75 rfl rfl ?_
                  refine r_27 (pc := 76) E d_M_breakRing_76 hxi ?_
                  refine a_iconst (v := (-1)) (pc := 77) E d_M_breakRing_77 (by decide) ?_
                  refine a_icmp_ne (tgt := 85) (pc := 78) E d_M_breakRing_78 (by decide) (fun c_78 => ?_) (fun c_78 => ?_)
                  · rw [exk] at c_78
                    refine a_aload_n (pc := 85) E d_M_breakRing_85 rfl rfl ?_
                    refine g_M_2 (pc := 86) E d_M_breakRing_86 fl_M_13 ?_
                    refine a_aload_n (pc := 89) E d_M_breakRing_89 rfl rfl ?_
                    refine g_M_8 (pc := 90) E d_M_breakRing_90 fl_M_28 ?_
                    refine a_iload_n (pc := 93) E d_M_breakRing_93 rfl rfl ?_
                    refine r_27 (pc := 94) E d_M_breakRing_94 hxi ?_
                    refine r_22 (pc := 95) E d_M_breakRing_95 (by rw [exk]; exact hwx c_78) ?_
                    refine a_istore_n (pc := 96) E d_M_breakRing_96 rfl (by decide) ?_
                    refine a_iinc (pc := 97) E d_M_breakRing_97 rfl (by decide) ?_
                    refine a_goto (tgt := 17) (pc := 100) E d_M_breakRing_100 (by decide) ?_
                    exact a_ls5 (ih (i + 1) _ _ _ (by omega) (by rw [hy]; exact nI_1 i) (by assumption) (by first | exact Or.inl rfl | (rw [exk]; have z := hnx; rw [g_next, if_neg c_78] at z; exact z)) (by rw [← he]; rw [g_ringL, if_neg hx1, if_neg c_31, exk]; simp [g_step2, g_next, exk, c_46, c_61, c_78])) rfl rfl rfl rfl rfl
                  · rw [exk] at c_78
                    refine a_iconst (v := (-1)) (pc := 81) E d_M_breakRing_81 (by decide) ?_
                    refine a_goto (tgt := 96) (pc := 82) E d_M_breakRing_82 (by decide) ?_
                    refine a_istore_n (pc := 96) E d_M_breakRing_96 rfl (by decide) ?_
                    refine a_iinc (pc := 97) E d_M_breakRing_97 rfl (by decide) ?_
                    refine a_goto (tgt := 17) (pc := 100) E d_M_breakRing_100 (by decide) ?_
                    exact a_ls5 (ih (i + 1) _ _ _ (by omega) (by rw [hy]; exact nI_1 i) (by assumption) (by first | exact Or.inl rfl | (rw [exk]; have z := hnx; rw [g_next, if_neg c_78] at z; exact z)) (by rw [← he]; rw [g_ringL, if_neg hx1, if_neg c_31, exk]; simp [g_step2, g_next, exk, c_46, c_61, c_78])) rfl rfl rfl rfl rfl
                · rw [exk, ewk] at c_61
                  refine a_iload_n (pc := 64) E d_M_breakRing_64 rfl rfl ?_
                  refine a_iload_n (pc := 65) E d_M_breakRing_65 rfl rfl ?_
                  refine a_icmp_le (tgt := 71) (pc := 66) E d_M_breakRing_66 (by decide) (fun c_66 => ?_) (fun c_66 => ?_)
                  · refine a_aload_n (pc := 71) E d_M_breakRing_71 rfl rfl ?_
                    refine g_M_8 (pc := 72) E d_M_breakRing_72 fl_M_28 ?_
                    refine a_iload_n (pc := 75) E d_M_breakRing_75 rfl rfl ?_
                    refine r_27 (pc := 76) E d_M_breakRing_76 hxi ?_
                    refine a_iconst (v := (-1)) (pc := 77) E d_M_breakRing_77 (by decide) ?_
                    refine a_icmp_ne (tgt := 85) (pc := 78) E d_M_breakRing_78 (by decide) (fun c_78 => ?_) (fun c_78 => ?_)
                    · rw [exk] at c_78
                      refine a_aload_n (pc := 85) E d_M_breakRing_85 rfl rfl ?_
                      refine g_M_2 (pc := 86) E d_M_breakRing_86 fl_M_13 ?_
                      refine a_aload_n (pc := 89) E d_M_breakRing_89 rfl rfl ?_
                      refine g_M_8 (pc := 90) E d_M_breakRing_90 fl_M_28 ?_
                      refine a_iload_n (pc := 93) E d_M_breakRing_93 rfl rfl ?_
                      refine r_27 (pc := 94) E d_M_breakRing_94 hxi ?_
                      refine r_22 (pc := 95) E d_M_breakRing_95 (by rw [exk]; exact hwx c_78) ?_
                      refine a_istore_n (pc := 96) E d_M_breakRing_96 rfl (by decide) ?_
                      refine a_iinc (pc := 97) E d_M_breakRing_97 rfl (by decide) ?_
                      refine a_goto (tgt := 17) (pc := 100) E d_M_breakRing_100 (by decide) ?_
                      exact a_ls5 (ih (i + 1) _ _ _ (by omega) (by rw [hy]; exact nI_1 i) (by assumption) (by first | exact Or.inl rfl | (rw [exk]; have z := hnx; rw [g_next, if_neg c_78] at z; exact z)) (by rw [← he]; rw [g_ringL, if_neg hx1, if_neg c_31, exk]; simp [g_step2, g_next, exk, c_46, c_61, c_66, c_78])) rfl rfl rfl rfl rfl
                    · rw [exk] at c_78
                      refine a_iconst (v := (-1)) (pc := 81) E d_M_breakRing_81 (by decide) ?_
                      refine a_goto (tgt := 96) (pc := 82) E d_M_breakRing_82 (by decide) ?_
                      refine a_istore_n (pc := 96) E d_M_breakRing_96 rfl (by decide) ?_
                      refine a_iinc (pc := 97) E d_M_breakRing_97 rfl (by decide) ?_
                      refine a_goto (tgt := 17) (pc := 100) E d_M_breakRing_100 (by decide) ?_
                      exact a_ls5 (ih (i + 1) _ _ _ (by omega) (by rw [hy]; exact nI_1 i) (by assumption) (by first | exact Or.inl rfl | (rw [exk]; have z := hnx; rw [g_next, if_neg c_78] at z; exact z)) (by rw [← he]; rw [g_ringL, if_neg hx1, if_neg c_31, exk]; simp [g_step2, g_next, exk, c_46, c_61, c_66, c_78])) rfl rfl rfl rfl rfl
                  · refine a_iload_n (pc := 69) E d_M_breakRing_69 rfl rfl ?_
                    refine a_istore_n (pc := 70) E d_M_breakRing_70 rfl (by decide) ?_
                    refine a_aload_n (pc := 71) E d_M_breakRing_71 rfl rfl ?_
                    refine g_M_8 (pc := 72) E d_M_breakRing_72 fl_M_28 ?_
                    refine a_iload_n (pc := 75) E d_M_breakRing_75 rfl rfl ?_
                    refine r_27 (pc := 76) E d_M_breakRing_76 hxi ?_
                    refine a_iconst (v := (-1)) (pc := 77) E d_M_breakRing_77 (by decide) ?_
                    refine a_icmp_ne (tgt := 85) (pc := 78) E d_M_breakRing_78 (by decide) (fun c_78 => ?_) (fun c_78 => ?_)
                    · rw [exk] at c_78
                      refine a_aload_n (pc := 85) E d_M_breakRing_85 rfl rfl ?_
                      refine g_M_2 (pc := 86) E d_M_breakRing_86 fl_M_13 ?_
                      refine a_aload_n (pc := 89) E d_M_breakRing_89 rfl rfl ?_
                      refine g_M_8 (pc := 90) E d_M_breakRing_90 fl_M_28 ?_
                      refine a_iload_n (pc := 93) E d_M_breakRing_93 rfl rfl ?_
                      refine r_27 (pc := 94) E d_M_breakRing_94 hxi ?_
                      refine r_22 (pc := 95) E d_M_breakRing_95 (by rw [exk]; exact hwx c_78) ?_
                      refine a_istore_n (pc := 96) E d_M_breakRing_96 rfl (by decide) ?_
                      refine a_iinc (pc := 97) E d_M_breakRing_97 rfl (by decide) ?_
                      refine a_goto (tgt := 17) (pc := 100) E d_M_breakRing_100 (by decide) ?_
                      exact a_ls5 (ih (i + 1) _ _ _ (by omega) (by rw [hy]; exact nI_1 i) (by assumption) (by first | exact Or.inl rfl | (rw [exk]; have z := hnx; rw [g_next, if_neg c_78] at z; exact z)) (by rw [← he]; rw [g_ringL, if_neg hx1, if_neg c_31, exk]; simp [g_step2, g_next, exk, c_46, c_61, c_66, c_78])) rfl rfl rfl rfl rfl
                    · rw [exk] at c_78
                      refine a_iconst (v := (-1)) (pc := 81) E d_M_breakRing_81 (by decide) ?_
                      refine a_goto (tgt := 96) (pc := 82) E d_M_breakRing_82 (by decide) ?_
                      refine a_istore_n (pc := 96) E d_M_breakRing_96 rfl (by decide) ?_
                      refine a_iinc (pc := 97) E d_M_breakRing_97 rfl (by decide) ?_
                      refine a_goto (tgt := 17) (pc := 100) E d_M_breakRing_100 (by decide) ?_
                      exact a_ls5 (ih (i + 1) _ _ _ (by omega) (by rw [hy]; exact nI_1 i) (by assumption) (by first | exact Or.inl rfl | (rw [exk]; have z := hnx; rw [g_next, if_neg c_78] at z; exact z)) (by rw [← he]; rw [g_ringL, if_neg hx1, if_neg c_31, exk]; simp [g_step2, g_next, exk, c_46, c_61, c_66, c_78])) rfl rfl rfl rfl rfl
  refine a_iload_n (pc := 0) E d_M_breakRing_0 rfl rfl ?_
  refine a_istore_n (pc := 1) E d_M_breakRing_1 rfl (by decide) ?_
  refine a_aload_n (pc := 2) E d_M_breakRing_2 rfl rfl ?_
  refine g_M_2 (pc := 3) E d_M_breakRing_3 fl_M_13 ?_
  refine a_aload_n (pc := 6) E d_M_breakRing_6 rfl rfl ?_
  refine g_M_8 (pc := 7) E d_M_breakRing_7 fl_M_28 ?_
  refine a_iload_n (pc := 10) E d_M_breakRing_10 rfl rfl ?_
  refine r_27 (pc := 11) E d_M_breakRing_11 hkk ?_
  refine r_22 (pc := 12) E d_M_breakRing_12 (by rw [ek]; exact ha) ?_
  refine a_istore_n (pc := 13) E d_M_breakRing_13 rfl (by decide) ?_
  refine a_iconst (v := 0) (pc := 14) E d_M_breakRing_14 (by decide) ?_
  refine a_istore (pc := 15) E d_M_breakRing_15 (by decide) ?_
  refine a_wr ?_
  exact a_ls5 (loop 6 0 k _ _ rfl (by decide) hk (by rw [ek]; have := hI.C.hold (vp_nn ha); rw [ab_hold] at this; exact this.imp id (fun z => ix_of z.1 z.2)) (by rw [ek, hgR])) rfl rfl rfl rfl rfl
