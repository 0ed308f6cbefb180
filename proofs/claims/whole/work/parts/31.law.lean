/-- class and reference side by side -/
def LJ (b : Int) (M : hm_M) : Prop := cp M = ab M ∧ Jv b M
theorem ab_mid {M M' : hm_M} (h : ∀ f, 16 ≤ f → f ≤ 39 → M' f = M f) : ab M' = ab M := by
  have h20 := h 20 (by decide) (by decide)
  have h21 := h 21 (by decide) (by decide)
  have h22 := h 22 (by decide) (by decide)
  have h23 := h 23 (by decide) (by decide)
  have h24 := h 24 (by decide) (by decide)
  have h25 := h 25 (by decide) (by decide)
  have h26 := h 26 (by decide) (by decide)
  have h27 := h 27 (by decide) (by decide)
  have h28 := h 28 (by decide) (by decide)
  have h29 := h 29 (by decide) (by decide)
  have h30 := h 30 (by decide) (by decide)
  have h31 := h 31 (by decide) (by decide)
  have h32 := h 32 (by decide) (by decide)
  have h33 := h 33 (by decide) (by decide)
  have h34 := h 34 (by decide) (by decide)
  have h35 := h 35 (by decide) (by decide)
  have h36 := h 36 (by decide) (by decide)
  have h37 := h 37 (by decide) (by decide)
  have h38 := h 38 (by decide) (by decide)
  funext f k j
  simp only [ab, h20, h21, h22, h23, h24, h25, h26, h27, h28, h29, h30, h31, h32, h33, h34, h35, h36, h37, h38]
theorem Jv.mid {b : Int} {M M' : hm_M} (h : Jv b M) (hf : ∀ f, 16 ≤ f → f ≤ 39 → M' f = M f) : Jv b M' := by
  have ea := ab_mid hf
  obtain ⟨⟨⟨c1, c2, c3⟩, g1, g2, g3, g4⟩, hst, hsb⟩ := h
  exact ⟨⟨⟨by rw [ea]; exact c1, by rw [hf 27 (by omega) (by omega)]; exact c2, by rw [hf 20 (by omega) (by omega)]; exact c3⟩, by rw [hf 20 (by omega) (by omega), hf 24 (by omega) (by omega)]; exact g1, by rw [hf 20 (by omega) (by omega), hf 22 (by omega) (by omega)]; exact g2, by rw [hf 24 (by omega) (by omega), hf 25 (by omega) (by omega), hf 26 (by omega) (by omega)]; exact g3, by rw [hf 20 (by omega) (by omega), hf 24 (by omega) (by omega), hf 27 (by omega) (by omega), hf 30 (by omega) (by omega), hf 26 (by omega) (by omega)]; exact g4⟩, by rw [hf 24 (by omega) (by omega)]; exact hst, by rw [hf 20 (by omega) (by omega)]; exact hsb⟩
theorem IvC.ofcp {M : hm_M} (h : IvC (cp M)) : IvC M := by
  unfold IvC at h ⊢
  simp only [cp_0, cp_2, cp_4, cp_10, cp_11, cp_12, cp_15] at h
  exact h
theorem LJ.C {b : Int} {M : hm_M} (h : LJ b M) : IvC M := IvC.ofcp (by rw [h.1]; exact h.2.1.C)
section ZZ
variable {l : Launch} {D : va_G} {ar : Nat → ClassId} {lay : Nat → Nat → Nat} {B : Int} {M : hm_M} {y1 y2 : MethodName} {rm1 rm2 : Room} {As1 As2 : List Value} {rr : hm_M → hr_T} {nm : String → Int32} {es : List String}
theorem zI (h : LJ B M) (hw : Ct l D ar lay y1 rm1 true As1 M (lw_rI nm M (rr M))) (hk : RkI M es (rr M)) (hcp : rr (cp M) = rc (rr M)) (hpos : ∀ e ∈ es, ¬ nm e = 0)
    (hm : ∀ M1, Jv B M1 → ∃ v M2, Ct l D ar lay y2 rm2 true As2 M1 (.inl (some (.int v), M2)) ∧ Sp (rr (ab M1)) nm (B + 300) M1 v M2) :
    ∃ k M1 v M2, Ct l D ar lay y1 rm1 true As1 M (.inl (some (.int k), M1)) ∧ Ct l D ar lay y2 rm2 true As2 M1 (.inl (some (.int v), M2)) ∧ M2 20 0 0 = k ∧ (k = 0 → M2 40 0 0 = v) ∧ LJ (B + 300) M2 := by
  obtain ⟨he, hJ⟩ := h
  rw [he] at hcp
  revert hw hk hcp
  generalize rr M = r
  intro hw hk hcp
  rcases r with ⟨o, N⟩ | e
  · cases o with
    | none => exact hk.elim
    | some w =>
      cases w with
      | int w =>
        have hk : ∀ f, 15 < f → N f = M f := hk
        have hmid : ∀ f, 16 ≤ f → f ≤ 39 → hm_up N 40 0 0 w f = M f := fun f h1 h2 => by rw [hm_up_fam (by omega), hk f (by omega)]
        obtain ⟨v, M2, c2, s1, s2, s3⟩ := hm (hm_up N 40 0 0 w) (hJ.mid hmid)
        rw [ab_mid hmid, hcp] at s3
        obtain ⟨t1, t2, t3⟩ := s3
        refine ⟨0, _, v, M2, hw, c2, t1, fun _ => ?_, ?_, s1⟩
        · rw [s2.1 40 (Or.inr (by decide)), t3 w rfl]; simp [hm_up_at]
        · rw [t2, cp_lo (fun f hf => s2.1 f (Or.inl hf)), cp_lo (fun f hf => hm_up_fam (by omega))]
      | _ => exact hk.elim
  · obtain ⟨v, M2, c2, s1, s2, s3⟩ := hm M hJ
    rw [hcp] at s3
    obtain ⟨t1, t2⟩ := s3
    exact ⟨nm e, M, v, M2, hw, c2, t1, fun z => absurd z (hpos e hk), by rw [t2, cp_lo (fun f hf => s2.1 f (Or.inl hf)), he], s1⟩
theorem zV (h : LJ B M) (hw : Ct l D ar lay y1 rm1 true As1 M (lw_rI nm M (rr M))) (hk : RkV M es (rr M)) (hcp : rr (cp M) = rc (rr M))
    (hm : ∀ M1, Jv B M1 → ∃ v M2, Ct l D ar lay y2 rm2 true As2 M1 (.inl (none, M2)) ∧ Sp (rr (ab M1)) nm (B + 300) M1 v M2) :
    ∃ k M1 M2, Ct l D ar lay y1 rm1 true As1 M (.inl (some (.int k), M1)) ∧ Ct l D ar lay y2 rm2 true As2 M1 (.inl (none, M2)) ∧ M2 20 0 0 = k ∧ LJ (B + 300) M2 := by
  obtain ⟨he, hJ⟩ := h
  rw [he] at hcp
  revert hw hk hcp
  generalize rr M = r
  intro hw hk hcp
  rcases r with ⟨o, N⟩ | e
  · cases o with
    | none =>
      have hk : ∀ f, 15 < f → N f = M f := hk
      have hmid : ∀ f, 16 ≤ f → f ≤ 39 → N f = M f := fun f h1 h2 => hk f (by omega)
      obtain ⟨v, M2, c2, s1, s2, s3⟩ := hm N (hJ.mid hmid)
      rw [ab_mid hmid, hcp] at s3
      obtain ⟨t1, t2, t3⟩ := s3
      exact ⟨0, _, M2, hw, c2, t1, by rw [t2, cp_lo (fun f hf => s2.1 f (Or.inl hf))], s1⟩
    | some w => exact hk.elim
  · obtain ⟨v, M2, c2, s1, s2, s3⟩ := hm M hJ
    rw [hcp] at s3
    obtain ⟨t1, t2⟩ := s3
    exact ⟨nm e, M, M2, hw, c2, t1, by rw [t2, cp_lo (fun f hf => s2.1 f (Or.inl hf)), he], s1⟩
/-- a call that goes to the class itself and throws nothing -/
theorem zD {o o2 : Option Value} {N : hm_M} {rr : hm_M → Option Value × hm_M} (h : LJ B M) (hr : rr M = (o, N)) (hw : Ct l D ar lay y1 rm1 true As1 M (.inl (o, N))) (hk : ∀ f, 15 < f → N f = M f) (hcp : rr (cp M) = (o, cp N)) {v : Int32} {M2 : hm_M}
    (hc : Ct l D ar lay y2 rm2 true As2 N (.inl (o2, M2))) (hs : Sp (.inl (rr (ab N))) nm (B + 300) N v M2) : LJ (B + 300) M2 ∧ ∀ w, o = some (.int w) → v = w := by
  obtain ⟨he, hJ⟩ := h
  have hmid : ∀ f, 16 ≤ f → f ≤ 39 → N f = M f := fun f h1 h2 => hk f (by omega)
  rw [ab_mid hmid, ← he, hcp] at hs
  obtain ⟨s1, s2, t1, t2, t3⟩ := hs
  exact ⟨⟨by rw [t2, cp_lo (fun f hf => s2.1 f (Or.inl hf))], s1⟩, t3⟩
end ZZ
theorem z_part (l : Launch) (D : va_G) (ar : Nat → ClassId) (lay : Nat → Nat → Nat) {B : Int} {M : hm_M} (h : LJ B M) (htr : l.stackTraces = false) (x : Int32) : ∃ k M1 v M2, Ct l D ar lay y_L_part rm_w true [.ref (lay 0 0), .int x, .ref (lay 40 0)] M (.inl (some (.int k), M1)) ∧ Ct l D ar lay y_M_part rm_p true [.ref (lay 20 0), .int x] M1 (.inl (some (.int v), M2)) ∧ M2 20 0 0 = k ∧ (k = 0 → M2 40 0 0 = v) ∧ LJ (B + 300) M2 :=
  zI (rr := fun N => r_part N x) h (w_part l D ar lay M x htr h.C) (k_part M x) (cp_r_part M x) (by decide) (fun M1 h1 => e_part l D ar lay h1 x)
theorem z_step (l : Launch) (D : va_G) (ar : Nat → ClassId) (lay : Nat → Nat → Nat) {B : Int} {M : hm_M} (h : LJ B M) (htr : l.stackTraces = false) (q kd a b : Int32) : ∃ k M1 v M2, Ct l D ar lay y_L_step rm_w true [.ref (lay 0 0), .int q, .int kd, .int a, .int b, .ref (lay 40 0)] M (.inl (some (.int k), M1)) ∧ Ct l D ar lay y_M_step rm_p true [.ref (lay 20 0), .int q, .int kd, .int a, .int b] M1 (.inl (some (.int v), M2)) ∧ M2 20 0 0 = k ∧ (k = 0 → M2 40 0 0 = v) ∧ LJ (B + 300) M2 :=
  zI (rr := fun N => r_step N q kd a b) h (w_step l D ar lay M q kd a b htr h.C) (k_step M q kd a b) (cp_r_step M q kd a b) (by decide) (fun M1 h1 => e_step l D ar lay h1 q kd a b)
theorem z_fails (l : Launch) (D : va_G) (ar : Nat → ClassId) (lay : Nat → Nat → Nat) {B : Int} {M : hm_M} (h : LJ B M) (htr : l.stackTraces = false) (q i on : Int32) (hon : narrow .boolean (.int on) = .int on) : ∃ k M1 M2, Ct l D ar lay y_L_fails rm_w true [.ref (lay 0 0), .int q, .int i, .int on] M (.inl (some (.int k), M1)) ∧ Ct l D ar lay y_M_fails rm_p true [.ref (lay 20 0), .int q, .int i, .int on] M1 (.inl (none, M2)) ∧ M2 20 0 0 = k ∧ LJ (B + 300) M2 :=
  zV (rr := fun N => r_fails N q i on) h (w_fails l D ar lay M q i on htr h.C hon) (k_fails M q i on) (cp_r_fails M q i on) (fun M1 h1 => e_fails l D ar lay h1 q i on hon)
theorem z_turn (l : Launch) (D : va_G) (ar : Nat → ClassId) (lay : Nat → Nat → Nat) {B : Int} {M : hm_M} (h : LJ B M) (htr : l.stackTraces = false) (hb : B < 900000) (q : Int32) : ∃ k M1 v M2, Ct l D ar lay y_L_turn rm_w true [.ref (lay 0 0), .int q, .ref (lay 40 0)] M (.inl (some (.int k), M1)) ∧ Ct l D ar lay y_M_turn rm_p true [.ref (lay 20 0), .int q] M1 (.inl (some (.int v), M2)) ∧ M2 20 0 0 = k ∧ (k = 0 → M2 40 0 0 = v) ∧ LJ (B + 300) M2 :=
  zI (rr := fun N => r_turn N q) h (w_turn l D ar lay M q htr h.C) (k_turn M q) (cp_r_turn M q) (by decide) (fun M1 h1 => e_turn l D ar lay h1 hb q)
theorem z_run (l : Launch) (D : va_G) (ar : Nat → ClassId) (lay : Nat → Nat → Nat) {B : Int} {M : hm_M} (h : LJ B M) (htr : l.stackTraces = false) (hb : B < 900000) (x : Int32) : ∃ k M1 v M2, Ct l D ar lay y_L_run rm_w true [.ref (lay 0 0), .int x, .ref (lay 40 0)] M (.inl (some (.int k), M1)) ∧ Ct l D ar lay y_M_run rm_p true [.ref (lay 20 0), .int x] M1 (.inl (some (.int v), M2)) ∧ M2 20 0 0 = k ∧ (k = 0 → M2 40 0 0 = v) ∧ LJ (B + 300) M2 :=
  zI (rr := fun N => r_run N x) h (w_run l D ar lay M x htr h.C) (k_run M x) (cp_r_run M x) (by decide) (fun M1 h1 => e_run l D ar lay h1 hb x)
theorem z_again (l : Launch) (D : va_G) (ar : Nat → ClassId) (lay : Nat → Nat → Nat) {B : Int} {M : hm_M} (h : LJ B M) (htr : l.stackTraces = false) (x : Int32) : ∃ k M1 v M2, Ct l D ar lay y_L_again rm_w true [.ref (lay 0 0), .int x, .ref (lay 40 0)] M (.inl (some (.int k), M1)) ∧ Ct l D ar lay y_M_again rm_p true [.ref (lay 20 0), .int x] M1 (.inl (some (.int v), M2)) ∧ M2 20 0 0 = k ∧ (k = 0 → M2 40 0 0 = v) ∧ LJ (B + 300) M2 :=
  zI (rr := fun N => r_again N x) h (w_again l D ar lay M x htr h.C) (k_again M x) (cp_r_again M x) (by decide) (fun M1 h1 => e_again l D ar lay h1 x)
theorem z_interrupt (l : Launch) (D : va_G) (ar : Nat → ClassId) (lay : Nat → Nat → Nat) {B : Int} {M : hm_M} (h : LJ B M) (htr : l.stackTraces = false) (q : Int32) : ∃ k M1 v M2, Ct l D ar lay y_L_interrupt rm_w true [.ref (lay 0 0), .int q, .ref (lay 40 0)] M (.inl (some (.int k), M1)) ∧ Ct l D ar lay y_M_interrupt rm_p true [.ref (lay 20 0), .int q] M1 (.inl (some (.int v), M2)) ∧ M2 20 0 0 = k ∧ (k = 0 → M2 40 0 0 = v) ∧ LJ (B + 300) M2 :=
  zI (rr := fun N => r_interrupt N q) h (w_interrupt l D ar lay M q htr h.C) (k_interrupt M q) (cp_r_interrupt M q) (by decide) (fun M1 h1 => e_interrupt l D ar lay h1 q)
theorem z_restart (l : Launch) (D : va_G) (ar : Nat → ClassId) (lay : Nat → Nat → Nat) {B : Int} {M : hm_M} (h : LJ B M) (htr : l.stackTraces = false) (q : Int32) : ∃ k M1 M2, Ct l D ar lay y_L_restart rm_w true [.ref (lay 0 0), .int q] M (.inl (some (.int k), M1)) ∧ Ct l D ar lay y_M_restart rm_p true [.ref (lay 20 0), .int q] M1 (.inl (none, M2)) ∧ M2 20 0 0 = k ∧ LJ (B + 300) M2 :=
  zV (rr := fun N => r_restart N q) h (w_restart l D ar lay M q htr h.C) (k_restart M q) (cp_r_restart M q) (fun M1 h1 => e_restart l D ar lay h1 q)
theorem z_log (l : Launch) (D : va_G) (ar : Nat → ClassId) (lay : Nat → Nat → Nat) {B : Int} {M : hm_M} (h : LJ B M) (htr : l.stackTraces = false) (i : Int32) : ∃ k M1 v M2, Ct l D ar lay y_L_log rm_w true [.ref (lay 0 0), .int i, .ref (lay 40 0)] M (.inl (some (.int k), M1)) ∧ Ct l D ar lay y_M_log rm_p true [.ref (lay 20 0), .int i] M1 (.inl (some (.int v), M2)) ∧ M2 20 0 0 = k ∧ (k = 0 → M2 40 0 0 = v) ∧ LJ (B + 300) M2 :=
  zI (rr := fun N => r_log N i) h (w_log l D ar lay M i htr h.C) (k_log M i) (cp_r_log M i) (by decide) (fun M1 h1 => e_log l D ar lay h1 i)
theorem z_place (l : Launch) (D : va_G) (ar : Nat → ClassId) (lay : Nat → Nat → Nat) {B : Int} {M : hm_M} (h : LJ B M) (htr : l.stackTraces = false) (q w : Int32) : ∃ k M1 v M2, Ct l D ar lay y_L_place rm_w true [.ref (lay 0 0), .int q, .int w, .ref (lay 40 0)] M (.inl (some (.int k), M1)) ∧ Ct l D ar lay y_M_place rm_p true [.ref (lay 20 0), .int q, .int w] M1 (.inl (some (.int v), M2)) ∧ M2 20 0 0 = k ∧ (k = 0 → M2 40 0 0 = v) ∧ LJ (B + 300) M2 :=
  zI (rr := fun N => r_place N q w) h (w_place l D ar lay M q w htr h.C) (k_place M q w) (cp_r_place M q w) (by decide) (fun M1 h1 => e_place l D ar lay h1 q w)
theorem z_message (l : Launch) (D : va_G) (ar : Nat → ClassId) (lay : Nat → Nat → Nat) {B : Int} {M : hm_M} (h : LJ B M) (htr : l.stackTraces = false) (x w : Int32) : ∃ k M1 v M2, Ct l D ar lay y_L_message rm_w true [.ref (lay 0 0), .int x, .int w, .ref (lay 40 0)] M (.inl (some (.int k), M1)) ∧ Ct l D ar lay y_M_message rm_p true [.ref (lay 20 0), .int x, .int w] M1 (.inl (some (.int v), M2)) ∧ M2 20 0 0 = k ∧ (k = 0 → M2 40 0 0 = v) ∧ LJ (B + 300) M2 :=
  zI (rr := fun N => r_message N x w) h (w_message l D ar lay M x w htr h.C) (k_message M x w) (cp_r_message M x w) (by decide) (fun M1 h1 => e_message l D ar lay h1 x w)
theorem z_told (l : Launch) (D : va_G) (ar : Nat → ClassId) (lay : Nat → Nat → Nat) {B : Int} {M : hm_M} (h : LJ B M) (htr : l.stackTraces = false) (q w : Int32) : ∃ k M1 v M2, Ct l D ar lay y_L_told rm_w true [.ref (lay 0 0), .int q, .int w, .ref (lay 40 0)] M (.inl (some (.int k), M1)) ∧ Ct l D ar lay y_M_told rm_p true [.ref (lay 20 0), .int q, .int w] M1 (.inl (some (.int v), M2)) ∧ M2 20 0 0 = k ∧ (k = 0 → M2 40 0 0 = v) ∧ LJ (B + 300) M2 :=
  zI (rr := fun N => r_told N q w) h (w_told l D ar lay M q w htr h.C) (k_told M q w) (cp_r_told M q w) (by decide) (fun M1 h1 => e_told l D ar lay h1 q w)
theorem z_losing (l : Launch) (D : va_G) (ar : Nat → ClassId) (lay : Nat → Nat → Nat) {B : Int} {M : hm_M} (h : LJ B M) (on : Int32) (hon : narrow .boolean (.int on) = .int on) (hon2 : fits .boolean (.int on) = true) : ∃ M1 M2, Ct l D ar lay y_H_losing rm_p true [.ref (lay 0 0), .int on] M (.inl (none, M1)) ∧ Ct l D ar lay y_M_losing rm_p true [.ref (lay 20 0), .int on] M1 (.inl (none, M2)) ∧ LJ (B + 300) M2 := by
  have c1 := c_H_losing l D ar lay M on hon hon2
  have hJ : Jv B (hm_up M 0 0 9 on) := h.2.mid (fun f h1 h2 => hm_up_fam (by omega))
  have c2 := c_M_losing l D ar lay (hm_up M 0 0 9 on) on hon hon2
  have s2 := m_losing hJ on
  exact ⟨_, _, c1, c2, (zD (rr := fun N => (none, hm_up N 0 0 9 on)) h rfl c1 (fun f hf => hm_up_fam (by omega)) (by rw [cp_up (by decide)]) c2 s2).1⟩
theorem z_close (l : Launch) (D : va_G) (ar : Nat → ClassId) (lay : Nat → Nat → Nat) {B : Int} {M : hm_M} (h : LJ B M) : ∃ w M1 v M2, Ct l D ar lay y_H_close rm_p true [.ref (lay 0 0)] M (.inl (some (.int w), M1)) ∧ Ct l D ar lay y_M_close rm_p true [.ref (lay 20 0)] M1 (.inl (some (.int v), M2)) ∧ v = w ∧ LJ (B + 300) M2 := by
  have c1 := c_H_close l D ar lay M h.C
  have hk := (Kp.closeM (M 0 0 5).toNatClampNeg 0 (Kp.rf (M := M))).2
  have hJ : Jv B (f_closeM (M 0 0 5).toNatClampNeg 0 M) := h.2.mid (fun f h1 h2 => hk f (by omega))
  have c2 := c_M_close l D ar lay _ B hJ
  have s2 := m_close hJ
  have z := zD (rr := fun N => (some (.int (f_closeN (N 0 0 5).toNatClampNeg 0 N 0)), f_closeM (N 0 0 5).toNatClampNeg 0 N)) h rfl c1 hk (by simp only [cp_0, cp_closeN, cp_closeM]) c2 s2
  exact ⟨_, _, _, _, c1, c2, z.2 _ rfl, z.1⟩
theorem z_count (l : Launch) (D : va_G) (ar : Nat → ClassId) (lay : Nat → Nat → Nat) {B : Int} {M : hm_M} (h : LJ B M) (w0 : Int32) : ∃ w v M2, Ct l D ar lay y_H_count rm_p false [.ref (lay 0 0), .int w0] M (.inl (some (.int w), M)) ∧ Ct l D ar lay y_M_count rm_p true [.ref (lay 20 0), .int w0] M (.inl (some (.int v), M2)) ∧ v = w ∧ LJ (B + 300) M2 := by
  have c1 := c_H_count l D ar lay M w0 h.C
  have c2 := c_M_count l D ar lay M w0 h.2.m
  obtain ⟨s1, s2, t1, t2, t3⟩ := m_count h.2 w0
  have e : f_count M w0 = f_count (ab M) w0 := by rw [← h.1, cp_count]
  exact ⟨_, _, _, c1, c2, by rw [e]; exact t3 _ rfl, by rw [t2, cp_lo (fun f hf => s2.1 f (Or.inl hf)), h.1], s1⟩
