/-- the class's part of the memory -/
def cp (M : hm_M) : hm_M := fun f k j => if f ≤ 15 then M f k j else 0
theorem cp_0 (M : hm_M) : cp M 0 = M 0 := by
  funext k j
  simp [cp]
theorem cp_1 (M : hm_M) : cp M 1 = M 1 := by
  funext k j
  simp [cp]
theorem cp_2 (M : hm_M) : cp M 2 = M 2 := by
  funext k j
  simp [cp]
theorem cp_3 (M : hm_M) : cp M 3 = M 3 := by
  funext k j
  simp [cp]
theorem cp_4 (M : hm_M) : cp M 4 = M 4 := by
  funext k j
  simp [cp]
theorem cp_5 (M : hm_M) : cp M 5 = M 5 := by
  funext k j
  simp [cp]
theorem cp_6 (M : hm_M) : cp M 6 = M 6 := by
  funext k j
  simp [cp]
theorem cp_7 (M : hm_M) : cp M 7 = M 7 := by
  funext k j
  simp [cp]
theorem cp_8 (M : hm_M) : cp M 8 = M 8 := by
  funext k j
  simp [cp]
theorem cp_9 (M : hm_M) : cp M 9 = M 9 := by
  funext k j
  simp [cp]
theorem cp_10 (M : hm_M) : cp M 10 = M 10 := by
  funext k j
  simp [cp]
theorem cp_11 (M : hm_M) : cp M 11 = M 11 := by
  funext k j
  simp [cp]
theorem cp_12 (M : hm_M) : cp M 12 = M 12 := by
  funext k j
  simp [cp]
theorem cp_13 (M : hm_M) : cp M 13 = M 13 := by
  funext k j
  simp [cp]
theorem cp_14 (M : hm_M) : cp M 14 = M 14 := by
  funext k j
  simp [cp]
theorem cp_15 (M : hm_M) : cp M 15 = M 15 := by
  funext k j
  simp [cp]
theorem cp_up {M : hm_M} {f k j : Nat} {x : Int32} (hf : f ≤ 15) : hm_up (cp M) f k j x = cp (hm_up M f k j x) := by
  funext f' k' j'
  simp only [cp, hm_up_at]
  by_cases h : f' ≤ 15
  · simp [h]
  · have : ¬ f' = f := by omega
    simp [h, this]
theorem cp_lo {M M' : hm_M} (h : ∀ f, f ≤ 15 → M' f = M f) : cp M' = cp M := by
  funext f k j
  simp only [cp]
  split
  · rename_i q; rw [h f q]
  · rfl
theorem cp_if {c : Prop} {_ : Decidable c} {A B : hm_M} : (if c then cp A else cp B) = cp (if c then A else B) := by split <;> rfl
theorem cp_free (num : Int32) : ∀ (n i : Nat) (M : hm_M), f_free num n i (cp M) = cp (f_free num n i M) := by
  intro n
  induction n with
  | zero => intro i M; rfl
  | succ n ih => intro i M; simp only [f_free, cp_2, cp_up (show 2 ≤ 15 by decide), cp_if, ih]
theorem cp_tb (M : hm_M) (k i : Nat) : f_tb (cp M) k i = cp (f_tb M k i) := by
  simp only [f_tb, cp_0, cp_1, cp_2, cp_4, cp_5, cp_6, cp_7, cp_8, cp_9, cp_10, cp_11, cp_12, cp_13, cp_14, cp_15, cp_up (show 1 ≤ 15 by decide), cp_up (show 6 ≤ 15 by decide), cp_if]
theorem cp_tbL (k : Nat) : ∀ (n : Nat) (M : hm_M), f_tbL k n (cp M) = cp (f_tbL k n M) := by
  intro n
  induction n with
  | zero => intro M; rfl
  | succ n ih => intro M; simp only [f_tbL, cp_tb, ih]
theorem cp_undo (M : hm_M) (k : Nat) (st : Int32) : f_undo (cp M) k st = cp (f_undo M k st) := by
  simp only [f_undo, cp_0, cp_1, cp_2, cp_4, cp_5, cp_6, cp_7, cp_8, cp_9, cp_10, cp_11, cp_12, cp_13, cp_14, cp_15, cp_tbL, cp_free, cp_up (show 10 ≤ 15 by decide)]
theorem cp_fin (M : hm_M) (k : Nat) : f_fin (cp M) k = cp (f_fin M k) := by
  simp only [f_fin, cp_0, cp_1, cp_2, cp_4, cp_5, cp_6, cp_7, cp_8, cp_9, cp_10, cp_11, cp_12, cp_13, cp_14, cp_15, cp_free, cp_up (show 10 ≤ 15 by decide)]
theorem cp_await (M : hm_M) (k : Nat) : f_await (cp M) k = f_await M k := by simp only [f_await, cp_0, cp_1, cp_2, cp_4, cp_5, cp_6, cp_7, cp_8, cp_9, cp_10, cp_11, cp_12, cp_13, cp_14, cp_15]
theorem cp_wayof (M : hm_M) (k : Nat) : f_wayof (cp M) k = f_wayof M k := by simp only [f_wayof, cp_await, cp_0, cp_1, cp_2, cp_4, cp_5, cp_6, cp_7, cp_8, cp_9, cp_10, cp_11, cp_12, cp_13, cp_14, cp_15]
theorem cp_yields (M : hm_M) (k j : Nat) : f_yields (cp M) k j = f_yields M k j := by simp only [f_yields, cp_0, cp_1, cp_2, cp_4, cp_5, cp_6, cp_7, cp_8, cp_9, cp_10, cp_11, cp_12, cp_13, cp_14, cp_15]
theorem cp_may (M : hm_M) (k : Nat) : f_may (cp M) k = f_may M k := by simp only [f_may, cp_0, cp_1, cp_2, cp_4, cp_5, cp_6, cp_7, cp_8, cp_9, cp_10, cp_11, cp_12, cp_13, cp_14, cp_15]
theorem cp_isPart (M : hm_M) (x : Int32) : f_isPart (cp M) x = f_isPart M x := by simp only [f_isPart, cp_0, cp_1, cp_2, cp_4, cp_5, cp_6, cp_7, cp_8, cp_9, cp_10, cp_11, cp_12, cp_13, cp_14, cp_15]
theorem cp_isMsg (M : hm_M) (x : Int32) : f_isMsg (cp M) x = f_isMsg M x := by simp only [f_isMsg, cp_0, cp_1, cp_2, cp_4, cp_5, cp_6, cp_7, cp_8, cp_9, cp_10, cp_11, cp_12, cp_13, cp_14, cp_15]
theorem cp_isStep (M : hm_M) (a b c : Int32) : f_isStep (cp M) a b c = f_isStep M a b c := by simp only [f_isStep, cp_isPart]
theorem cp_ring (M : hm_M) (q : Int32) : ∀ (n c w : Nat), f_ring (cp M) q n c w = f_ring M q n c w := by
  intro n
  induction n with
  | zero => intro c w; rfl
  | succ n ih => intro c w; simp only [f_ring, cp_wayof, cp_yields, ih]
theorem cp_brk (M : hm_M) (k : Nat) : f_brk (cp M) k = cp (f_brk M k) := by
  simp only [f_brk, cp_ring, cp_0, cp_1, cp_2, cp_4, cp_5, cp_6, cp_7, cp_8, cp_9, cp_10, cp_11, cp_12, cp_13, cp_14, cp_15]
  unfold f_brkO
  cases f_ring M (M 10 k 0) 6 k k with
  | none => rfl
  | some w => simp only [cp_undo, cp_0, cp_1, cp_2, cp_4, cp_5, cp_6, cp_7, cp_8, cp_9, cp_10, cp_11, cp_12, cp_13, cp_14, cp_15, cp_up (show 0 ≤ 15 by decide)]
theorem cp_getsR (M : hm_M) (k : Nat) (a : Int32) : f_getsR (cp M) k a = f_getsR M k a := by simp only [f_getsR, cp_0, cp_1, cp_2, cp_4, cp_5, cp_6, cp_7, cp_8, cp_9, cp_10, cp_11, cp_12, cp_13, cp_14, cp_15]
theorem cp_gets (M : hm_M) (k : Nat) (a : Int32) : f_getsM (cp M) k a = cp (f_getsM M k a) := by
  simp only [f_getsM, cp_getsR, cp_0, cp_1, cp_2, cp_4, cp_5, cp_6, cp_7, cp_8, cp_9, cp_10, cp_11, cp_12, cp_13, cp_14, cp_15, cp_up (show 10 ≤ 15 by decide), cp_up (show 2 ≤ 15 by decide), cp_brk, cp_if]
theorem cp_sdL (M : hm_M) (k : Nat) : f_sdL (cp M) k = cp (f_sdL M k) := by
  simp only [f_sdL, cp_0, cp_1, cp_2, cp_4, cp_5, cp_6, cp_7, cp_8, cp_9, cp_10, cp_11, cp_12, cp_13, cp_14, cp_15, cp_up (show 5 ≤ 15 by decide), cp_up (show 0 ≤ 15 by decide), cp_if]
theorem cp_sdA (M : hm_M) (k : Nat) : f_sdA (cp M) k = cp (f_sdA M k) := by
  simp only [f_sdA, cp_sdL, cp_0, cp_1, cp_2, cp_4, cp_5, cp_6, cp_7, cp_8, cp_9, cp_10, cp_11, cp_12, cp_13, cp_14, cp_15, cp_up (show 10 ≤ 15 by decide), cp_up (show 0 ≤ 15 by decide)]
theorem cp_sd (M : hm_M) (k : Nat) : f_sd (cp M) k = cp (f_sd M k) := by
  simp only [f_sd, cp_sdA, cp_fin, cp_0, cp_1, cp_2, cp_4, cp_5, cp_6, cp_7, cp_8, cp_9, cp_10, cp_11, cp_12, cp_13, cp_14, cp_15, cp_up (show 10 ≤ 15 by decide), cp_if]
theorem cp_add (M : hm_M) (a b c d : Int32) : f_add (cp M) a b c d = cp (f_add M a b c d) := by
  simp only [f_add, cp_0, cp_1, cp_2, cp_4, cp_5, cp_6, cp_7, cp_8, cp_9, cp_10, cp_11, cp_12, cp_13, cp_14, cp_15, cp_up (show 4 ≤ 15 by decide), cp_up (show 6 ≤ 15 by decide), cp_up (show 7 ≤ 15 by decide), cp_up (show 8 ≤ 15 by decide), cp_up (show 9 ≤ 15 by decide)]
theorem cp_chg (M : hm_M) (k : Nat) : f_chg (cp M) k = cp (f_chg M k) := by
  simp only [f_chg, cp_getsR, cp_gets, cp_0, cp_1, cp_2, cp_4, cp_5, cp_6, cp_7, cp_8, cp_9, cp_10, cp_11, cp_12, cp_13, cp_14, cp_15, cp_up (show 1 ≤ 15 by decide), cp_up (show 2 ≤ 15 by decide), cp_sd, cp_if]
theorem cp_send (M : hm_M) (k : Nat) : f_send (cp M) k = cp (f_send M k) := by
  simp only [f_send, cp_add, cp_undo, cp_0, cp_1, cp_2, cp_4, cp_5, cp_6, cp_7, cp_8, cp_9, cp_10, cp_11, cp_12, cp_13, cp_14, cp_15, cp_up (show 15 ≤ 15 by decide), cp_sd, cp_if]
theorem cp_first (M : hm_M) (q : Int32) : ∀ (n i : Nat), f_first (cp M) q n i = f_first M q n i := by
  intro n
  induction n with
  | zero => intro i; rfl
  | succ n ih => intro i; simp only [f_first, cp_0, cp_1, cp_2, cp_4, cp_5, cp_6, cp_7, cp_8, cp_9, cp_10, cp_11, cp_12, cp_13, cp_14, cp_15, ih]
theorem cp_hear (M : hm_M) (k : Nat) : f_hear (cp M) k = cp (f_hear M k) := by
  simp only [f_hear, f_hearM, cp_getsR, cp_gets, cp_first, cp_0, cp_1, cp_2, cp_4, cp_5, cp_6, cp_7, cp_8, cp_9, cp_10, cp_11, cp_12, cp_13, cp_14, cp_15, cp_up (show 1 ≤ 15 by decide), cp_up (show 2 ≤ 15 by decide), cp_up (show 6 ≤ 15 by decide), cp_up (show 15 ≤ 15 by decide), cp_up (show 10 ≤ 15 by decide), cp_sd, cp_if]
theorem cp_turn (M : hm_M) (k : Nat) : f_turn (cp M) k = cp (f_turn M k) := by
  simp only [f_turn, cp_chg, cp_send, cp_hear, cp_undo, cp_fin, cp_0, cp_1, cp_2, cp_4, cp_5, cp_6, cp_7, cp_8, cp_9, cp_10, cp_11, cp_12, cp_13, cp_14, cp_15, cp_up (show 14 ≤ 15 by decide), cp_if]
theorem cp_round : ∀ (n i : Nat) (M : hm_M), f_round n i (cp M) = cp (f_round n i M) := by
  intro n
  induction n with
  | zero => intro i M; rfl
  | succ n ih => intro i M; simp only [f_round, cp_may, cp_turn, cp_if, ih]
theorem cp_runL : ∀ (n : Nat) (M : hm_M), f_runL n (cp M) = cp (f_runL n M) := by
  intro n
  induction n with
  | zero => intro M; rfl
  | succ n ih => intro M; simp only [f_runL, cp_0, cp_1, cp_2, cp_4, cp_5, cp_6, cp_7, cp_8, cp_9, cp_10, cp_11, cp_12, cp_13, cp_14, cp_15, cp_round, ih]
theorem cp_closeM : ∀ (n i : Nat) (M : hm_M), f_closeM n i (cp M) = cp (f_closeM n i M) := by
  intro n
  induction n with
  | zero => intro i M; rfl
  | succ n ih => intro i M; simp only [f_closeM, cp_0, cp_1, cp_2, cp_4, cp_5, cp_6, cp_7, cp_8, cp_9, cp_10, cp_11, cp_12, cp_13, cp_14, cp_15, cp_undo, cp_if, ih]
theorem cp_closeN : ∀ (n i : Nat) (M : hm_M) (a : Int32), f_closeN n i (cp M) a = f_closeN n i M a := by
  intro n
  induction n with
  | zero => intro i M a; rfl
  | succ n ih => intro i M a; simp only [f_closeN, cp_0, cp_1, cp_2, cp_4, cp_5, cp_6, cp_7, cp_8, cp_9, cp_10, cp_11, cp_12, cp_13, cp_14, cp_15, cp_undo, cp_if, ih]
theorem cp_held (M : hm_M) (q : Int32) : ∀ (n i : Nat) (a : Int32), f_held (cp M) q n i a = f_held M q n i a := by
  intro n
  induction n with
  | zero => intro i a; rfl
  | succ n ih => intro i a; simp only [f_held, cp_0, cp_1, cp_2, cp_4, cp_5, cp_6, cp_7, cp_8, cp_9, cp_10, cp_11, cp_12, cp_13, cp_14, cp_15, ih]
theorem cp_done (M : hm_M) : ∀ (n i : Nat) (a : Int32), f_done (cp M) n i a = f_done M n i a := by
  intro n
  induction n with
  | zero => intro i a; rfl
  | succ n ih => intro i a; simp only [f_done, cp_0, cp_1, cp_2, cp_4, cp_5, cp_6, cp_7, cp_8, cp_9, cp_10, cp_11, cp_12, cp_13, cp_14, cp_15, ih]
theorem cp_way (M : hm_M) : ∀ (n i : Nat) (a : Int32), f_way (cp M) n i a = f_way M n i a := by
  intro n
  induction n with
  | zero => intro i a; rfl
  | succ n ih => intro i a; simp only [f_way, cp_0, cp_1, cp_2, cp_4, cp_5, cp_6, cp_7, cp_8, cp_9, cp_10, cp_11, cp_12, cp_13, cp_14, cp_15, ih]
theorem cp_append (M : hm_M) (k : Nat) (a b c : Int32) : f_append (cp M) k a b c = cp (f_append M k a b c) := by
  simp only [f_append, cp_0, cp_1, cp_2, cp_4, cp_5, cp_6, cp_7, cp_8, cp_9, cp_10, cp_11, cp_12, cp_13, cp_14, cp_15, cp_up (show 11 ≤ 15 by decide), cp_up (show 12 ≤ 15 by decide), cp_up (show 13 ≤ 15 by decide), cp_up (show 10 ≤ 15 by decide)]
theorem cp_restart (M : hm_M) (k : Nat) : f_restart (cp M) k = cp (f_restart M k) := by
  simp only [f_restart, cp_up (show 10 ≤ 15 by decide)]
theorem cp_count (M : hm_M) (w : Int32) : f_count (cp M) w = f_count M w := by
  simp only [f_count, cp_0, cp_1, cp_2, cp_4, cp_5, cp_6, cp_7, cp_8, cp_9, cp_10, cp_11, cp_12, cp_13, cp_14, cp_15, cp_done, cp_way]
/-- answers, with the class's part of what is left behind -/
def rc (r : hr_T) : hr_T := match r with
  | .inl u => .inl (u.1, cp u.2)
  | .inr e => .inr e
theorem rc_if {c : Prop} {_ : Decidable c} {A B : hr_T} : rc (if c then A else B) = (if c then rc A else rc B) := by split <;> rfl
theorem rc_l {v : Option Value} {M : hm_M} : rc (.inl (v, M)) = .inl (v, cp M) := rfl
theorem rc_r {e : String} : rc (.inr e) = .inr e := rfl
theorem cp_r_part (M : hm_M) (x : Int32) : r_part (cp M) x = rc (r_part M x) := by
  simp only [r_part, rc_if, rc_l, rc_r, cp_isPart, cp_isStep, cp_isMsg, cp_may, cp_turn, cp_undo, cp_restart, cp_append, cp_runL, cp_await, cp_held, cp_0, cp_1, cp_2, cp_4, cp_5, cp_6, cp_7, cp_8, cp_9, cp_10, cp_11, cp_12, cp_13, cp_14, cp_15, cp_up (show 0 ≤ 15 by decide), cp_up (show 10 ≤ 15 by decide), cp_up (show 14 ≤ 15 by decide), cp_up (show 6 ≤ 15 by decide)]
theorem cp_r_step (M : hm_M) (q kd a b : Int32) : r_step (cp M) q kd a b = rc (r_step M q kd a b) := by
  simp only [r_step, rc_if, rc_l, rc_r, cp_isPart, cp_isStep, cp_isMsg, cp_may, cp_turn, cp_undo, cp_restart, cp_append, cp_runL, cp_await, cp_held, cp_0, cp_1, cp_2, cp_4, cp_5, cp_6, cp_7, cp_8, cp_9, cp_10, cp_11, cp_12, cp_13, cp_14, cp_15, cp_up (show 0 ≤ 15 by decide), cp_up (show 10 ≤ 15 by decide), cp_up (show 14 ≤ 15 by decide), cp_up (show 6 ≤ 15 by decide)]
theorem cp_r_fails (M : hm_M) (q i on : Int32) : r_fails (cp M) q i on = rc (r_fails M q i on) := by
  simp only [r_fails, rc_if, rc_l, rc_r, cp_isPart, cp_isStep, cp_isMsg, cp_may, cp_turn, cp_undo, cp_restart, cp_append, cp_runL, cp_await, cp_held, cp_0, cp_1, cp_2, cp_4, cp_5, cp_6, cp_7, cp_8, cp_9, cp_10, cp_11, cp_12, cp_13, cp_14, cp_15, cp_up (show 0 ≤ 15 by decide), cp_up (show 10 ≤ 15 by decide), cp_up (show 14 ≤ 15 by decide), cp_up (show 6 ≤ 15 by decide)]
theorem cp_r_losing (M : hm_M) (on : Int32) : r_losing (cp M) on = rc (r_losing M on) := by
  simp only [r_losing, rc_if, rc_l, rc_r, cp_isPart, cp_isStep, cp_isMsg, cp_may, cp_turn, cp_undo, cp_restart, cp_append, cp_runL, cp_await, cp_held, cp_0, cp_1, cp_2, cp_4, cp_5, cp_6, cp_7, cp_8, cp_9, cp_10, cp_11, cp_12, cp_13, cp_14, cp_15, cp_up (show 0 ≤ 15 by decide), cp_up (show 10 ≤ 15 by decide), cp_up (show 14 ≤ 15 by decide), cp_up (show 6 ≤ 15 by decide)]
theorem cp_r_turn (M : hm_M) (q : Int32) : r_turn (cp M) q = rc (r_turn M q) := by
  simp only [r_turn, rc_if, rc_l, rc_r, cp_isPart, cp_isStep, cp_isMsg, cp_may, cp_turn, cp_undo, cp_restart, cp_append, cp_runL, cp_await, cp_held, cp_0, cp_1, cp_2, cp_4, cp_5, cp_6, cp_7, cp_8, cp_9, cp_10, cp_11, cp_12, cp_13, cp_14, cp_15, cp_up (show 0 ≤ 15 by decide), cp_up (show 10 ≤ 15 by decide), cp_up (show 14 ≤ 15 by decide), cp_up (show 6 ≤ 15 by decide)]
theorem cp_r_run (M : hm_M) (x : Int32) : r_run (cp M) x = rc (r_run M x) := by
  simp only [r_run, rc_if, rc_l, rc_r, cp_isPart, cp_isStep, cp_isMsg, cp_may, cp_turn, cp_undo, cp_restart, cp_append, cp_runL, cp_await, cp_held, cp_0, cp_1, cp_2, cp_4, cp_5, cp_6, cp_7, cp_8, cp_9, cp_10, cp_11, cp_12, cp_13, cp_14, cp_15, cp_up (show 0 ≤ 15 by decide), cp_up (show 10 ≤ 15 by decide), cp_up (show 14 ≤ 15 by decide), cp_up (show 6 ≤ 15 by decide)]
theorem cp_r_again (M : hm_M) (x : Int32) : r_again (cp M) x = rc (r_again M x) := by
  simp only [r_again, rc_if, rc_l, rc_r, cp_isPart, cp_isStep, cp_isMsg, cp_may, cp_turn, cp_undo, cp_restart, cp_append, cp_runL, cp_await, cp_held, cp_0, cp_1, cp_2, cp_4, cp_5, cp_6, cp_7, cp_8, cp_9, cp_10, cp_11, cp_12, cp_13, cp_14, cp_15, cp_up (show 0 ≤ 15 by decide), cp_up (show 10 ≤ 15 by decide), cp_up (show 14 ≤ 15 by decide), cp_up (show 6 ≤ 15 by decide)]
theorem cp_r_interrupt (M : hm_M) (q : Int32) : r_interrupt (cp M) q = rc (r_interrupt M q) := by
  simp only [r_interrupt, rc_if, rc_l, rc_r, cp_isPart, cp_isStep, cp_isMsg, cp_may, cp_turn, cp_undo, cp_restart, cp_append, cp_runL, cp_await, cp_held, cp_0, cp_1, cp_2, cp_4, cp_5, cp_6, cp_7, cp_8, cp_9, cp_10, cp_11, cp_12, cp_13, cp_14, cp_15, cp_up (show 0 ≤ 15 by decide), cp_up (show 10 ≤ 15 by decide), cp_up (show 14 ≤ 15 by decide), cp_up (show 6 ≤ 15 by decide)]
theorem cp_r_restart (M : hm_M) (q : Int32) : r_restart (cp M) q = rc (r_restart M q) := by
  simp only [r_restart, rc_if, rc_l, rc_r, cp_isPart, cp_isStep, cp_isMsg, cp_may, cp_turn, cp_undo, cp_restart, cp_append, cp_runL, cp_await, cp_held, cp_0, cp_1, cp_2, cp_4, cp_5, cp_6, cp_7, cp_8, cp_9, cp_10, cp_11, cp_12, cp_13, cp_14, cp_15, cp_up (show 0 ≤ 15 by decide), cp_up (show 10 ≤ 15 by decide), cp_up (show 14 ≤ 15 by decide), cp_up (show 6 ≤ 15 by decide)]
theorem cp_r_log (M : hm_M) (i : Int32) : r_log (cp M) i = rc (r_log M i) := by
  simp only [r_log, rc_if, rc_l, rc_r, cp_isPart, cp_isStep, cp_isMsg, cp_may, cp_turn, cp_undo, cp_restart, cp_append, cp_runL, cp_await, cp_held, cp_0, cp_1, cp_2, cp_4, cp_5, cp_6, cp_7, cp_8, cp_9, cp_10, cp_11, cp_12, cp_13, cp_14, cp_15, cp_up (show 0 ≤ 15 by decide), cp_up (show 10 ≤ 15 by decide), cp_up (show 14 ≤ 15 by decide), cp_up (show 6 ≤ 15 by decide)]
theorem cp_r_place (M : hm_M) (q w : Int32) : r_place (cp M) q w = rc (r_place M q w) := by
  simp only [r_place, rc_if, rc_l, rc_r, cp_isPart, cp_isStep, cp_isMsg, cp_may, cp_turn, cp_undo, cp_restart, cp_append, cp_runL, cp_await, cp_held, cp_0, cp_1, cp_2, cp_4, cp_5, cp_6, cp_7, cp_8, cp_9, cp_10, cp_11, cp_12, cp_13, cp_14, cp_15, cp_up (show 0 ≤ 15 by decide), cp_up (show 10 ≤ 15 by decide), cp_up (show 14 ≤ 15 by decide), cp_up (show 6 ≤ 15 by decide)]
theorem cp_r_message (M : hm_M) (x w : Int32) : r_message (cp M) x w = rc (r_message M x w) := by
  simp only [r_message, rc_if, rc_l, rc_r, cp_isPart, cp_isStep, cp_isMsg, cp_may, cp_turn, cp_undo, cp_restart, cp_append, cp_runL, cp_await, cp_held, cp_0, cp_1, cp_2, cp_4, cp_5, cp_6, cp_7, cp_8, cp_9, cp_10, cp_11, cp_12, cp_13, cp_14, cp_15, cp_up (show 0 ≤ 15 by decide), cp_up (show 10 ≤ 15 by decide), cp_up (show 14 ≤ 15 by decide), cp_up (show 6 ≤ 15 by decide)]
theorem cp_r_told (M : hm_M) (q w : Int32) : r_told (cp M) q w = rc (r_told M q w) := by
  simp only [r_told, rc_if, rc_l, rc_r, cp_isPart, cp_isStep, cp_isMsg, cp_may, cp_turn, cp_undo, cp_restart, cp_append, cp_runL, cp_await, cp_held, cp_0, cp_1, cp_2, cp_4, cp_5, cp_6, cp_7, cp_8, cp_9, cp_10, cp_11, cp_12, cp_13, cp_14, cp_15, cp_up (show 0 ≤ 15 by decide), cp_up (show 10 ≤ 15 by decide), cp_up (show 14 ≤ 15 by decide), cp_up (show 6 ≤ 15 by decide)]
