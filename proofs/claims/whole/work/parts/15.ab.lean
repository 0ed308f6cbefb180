/-- the reference's memory, laid out as the class lays out its own -/
def ab (M : hm_M) : hm_M := fun f k j => match f with
  | 0 => if k = 0 then (match j with
      | 5 => M 20 0 3
      | 6 => if 400 ≤ M 20 0 21 then 400 else M 20 0 21
      | 7 => M 20 0 21
      | 8 => M 20 0 22
      | 9 => M 20 0 16
      | _ => 0) else 0
  | 1 => if k = 0 then M 21 0 j else 0
  | 2 => if k = 0 then M 22 0 j else 0
  | 4 => if k = 0 ∧ j = 4 then M 20 0 15 else 0
  | 5 => if k = 0 then M 38 0 j else 0
  | 6 => if k = 0 then M 34 0 j else 0
  | 7 => if k = 0 then M 35 0 j else 0
  | 8 => if k = 0 then M 36 0 j else 0
  | 9 => if k = 0 then M 37 0 j else 0
  | 10 => if k < 6 then (match j with
      | 0 => nI k
      | 1 => M 23 0 k
      | 2 => M 24 0 k
      | 3 => M 26 0 k
      | 4 => M 25 0 k
      | 5 => M 28 0 k
      | _ => 0) else 0
  | 11 => if k < 6 ∧ j < 10 then M 29 0 (10 * k + j) else 0
  | 12 => if k < 6 ∧ j < 10 then M 30 0 (10 * k + j) else 0
  | 13 => if k < 6 ∧ j < 10 then M 31 0 (10 * k + j) else 0
  | 14 => if k < 6 ∧ j < 10 then M 32 0 (10 * k + j) else 0
  | 15 => if k < 6 ∧ j < 10 then M 33 0 (10 * k + j) else 0
  | _ => 0
theorem ab_21 (M : hm_M) (i : Nat) (x : Int32) : ab (hm_up M 21 0 i x) = hm_up (ab M) 1 0 i x := by
  funext f k j
  rw [hm_up_at]
  simp only [ab]
  split <;> (try split) <;> (try split) <;> simp_all [hm_up_at]
theorem ab_22 (M : hm_M) (i : Nat) (x : Int32) : ab (hm_up M 22 0 i x) = hm_up (ab M) 2 0 i x := by
  funext f k j
  rw [hm_up_at]
  simp only [ab]
  split <;> (try split) <;> (try split) <;> simp_all [hm_up_at]
theorem ab_38 (M : hm_M) (i : Nat) (x : Int32) : ab (hm_up M 38 0 i x) = hm_up (ab M) 5 0 i x := by
  funext f k j
  rw [hm_up_at]
  simp only [ab]
  split <;> (try split) <;> (try split) <;> simp_all [hm_up_at]
theorem ab_34 (M : hm_M) (i : Nat) (x : Int32) : ab (hm_up M 34 0 i x) = hm_up (ab M) 6 0 i x := by
  funext f k j
  rw [hm_up_at]
  simp only [ab]
  split <;> (try split) <;> (try split) <;> simp_all [hm_up_at]
theorem ab_35 (M : hm_M) (i : Nat) (x : Int32) : ab (hm_up M 35 0 i x) = hm_up (ab M) 7 0 i x := by
  funext f k j
  rw [hm_up_at]
  simp only [ab]
  split <;> (try split) <;> (try split) <;> simp_all [hm_up_at]
theorem ab_36 (M : hm_M) (i : Nat) (x : Int32) : ab (hm_up M 36 0 i x) = hm_up (ab M) 8 0 i x := by
  funext f k j
  rw [hm_up_at]
  simp only [ab]
  split <;> (try split) <;> (try split) <;> simp_all [hm_up_at]
theorem ab_37 (M : hm_M) (i : Nat) (x : Int32) : ab (hm_up M 37 0 i x) = hm_up (ab M) 9 0 i x := by
  funext f k j
  rw [hm_up_at]
  simp only [ab]
  split <;> (try split) <;> (try split) <;> simp_all [hm_up_at]
theorem ab_23 (M : hm_M) {i : Nat} (hi : i < 6) (x : Int32) : ab (hm_up M 23 0 i x) = hm_up (ab M) 10 i 1 x := by
  funext f k j
  rw [hm_up_at]
  simp only [ab]
  split <;> (try split) <;> (try split) <;> simp_all [hm_up_at]
  all_goals (try (intro h; omega))
theorem ab_24 (M : hm_M) {i : Nat} (hi : i < 6) (x : Int32) : ab (hm_up M 24 0 i x) = hm_up (ab M) 10 i 2 x := by
  funext f k j
  rw [hm_up_at]
  simp only [ab]
  split <;> (try split) <;> (try split) <;> simp_all [hm_up_at]
  all_goals (try (intro h; omega))
theorem ab_26 (M : hm_M) {i : Nat} (hi : i < 6) (x : Int32) : ab (hm_up M 26 0 i x) = hm_up (ab M) 10 i 3 x := by
  funext f k j
  rw [hm_up_at]
  simp only [ab]
  split <;> (try split) <;> (try split) <;> simp_all [hm_up_at]
  all_goals (try (intro h; omega))
theorem ab_25 (M : hm_M) {i : Nat} (hi : i < 6) (x : Int32) : ab (hm_up M 25 0 i x) = hm_up (ab M) 10 i 4 x := by
  funext f k j
  rw [hm_up_at]
  simp only [ab]
  split <;> (try split) <;> (try split) <;> simp_all [hm_up_at]
  all_goals (try (intro h; omega))
theorem ab_28 (M : hm_M) {i : Nat} (hi : i < 6) (x : Int32) : ab (hm_up M 28 0 i x) = hm_up (ab M) 10 i 5 x := by
  funext f k j
  rw [hm_up_at]
  simp only [ab]
  split <;> (try split) <;> (try split) <;> simp_all [hm_up_at]
  all_goals (try (intro h; omega))
theorem ab_29 (M : hm_M) {c i : Nat} (hc : c < 6) (hi : i < 10) (x : Int32) : ab (hm_up M 29 0 (10 * c + i) x) = hm_up (ab M) 11 c i x := by
  funext f k j
  rw [hm_up_at]
  simp only [ab]
  split <;> (try split) <;> (try split) <;> simp_all [hm_up_at]
  all_goals (try (intro h; omega))
theorem ab_30 (M : hm_M) {c i : Nat} (hc : c < 6) (hi : i < 10) (x : Int32) : ab (hm_up M 30 0 (10 * c + i) x) = hm_up (ab M) 12 c i x := by
  funext f k j
  rw [hm_up_at]
  simp only [ab]
  split <;> (try split) <;> (try split) <;> simp_all [hm_up_at]
  all_goals (try (intro h; omega))
theorem ab_31 (M : hm_M) {c i : Nat} (hc : c < 6) (hi : i < 10) (x : Int32) : ab (hm_up M 31 0 (10 * c + i) x) = hm_up (ab M) 13 c i x := by
  funext f k j
  rw [hm_up_at]
  simp only [ab]
  split <;> (try split) <;> (try split) <;> simp_all [hm_up_at]
  all_goals (try (intro h; omega))
theorem ab_32 (M : hm_M) {c i : Nat} (hc : c < 6) (hi : i < 10) (x : Int32) : ab (hm_up M 32 0 (10 * c + i) x) = hm_up (ab M) 14 c i x := by
  funext f k j
  rw [hm_up_at]
  simp only [ab]
  split <;> (try split) <;> (try split) <;> simp_all [hm_up_at]
  all_goals (try (intro h; omega))
theorem ab_33 (M : hm_M) {c i : Nat} (hc : c < 6) (hi : i < 10) (x : Int32) : ab (hm_up M 33 0 (10 * c + i) x) = hm_up (ab M) 15 c i x := by
  funext f k j
  rw [hm_up_at]
  simp only [ab]
  split <;> (try split) <;> (try split) <;> simp_all [hm_up_at]
  all_goals (try (intro h; omega))
theorem ab_27 (M : hm_M) (i : Nat) (x : Int32) : ab (hm_up M 27 0 i x) = ab M := by
  funext f k j
  simp only [ab]
  split <;> (try split) <;> (try split) <;> simp_all [hm_up_at]
theorem ab_20_3 (M : hm_M) (x : Int32) : ab (hm_up M 20 0 3 x) = hm_up (ab M) 0 0 5 x := by
  funext f k j
  rw [hm_up_at]
  simp only [ab]
  split <;> (try split) <;> (try split) <;> simp_all [hm_up_at]
theorem ab_20_22 (M : hm_M) (x : Int32) : ab (hm_up M 20 0 22 x) = hm_up (ab M) 0 0 8 x := by
  funext f k j
  rw [hm_up_at]
  simp only [ab]
  split <;> (try split) <;> (try split) <;> simp_all [hm_up_at]
theorem ab_20_16 (M : hm_M) (x : Int32) : ab (hm_up M 20 0 16 x) = hm_up (ab M) 0 0 9 x := by
  funext f k j
  rw [hm_up_at]
  simp only [ab]
  split <;> (try split) <;> (try split) <;> simp_all [hm_up_at]
theorem ab_20_0 (M : hm_M) (x : Int32) : ab (hm_up M 20 0 0 x) = ab M := by
  funext f k j
  simp only [ab]
  split <;> (try split) <;> (try split) <;> simp_all [hm_up_at]
theorem ab_20_15 (M : hm_M) (x : Int32) : ab (hm_up M 20 0 15 x) = hm_up (ab M) 4 0 4 x := by
  funext f k j
  rw [hm_up_at]
  simp only [ab]
  split <;> (try split) <;> (try split) <;> simp_all [hm_up_at]
theorem ab_hi {M M' : hm_M} (h : ∀ f, 15 < f → M' f = M f) : ab M' = ab M := by
  have h20 := h 20 (by decide)
  have h21 := h 21 (by decide)
  have h22 := h 22 (by decide)
  have h23 := h 23 (by decide)
  have h24 := h 24 (by decide)
  have h25 := h 25 (by decide)
  have h26 := h 26 (by decide)
  have h27 := h 27 (by decide)
  have h28 := h 28 (by decide)
  have h29 := h 29 (by decide)
  have h30 := h 30 (by decide)
  have h31 := h 31 (by decide)
  have h32 := h 32 (by decide)
  have h33 := h 33 (by decide)
  have h34 := h 34 (by decide)
  have h35 := h 35 (by decide)
  have h36 := h 36 (by decide)
  have h37 := h 37 (by decide)
  have h38 := h 38 (by decide)
  funext f k j
  simp only [ab, h20, h21, h22, h23, h24, h25, h26, h27, h28, h29, h30, h31, h32, h33, h34, h35, h36, h37, h38]
