/-- where the families lie -/
def ly (h : Nat) (g : Nat → Nat) (mo : Nat) (gm : Nat → Nat) (o : Nat) (f k : Nat) : Nat := match f with
  | 0 => h
  | 1 => g 0
  | 2 => g 1
  | 3 => g 2
  | 4 => g 3
  | 6 => g 4
  | 7 => g 5
  | 8 => g 6
  | 9 => g 7
  | 5 => g 8
  | 10 => g (9 + 6 * k)
  | 11 => g (10 + 6 * k)
  | 12 => g (11 + 6 * k)
  | 13 => g (12 + 6 * k)
  | 14 => g (13 + 6 * k)
  | 15 => g (14 + 6 * k)
  | 20 => mo
  | 21 => gm 0
  | 22 => gm 1
  | 23 => gm 2
  | 24 => gm 3
  | 25 => gm 4
  | 26 => gm 5
  | 27 => gm 6
  | 28 => gm 7
  | 29 => gm 8
  | 30 => gm 9
  | 31 => gm 10
  | 32 => gm 11
  | 33 => gm 12
  | 34 => gm 13
  | 35 => gm 14
  | 36 => gm 15
  | 37 => gm 16
  | 38 => gm 17
  | 40 => o
  | _ => 0
def ly_i (f k : Nat) : Nat := match f with
  | 0 => 0
  | 1 => 1
  | 2 => 2
  | 3 => 3
  | 4 => 4
  | 6 => 5
  | 7 => 6
  | 8 => 7
  | 9 => 8
  | 5 => 9
  | 10 => 10 + 6 * k
  | 11 => 11 + 6 * k
  | 12 => 12 + 6 * k
  | 13 => 13 + 6 * k
  | 14 => 14 + 6 * k
  | 15 => 15 + 6 * k
  | 20 => 46
  | 21 => 47
  | 22 => 48
  | 23 => 49
  | 24 => 50
  | 25 => 51
  | 26 => 52
  | 27 => 53
  | 28 => 54
  | 29 => 55
  | 30 => 56
  | 31 => 57
  | 32 => 58
  | 33 => 59
  | 34 => 60
  | 35 => 61
  | 36 => 62
  | 37 => 63
  | 38 => 64
  | 40 => 65
  | _ => 0
def ly_v (i : Nat) : Nat × Nat := ([(0, 0), (1, 0), (2, 0), (3, 0), (4, 0), (6, 0), (7, 0), (8, 0), (9, 0), (5, 0), (10, 0), (11, 0), (12, 0), (13, 0), (14, 0), (15, 0), (10, 1), (11, 1), (12, 1), (13, 1), (14, 1), (15, 1), (10, 2), (11, 2), (12, 2), (13, 2), (14, 2), (15, 2), (10, 3), (11, 3), (12, 3), (13, 3), (14, 3), (15, 3), (10, 4), (11, 4), (12, 4), (13, 4), (14, 4), (15, 4), (10, 5), (11, 5), (12, 5), (13, 5), (14, 5), (15, 5), (20, 0), (21, 0), (22, 0), (23, 0), (24, 0), (25, 0), (26, 0), (27, 0), (28, 0), (29, 0), (30, 0), (31, 0), (32, 0), (33, 0), (34, 0), (35, 0), (36, 0), (37, 0), (38, 0), (40, 0)] : List (Nat × Nat)).getD i (0, 0)
def M0 : hm_M := fun f k j => match f with
  | 2 => (match k with
    | 0 => hd_f 8 j
    | _ => 0)
  | 22 => (match k with
    | 0 => hd_f 8 j
    | _ => 0)
  | 10 => if k < 6 then (match j with
    | 0 => nI k
    | _ => 0) else 0
  | _ => 0
abbrev ws_L (ar : Nat → ClassId) (h : Nat) (g : Nat → Nat) (mo : Nat) (gm : Nat → Nat) (o : Nat) : va_W := [(h, .inr (2, [.ref (g 0), .ref (g 1), .ref (g 2), .ref (g 3), .ref (g 8), .int 0, .int 0, .int 0, .int 0, .int 0])), (g 0, ia ar 8), (g 1, ha ar 8), (g 2, pa ar (va_up (va_up (va_up (va_up (va_up (va_up (fun _ => none) 0 (some (g 9))) 1 (some (g 15))) 2 (some (g 21))) 3 (some (g 27))) 4 (some (g 33))) 5 (some (g 39)))), (g 3, .inr (1, [.ref (g 4), .ref (g 5), .ref (g 6), .ref (g 7), .int 0])), (g 4, ia ar 61), (g 5, ia ar 61), (g 6, ia ar 61), (g 7, ia ar 61), (g 8, ia ar 400), (g 9, .inr (0, [.int 0, .int 0, .int 0, .int 0, .int 0, .int 0, .ref (g 10), .ref (g 11), .ref (g 12), .ref (g 13), .ref (g 14)])), (g 10, ia ar 10), (g 11, ia ar 10), (g 12, ia ar 10), (g 13, ba ar 10), (g 14, ia ar 10), (g 15, .inr (0, [.int 1, .int 0, .int 0, .int 0, .int 0, .int 0, .ref (g 16), .ref (g 17), .ref (g 18), .ref (g 19), .ref (g 20)])), (g 16, ia ar 10), (g 17, ia ar 10), (g 18, ia ar 10), (g 19, ba ar 10), (g 20, ia ar 10), (g 21, .inr (0, [.int 2, .int 0, .int 0, .int 0, .int 0, .int 0, .ref (g 22), .ref (g 23), .ref (g 24), .ref (g 25), .ref (g 26)])), (g 22, ia ar 10), (g 23, ia ar 10), (g 24, ia ar 10), (g 25, ba ar 10), (g 26, ia ar 10), (g 27, .inr (0, [.int 3, .int 0, .int 0, .int 0, .int 0, .int 0, .ref (g 28), .ref (g 29), .ref (g 30), .ref (g 31), .ref (g 32)])), (g 28, ia ar 10), (g 29, ia ar 10), (g 30, ia ar 10), (g 31, ba ar 10), (g 32, ia ar 10), (g 33, .inr (0, [.int 4, .int 0, .int 0, .int 0, .int 0, .int 0, .ref (g 34), .ref (g 35), .ref (g 36), .ref (g 37), .ref (g 38)])), (g 34, ia ar 10), (g 35, ia ar 10), (g 36, ia ar 10), (g 37, ba ar 10), (g 38, ia ar 10), (g 39, .inr (0, [.int 5, .int 0, .int 0, .int 0, .int 0, .int 0, .ref (g 40), .ref (g 41), .ref (g 42), .ref (g 43), .ref (g 44)])), (g 40, ia ar 10), (g 41, ia ar 10), (g 42, ia ar 10), (g 43, ba ar 10), (g 44, ia ar 10), (mo, .inr (3, [.int 0, .ref (gm 0), .ref (gm 1), .int 0, .ref (gm 2), .ref (gm 3), .ref (gm 4), .ref (gm 5), .ref (gm 6), .ref (gm 7), .ref (gm 8), .ref (gm 9), .ref (gm 10), .ref (gm 11), .ref (gm 12), .int 0, .int 0, .ref (gm 13), .ref (gm 14), .ref (gm 15), .ref (gm 16), .int 0, .int 0, .ref (gm 17)])), (gm 0, ia ar 8), (gm 1, ha ar 8), (gm 2, ia ar 6), (gm 3, ia ar 6), (gm 4, ia ar 6), (gm 5, ia ar 6), (gm 6, ia ar 6), (gm 7, ia ar 6), (gm 8, ia ar 60), (gm 9, ia ar 60), (gm 10, ia ar 60), (gm 11, ba ar 60), (gm 12, ia ar 60), (gm 13, ia ar 61), (gm 14, ia ar 61), (gm 15, ia ar 61), (gm 16, ia ar 61), (gm 17, ia ar 400), (o, .inl (ar 2, 1, .inr (.inl (fun _ => (0 : Int32).toInt64))))]
set_option maxRecDepth 100000 in
theorem ly_ix (ar : Nat → ClassId) (h : Nat) (g : Nat → Nat) (mo : Nat) (gm : Nat → Nat) (o : Nat) (f k : Nat) (hk : k < wd_cnt f) : (∃ e : va_E, (ws_L ar h g mo gm o)[ly_i f k]? = some (ly h g mo gm o f k, e)) ∧ ly_v (ly_i f k) = (f, k) := by
  match f, hk with
  | 0, hk =>
    have hk1 : k < 1 := hk
    obtain rfl : k = 0 := by omega
    exact ⟨⟨_, rfl⟩, rfl⟩
  | 1, hk =>
    have hk1 : k < 1 := hk
    obtain rfl : k = 0 := by omega
    exact ⟨⟨_, rfl⟩, rfl⟩
  | 2, hk =>
    have hk1 : k < 1 := hk
    obtain rfl : k = 0 := by omega
    exact ⟨⟨_, rfl⟩, rfl⟩
  | 3, hk =>
    have hk1 : k < 1 := hk
    obtain rfl : k = 0 := by omega
    exact ⟨⟨_, rfl⟩, rfl⟩
  | 4, hk =>
    have hk1 : k < 1 := hk
    obtain rfl : k = 0 := by omega
    exact ⟨⟨_, rfl⟩, rfl⟩
  | 5, hk =>
    have hk1 : k < 1 := hk
    obtain rfl : k = 0 := by omega
    exact ⟨⟨_, rfl⟩, rfl⟩
  | 6, hk =>
    have hk1 : k < 1 := hk
    obtain rfl : k = 0 := by omega
    exact ⟨⟨_, rfl⟩, rfl⟩
  | 7, hk =>
    have hk1 : k < 1 := hk
    obtain rfl : k = 0 := by omega
    exact ⟨⟨_, rfl⟩, rfl⟩
  | 8, hk =>
    have hk1 : k < 1 := hk
    obtain rfl : k = 0 := by omega
    exact ⟨⟨_, rfl⟩, rfl⟩
  | 9, hk =>
    have hk1 : k < 1 := hk
    obtain rfl : k = 0 := by omega
    exact ⟨⟨_, rfl⟩, rfl⟩
  | 10, hk =>
    have hk6 : k < 6 := hk
    match k, hk6 with
    | 0, _ => exact ⟨⟨_, rfl⟩, rfl⟩
    | 1, _ => exact ⟨⟨_, rfl⟩, rfl⟩
    | 2, _ => exact ⟨⟨_, rfl⟩, rfl⟩
    | 3, _ => exact ⟨⟨_, rfl⟩, rfl⟩
    | 4, _ => exact ⟨⟨_, rfl⟩, rfl⟩
    | 5, _ => exact ⟨⟨_, rfl⟩, rfl⟩
    | n + 6, h => exact absurd h (by omega)
  | 11, hk =>
    have hk6 : k < 6 := hk
    match k, hk6 with
    | 0, _ => exact ⟨⟨_, rfl⟩, rfl⟩
    | 1, _ => exact ⟨⟨_, rfl⟩, rfl⟩
    | 2, _ => exact ⟨⟨_, rfl⟩, rfl⟩
    | 3, _ => exact ⟨⟨_, rfl⟩, rfl⟩
    | 4, _ => exact ⟨⟨_, rfl⟩, rfl⟩
    | 5, _ => exact ⟨⟨_, rfl⟩, rfl⟩
    | n + 6, h => exact absurd h (by omega)
  | 12, hk =>
    have hk6 : k < 6 := hk
    match k, hk6 with
    | 0, _ => exact ⟨⟨_, rfl⟩, rfl⟩
    | 1, _ => exact ⟨⟨_, rfl⟩, rfl⟩
    | 2, _ => exact ⟨⟨_, rfl⟩, rfl⟩
    | 3, _ => exact ⟨⟨_, rfl⟩, rfl⟩
    | 4, _ => exact ⟨⟨_, rfl⟩, rfl⟩
    | 5, _ => exact ⟨⟨_, rfl⟩, rfl⟩
    | n + 6, h => exact absurd h (by omega)
  | 13, hk =>
    have hk6 : k < 6 := hk
    match k, hk6 with
    | 0, _ => exact ⟨⟨_, rfl⟩, rfl⟩
    | 1, _ => exact ⟨⟨_, rfl⟩, rfl⟩
    | 2, _ => exact ⟨⟨_, rfl⟩, rfl⟩
    | 3, _ => exact ⟨⟨_, rfl⟩, rfl⟩
    | 4, _ => exact ⟨⟨_, rfl⟩, rfl⟩
    | 5, _ => exact ⟨⟨_, rfl⟩, rfl⟩
    | n + 6, h => exact absurd h (by omega)
  | 14, hk =>
    have hk6 : k < 6 := hk
    match k, hk6 with
    | 0, _ => exact ⟨⟨_, rfl⟩, rfl⟩
    | 1, _ => exact ⟨⟨_, rfl⟩, rfl⟩
    | 2, _ => exact ⟨⟨_, rfl⟩, rfl⟩
    | 3, _ => exact ⟨⟨_, rfl⟩, rfl⟩
    | 4, _ => exact ⟨⟨_, rfl⟩, rfl⟩
    | 5, _ => exact ⟨⟨_, rfl⟩, rfl⟩
    | n + 6, h => exact absurd h (by omega)
  | 15, hk =>
    have hk6 : k < 6 := hk
    match k, hk6 with
    | 0, _ => exact ⟨⟨_, rfl⟩, rfl⟩
    | 1, _ => exact ⟨⟨_, rfl⟩, rfl⟩
    | 2, _ => exact ⟨⟨_, rfl⟩, rfl⟩
    | 3, _ => exact ⟨⟨_, rfl⟩, rfl⟩
    | 4, _ => exact ⟨⟨_, rfl⟩, rfl⟩
    | 5, _ => exact ⟨⟨_, rfl⟩, rfl⟩
    | n + 6, h => exact absurd h (by omega)
  | 16, hk => exact absurd hk (Nat.not_lt_zero _)
  | 17, hk => exact absurd hk (Nat.not_lt_zero _)
  | 18, hk => exact absurd hk (Nat.not_lt_zero _)
  | 19, hk => exact absurd hk (Nat.not_lt_zero _)
  | 20, hk =>
    have hk1 : k < 1 := hk
    obtain rfl : k = 0 := by omega
    exact ⟨⟨_, rfl⟩, rfl⟩
  | 21, hk =>
    have hk1 : k < 1 := hk
    obtain rfl : k = 0 := by omega
    exact ⟨⟨_, rfl⟩, rfl⟩
  | 22, hk =>
    have hk1 : k < 1 := hk
    obtain rfl : k = 0 := by omega
    exact ⟨⟨_, rfl⟩, rfl⟩
  | 23, hk =>
    have hk1 : k < 1 := hk
    obtain rfl : k = 0 := by omega
    exact ⟨⟨_, rfl⟩, rfl⟩
  | 24, hk =>
    have hk1 : k < 1 := hk
    obtain rfl : k = 0 := by omega
    exact ⟨⟨_, rfl⟩, rfl⟩
  | 25, hk =>
    have hk1 : k < 1 := hk
    obtain rfl : k = 0 := by omega
    exact ⟨⟨_, rfl⟩, rfl⟩
  | 26, hk =>
    have hk1 : k < 1 := hk
    obtain rfl : k = 0 := by omega
    exact ⟨⟨_, rfl⟩, rfl⟩
  | 27, hk =>
    have hk1 : k < 1 := hk
    obtain rfl : k = 0 := by omega
    exact ⟨⟨_, rfl⟩, rfl⟩
  | 28, hk =>
    have hk1 : k < 1 := hk
    obtain rfl : k = 0 := by omega
    exact ⟨⟨_, rfl⟩, rfl⟩
  | 29, hk =>
    have hk1 : k < 1 := hk
    obtain rfl : k = 0 := by omega
    exact ⟨⟨_, rfl⟩, rfl⟩
  | 30, hk =>
    have hk1 : k < 1 := hk
    obtain rfl : k = 0 := by omega
    exact ⟨⟨_, rfl⟩, rfl⟩
  | 31, hk =>
    have hk1 : k < 1 := hk
    obtain rfl : k = 0 := by omega
    exact ⟨⟨_, rfl⟩, rfl⟩
  | 32, hk =>
    have hk1 : k < 1 := hk
    obtain rfl : k = 0 := by omega
    exact ⟨⟨_, rfl⟩, rfl⟩
  | 33, hk =>
    have hk1 : k < 1 := hk
    obtain rfl : k = 0 := by omega
    exact ⟨⟨_, rfl⟩, rfl⟩
  | 34, hk =>
    have hk1 : k < 1 := hk
    obtain rfl : k = 0 := by omega
    exact ⟨⟨_, rfl⟩, rfl⟩
  | 35, hk =>
    have hk1 : k < 1 := hk
    obtain rfl : k = 0 := by omega
    exact ⟨⟨_, rfl⟩, rfl⟩
  | 36, hk =>
    have hk1 : k < 1 := hk
    obtain rfl : k = 0 := by omega
    exact ⟨⟨_, rfl⟩, rfl⟩
  | 37, hk =>
    have hk1 : k < 1 := hk
    obtain rfl : k = 0 := by omega
    exact ⟨⟨_, rfl⟩, rfl⟩
  | 38, hk =>
    have hk1 : k < 1 := hk
    obtain rfl : k = 0 := by omega
    exact ⟨⟨_, rfl⟩, rfl⟩
  | 39, hk => exact absurd hk (Nat.not_lt_zero _)
  | 40, hk =>
    have hk1 : k < 1 := hk
    obtain rfl : k = 0 := by omega
    exact ⟨⟨_, rfl⟩, rfl⟩
  | n + 41, hk => exact absurd hk (Nat.not_lt_zero _)
theorem arr_eq {c : ClassId} {n : Nat} {f g : Nat → Option Nat} (h : ∀ j, j < n → f j = g j) : vp_cell c (n, .inr (.inr (.inr (.inr f)))) = vp_cell c (n, .inr (.inr (.inr (.inr g)))) := by
  rw [vp_cell_q, vp_cell_q]
  unfold arrV
  congr 2
  funext j
  show va_rf (f j.val) = va_rf (g j.val)
  rw [h j.val j.isLt]
set_option maxRecDepth 100000 in
theorem ly_H (D : va_G) (ar : Nat → ClassId) (h : Nat) (g : Nat → Nat) (mo : Nat) (gm : Nat → Nat) (o : Nat) (H : Heap) (hP : va_P D wd_cl (ws_L ar h g mo gm o) H) : hw_H D ar (ly h g mo gm o) M0 H := by
  intro f k hk
  match f, hk with
  | 0, hk =>
    have hk1 : k < 1 := hk
    obtain rfl : k = 0 := by omega
    exact hP 0 _ rfl
  | 1, hk =>
    have hk1 : k < 1 := hk
    obtain rfl : k = 0 := by omega
    exact hP 1 _ rfl
  | 2, hk =>
    have hk1 : k < 1 := hk
    obtain rfl : k = 0 := by omega
    exact hP 2 _ rfl
  | 3, hk =>
    have hk1 : k < 1 := hk
    obtain rfl : k = 0 := by omega
    have z := hP 3 _ rfl
    have z : H[g 2]? = some (vp_cell _ _) := z
    show H[g 2]? = some (vp_cell (ar 3) (6, .inr (.inr (.inr (.inr (fun j => some (ly h g mo gm o 10 j)))))))
    rw [z]
    refine congrArg some (arr_eq (fun j hj => ?_))
    match j, hj with
    | 0, _ => rfl
    | 1, _ => rfl
    | 2, _ => rfl
    | 3, _ => rfl
    | 4, _ => rfl
    | 5, _ => rfl
    | n + 6, h => exact absurd h (by omega)
  | 4, hk =>
    have hk1 : k < 1 := hk
    obtain rfl : k = 0 := by omega
    exact hP 4 _ rfl
  | 5, hk =>
    have hk1 : k < 1 := hk
    obtain rfl : k = 0 := by omega
    exact hP 9 _ rfl
  | 6, hk =>
    have hk1 : k < 1 := hk
    obtain rfl : k = 0 := by omega
    exact hP 5 _ rfl
  | 7, hk =>
    have hk1 : k < 1 := hk
    obtain rfl : k = 0 := by omega
    exact hP 6 _ rfl
  | 8, hk =>
    have hk1 : k < 1 := hk
    obtain rfl : k = 0 := by omega
    exact hP 7 _ rfl
  | 9, hk =>
    have hk1 : k < 1 := hk
    obtain rfl : k = 0 := by omega
    exact hP 8 _ rfl
  | 10, hk =>
    have hk6 : k < 6 := hk
    match k, hk6 with
    | 0, _ => exact hP 10 _ rfl
    | 1, _ => exact hP 16 _ rfl
    | 2, _ => exact hP 22 _ rfl
    | 3, _ => exact hP 28 _ rfl
    | 4, _ => exact hP 34 _ rfl
    | 5, _ => exact hP 40 _ rfl
    | n + 6, h => exact absurd h (by omega)
  | 11, hk =>
    have hk6 : k < 6 := hk
    match k, hk6 with
    | 0, _ => exact hP 11 _ rfl
    | 1, _ => exact hP 17 _ rfl
    | 2, _ => exact hP 23 _ rfl
    | 3, _ => exact hP 29 _ rfl
    | 4, _ => exact hP 35 _ rfl
    | 5, _ => exact hP 41 _ rfl
    | n + 6, h => exact absurd h (by omega)
  | 12, hk =>
    have hk6 : k < 6 := hk
    match k, hk6 with
    | 0, _ => exact hP 12 _ rfl
    | 1, _ => exact hP 18 _ rfl
    | 2, _ => exact hP 24 _ rfl
    | 3, _ => exact hP 30 _ rfl
    | 4, _ => exact hP 36 _ rfl
    | 5, _ => exact hP 42 _ rfl
    | n + 6, h => exact absurd h (by omega)
  | 13, hk =>
    have hk6 : k < 6 := hk
    match k, hk6 with
    | 0, _ => exact hP 13 _ rfl
    | 1, _ => exact hP 19 _ rfl
    | 2, _ => exact hP 25 _ rfl
    | 3, _ => exact hP 31 _ rfl
    | 4, _ => exact hP 37 _ rfl
    | 5, _ => exact hP 43 _ rfl
    | n + 6, h => exact absurd h (by omega)
  | 14, hk =>
    have hk6 : k < 6 := hk
    match k, hk6 with
    | 0, _ => exact hP 14 _ rfl
    | 1, _ => exact hP 20 _ rfl
    | 2, _ => exact hP 26 _ rfl
    | 3, _ => exact hP 32 _ rfl
    | 4, _ => exact hP 38 _ rfl
    | 5, _ => exact hP 44 _ rfl
    | n + 6, h => exact absurd h (by omega)
  | 15, hk =>
    have hk6 : k < 6 := hk
    match k, hk6 with
    | 0, _ => exact hP 15 _ rfl
    | 1, _ => exact hP 21 _ rfl
    | 2, _ => exact hP 27 _ rfl
    | 3, _ => exact hP 33 _ rfl
    | 4, _ => exact hP 39 _ rfl
    | 5, _ => exact hP 45 _ rfl
    | n + 6, h => exact absurd h (by omega)
  | 16, hk => exact absurd hk (Nat.not_lt_zero _)
  | 17, hk => exact absurd hk (Nat.not_lt_zero _)
  | 18, hk => exact absurd hk (Nat.not_lt_zero _)
  | 19, hk => exact absurd hk (Nat.not_lt_zero _)
  | 20, hk =>
    have hk1 : k < 1 := hk
    obtain rfl : k = 0 := by omega
    exact hP 46 _ rfl
  | 21, hk =>
    have hk1 : k < 1 := hk
    obtain rfl : k = 0 := by omega
    exact hP 47 _ rfl
  | 22, hk =>
    have hk1 : k < 1 := hk
    obtain rfl : k = 0 := by omega
    exact hP 48 _ rfl
  | 23, hk =>
    have hk1 : k < 1 := hk
    obtain rfl : k = 0 := by omega
    exact hP 49 _ rfl
  | 24, hk =>
    have hk1 : k < 1 := hk
    obtain rfl : k = 0 := by omega
    exact hP 50 _ rfl
  | 25, hk =>
    have hk1 : k < 1 := hk
    obtain rfl : k = 0 := by omega
    exact hP 51 _ rfl
  | 26, hk =>
    have hk1 : k < 1 := hk
    obtain rfl : k = 0 := by omega
    exact hP 52 _ rfl
  | 27, hk =>
    have hk1 : k < 1 := hk
    obtain rfl : k = 0 := by omega
    exact hP 53 _ rfl
  | 28, hk =>
    have hk1 : k < 1 := hk
    obtain rfl : k = 0 := by omega
    exact hP 54 _ rfl
  | 29, hk =>
    have hk1 : k < 1 := hk
    obtain rfl : k = 0 := by omega
    exact hP 55 _ rfl
  | 30, hk =>
    have hk1 : k < 1 := hk
    obtain rfl : k = 0 := by omega
    exact hP 56 _ rfl
  | 31, hk =>
    have hk1 : k < 1 := hk
    obtain rfl : k = 0 := by omega
    exact hP 57 _ rfl
  | 32, hk =>
    have hk1 : k < 1 := hk
    obtain rfl : k = 0 := by omega
    exact hP 58 _ rfl
  | 33, hk =>
    have hk1 : k < 1 := hk
    obtain rfl : k = 0 := by omega
    exact hP 59 _ rfl
  | 34, hk =>
    have hk1 : k < 1 := hk
    obtain rfl : k = 0 := by omega
    exact hP 60 _ rfl
  | 35, hk =>
    have hk1 : k < 1 := hk
    obtain rfl : k = 0 := by omega
    exact hP 61 _ rfl
  | 36, hk =>
    have hk1 : k < 1 := hk
    obtain rfl : k = 0 := by omega
    exact hP 62 _ rfl
  | 37, hk =>
    have hk1 : k < 1 := hk
    obtain rfl : k = 0 := by omega
    exact hP 63 _ rfl
  | 38, hk =>
    have hk1 : k < 1 := hk
    obtain rfl : k = 0 := by omega
    exact hP 64 _ rfl
  | 39, hk => exact absurd hk (Nat.not_lt_zero _)
  | 40, hk =>
    have hk1 : k < 1 := hk
    obtain rfl : k = 0 := by omega
    exact hP 65 _ rfl
  | n + 41, hk => exact absurd hk (Nat.not_lt_zero _)
theorem ly_L {A : Nat → Prop} (ar : Nat → ClassId) (h : Nat) (g : Nat → Nat) (mo : Nat) (gm : Nat → Nat) (o : Nat) (hD : va_D A (ws_L ar h g mo gm o)) : hw_L (ly h g mo gm o) ∧ ∀ f k : Nat, k < wd_cnt f → A (ly h g mo gm o f k) := by
  refine ⟨fun f k f' k' hk hk' he => ?_, fun f k hk => ?_⟩
  · obtain ⟨⟨e1, i1⟩, v1⟩ := ly_ix ar h g mo gm o f k hk
    obtain ⟨⟨e2, i2⟩, v2⟩ := ly_ix ar h g mo gm o f' k' hk'
    have := hD.1 _ _ _ _ i1 i2 he
    rw [this, v2] at v1
    cases v1
    exact ⟨rfl, rfl⟩
  · obtain ⟨⟨e1, i1⟩, -⟩ := ly_ix ar h g mo gm o f k hk
    exact hD.2 _ _ i1
theorem hd_8 : ∀ j, j < 8 → hd_f 8 j = -1 := by decide
theorem M0_cp : cp M0 = ab M0 := by
  funext f k j
  match f with
  | 0 => by_cases q : k = 0 <;> simp [cp, ab, M0, q]; try (split <;> first | rfl | decide)
  | 1 => by_cases q : k = 0 <;> simp [cp, ab, M0, q]
  | 2 => cases k <;> simp [cp, ab, M0]
  | 3 => simp [cp, ab, M0]
  | 4 => by_cases q : k = 0 <;> simp [cp, ab, M0, q]
  | 5 => by_cases q : k = 0 <;> simp [cp, ab, M0, q]
  | 6 => by_cases q : k = 0 <;> simp [cp, ab, M0, q]
  | 7 => by_cases q : k = 0 <;> simp [cp, ab, M0, q]
  | 8 => by_cases q : k = 0 <;> simp [cp, ab, M0, q]
  | 9 => by_cases q : k = 0 <;> simp [cp, ab, M0, q]
  | 10 => by_cases q : k < 6 <;> simp [cp, ab, M0, q]; (match j with | 0 => rfl | 1 => rfl | 2 => rfl | 3 => rfl | 4 => rfl | 5 => rfl | n + 6 => rfl)
  | 11 => by_cases q : k = 0 <;> simp [cp, ab, M0, q]
  | 12 => by_cases q : k = 0 <;> simp [cp, ab, M0, q]
  | 13 => by_cases q : k = 0 <;> simp [cp, ab, M0, q]
  | 14 => by_cases q : k = 0 <;> simp [cp, ab, M0, q]
  | 15 => by_cases q : k = 0 <;> simp [cp, ab, M0, q]
  | n + 16 => simp [cp, ab]
theorem M0_C : IvC (ab M0) := by
  rw [← M0_cp]
  unfold IvC
  simp only [cp_0, cp_2, cp_4, cp_10, cp_11, cp_12, cp_15]
  refine ⟨by decide, by decide, by decide, fun k hk => ?_, fun k hk => ?_, fun k i hk hi => ?_, fun k i hk => ?_, fun j hj => Or.inl (hd_8 j hj), fun k hk h1 => ?_⟩
  · simp [M0, hk]
  · simp [M0, hk]
  · simp [M0, hk] at hi
    omega
  · simp [M0]
  · simp [M0, hk] at h1
theorem M0_J : LJ 0 M0 := by
  refine ⟨M0_cp, ⟨⟨M0_C, fun c hc => Or.inr (by simp [M0]), by simp [M0]⟩, fun c hc hp => rfl, fun j hj => Or.inl (hd_8 j hj), fun c hc h2 => ?_, fun c hc hp => ?_⟩, fun c hc => by simp [M0], by simp [M0]⟩
  · simp [M0] at h2
  · simp [M0] at hp
    omega
