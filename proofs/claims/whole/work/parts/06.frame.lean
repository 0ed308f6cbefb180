/-! THE WALK OVER A MEMORY OF INTS: a world of families (family f, member k) at addresses 'lay f k', whose ints are 'M f k j' -/
abbrev hm_M : Type := Nat → Nat → Nat → Int32
def hm_set (M : hm_M) (f k : Nat) (r : Nat → Int32) : hm_M := fun f' k' => if f' = f ∧ k' = k then r else M f' k'
def hm_up (M : hm_M) (f k j : Nat) (x : Int32) : hm_M := hm_set M f k (upd (M f k) j x)
theorem hm_set_same (M : hm_M) (f k : Nat) (r : Nat → Int32) : hm_set M f k r f k = r := by simp [hm_set]
theorem hm_set_ne {M : hm_M} {f k f' k' : Nat} {r : Nat → Int32} (h : ¬ (f' = f ∧ k' = k)) : hm_set M f k r f' k' = M f' k' := by simp only [hm_set, if_neg h]
theorem hm_up_at (M : hm_M) (f k j : Nat) (x : Int32) (f' k' j' : Nat) : hm_up M f k j x f' k' j' = if f' = f ∧ k' = k ∧ j' = j then x else M f' k' j' := by
  by_cases h : f' = f ∧ k' = k
  · obtain ⟨rfl, rfl⟩ := h
    simp [hm_up, hm_set, upd]
  · rw [if_neg (fun q => h ⟨q.1, q.2.1⟩)]
    simp only [hm_up, hm_set, if_neg h]
/-- the world of M in the heap H -/
def hw_H (D : va_G) (ar : Nat → ClassId) (lay : Nat → Nat → Nat) (M : hm_M) (H : Heap) : Prop := ∀ f k : Nat, k < wd_cnt f → va_at D wd_cl (lay f k, wd_cell ar lay f k (M f k)) H
def hw_L (lay : Nat → Nat → Nat) : Prop := ∀ f k f' k' : Nat, k < wd_cnt f → k' < wd_cnt f' → lay f k = lay f' k' → f = f' ∧ k = k'
/-- what may change: the world's cells (if wr), and what is new -/
def hw_A (lay : Nat → Nat → Nat) (wr : Bool) (sz : Nat) : Nat → Prop := fun q => (wr = true ∧ ∃ f k : Nat, k < wd_cnt f ∧ q = lay f k) ∨ sz ≤ q
def hw_K (D : va_G) (ar : Nat → ClassId) (U : State) : Prop := va_K D wd_cl (wd_tys ar) U ∧ (∀ q ∈ wd_strs, ∃ a : Nat, vk_R q.1 q.2.1 q.2.2 a U) ∧ ∀ q ∈ wd_nc, va_Nc q.1 q.2 U
def hw_Z (lay : Nat → Nat → Nat) (sz : Nat) (U : State) (H : Heap) : Prop := vx_Zq "java/lang/Throwable" "UNASSIGNED_STACK" "[Ljava/lang/StackTraceElement;" (hw_A lay true sz) U H ∧ vx_Zq "java/lang/Throwable" "SUPPRESSED_SENTINEL" "Ljava/util/List;" (hw_A lay true sz) U H
def hw_St (D : va_G) (ar : Nat → ClassId) (lay : Nat → Nat → Nat) (M : hm_M) (sz : Nat) (U : State) : Prop := U.heap.size = sz ∧ hw_H D ar lay M U.heap ∧ hw_K D ar U ∧ hw_L lay ∧ hw_Z lay sz U U.heap
theorem hw_A.new {lay : Nat → Nat → Nat} {wr : Bool} {sz q : Nat} (h : sz ≤ q) : hw_A lay wr sz q := Or.inr h
theorem hw_A.in {lay : Nat → Nat → Nat} {sz f k : Nat} (h : k < wd_cnt f) : hw_A lay true sz (lay f k) := Or.inl ⟨rfl, f, k, h, rfl⟩
theorem hw_A.mono {lay : Nat → Nat → Nat} {wr wr' : Bool} {sz sz' q : Nat} (h : hw_A lay wr sz q) (hw : wr = true → wr' = true) (hs : sz' ≤ sz) : hw_A lay wr' sz' q := by
  rcases h with ⟨h1, h2⟩ | h
  · exact Or.inl ⟨hw h1, h2⟩
  · exact Or.inr (Nat.le_trans hs h)
theorem hw_K.moved {D : va_G} {ar : Nat → ClassId} {s U : State} (hW : s.WarmedH U.vm) (h : hw_K D ar s) : hw_K D ar U :=
  ⟨va_K.moved hW.alike h.1, fun q hq => by obtain ⟨a, ha⟩ := h.2.1 q hq; exact ⟨a, vk_R.warm hW ha⟩, fun q hq => va_Nc.moved hW.alike (h.2.2 q hq)⟩
theorem hw_K.same {D : va_G} {ar : Nat → ClassId} {u U : State} (hv : U.vm = u.vm) (h : hw_K D ar u) : hw_K D ar U :=
  ⟨va_K.moved (by rw [hv]; exact Vm.Alike.refl u.vm) h.1, fun q hq => by obtain ⟨a, ha⟩ := h.2.1 q hq; exact ⟨a, vk_R.same hv ha⟩, fun q hq => va_Nc.moved (by rw [hv]; exact Vm.Alike.refl u.vm) (h.2.2 q hq)⟩
theorem hw_H.put {D : va_G} {ar : Nat → ClassId} {lay : Nat → Nat → Nat} {M : hm_M} {H H1 : Heap} {f k : Nat} {r : Nat → Int32} (h : hw_H D ar lay M H) (hL : hw_L lay) (hk : k < wd_cnt f) (h1 : va_at D wd_cl (lay f k, wd_cell ar lay f k r) H1) (ho : ∀ q : Nat, q ≠ lay f k → H1[q]? = H[q]?) : hw_H D ar lay (hm_set M f k r) H1 := by
  intro f' k' hk'
  by_cases e : f' = f ∧ k' = k
  · obtain ⟨rfl, rfl⟩ := e
    rw [hm_set_same]; exact h1
  · rw [hm_set_ne e]
    exact (h f' k' hk').kept (ho _ (fun q => e (hL _ _ _ _ hk' hk q)))
theorem hw_H.kept {D : va_G} {ar : Nat → ClassId} {lay : Nat → Nat → Nat} {M : hm_M} {H H1 : Heap} (h : hw_H D ar lay M H) (ho : ∀ f k : Nat, k < wd_cnt f → H1[lay f k]? = H[lay f k]?) : hw_H D ar lay M H1 := fun f k hk => (h f k hk).kept (ho f k hk)
theorem hw_H.lt {D : va_G} {ar : Nat → ClassId} {lay : Nat → Nat → Nat} {M : hm_M} {H : Heap} (h : hw_H D ar lay M H) {f k : Nat} (hk : k < wd_cnt f) : lay f k < H.size := (h f k hk).lt
theorem hw_H.plain {D : va_G} {ar : Nat → ClassId} {lay : Nat → Nat → Nat} {M : hm_M} {H : Heap} (h : hw_H D ar lay M H) {f k : Nat} (hk : k < wd_cnt f) {cell : Cell} (hc : H[lay f k]? = some cell) : cell.vm.isStatics = false := by
  have h0 := h f k hk
  unfold va_at at h0
  split at h0
  · rename_i a ha
    obtain ⟨cA, n, x⟩ := a
    cases hc.symm.trans h0
    rcases x with x | x | x | x | x <;> rfl
  · obtain ⟨r, -, cell', q1, -, q3, -⟩ := h0
    cases hc.symm.trans q1
    rw [q3]; rfl
/-- locals -/
def ls_set (ls : List (Nat × Value)) (i : Nat) (v : Value) : List (Nat × Value) := (i, v) :: ls.filter (fun q => !(q.1 == i) && !(q.1 + 1 == i && q.2.category == 2))
theorem ls_mem {ls : List (Nat × Value)} {i : Nat} {v : Value} (h : ls.lookup i = some v) : (i, v) ∈ ls := by
  induction ls with
  | nil => simp at h
  | cons a t ih =>
    obtain ⟨j, w⟩ := a
    rw [List.lookup_cons] at h
    by_cases e : i == j
    · simp only [e] at h
      have e' : i = j := by simpa using e
      cases h
      subst e'
      exact List.mem_cons_self
    · simp only [e] at h
      exact List.mem_cons_of_mem _ (ih h)
theorem ls_ix {ls : List (Nat × Value)} {i : Nat} {v : Value} (h : ls.lookup i = some v) : ∃ j : Nat, ls[j]? = some (i, v) := by
  obtain ⟨j, hj⟩ := List.getElem?_of_mem (ls_mem h)
  exact ⟨j, hj⟩
theorem ls_at {la : Array Slot} {nL : Nat} {ls : List (Nat × Value)} {i : Nat} {v : Value} (h : lv_has la nL ls) (hl : ls.lookup i = some v) : la[i]? = some (.val v) := h.2.2 (i, v) (ls_mem hl)
/-- what stands fast in a walk -/
def Cx (p : Program) (s : State) (m : MethodId) (args : Array Value) (c : Code) (cc : ByteArray) (nL : Nat) (own : String) (D : va_G) (ar : Nat → ClassId) (lay : Nat → Nat → Nat) : Prop :=
  p.tables.exec = Jvm.exec ∧ c.code = cc ∧ c.maxLocals = nL ∧ s.vm.findClass own = some m.cls ∧ (∀ w ∈ wd_TB, w.before args s = true) ∧ hw_K D ar s ∧ hw_L lay ∧ hw_Z lay s.heap.size s s.heap ∧ ∀ (q : Nat) (cell : Cell), hw_A lay true s.heap.size q → s.heap[q]? = some cell → cell.vm.isStatics = false
section CX
variable {p : Program} {s : State} {m : MethodId} {args : Array Value} {c : Code} {cc : ByteArray} {nL : Nat} {own : String} {D : va_G} {ar : Nat → ClassId} {lay : Nat → Nat → Nat}
theorem Cx.x (E : Cx p s m args c cc nL own D ar lay) : p.tables.exec = Jvm.exec := E.1
theorem Cx.b (E : Cx p s m args c cc nL own D ar lay) : c.code = cc := E.2.1
theorem Cx.ml (E : Cx p s m args c cc nL own D ar lay) : c.maxLocals = nL := E.2.2.1
theorem Cx.ow (E : Cx p s m args c cc nL own D ar lay) : s.vm.findClass own = some m.cls := E.2.2.2.1
theorem Cx.ts (E : Cx p s m args c cc nL own D ar lay) : ∀ w ∈ wd_TB, w.before args s = true := E.2.2.2.2.1
theorem Cx.K (E : Cx p s m args c cc nL own D ar lay) : hw_K D ar s := E.2.2.2.2.2.1
theorem Cx.L (E : Cx p s m args c cc nL own D ar lay) : hw_L lay := E.2.2.2.2.2.2.1
theorem Cx.Z (E : Cx p s m args c cc nL own D ar lay) : hw_Z lay s.heap.size s s.heap := E.2.2.2.2.2.2.2.1
theorem Cx.ns (E : Cx p s m args c cc nL own D ar lay) : ∀ (q : Nat) (cell : Cell), hw_A lay true s.heap.size q → s.heap[q]? = some cell → cell.vm.isStatics = false := E.2.2.2.2.2.2.2.2
end CX
/-- THE WALK: at pc, with these locals and this stack, and the world of M, the machine comes to Q -/
def AW (p : Program) (l : Launch) (e : Env) (R : Room) (s : State) (m : MethodId) (args : Array Value) (below : List Frame) (meth : Method) (c : Code) (D : va_G) (ar : Nat → ClassId) (lay : Nat → Nat → Nat) (wr : Bool) (nL cB sB : Nat) (Q : State → Prop) (pc : Nat) (ls : List (Nat × Value)) (st : List Value) (M : hm_M) : Prop :=
  ∀ (H : Heap) (locs : List Loc) (la : Array Slot) (k0 n0 : Nat), k0 ≤ cB → n0 ≤ sB → hw_H D ar lay M H → va_S (hw_A lay wr s.heap.size) s.heap H locs → lv_has la nL ls → W p l e R s m args below meth c H locs k0 n0 Q (F0 m pc la st)
section AWR
variable {p : Program} {l : Launch} {e : Env} {R : Room} {s : State} {m : MethodId} {args : Array Value} {below : List Frame} {meth : Method} {c : Code} {Q : State → Prop} {cc : ByteArray} {nL cB sB : Nat} {own : String} {D : va_G} {ar : Nat → ClassId} {lay : Nat → Nat → Nat} {wr : Bool} {pc : Nat} {ls : List (Nat × Value)} {st : List Value} {M : hm_M}
/-- from here on the world's cells may be written -/
theorem a_wr (kk : AW p l e R s m args below meth c D ar lay true nL cB sB Q pc ls st M) : AW p l e R s m args below meth c D ar lay wr nL cB sB Q pc ls st M :=
  fun H locs la k0 n0 h1 h2 h3 h4 h5 => kk H locs la k0 n0 h1 h2 h3 ⟨h4.1, fun q a b => h4.2.1 q a (fun z => b (z.mono (fun _ => rfl) (Nat.le_refl _))), fun q a => (h4.2.2 q a).mono (fun _ => rfl) (Nat.le_refl _)⟩ h5
theorem a_more {cB' sB' : Nat} (hc : cB ≤ cB') (hs : sB ≤ sB') (kk : AW p l e R s m args below meth c D ar lay wr nL cB' sB' Q pc ls st M) : AW p l e R s m args below meth c D ar lay wr nL cB sB Q pc ls st M :=
  fun H locs la k0 n0 h1 h2 h3 h4 h5 => kk H locs la k0 n0 (Nat.le_trans h1 hc) (Nat.le_trans h2 hs) h3 h4 h5
theorem a_ls {ls' : List (Nat × Value)} (h : ∀ q ∈ ls', q ∈ ls) (kk : AW p l e R s m args below meth c D ar lay wr nL cB sB Q pc ls' st M) : AW p l e R s m args below meth c D ar lay wr nL cB sB Q pc ls st M :=
  fun H locs la k0 n0 h1 h2 h3 h4 h5 => kk H locs la k0 n0 h1 h2 h3 h4 ⟨h5.1, h5.2.1, fun q hq => h5.2.2 q (h q hq)⟩
theorem a_M {M' : hm_M} (h : M = M') (kk : AW p l e R s m args below meth c D ar lay wr nL cB sB Q pc ls st M') : AW p l e R s m args below meth c D ar lay wr nL cB sB Q pc ls st M := h ▸ kk
theorem a_st {st' : List Value} (h : st = st') (kk : AW p l e R s m args below meth c D ar lay wr nL cB sB Q pc ls st' M) : AW p l e R s m args below meth c D ar lay wr nL cB sB Q pc ls st M := h ▸ kk
theorem a_iconst (E : Cx p s m args c cc nL own D ar lay) {n : Int} {v : Int32} (hd : decode cc pc = .ok (.iconst n, 1)) (hv : Int32.ofInt n = v) (kk : AW p l e R s m args below meth c D ar lay wr nL cB sB Q (pc + 1) ls (.int v :: st) M) : AW p l e R s m args below meth c D ar lay wr nL cB sB Q (pc) ls (st) M :=
  fun H locs la k0 n0 h1 h2 h3 h4 h5 => lv_iconst E.x E.b hd hv (kk H locs la k0 n0 h1 h2 h3 h4 h5)
theorem a_bipush (E : Cx p s m args c cc nL own D ar lay) {n : Int} {v : Int32} (hd : decode cc pc = .ok (.bipush n, 2)) (hv : (Int8.ofInt n).toInt32 = v) (kk : AW p l e R s m args below meth c D ar lay wr nL cB sB Q (pc + 2) ls (.int v :: st) M) : AW p l e R s m args below meth c D ar lay wr nL cB sB Q (pc) ls (st) M :=
  fun H locs la k0 n0 h1 h2 h3 h4 h5 => lv_bipush E.x E.b hd hv (kk H locs la k0 n0 h1 h2 h3 h4 h5)
theorem a_sipush (E : Cx p s m args c cc nL own D ar lay) {n : Int} {v : Int32} (hd : decode cc pc = .ok (.sipush n, 3)) (hv : (Int16.ofInt n).toInt32 = v) (kk : AW p l e R s m args below meth c D ar lay wr nL cB sB Q (pc + 3) ls (.int v :: st) M) : AW p l e R s m args below meth c D ar lay wr nL cB sB Q (pc) ls (st) M :=
  fun H locs la k0 n0 h1 h2 h3 h4 h5 => lv_sipush E.x E.b hd hv (kk H locs la k0 n0 h1 h2 h3 h4 h5)
theorem a_iload_n (E : Cx p s m args c cc nL own D ar lay) {q : Fin 4} {i : Nat} {x : Int32} (hd : decode cc pc = .ok (.iload_n q, 1)) (hi : (q : Nat) = i) (hl : ls.lookup i = some (.int x)) (kk : AW p l e R s m args below meth c D ar lay wr nL cB sB Q (pc + 1) ls (.int x :: st) M) : AW p l e R s m args below meth c D ar lay wr nL cB sB Q (pc) ls (st) M :=
  fun H locs la k0 n0 h1 h2 h3 h4 h5 => lv_iload_n E.x E.b hd hi (ls_at h5 hl) (kk H locs la k0 n0 h1 h2 h3 h4 h5)
theorem a_iload (E : Cx p s m args c cc nL own D ar lay) {i : Nat} {x : Int32} (hd : decode cc pc = .ok (.iload i, 2)) (hl : ls.lookup i = some (.int x)) (kk : AW p l e R s m args below meth c D ar lay wr nL cB sB Q (pc + 2) ls (.int x :: st) M) : AW p l e R s m args below meth c D ar lay wr nL cB sB Q (pc) ls (st) M :=
  fun H locs la k0 n0 h1 h2 h3 h4 h5 => lv_iload E.x E.b hd (ls_at h5 hl) (kk H locs la k0 n0 h1 h2 h3 h4 h5)
theorem a_istore_n (E : Cx p s m args c cc nL own D ar lay) {q : Fin 4} {i : Nat} {x : Int32} (hd : decode cc pc = .ok (.istore_n q, 1)) (hi : (q : Nat) = i) (hn : i < nL) (kk : AW p l e R s m args below meth c D ar lay wr nL cB sB Q (pc + 1) (ls_set ls i (.int x)) (st) M) : AW p l e R s m args below meth c D ar lay wr nL cB sB Q (pc) ls (.int x :: st) M :=
  fun H locs la k0 n0 h1 h2 h3 h4 h5 => lv_istore_n E.x E.b hd hi h5 hn rfl (fun la' h5' => kk H locs la' k0 n0 h1 h2 h3 h4 h5')
theorem a_istore (E : Cx p s m args c cc nL own D ar lay) {i : Nat} {x : Int32} (hd : decode cc pc = .ok (.istore i, 2)) (hn : i < nL) (kk : AW p l e R s m args below meth c D ar lay wr nL cB sB Q (pc + 2) (ls_set ls i (.int x)) (st) M) : AW p l e R s m args below meth c D ar lay wr nL cB sB Q (pc) ls (.int x :: st) M :=
  fun H locs la k0 n0 h1 h2 h3 h4 h5 => lv_istore E.x E.b hd h5 hn rfl (fun la' h5' => kk H locs la' k0 n0 h1 h2 h3 h4 h5')
theorem a_aload_n (E : Cx p s m args c cc nL own D ar lay) {q : Fin 4} {i : Nat} {x : Nat} (hd : decode cc pc = .ok (.aload_n q, 1)) (hi : (q : Nat) = i) (hl : ls.lookup i = some (.ref x)) (kk : AW p l e R s m args below meth c D ar lay wr nL cB sB Q (pc + 1) ls (.ref x :: st) M) : AW p l e R s m args below meth c D ar lay wr nL cB sB Q (pc) ls (st) M :=
  fun H locs la k0 n0 h1 h2 h3 h4 h5 => lv_aload_n E.x E.b hd hi (ls_at h5 hl) (kk H locs la k0 n0 h1 h2 h3 h4 h5)
theorem a_aload (E : Cx p s m args c cc nL own D ar lay) {i : Nat} {x : Nat} (hd : decode cc pc = .ok (.aload i, 2)) (hl : ls.lookup i = some (.ref x)) (kk : AW p l e R s m args below meth c D ar lay wr nL cB sB Q (pc + 2) ls (.ref x :: st) M) : AW p l e R s m args below meth c D ar lay wr nL cB sB Q (pc) ls (st) M :=
  fun H locs la k0 n0 h1 h2 h3 h4 h5 => lv_aload E.x E.b hd (ls_at h5 hl) (kk H locs la k0 n0 h1 h2 h3 h4 h5)
theorem a_astore_n (E : Cx p s m args c cc nL own D ar lay) {q : Fin 4} {i : Nat} {x : Nat} (hd : decode cc pc = .ok (.astore_n q, 1)) (hi : (q : Nat) = i) (hn : i < nL) (kk : AW p l e R s m args below meth c D ar lay wr nL cB sB Q (pc + 1) (ls_set ls i (.ref x)) (st) M) : AW p l e R s m args below meth c D ar lay wr nL cB sB Q (pc) ls (.ref x :: st) M :=
  fun H locs la k0 n0 h1 h2 h3 h4 h5 => lv_astore_n E.x E.b hd hi h5 hn rfl (fun la' h5' => kk H locs la' k0 n0 h1 h2 h3 h4 h5')
theorem a_astore (E : Cx p s m args c cc nL own D ar lay) {i : Nat} {x : Nat} (hd : decode cc pc = .ok (.astore i, 2)) (hn : i < nL) (kk : AW p l e R s m args below meth c D ar lay wr nL cB sB Q (pc + 2) (ls_set ls i (.ref x)) (st) M) : AW p l e R s m args below meth c D ar lay wr nL cB sB Q (pc) ls (.ref x :: st) M :=
  fun H locs la k0 n0 h1 h2 h3 h4 h5 => lv_astore E.x E.b hd h5 hn rfl (fun la' h5' => kk H locs la' k0 n0 h1 h2 h3 h4 h5')
theorem a_iinc (E : Cx p s m args c cc nL own D ar lay) {i : Nat} {n : Int} {x : Int32} (hd : decode cc pc = .ok (.iinc i n, 3)) (hl : ls.lookup i = some (.int x)) (hn : i < nL) (kk : AW p l e R s m args below meth c D ar lay wr nL cB sB Q (pc + 3) (ls_set ls i (.int (x + Int32.ofInt n))) (st) M) : AW p l e R s m args below meth c D ar lay wr nL cB sB Q (pc) ls (st) M := by
  intro H locs la k0 n0 h1 h2 h3 h4 h5
  obtain ⟨j, hj⟩ := ls_ix hl
  exact lv_iinc E.x E.b hd h5 hj rfl hn rfl (fun la' h5' => kk H locs la' k0 n0 h1 h2 h3 h4 h5')
theorem a_iadd (E : Cx p s m args c cc nL own D ar lay) {x y : Int32} (hd : decode cc pc = .ok (.iadd, 1)) (kk : AW p l e R s m args below meth c D ar lay wr nL cB sB Q (pc + 1) ls (.int (x + y) :: st) M) : AW p l e R s m args below meth c D ar lay wr nL cB sB Q (pc) ls (.int y :: .int x :: st) M :=
  fun H locs la k0 n0 h1 h2 h3 h4 h5 => lv_iadd E.x E.b hd (kk H locs la k0 n0 h1 h2 h3 h4 h5)
theorem a_isub (E : Cx p s m args c cc nL own D ar lay) {x y : Int32} (hd : decode cc pc = .ok (.isub, 1)) (kk : AW p l e R s m args below meth c D ar lay wr nL cB sB Q (pc + 1) ls (.int (x - y) :: st) M) : AW p l e R s m args below meth c D ar lay wr nL cB sB Q (pc) ls (.int y :: .int x :: st) M :=
  fun H locs la k0 n0 h1 h2 h3 h4 h5 => lv_isub E.x E.b hd (kk H locs la k0 n0 h1 h2 h3 h4 h5)
theorem a_imul (E : Cx p s m args c cc nL own D ar lay) {x y : Int32} (hd : decode cc pc = .ok (.imul, 1)) (kk : AW p l e R s m args below meth c D ar lay wr nL cB sB Q (pc + 1) ls (.int (x * y) :: st) M) : AW p l e R s m args below meth c D ar lay wr nL cB sB Q (pc) ls (.int y :: .int x :: st) M :=
  fun H locs la k0 n0 h1 h2 h3 h4 h5 => lv_imul E.x E.b hd (kk H locs la k0 n0 h1 h2 h3 h4 h5)
theorem a_iand (E : Cx p s m args c cc nL own D ar lay) {x y : Int32} (hd : decode cc pc = .ok (.iand, 1)) (kk : AW p l e R s m args below meth c D ar lay wr nL cB sB Q (pc + 1) ls (.int (x &&& y) :: st) M) : AW p l e R s m args below meth c D ar lay wr nL cB sB Q (pc) ls (.int y :: .int x :: st) M :=
  fun H locs la k0 n0 h1 h2 h3 h4 h5 => lv_iand E.x E.b hd (kk H locs la k0 n0 h1 h2 h3 h4 h5)
theorem a_ineg (E : Cx p s m args c cc nL own D ar lay) {x : Int32} (hd : decode cc pc = .ok (.ineg, 1)) (kk : AW p l e R s m args below meth c D ar lay wr nL cB sB Q (pc + 1) ls (.int (-x) :: st) M) : AW p l e R s m args below meth c D ar lay wr nL cB sB Q (pc) ls (.int x :: st) M :=
  fun H locs la k0 n0 h1 h2 h3 h4 h5 => lv_ineg E.x E.b hd (kk H locs la k0 n0 h1 h2 h3 h4 h5)
theorem a_i2l (E : Cx p s m args c cc nL own D ar lay) {x : Int32} (hd : decode cc pc = .ok (.i2l, 1)) (kk : AW p l e R s m args below meth c D ar lay wr nL cB sB Q (pc + 1) ls (.long x.toInt64 :: st) M) : AW p l e R s m args below meth c D ar lay wr nL cB sB Q (pc) ls (.int x :: st) M :=
  fun H locs la k0 n0 h1 h2 h3 h4 h5 => lv_i2l E.x E.b hd rfl (kk H locs la k0 n0 h1 h2 h3 h4 h5)
theorem a_dup (E : Cx p s m args c cc nL own D ar lay) {v : Value} (hd : decode cc pc = .ok (.dup, 1)) (hv : v.category = 1) (kk : AW p l e R s m args below meth c D ar lay wr nL cB sB Q (pc + 1) ls (v :: v :: st) M) : AW p l e R s m args below meth c D ar lay wr nL cB sB Q (pc) ls (v :: st) M :=
  fun H locs la k0 n0 h1 h2 h3 h4 h5 => lv_dup E.x E.b hd hv (kk H locs la k0 n0 h1 h2 h3 h4 h5)
theorem a_pop (E : Cx p s m args c cc nL own D ar lay) {v : Value} (hd : decode cc pc = .ok (.pop, 1)) (hv : v.category = 1) (kk : AW p l e R s m args below meth c D ar lay wr nL cB sB Q (pc + 1) ls (st) M) : AW p l e R s m args below meth c D ar lay wr nL cB sB Q (pc) ls (v :: st) M :=
  fun H locs la k0 n0 h1 h2 h3 h4 h5 => lv_pop E.x E.b hd hv (kk H locs la k0 n0 h1 h2 h3 h4 h5)
theorem a_dup_x1 (E : Cx p s m args c cc nL own D ar lay) {v w : Value} (hd : decode cc pc = .ok (.dup_x1, 1)) (hv : v.category = 1) (hw : w.category = 1) (kk : AW p l e R s m args below meth c D ar lay wr nL cB sB Q (pc + 1) ls (v :: w :: v :: st) M) : AW p l e R s m args below meth c D ar lay wr nL cB sB Q (pc) ls (v :: w :: st) M :=
  fun H locs la k0 n0 h1 h2 h3 h4 h5 => lv_dup_x1 E.x E.b hd hv hw (kk H locs la k0 n0 h1 h2 h3 h4 h5)
theorem a_dup_x2 (E : Cx p s m args c cc nL own D ar lay) {v w z : Value} (hd : decode cc pc = .ok (.dup_x2, 1)) (hv : v.category = 1) (hw : w.category = 1) (hz : z.category = 1) (kk : AW p l e R s m args below meth c D ar lay wr nL cB sB Q (pc + 1) ls (v :: w :: z :: v :: st) M) : AW p l e R s m args below meth c D ar lay wr nL cB sB Q (pc) ls (v :: w :: z :: st) M :=
  fun H locs la k0 n0 h1 h2 h3 h4 h5 => lv_dup_x2 E.x E.b hd hv hw hz (kk H locs la k0 n0 h1 h2 h3 h4 h5)
theorem a_dup2 (E : Cx p s m args c cc nL own D ar lay) {v w : Value} (hd : decode cc pc = .ok (.dup2, 1)) (hv : v.category = 1) (hw : w.category = 1) (kk : AW p l e R s m args below meth c D ar lay wr nL cB sB Q (pc + 1) ls (v :: w :: v :: w :: st) M) : AW p l e R s m args below meth c D ar lay wr nL cB sB Q (pc) ls (v :: w :: st) M :=
  fun H locs la k0 n0 h1 h2 h3 h4 h5 => lv_dup2_11 E.x E.b hd hv hw (kk H locs la k0 n0 h1 h2 h3 h4 h5)
theorem a_goto (E : Cx p s m args c cc nL own D ar lay) {off : Int} {tgt : Nat} (hd : decode cc pc = .ok (.goto off, 3)) (ht : (pc : Int) + off = (tgt : Int)) (kk : AW p l e R s m args below meth c D ar lay wr nL cB sB Q (tgt) ls (st) M) : AW p l e R s m args below meth c D ar lay wr nL cB sB Q (pc) ls (st) M :=
  fun H locs la k0 n0 h1 h2 h3 h4 h5 => lv_goto E.x E.b hd ht (kk H locs la k0 n0 h1 h2 h3 h4 h5)
theorem a_if_eq (E : Cx p s m args c cc nL own D ar lay) {x : Int32} {off : Int} {tgt : Nat} (hd : decode cc pc = .ok (.ifCond .eq off, 3)) (ht : (pc : Int) + off = (tgt : Int)) (kt : x = 0 → AW p l e R s m args below meth c D ar lay wr nL cB sB Q (tgt) ls (st) M) (kf : ¬ x = 0 → AW p l e R s m args below meth c D ar lay wr nL cB sB Q (pc + 3) ls (st) M) : AW p l e R s m args below meth c D ar lay wr nL cB sB Q (pc) ls (.int x :: st) M :=
  fun H locs la k0 n0 h1 h2 h3 h4 h5 => lv_if_eq E.x E.b hd ht (fun q => kt q H locs la k0 n0 h1 h2 h3 h4 h5) (fun q => kf q H locs la k0 n0 h1 h2 h3 h4 h5)
theorem a_icmp_eq (E : Cx p s m args c cc nL own D ar lay) {x y : Int32} {off : Int} {tgt : Nat} (hd : decode cc pc = .ok (.if_icmp .eq off, 3)) (ht : (pc : Int) + off = (tgt : Int)) (kt : x = y → AW p l e R s m args below meth c D ar lay wr nL cB sB Q (tgt) ls (st) M) (kf : ¬ x = y → AW p l e R s m args below meth c D ar lay wr nL cB sB Q (pc + 3) ls (st) M) : AW p l e R s m args below meth c D ar lay wr nL cB sB Q (pc) ls (.int y :: .int x :: st) M :=
  fun H locs la k0 n0 h1 h2 h3 h4 h5 => lv_icmp_eq E.x E.b hd ht (fun q => kt q H locs la k0 n0 h1 h2 h3 h4 h5) (fun q => kf q H locs la k0 n0 h1 h2 h3 h4 h5)
theorem a_if_ne (E : Cx p s m args c cc nL own D ar lay) {x : Int32} {off : Int} {tgt : Nat} (hd : decode cc pc = .ok (.ifCond .ne off, 3)) (ht : (pc : Int) + off = (tgt : Int)) (kt : ¬ x = 0 → AW p l e R s m args below meth c D ar lay wr nL cB sB Q (tgt) ls (st) M) (kf : x = 0 → AW p l e R s m args below meth c D ar lay wr nL cB sB Q (pc + 3) ls (st) M) : AW p l e R s m args below meth c D ar lay wr nL cB sB Q (pc) ls (.int x :: st) M :=
  fun H locs la k0 n0 h1 h2 h3 h4 h5 => lv_if_ne E.x E.b hd ht (fun q => kt q H locs la k0 n0 h1 h2 h3 h4 h5) (fun q => kf q H locs la k0 n0 h1 h2 h3 h4 h5)
theorem a_icmp_ne (E : Cx p s m args c cc nL own D ar lay) {x y : Int32} {off : Int} {tgt : Nat} (hd : decode cc pc = .ok (.if_icmp .ne off, 3)) (ht : (pc : Int) + off = (tgt : Int)) (kt : ¬ x = y → AW p l e R s m args below meth c D ar lay wr nL cB sB Q (tgt) ls (st) M) (kf : x = y → AW p l e R s m args below meth c D ar lay wr nL cB sB Q (pc + 3) ls (st) M) : AW p l e R s m args below meth c D ar lay wr nL cB sB Q (pc) ls (.int y :: .int x :: st) M :=
  fun H locs la k0 n0 h1 h2 h3 h4 h5 => lv_icmp_ne E.x E.b hd ht (fun q => kt q H locs la k0 n0 h1 h2 h3 h4 h5) (fun q => kf q H locs la k0 n0 h1 h2 h3 h4 h5)
theorem a_if_lt (E : Cx p s m args c cc nL own D ar lay) {x : Int32} {off : Int} {tgt : Nat} (hd : decode cc pc = .ok (.ifCond .lt off, 3)) (ht : (pc : Int) + off = (tgt : Int)) (kt : x < 0 → AW p l e R s m args below meth c D ar lay wr nL cB sB Q (tgt) ls (st) M) (kf : ¬ x < 0 → AW p l e R s m args below meth c D ar lay wr nL cB sB Q (pc + 3) ls (st) M) : AW p l e R s m args below meth c D ar lay wr nL cB sB Q (pc) ls (.int x :: st) M :=
  fun H locs la k0 n0 h1 h2 h3 h4 h5 => lv_if_lt E.x E.b hd ht (fun q => kt q H locs la k0 n0 h1 h2 h3 h4 h5) (fun q => kf q H locs la k0 n0 h1 h2 h3 h4 h5)
theorem a_icmp_lt (E : Cx p s m args c cc nL own D ar lay) {x y : Int32} {off : Int} {tgt : Nat} (hd : decode cc pc = .ok (.if_icmp .lt off, 3)) (ht : (pc : Int) + off = (tgt : Int)) (kt : x < y → AW p l e R s m args below meth c D ar lay wr nL cB sB Q (tgt) ls (st) M) (kf : ¬ x < y → AW p l e R s m args below meth c D ar lay wr nL cB sB Q (pc + 3) ls (st) M) : AW p l e R s m args below meth c D ar lay wr nL cB sB Q (pc) ls (.int y :: .int x :: st) M :=
  fun H locs la k0 n0 h1 h2 h3 h4 h5 => lv_icmp_lt E.x E.b hd ht (fun q => kt q H locs la k0 n0 h1 h2 h3 h4 h5) (fun q => kf q H locs la k0 n0 h1 h2 h3 h4 h5)
theorem a_if_ge (E : Cx p s m args c cc nL own D ar lay) {x : Int32} {off : Int} {tgt : Nat} (hd : decode cc pc = .ok (.ifCond .ge off, 3)) (ht : (pc : Int) + off = (tgt : Int)) (kt : 0 ≤ x → AW p l e R s m args below meth c D ar lay wr nL cB sB Q (tgt) ls (st) M) (kf : ¬ 0 ≤ x → AW p l e R s m args below meth c D ar lay wr nL cB sB Q (pc + 3) ls (st) M) : AW p l e R s m args below meth c D ar lay wr nL cB sB Q (pc) ls (.int x :: st) M :=
  fun H locs la k0 n0 h1 h2 h3 h4 h5 => lv_if_ge E.x E.b hd ht (fun q => kt q H locs la k0 n0 h1 h2 h3 h4 h5) (fun q => kf q H locs la k0 n0 h1 h2 h3 h4 h5)
theorem a_icmp_ge (E : Cx p s m args c cc nL own D ar lay) {x y : Int32} {off : Int} {tgt : Nat} (hd : decode cc pc = .ok (.if_icmp .ge off, 3)) (ht : (pc : Int) + off = (tgt : Int)) (kt : y ≤ x → AW p l e R s m args below meth c D ar lay wr nL cB sB Q (tgt) ls (st) M) (kf : ¬ y ≤ x → AW p l e R s m args below meth c D ar lay wr nL cB sB Q (pc + 3) ls (st) M) : AW p l e R s m args below meth c D ar lay wr nL cB sB Q (pc) ls (.int y :: .int x :: st) M :=
  fun H locs la k0 n0 h1 h2 h3 h4 h5 => lv_icmp_ge E.x E.b hd ht (fun q => kt q H locs la k0 n0 h1 h2 h3 h4 h5) (fun q => kf q H locs la k0 n0 h1 h2 h3 h4 h5)
theorem a_if_gt (E : Cx p s m args c cc nL own D ar lay) {x : Int32} {off : Int} {tgt : Nat} (hd : decode cc pc = .ok (.ifCond .gt off, 3)) (ht : (pc : Int) + off = (tgt : Int)) (kt : 0 < x → AW p l e R s m args below meth c D ar lay wr nL cB sB Q (tgt) ls (st) M) (kf : ¬ 0 < x → AW p l e R s m args below meth c D ar lay wr nL cB sB Q (pc + 3) ls (st) M) : AW p l e R s m args below meth c D ar lay wr nL cB sB Q (pc) ls (.int x :: st) M :=
  fun H locs la k0 n0 h1 h2 h3 h4 h5 => lv_if_gt E.x E.b hd ht (fun q => kt q H locs la k0 n0 h1 h2 h3 h4 h5) (fun q => kf q H locs la k0 n0 h1 h2 h3 h4 h5)
theorem a_icmp_gt (E : Cx p s m args c cc nL own D ar lay) {x y : Int32} {off : Int} {tgt : Nat} (hd : decode cc pc = .ok (.if_icmp .gt off, 3)) (ht : (pc : Int) + off = (tgt : Int)) (kt : y < x → AW p l e R s m args below meth c D ar lay wr nL cB sB Q (tgt) ls (st) M) (kf : ¬ y < x → AW p l e R s m args below meth c D ar lay wr nL cB sB Q (pc + 3) ls (st) M) : AW p l e R s m args below meth c D ar lay wr nL cB sB Q (pc) ls (.int y :: .int x :: st) M :=
  fun H locs la k0 n0 h1 h2 h3 h4 h5 => lv_icmp_gt E.x E.b hd ht (fun q => kt q H locs la k0 n0 h1 h2 h3 h4 h5) (fun q => kf q H locs la k0 n0 h1 h2 h3 h4 h5)
theorem a_if_le (E : Cx p s m args c cc nL own D ar lay) {x : Int32} {off : Int} {tgt : Nat} (hd : decode cc pc = .ok (.ifCond .le off, 3)) (ht : (pc : Int) + off = (tgt : Int)) (kt : x ≤ 0 → AW p l e R s m args below meth c D ar lay wr nL cB sB Q (tgt) ls (st) M) (kf : ¬ x ≤ 0 → AW p l e R s m args below meth c D ar lay wr nL cB sB Q (pc + 3) ls (st) M) : AW p l e R s m args below meth c D ar lay wr nL cB sB Q (pc) ls (.int x :: st) M :=
  fun H locs la k0 n0 h1 h2 h3 h4 h5 => lv_if_le E.x E.b hd ht (fun q => kt q H locs la k0 n0 h1 h2 h3 h4 h5) (fun q => kf q H locs la k0 n0 h1 h2 h3 h4 h5)
theorem a_icmp_le (E : Cx p s m args c cc nL own D ar lay) {x y : Int32} {off : Int} {tgt : Nat} (hd : decode cc pc = .ok (.if_icmp .le off, 3)) (ht : (pc : Int) + off = (tgt : Int)) (kt : x ≤ y → AW p l e R s m args below meth c D ar lay wr nL cB sB Q (tgt) ls (st) M) (kf : ¬ x ≤ y → AW p l e R s m args below meth c D ar lay wr nL cB sB Q (pc + 3) ls (st) M) : AW p l e R s m args below meth c D ar lay wr nL cB sB Q (pc) ls (.int y :: .int x :: st) M :=
  fun H locs la k0 n0 h1 h2 h3 h4 h5 => lv_icmp_le E.x E.b hd ht (fun q => kt q H locs la k0 n0 h1 h2 h3 h4 h5) (fun q => kf q H locs la k0 n0 h1 h2 h3 h4 h5)
theorem a_lookup (E : Cx p s m args c cc nL own D ar lay) {dflt : Int} {ps : Array (Int × Int)} {len : Nat} {x : Int32} {off : Int} {tgt : Nat} (hd : decode cc pc = .ok (.lookupswitch dflt ps, len)) (hp : (ps.toList.zip (ps.toList.drop 1)).all (fun (a, next) => a.1 < next.1) = true) (ho : Op.lookupswitch.offset ps.toList dflt x.toInt = off) (ht : (pc : Int) + off = (tgt : Int)) (kk : AW p l e R s m args below meth c D ar lay wr nL cB sB Q (tgt) ls (st) M) : AW p l e R s m args below meth c D ar lay wr nL cB sB Q (pc) ls (.int x :: st) M :=
  fun H locs la k0 n0 h1 h2 h3 h4 h5 => lv_lookup E.x E.b hd hp ho ht (kk H locs la k0 n0 h1 h2 h3 h4 h5)
theorem a_tableOut (E : Cx p s m args c cc nL own D ar lay) {dflt lo hi : Int} {offs : Array Int} {len : Nat} {x : Int32} {tgt : Nat} (hd : decode cc pc = .ok (.tableswitch dflt lo hi offs, len)) (h : x.toInt < lo ∨ hi < x.toInt) (ht : (pc : Int) + dflt = (tgt : Int)) (kk : AW p l e R s m args below meth c D ar lay wr nL cB sB Q (tgt) ls (st) M) : AW p l e R s m args below meth c D ar lay wr nL cB sB Q (pc) ls (.int x :: st) M :=
  fun H locs la k0 n0 h1 h2 h3 h4 h5 => lv_tableOut E.x E.b hd h ht (kk H locs la k0 n0 h1 h2 h3 h4 h5)
theorem a_tableIn (E : Cx p s m args c cc nL own D ar lay) {dflt lo hi : Int} {offs : Array Int} {len : Nat} {x : Int32} {off : Int} {tgt : Nat} (hd : decode cc pc = .ok (.tableswitch dflt lo hi offs, len)) (hlo : ¬ x.toInt < lo) (hhi : ¬ hi < x.toInt) (ho : offs[(x.toInt - lo).toNat]? = some off) (ht : (pc : Int) + off = (tgt : Int)) (kk : AW p l e R s m args below meth c D ar lay wr nL cB sB Q (tgt) ls (st) M) : AW p l e R s m args below meth c D ar lay wr nL cB sB Q (pc) ls (.int x :: st) M :=
  fun H locs la k0 n0 h1 h2 h3 h4 h5 => lv_tableIn E.x E.b hd hlo hhi ho ht (kk H locs la k0 n0 h1 h2 h3 h4 h5)
/-- a long compare -/
theorem a_lcmp (E : Cx p s m args c cc nL own D ar lay) {x y : Int64} (hd : decode cc pc = .ok (.lcmp, 1)) (kk : ∀ r : Int32, (r = 0 ↔ x = y) → AW p l e R s m args below meth c D ar lay wr nL cB sB Q (pc + 1) ls (.int r :: st) M) : AW p l e R s m args below meth c D ar lay wr nL cB sB Q pc ls (.long y :: .long x :: st) M := by
  intro H locs la k0 n0 h1 h2 h3 h4 h5
  exact W.lcmp E.x E.b hd (kk _ (lg_cmp_eq x y) H locs la k0 n0 h1 h2 h3 h4 h5)
/-- a field is read -/
theorem a_get (E : Cx p s m args c cc nL own D ar lay) {f k ci j idx N : Nat} {fs : List Value} {v : Value} {C : String} {T : u_T} (hd : decode cc pc = .ok (.getfield idx, 3)) (hk : k < wd_cnt f) (he : wd_cell ar lay f k (M f k) = .inr (ci, fs)) (hc : wd_cl[ci]? = some (C, T, N)) (hj : j < N) (hin : ∀ w ∈ u_ws C T N, w ∈ wd_TB) (hlink : Cond.fieldLink own idx (T j).1 (T j).2.1 (T j).2.2.1 ∈ wd_TB) (hv : fs[j]? = some v)
    (kk : AW p l e R s m args below meth c D ar lay wr nL cB sB Q (pc + 3) ls (v :: st) M) : AW p l e R s m args below meth c D ar lay wr nL cB sB Q pc ls (.ref (lay f k) :: st) M := by
  intro H locs la k0 n0 h1 h2 h3 h4 h5
  have hP : va_P D wd_cl [(lay f k, .inr (ci, fs))] H := by
    intro i q hq
    cases i with
    | zero => cases hq; rw [← he]; exact h3 f k hk
    | succ i => simp at hq
  exact va_get (D := D) (ci := ci) (tys := wd_tys ar) (C := C) (T := T) (N := N) E.x E.b E.ts hin E.ow E.K.1 hP 0 rfl hc j hj (E.ts _ hlink) (fun _ h => h) hv hd (kk H locs la k0 n0 h1 h2 h3 h4 h5)
/-- an int field is written -/
theorem a_put (E : Cx p s m args c cc nL own D ar lay) {f k ci j idx N : Nat} {fs : List Value} {x : Int32} {ty : FieldType} {C : String} {T : u_T} (ty0 : Nat → FieldType) (hd : decode cc pc = .ok (.putfield idx, 3)) (hk : k < wd_cnt f) (he : wd_cell ar lay f k (M f k) = .inr (ci, fs)) (he2 : wd_cell ar lay f k (upd (M f k) j x) = .inr (ci, fs.set j (.int x))) (hc : wd_cl[ci]? = some (C, T, N)) (hj : j < N) (hin : ∀ w ∈ u_ws C T N, w ∈ wd_TB) (hty : ∀ k, k < N → parseFieldDescriptor (T k).2.2.1 = some (ty0 k)) (hnm : ∀ a, a < N → ∀ b, b < N → a ≠ b → (T a).2.1 ≠ (T b).2.1) (hlink : Cond.fieldLink own idx (T j).1 (T j).2.1 (T j).2.2.1 ∈ wd_TB) (hfin : (T j).2.2.2 = false) (hpd : parseFieldDescriptor (T j).2.2.1 = some ty) (hn : narrow ty (.int x) = .int x) (hfit : fits ty (.int x) = true) (hl : j < fs.length)
    (kk : AW p l e R s m args below meth c D ar lay true nL cB sB Q (pc + 3) ls st (hm_up M f k j x)) : AW p l e R s m args below meth c D ar lay true nL cB sB Q pc ls (.int x :: .ref (lay f k) :: st) M := by
  intro H locs la k0 n0 h1 h2 h3 h4 h5
  have hap := va_apart (own := own) E.ts hin ty0 hty hnm E.K.1 hc
  have h0 := h3 f k hk
  rw [he] at h0
  obtain ⟨r, g1, cell, q1, q2, q3, q4⟩ := h0
  have hr : r = (C, T, N) := Option.some.inj (g1.symm.trans hc)
  subst hr
  obtain ⟨hS, hfc, kC, hkC, hkind⟩ := E.K.1.1 ci _ hc
  obtain ⟨cf, kf, fi, fd, hi, hsl⟩ := hS j hj
  have hlay := E.ts _ (hin _ (u_in_lay hj))
  unfold u_lay at hlay
  rw [if_neg (by rw [hfin]; decide)] at hlay
  have hst := (u_facts hfc hkC (u_lays E.ts hin hj) hi).1
  have h6 := u_store hfc hkC hkind hlay hi hpd hn hfit
  refine W.putK E.x E.b (f := fd) ⟨E.ow, E.ts _ hlink, ⟨_, _, _, hi⟩, hst⟩ (by rw [q2]; exact h6) q1 q3 (by rw [hsl]; exact k2_hasslot (q4 j hj)) rfl rfl hd fun H' e1 e2 e3 => ?_
  rw [hsl] at e1 ⊢
  refine kk H' _ la k0 n0 h1 h2 (h3.put E.L hk ?_ e3) (h4.put e2 e3 (hw_A.in hk)) h5
  rw [he2]
  exact ⟨_, hc, t_OB.to (V := updV (vp_V fs) j (.int x)) ⟨_, e1, q2, q3, t_set q4 hap hj (.int x)⟩ (fun i _ => vp_updV_set hl (.int x) i)⟩
/-- an int of an array -/
theorem a_iald (E : Cx p s m args c cc nL own D ar lay) {f k n : Nat} {i : Int32} {g : Nat → Int32} (hd : decode cc pc = .ok (.iaload, 1)) (hk : k < wd_cnt f) (he : wd_cell ar lay f k (M f k) = .inl (ar 0, n, .inl g)) (hin : vp_in i n)
    (kk : AW p l e R s m args below meth c D ar lay wr nL cB sB Q (pc + 1) ls (.int (g i.toNatClampNeg) :: st) M) : AW p l e R s m args below meth c D ar lay wr nL cB sB Q pc ls (.int i :: .ref (lay f k) :: st) M := by
  intro H locs la k0 n0 h1 h2 h3 h4 h5
  have h0 := h3 f k hk
  rw [he] at h0
  exact W.iald (v := .int (g i.toNatClampNeg)) E.x E.b h0 ((E.K.1.2 0 (ar 0, .int) rfl).1 n (fun j => .int (g j))) (fun q => by cases q) (by show ¬ (i < 0 ∨ (arrV _ _ _).slots.size ≤ _); rw [arrV_size]; exact hin) (by show (arrV _ _ _).slots[_]? = _; rw [arrV_read _ _ (Nat.not_le.mp fun q => hin (Or.inr q))]) rfl rfl hd (kk H locs la k0 n0 h1 h2 h3 h4 h5)
theorem a_zald (E : Cx p s m args c cc nL own D ar lay) {f k n : Nat} {i : Int32} {g : Nat → Int32} (hd : decode cc pc = .ok (.baload, 1)) (hk : k < wd_cnt f) (he : wd_cell ar lay f k (M f k) = .inl (ar 1, n, .inl g)) (hin : vp_in i n)
    (kk : AW p l e R s m args below meth c D ar lay wr nL cB sB Q (pc + 1) ls (.int (g i.toNatClampNeg) :: st) M) : AW p l e R s m args below meth c D ar lay wr nL cB sB Q pc ls (.int i :: .ref (lay f k) :: st) M := by
  intro H locs la k0 n0 h1 h2 h3 h4 h5
  have h0 := h3 f k hk
  rw [he] at h0
  exact W.zald (v := .int (g i.toNatClampNeg)) E.x E.b h0 ((E.K.1.2 1 (ar 1, .boolean) rfl).1 n (fun j => .int (g j))) (fun q => by cases q) (by show ¬ (i < 0 ∨ (arrV _ _ _).slots.size ≤ _); rw [arrV_size]; exact hin) (by show (arrV _ _ _).slots[_]? = _; rw [arrV_read _ _ (Nat.not_le.mp fun q => hin (Or.inr q))]) rfl rfl hd (kk H locs la k0 n0 h1 h2 h3 h4 h5)
theorem a_lald (E : Cx p s m args c cc nL own D ar lay) {f k n : Nat} {i : Int32} {g : Nat → Int64} (hd : decode cc pc = .ok (.laload, 1)) (hk : k < wd_cnt f) (he : wd_cell ar lay f k (M f k) = .inl (ar 2, n, .inr (.inl g))) (hin : vp_in i n)
    (kk : AW p l e R s m args below meth c D ar lay wr nL cB sB Q (pc + 1) ls (.long (g i.toNatClampNeg) :: st) M) : AW p l e R s m args below meth c D ar lay wr nL cB sB Q pc ls (.int i :: .ref (lay f k) :: st) M := by
  intro H locs la k0 n0 h1 h2 h3 h4 h5
  have h0 := h3 f k hk
  rw [he] at h0
  exact W.lald (v := .long (g i.toNatClampNeg)) E.x E.b h0 ((E.K.1.2 2 (ar 2, .long) rfl).1 n (fun j => .long (g j))) (fun q => by cases q) (by show ¬ (i < 0 ∨ (arrV _ _ _).slots.size ≤ _); rw [arrV_size]; exact hin) (by show (arrV _ _ _).slots[_]? = _; rw [arrV_read _ _ (Nat.not_le.mp fun q => hin (Or.inr q))]) rfl rfl hd (kk H locs la k0 n0 h1 h2 h3 h4 h5)
/-- a reference of an array (t0: its kind) -/
theorem a_aald (E : Cx p s m args c cc nL own D ar lay) {f k n t0 a : Nat} {i : Int32} {g : Nat → Option Nat} {ty : FieldType} (hd : decode cc pc = .ok (.aaload, 1)) (hk : k < wd_cnt f) (he : wd_cell ar lay f k (M f k) = .inl (ar t0, n, .inr (.inr (.inr (.inr g))))) (ht : (wd_tys ar)[t0]? = some (ar t0, ty)) (hty : ty.isReference = true) (hin : vp_in i n) (ha : g i.toNatClampNeg = some a)
    (kk : AW p l e R s m args below meth c D ar lay wr nL cB sB Q (pc + 1) ls (.ref a :: st) M) : AW p l e R s m args below meth c D ar lay wr nL cB sB Q pc ls (.int i :: .ref (lay f k) :: st) M := by
  intro H locs la k0 n0 h1 h2 h3 h4 h5
  have h0 := h3 f k hk
  rw [he] at h0
  exact W.aald (v := .ref a) E.x E.b h0 ((E.K.1.2 t0 _ ht).1 n (fun j => va_rf (g j))) hty (fun q => by cases q) (by show ¬ (i < 0 ∨ (arrV _ _ _).slots.size ≤ _); rw [arrV_size]; exact hin) (by show (arrV _ _ _).slots[_]? = _; rw [arrV_read _ _ (Nat.not_le.mp fun q => hin (Or.inr q)), ha]; rfl) rfl rfl hd (kk H locs la k0 n0 h1 h2 h3 h4 h5)
/-- stores -/
theorem a_iast (E : Cx p s m args c cc nL own D ar lay) {f k n : Nat} {i x : Int32} (hd : decode cc pc = .ok (.iastore, 1)) (hk : k < wd_cnt f) (he : ∀ r : Nat → Int32, wd_cell ar lay f k r = .inl (ar 0, n, .inl r)) (hin : vp_in i n)
    (kk : AW p l e R s m args below meth c D ar lay true nL cB sB Q (pc + 1) ls st (hm_up M f k i.toNatClampNeg x)) : AW p l e R s m args below meth c D ar lay true nL cB sB Q pc ls (.int x :: .int i :: .ref (lay f k) :: st) M := by
  intro H locs la k0 n0 h1 h2 h3 h4 h5
  have h0 := h3 f k hk
  rw [he] at h0
  refine W.iast E.x E.b h0 ((E.K.1.2 0 (ar 0, .int) rfl).1 n (fun j => .int (M f k j))) (fun q => by cases q) (by show ¬ (i < 0 ∨ (arrV _ _ _).slots.size ≤ _); rw [arrV_size]; exact hin) rfl rfl hd fun H1 e1 z oq => ?_
  refine kk H1 _ la k0 n0 h1 h2 (h3.put E.L hk ?_ oq) (h4.put z oq (hw_A.in hk)) h5
  rw [he]
  show H1[lay f k]? = some (vp_cell _ _)
  rw [e1]
  rw [vp_cell_i, vp_cell_i, arrV_store]
  congr 2
  funext q
  by_cases hq : q = i.toNatClampNeg
  · subst hq; simp [updV, upd]
  · simp [updV, upd, hq]
theorem a_zast (E : Cx p s m args c cc nL own D ar lay) {f k n : Nat} {i x : Int32} (hd : decode cc pc = .ok (.bastore, 1)) (hk : k < wd_cnt f) (he : ∀ r : Nat → Int32, wd_cell ar lay f k r = .inl (ar 1, n, .inl r)) (hin : vp_in i n) (hx : narrow .boolean (.int x) = .int x)
    (kk : AW p l e R s m args below meth c D ar lay true nL cB sB Q (pc + 1) ls st (hm_up M f k i.toNatClampNeg x)) : AW p l e R s m args below meth c D ar lay true nL cB sB Q pc ls (.int x :: .int i :: .ref (lay f k) :: st) M := by
  intro H locs la k0 n0 h1 h2 h3 h4 h5
  have h0 := h3 f k hk
  rw [he] at h0
  refine W.zast E.x E.b h0 ((E.K.1.2 1 (ar 1, .boolean) rfl).1 n (fun j => .int (M f k j))) (fun q => by cases q) (by show ¬ (i < 0 ∨ (arrV _ _ _).slots.size ≤ _); rw [arrV_size]; exact hin) rfl rfl hd fun H1 e1 z oq => ?_
  refine kk H1 _ la k0 n0 h1 h2 (h3.put E.L hk ?_ oq) (h4.put z oq (hw_A.in hk)) h5
  rw [he]
  show H1[lay f k]? = some (vp_cell _ _)
  rw [e1, hx]
  rw [vp_cell_i, vp_cell_i, arrV_store]
  congr 2
  funext q
  by_cases hq : q = i.toNatClampNeg
  · subst hq; simp [updV, upd]
  · simp [updV, upd, hq]
theorem a_last (E : Cx p s m args c cc nL own D ar lay) {f k n : Nat} {i x : Int32} (hd : decode cc pc = .ok (.lastore, 1)) (hk : k < wd_cnt f) (he : ∀ r : Nat → Int32, wd_cell ar lay f k r = .inl (ar 2, n, .inr (.inl (fun j => (r j).toInt64)))) (hin : vp_in i n)
    (kk : AW p l e R s m args below meth c D ar lay true nL cB sB Q (pc + 1) ls st (hm_up M f k i.toNatClampNeg x)) : AW p l e R s m args below meth c D ar lay true nL cB sB Q pc ls (.long x.toInt64 :: .int i :: .ref (lay f k) :: st) M := by
  intro H locs la k0 n0 h1 h2 h3 h4 h5
  have h0 := h3 f k hk
  rw [he] at h0
  refine W.last E.x E.b h0 ((E.K.1.2 2 (ar 2, .long) rfl).1 n (fun j => .long (M f k j).toInt64)) (fun q => by cases q) (by show ¬ (i < 0 ∨ (arrV _ _ _).slots.size ≤ _); rw [arrV_size]; exact hin) rfl rfl hd fun H1 e1 z oq => ?_
  refine kk H1 _ la k0 n0 h1 h2 (h3.put E.L hk ?_ oq) (h4.put z oq (hw_A.in hk)) h5
  rw [he]
  show H1[lay f k]? = some (vp_cell _ _)
  rw [e1]
  rw [vp_cell_l, vp_cell_l, arrV_store]
  congr 2
  funext q
  by_cases hq : q = i.toNatClampNeg
  · subst hq; simp [updV, upd]
  · simp [updV, upd, hq]
end AWR
/-! CONTRACTS THAT MAY THROW -/
def FX (st t : State) (L : List Loc) (k n : Nat) : Prop := st.WarmedH t.vm ∧ st.sameButNew ({ t with vm := st.vm } : State) L k n
def MX (l : Launch) (y : MethodName) (rm : Room) (Pc : Array Value → State → Prop) (Qc : Array Value → State → Outcome → State → Prop) (mc ms : Nat) (free : Addr → Prop) : Prop :=
  MetFree l y (headSpec wd_TB rm) Pc (fun _ _ _ _ _ => True) (fun a st o t => Qc a st o t ∧ ∃ L, FX st t L mc ms ∧ ∀ q ∈ L, free q.base)
def MQX (below : List Frame) (Qc : Array Value → State → Outcome → State → Prop) (a : Array Value) (s : State) (mc ms : Nat) (free : Addr → Prop) : State → Prop := fun t =>
  ∃ o, t.status = .running ∧ Ended t below o ∧ Qc a s o t ∧ ∃ L, FX s t L mc ms ∧ ∀ q ∈ L, free q.base
theorem mq_x {below : List Frame} {Qc : Array Value → State → Outcome → State → Prop} {a : Array Value} {s : State} {mc ms : Nat} {free : Addr → Prop} {t : State} (h : MQ below Qc a s mc ms free t) : MQX below Qc a s mc ms free t := by
  obtain ⟨o, h1, h2, h3, L, h4, h5⟩ := h
  exact ⟨o, h1, h2, h3, L, ⟨h4.2.1, h4.2.2⟩, h5⟩
theorem w_mono {p : Program} {l : Launch} {e : Env} {R : Room} {s : State} {m : MethodId} {args : Array Value} {below : List Frame} {meth : Method} {c : Code} {H : Heap} {locs : List Loc} {cells slots : Nat} {Q Q' : State → Prop} {g : JFrame} (h : ∀ t, Q t → Q' t) (k : W p l e R s m args below meth c H locs cells slots Q g) : W p l e R s m args below meth c H locs cells slots Q' g := fun T hT X => by
  obtain ⟨t, a, b⟩ := k T hT X
  exact ⟨t, a, h t b⟩
/-- what a method does: it answers (r, M'), or it throws a new object of the kind named, and changes nothing -/
abbrev hr_T : Type := (Option Value × hm_M) ⊕ String
def CQ (D : va_G) (ar : Nat → ClassId) (lay : Nat → Nat → Nat) (M : hm_M) (sz : Nat) (wr : Bool) (res : hr_T) (st : State) (o : Outcome) (t : State) : Prop :=
  (match res with
    | .inl u => o = .returned u.1 ∧ hw_H D ar lay u.2 t.heap
    | .inr X => ∃ (q : Addr) (cell : Cell), o = .threw q ∧ t.heap[q]? = some cell ∧ cell.vm = .none ∧ st.vm.findClass X = some cell.cls ∧ hw_H D ar lay M t.heap) ∧ va_F (hw_A lay wr sz) st t
def Ct (l : Launch) (D : va_G) (ar : Nat → ClassId) (lay : Nat → Nat → Nat) (y : MethodName) (rm : Room) (wr : Bool) (As : List Value) (M : hm_M) (res : hr_T) : Prop :=
  ∀ sz : Nat, MX l y rm (va_Pc As (hw_St D ar lay M sz)) (fun _ st o t => CQ D ar lay M sz wr res st o t) rm.cells rm.slots (hw_A lay wr sz)
theorem hw_St.blind {D : va_G} {ar : Nat → ClassId} {lay : Nat → Nat → Nat} {M : hm_M} {sz : Nat} {U : State} {g : JFrame} {mk : MethodId} {a : Array Value} (h : hw_St D ar lay M sz U) : hw_St D ar lay M sz (U.calling g mk a) := by
  obtain ⟨h1, h2, h3, h4, h5, h6⟩ := h
  exact ⟨h1, h2, hw_K.same (u := U) (U := U.calling g mk a) rfl h3, h4, vx_Zq.moved (u := U) (U := U.calling g mk a) (Vm.Alike.refl U.vm) h5, vx_Zq.moved (u := U) (U := U.calling g mk a) (Vm.Alike.refl U.vm) h6⟩
/-- a contract out of a walk of the body -/
theorem Ct.of {l : Launch} {D : va_G} {ar : Nat → ClassId} {lay : Nat → Nat → Nat} {y : MethodName} {rm : Room} {wr : Bool} {As : List Value} {M : hm_M} {res : hr_T} {cc : ByteArray} {maxL : Nat} {ret : Option FieldType} (hy : plainName y.cls = true) (hcode : Cond.code y cc maxL ret ∈ wd_TB) (hlen : (lg_sl As).length ≤ maxL)
    (body : ∀ (p : Program) (e : Env) (s : State) (m : MethodId) (below : List Frame) (meth : Method) (c : Code), Cx p s m As.toArray c cc maxL y.cls D ar lay → meth.sig.returnType = ret → meth.locks = false → c.exceptionTable.isEmpty = true → hw_H D ar lay M s.heap →
      AW p l e rm s m As.toArray below meth c D ar lay false maxL 0 0 (MQX below (fun _ st o t => CQ D ar lay M s.heap.size wr res st o t) As.toArray s rm.cells rm.slots (hw_A lay wr s.heap.size)) 0 (lv_args 0 As) [] M) : Ct l D ar lay y rm wr As M res := by
  intro sz
  refine MetFree.of_bodyS (code := cc) (maxLocals := maxL) (ret := ret) hy ?_ ?_
  · intro args s m h hn
    obtain ⟨meth, c, h1, h2, h3, h4, h5, h6, -, -⟩ := Cond.code_spec hn (atoms_spec (ws := wd_TB) h _ hcode)
    exact ⟨meth, c, h1, h2, h3, h4, h5, h6⟩
  · intro p e s m args below meth c s₁ B hml hP _
    obtain ⟨rfl, hsz, hH, hK, hL, hZ⟩ := hP
    subst hsz
    have hh0 : s₁.heap = s.heap := by rw [B.state]; rfl
    have hts := atoms_spec (ws := wd_TB) B.pre
    have E : Cx p s m As.toArray c cc maxL y.cls D ar lay := ⟨B.exec, B.bytes, hml, findClass_of_methodNamed B.named, hts, hK, hL, hZ, fun q cell hq hc => by
      rcases hq with ⟨-, f, k, hk, rfl⟩ | hq
      · exact hH.plain hk hc
      · exact absurd (Array.getElem?_eq_some_iff.mp hc).1 (Nat.not_lt.mpr hq)⟩
    have hl := lv_entry As (n := maxL) hlen
    have K := body p e s m below meth c E B.returns B.notSynchronized (BodyLoose.noHandlers B (hts _ hcode)) hH s.heap [] _ 0 0 (Nat.le_refl _) (Nat.le_refl _) hH va_S.rf hl
    rw [← lg_entry_eq] at K
    obtain ⟨t, a1, o, b1, b2, b3⟩ := K s₁ hh0 (Stand.of_body B)
    exact ⟨t, o, a1, b1, b2, b3.1, b3.2⟩
/-- the same for a method with handlers -/
theorem Ct.ofWith {l : Launch} {D : va_G} {ar : Nat → ClassId} {lay : Nat → Nat → Nat} {y : MethodName} {rm : Room} {wr : Bool} {As : List Value} {M : hm_M} {res : hr_T} {cc : ByteArray} {maxL : Nat} {ret : Option FieldType} {hs : List (Nat × Nat × Nat × Nat)} (hy : plainName y.cls = true) (hcode : Cond.codeWith y cc maxL ret hs ∈ wd_TB) (hlen : (lg_sl As).length ≤ maxL)
    (body : ∀ (p : Program) (e : Env) (s : State) (m : MethodId) (below : List Frame) (meth : Method) (c : Code), Cx p s m As.toArray c cc maxL y.cls D ar lay → meth.sig.returnType = ret → meth.locks = false → c.exceptionTable.toList.map (fun h => (h.startPc, h.endPc, h.handlerPc, h.catchType)) = hs → hw_H D ar lay M s.heap →
      AW p l e rm s m As.toArray below meth c D ar lay false maxL 0 0 (MQX below (fun _ st o t => CQ D ar lay M s.heap.size wr res st o t) As.toArray s rm.cells rm.slots (hw_A lay wr s.heap.size)) 0 (lv_args 0 As) [] M) : Ct l D ar lay y rm wr As M res := by
  intro sz
  refine MetFree.of_bodyS (code := cc) (maxLocals := maxL) (ret := ret) hy ?_ ?_
  · intro args s m h hn
    obtain ⟨m', meth, c, hn', h1, h2, h3, h4, -, h5, h6, -⟩ := Cond.codeWith_spec (atoms_spec (ws := wd_TB) h _ hcode)
    cases hn.symm.trans hn'
    exact ⟨meth, c, h1, h2, h3, h4, h5, h6⟩
  · intro p e s m args below meth c s₁ B hml hP _
    obtain ⟨rfl, hsz, hH, hK, hL, hZ⟩ := hP
    subst hsz
    have hh0 : s₁.heap = s.heap := by rw [B.state]; rfl
    have hts := atoms_spec (ws := wd_TB) B.pre
    have E : Cx p s m As.toArray c cc maxL y.cls D ar lay := ⟨B.exec, B.bytes, hml, findClass_of_methodNamed B.named, hts, hK, hL, hZ, fun q cell hq hc => by
      rcases hq with ⟨-, f, k, hk, rfl⟩ | hq
      · exact hH.plain hk hc
      · exact absurd (Array.getElem?_eq_some_iff.mp hc).1 (Nat.not_lt.mpr hq)⟩
    obtain ⟨m', meth', c', hn', hm', hc', -, -, hht, -⟩ := Cond.codeWith_spec (hts _ hcode)
    cases B.named.symm.trans hn'
    cases B.method.symm.trans hm'
    cases (Stand.of_body B).code.symm.trans hc'
    have hl := lv_entry As (n := maxL) hlen
    have K := body p e s m below meth c E B.returns B.notSynchronized hht hH s.heap [] _ 0 0 (Nat.le_refl _) (Nat.le_refl _) hH va_S.rf hl
    rw [← lg_entry_eq] at K
    obtain ⟨t, a1, o, b1, b2, b3⟩ := K s₁ hh0 (Stand.of_body B)
    exact ⟨t, o, a1, b1, b2, b3.1, b3.2⟩
section RUN
variable {p : Program} {l : Launch} {e : Env} {R : Room} {s : State} {m : MethodId} {args : Array Value} {below : List Frame} {meth : Method} {c : Code} {T : State} {locs : List Loc} {cells slots : Nat}
/-- a call of a method with a contract, from the frame that is left over: it comes back, or it throws -/
theorem mx_run (X : Stand p l e R s m args below meth c T locs cells slots) {y : MethodName} {rm : Room} {Pc : Array Value → State → Prop} {Qc : Array Value → State → Outcome → State → Prop} {mc ms : Nat} {free : Addr → Prop} (hM : MX l y rm Pc Qc mc ms free) (hTB : ∀ w ∈ wd_TB, w.before args s = true) (hrc : rm.cells = mc) (hrs : rm.slots = ms) (hfr : rm.frames + 1 ≤ R.frames) {maxL : Nat} (hlo : 8 + (maxL + 11) + rm.locals ≤ R.locals) (hin : Cond.initialized y.cls ∈ wd_TB)
    {g : JFrame} (hg : g.method = m) (hsize : g.locals.size = c.maxLocals) {ig : Instr} {len : Nat} (hdg : decode c.code g.pc = .ok (ig, len)) (hW : 2 * g.monitorRoom + (g.stack.map fun v => v.category).sum ≤ 8) {mk : MethodId} (hn : T.methodNamed? y = some mk) {methY : Method} {cY : Code} (hmY : T.vm.method? mk = some methY) (hcY : methY.code = some cY) (hlY : cY.maxLocals = maxL) {a : Array Value} (hP : Pc a (T.calling g mk a)) (hc : cells + mc ≤ R.cells) (hs : slots + ms ≤ R.slots) :
    ∃ (o : Outcome) (t T' : State) (L : List Loc), Stand p l e R s m args below meth c T' (locs ++ L) (cells + mc) (slots + ms) ∧ (∀ q ∈ L, free q.base) ∧ T'.heap = t.heap ∧ Qc a (T.calling g mk a) o t ∧
      ((∃ v, o = .returned v ∧ Steps p.tables e below (doInvoke e (T.setTop g) [] mk a).1 (T'.setTop { g with pc := g.pc + len, stack := v.toList ++ g.stack })) ∨
       (∃ x, o = .threw x ∧ Steps p.tables e below (doInvoke e (T.setTop g) [] mk a).1 ((T'.setTop g).pushFrame (.throwing x)))) := by
  obtain ⟨kY, hkY, -⟩ := className_of_methodNamed hn
  have hinit : (Cond.initialized y.cls).before a T = true := wd_stay X.warmed (wd_all _ hin) (hTB _ hin)
  have hinitY : kY.init = .initialized := Cond.initialized_spec (findClass_of_methodNamed hn) hkY hinit
  have h : At T g.method c below := by rw [hg]; exact X.here
  have hpre : (headSpec wd_TB rm).pre.before a T = true := atoms_intro fun w hw => wd_stay X.warmed (wd_all w hw) (hTB w hw)
  have happ : (headSpec wd_TB rm).appliesLoose y e.platform (T.calling g mk a) = true :=
    Spec.appliesLoose_calling (g := g) h hdg hn hkY hinitY
      (X.room_calling (g := g) (R' := rm) hsize hmY hcY hfr (by rw [hlY]; omega) (by rw [hrc]; exact hc) (by rw [hrs]; exact hs)) hpre
  obtain ⟨mid, hmid⟩ := h.above
  have hf : (T.setTop g).frames = (.java g :: mid) ++ below := by rw [State.frames_setTop' g h.top, hmid]; rfl
  obtain ⟨o, s₂, hsteps, -, hend, hq⟩ := Free.Steps.callFree hM p X.admits X.cas X.clock (acts := []) hf happ hP trivial
  rw [State.frames_setTop' g h.top, X.tail] at hend
  obtain ⟨hQ, L, ⟨hW2, hsame⟩, hL⟩ := hq
  cases o with
  | returned v =>
    obtain ⟨T', X', -, -, ht⟩ := X.outOf hg hdg hend hW2 hsame
    exact ⟨_, s₂, T', L, X', hL, by rw [ht]; rfl, hQ, Or.inl ⟨v, rfl, by rw [← ht]; exact hsteps⟩⟩
  | threw x =>
    obtain ⟨T', X', -, -, ht⟩ := X.outOfThrown hg hend hW2 hsame
    exact ⟨_, s₂, T', L, X', hL, by rw [ht, Stand.throwing_heap], hQ, Or.inr ⟨x, rfl, by rw [← ht]; exact hsteps⟩⟩
end RUN
/-- what a call site needs of the tables and of the room -/
def OkV (R : Room) (own : String) (idx : Nat) (y : MethodName) (cc : ByteArray) (maxL : Nat) (ret : Option FieldType) (rm : Room) (n : Nat) : Prop :=
  rm.frames + 1 ≤ R.frames ∧ 8 + (maxL + 11) + rm.locals ≤ R.locals ∧ Cond.methodLink own idx y ∈ wd_TB ∧ Cond.instanceMethod y ∈ wd_TB ∧ Cond.selects y.cls y y ∈ wd_TB ∧ Cond.initialized y.cls ∈ wd_TB ∧ Cond.code y cc maxL ret ∈ wd_TB ∧ (y.cls ≠ "java/lang/invoke/MethodHandle" ∧ y.cls ≠ "java/lang/invoke/VarHandle") ∧ (parseMethodDescriptor y.desc).map (fun d => d.parameters.length) = some n
def OkS (R : Room) (own : String) (idx : Nat) (y : MethodName) (maxL : Nat) (rm : Room) (n : Nat) : Prop :=
  rm.frames + 1 ≤ R.frames ∧ 8 + (maxL + 11) + rm.locals ≤ R.locals ∧ Cond.methodLink own idx y ∈ wd_TB ∧ Cond.static y ∈ wd_TB ∧ Cond.initialized y.cls ∈ wd_TB ∧ (y.cls ≠ "java/lang/invoke/MethodHandle" ∧ y.cls ≠ "java/lang/invoke/VarHandle") ∧ (parseMethodDescriptor y.desc).map (fun d => d.parameters.length) = some n
section CALL
variable {p : Program} {l : Launch} {e : Env} {R : Room} {s : State} {m : MethodId} {args : Array Value} {below : List Frame} {meth : Method} {c : Code} {Q : State → Prop} {cc : ByteArray} {nL cB sB : Nat} {own : String} {D : va_G} {ar : Nat → ClassId} {lay : Nat → Nat → Nat} {wr : Bool} {pc : Nat} {ls : List (Nat × Value)} {st : List Value} {M : hm_M}
/-- the world as a callee wants it -/
theorem cx_st (E : Cx p s m args c cc nL own D ar lay) {H : Heap} {locs : List Loc} (h3 : hw_H D ar lay M H) (h4 : va_S (hw_A lay wr s.heap.size) s.heap H locs) {U : State} (hU : U.heap = H) (hW : s.WarmedH U.vm) : hw_St D ar lay M H.size U := by
  have hq : ∀ a : Nat, a < s.heap.size → ¬ hw_A lay true s.heap.size a → H[a]? = s.heap[a]? := fun a h1 h2 => h4.2.1 a h1 (fun z => h2 (z.mono (fun _ => rfl) (Nat.le_refl _)))
  have hn : ∀ q, hw_A lay true H.size q → hw_A lay true s.heap.size q := fun q z => z.mono (fun h => h) h4.1
  refine ⟨by rw [hU], by rw [hU]; exact h3, hw_K.moved hW E.K, E.L, ?_, ?_⟩
  · rw [hU]; exact ((E.Z.1.kept hq).moved hW.alike).narrow hn
  · rw [hU]; exact ((E.Z.2.kept hq).moved hW.alike).narrow hn
/-- what comes back from a callee, in the caller's words -/
theorem cx_back {H : Heap} {locs L : List Loc} {wr1 : Bool} (h4 : va_S (hw_A lay wr s.heap.size) s.heap H locs) (hw : wr1 = true → wr = true) {st0 t : State} (h0 : st0.heap = H) (hF : va_F (hw_A lay wr1 H.size) st0 t) (hL : ∀ q ∈ L, hw_A lay wr1 H.size q.base) : va_S (hw_A lay wr s.heap.size) s.heap t.heap (locs ++ L) := by
  obtain ⟨f1, f2⟩ := hF
  rw [h0] at f1 f2
  refine ⟨Nat.le_trans h4.1 f1, fun q a b => ?_, fun q hq => ?_⟩
  · rw [f2 q (Nat.lt_of_lt_of_le a h4.1) (fun z => b (z.mono hw h4.1))]
    exact h4.2.1 q a b
  · rcases List.mem_append.mp hq with h | h
    · exact h4.2.2 q h
    · exact (hL q h).mono hw h4.1
/-- a call on an object of the world, up to what comes of it -/
theorem cx_callV (E : Cx p s m args c cc nL own D ar lay) {f k idx n maxL ci N : Nat} {y : MethodName} {ccY : ByteArray} {ret : Option FieldType} {rm : Room} {wr1 : Bool} {As : List Value} {res : hr_T} {fs : List Value} {TT : u_T} {stk : List Value} (hC : Ct l D ar lay y rm wr1 (.ref (lay f k) :: As) M res) (ok : OkV R own idx y ccY maxL ret rm n) (hn : As.length = n) (hk : k < wd_cnt f) (he : wd_cell ar lay f k (M f k) = .inr (ci, fs)) (hc : wd_cl[ci]? = some (y.cls, TT, N)) (hst : stk = As.reverse ++ .ref (lay f k) :: st) (hrm : (st.map fun v => v.category).sum ≤ 8) (hd : decode cc pc = .ok (.invokevirtual idx, 3)) (hcb : cB + rm.cells ≤ R.cells ∧ sB + rm.slots ≤ R.slots)
    {H : Heap} {locs : List Loc} {la : Array Slot} {k0 n0 : Nat} (h1 : k0 ≤ cB) (h2 : n0 ≤ sB) (h3 : hw_H D ar lay M H) (h4 : va_S (hw_A lay wr s.heap.size) s.heap H locs) (h5 : lv_has la nL ls) {T : State} (hT : T.heap = H) (X : Stand p l e R s m args below meth c T locs k0 n0) :
    ∃ (o : Outcome) (t T' st0 : State) (L : List Loc), Stand p l e R s m args below meth c T' (locs ++ L) (k0 + rm.cells) (n0 + rm.slots) ∧ (∀ q ∈ L, hw_A lay wr1 H.size q.base) ∧ T'.heap = t.heap ∧ st0.heap = H ∧ s.WarmedH st0.vm ∧ CQ D ar lay M H.size wr1 res st0 o t ∧
      ((∃ v, o = .returned v ∧ ∀ tg, Steps p.tables e below (T'.setTop (F0 m (pc + 3) la (v.toList ++ st))) tg → Steps p.tables e below (T.setTop (F0 m pc la stk)) tg) ∨
       (∃ x, o = .threw x ∧ ∀ tg, Steps p.tables e below ((T'.setTop (F0 m pc la st)).pushFrame (.throwing x)) tg → Steps p.tables e below (T.setTop (F0 m pc la stk)) tg)) := by
  obtain ⟨o1, o2, o3, o4, o5, o6, o7, o8, o9⟩ := ok
  have h0 := h3 f k hk
  rw [he] at h0
  obtain ⟨r, g1, cell, q1, q2, q3, -⟩ := h0
  have hr : r = (y.cls, TT, N) := Option.some.inj (g1.symm.trans hc)
  subst hr
  have hcls : s.vm.findClass y.cls = some cell.cls := by rw [q2]; exact (E.K.1.1 ci _ hc).2.1
  obtain ⟨mk, methM, hnamed, hmethM, hstM, habM⟩ := Cond.instanceMethod_spec (E.ts _ o4)
  obtain ⟨methM', cM, hmethM', hcM, -, hlM, -, -, -, hsigM⟩ := Cond.code_spec hnamed (E.ts _ o7)
  cases hmethM.symm.trans hmethM'
  obtain ⟨c2, r2, m2, w1, w2, w3, w4, kP, hkP, hkPi⟩ := Cond.selects_spec (E.ts _ o5)
  cases hcls.symm.trans w1
  cases (State.methodFound?_of_named hnamed o8).symm.trans w2
  cases hnamed.symm.trans w3
  have hselP : selectMethod e.platform s.vm cell.cls mk = .method mk := by rw [Launch.admits_selectMethod X.admits]; exact w4
  have hlenA : As.length = methM.sig.parameters.length := by
    rw [hsigM] at o9
    rw [hn]
    exact (Option.some.inj o9).symm
  obtain ⟨vm₁, X₁, hstep₁⟩ := X.invokevirtual E.x E.ow (E.ts _ o3) hnamed hmethM hstM hkP hkPi o8 (a := lay f k) (cell := cell) (by rw [hT]; exact q1)
    (fun z h => by rw [q3] at h; cases h) hselP hmethM habM hkP hkPi (g := F0 m pc la stk) rfl (argsL := As) (rest := st) hlenA hst (by rw [E.b]; exact hd)
  have hWm : s.WarmedH vm₁ := X₁.warmed
  obtain ⟨o, t, T', L, X', hL, hh, hq, hend⟩ := mx_run X₁ (hC H.size) E.ts rfl rfl o1 o2 o6 (g := F0 m pc la st) (ig := .invokevirtual idx) (len := 3) rfl (by rw [E.ml]; exact h5.1) (by rw [E.b]; exact hd) (by show 2 * (F0 m pc la st).monitorRoom + _ ≤ 8; simpa [JFrame.monitorRoom] using hrm) (mk := mk) (X₁.named hnamed) (by show vm₁.method? mk = _; rw [hWm.alike.method?]; exact hmethM) hcM hlM (a := (Value.ref (lay f k) :: As).toArray) ⟨rfl, (cx_st E h3 h4 (U := T.setVm vm₁) hT hWm).blind⟩ (by omega) (by omega)
  refine ⟨o, t, T', (T.setVm vm₁).calling (F0 m pc la st) mk (Value.ref (lay f k) :: As).toArray, L, X', hL, hh, hT, hWm, hq, ?_⟩
  rcases hend with ⟨v, ho, hs⟩ | ⟨x, ho, hs⟩
  · exact Or.inl ⟨v, ho, fun tg h => hstep₁ _ fun acts => by rw [doInvoke_state]; exact hs.trans h⟩
  · exact Or.inr ⟨x, ho, fun tg h => hstep₁ _ fun acts => by rw [doInvoke_state]; exact hs.trans h⟩
/-- a static call, up to what comes of it -/
theorem cx_callS (E : Cx p s m args c cc nL own D ar lay) {idx n maxL : Nat} {y : MethodName} {rm : Room} {wr1 : Bool} {As : List Value} {res : hr_T} {stk : List Value} (hC : Ct l D ar lay y rm wr1 As M res) (ok : OkS R own idx y maxL rm n) (hcode : ∃ (mk : MethodId) (mY : Method) (cY : Code), s.methodNamed? y = some mk ∧ s.vm.method? mk = some mY ∧ mY.code = some cY ∧ cY.maxLocals = maxL ∧ parseMethodDescriptor y.desc = some mY.sig) (hn : As.length = n) (hst : stk = As.reverse ++ st) (hrm : (st.map fun v => v.category).sum ≤ 8) (hd : decode cc pc = .ok (.invokestatic idx, 3)) (hcb : cB + rm.cells ≤ R.cells ∧ sB + rm.slots ≤ R.slots)
    {H : Heap} {locs : List Loc} {la : Array Slot} {k0 n0 : Nat} (h1 : k0 ≤ cB) (h2 : n0 ≤ sB) (h3 : hw_H D ar lay M H) (h4 : va_S (hw_A lay wr s.heap.size) s.heap H locs) (h5 : lv_has la nL ls) {T : State} (hT : T.heap = H) (X : Stand p l e R s m args below meth c T locs k0 n0) :
    ∃ (o : Outcome) (t T' st0 : State) (L : List Loc), Stand p l e R s m args below meth c T' (locs ++ L) (k0 + rm.cells) (n0 + rm.slots) ∧ (∀ q ∈ L, hw_A lay wr1 H.size q.base) ∧ T'.heap = t.heap ∧ st0.heap = H ∧ s.WarmedH st0.vm ∧ CQ D ar lay M H.size wr1 res st0 o t ∧
      ((∃ v, o = .returned v ∧ ∀ tg, Steps p.tables e below (T'.setTop (F0 m (pc + 3) la (v.toList ++ st))) tg → Steps p.tables e below (T.setTop (F0 m pc la stk)) tg) ∨
       (∃ x, o = .threw x ∧ ∀ tg, Steps p.tables e below ((T'.setTop (F0 m pc la st)).pushFrame (.throwing x)) tg → Steps p.tables e below (T.setTop (F0 m pc la stk)) tg)) := by
  obtain ⟨o1, o2, o3, o4, o5, o8, o9⟩ := ok
  obtain ⟨mk, methM, cM, hnamed, hmethM, hcM, hlM, hsigM⟩ := hcode
  have hstatic : methM.isStatic = true := Cond.static_spec hnamed hmethM (E.ts _ o4)
  obtain ⟨kP, hkP, -⟩ := className_of_methodNamed hnamed
  have hinitP : kP.init = .initialized := Cond.initialized_spec (findClass_of_methodNamed hnamed) hkP (E.ts _ o5)
  have hlenA : As.length = methM.sig.parameters.length := by
    rw [hsigM] at o9
    rw [hn]
    exact (Option.some.inj o9).symm
  obtain ⟨vm₁, X₁, hstep₁⟩ := X.invokestatic E.x E.ow (E.ts _ o3) hnamed hmethM hstatic hkP hinitP o8 (g := F0 m pc la stk) rfl (argsL := As) (rest := st) hlenA hst (by rw [E.b]; exact hd)
  have hWm : s.WarmedH vm₁ := X₁.warmed
  obtain ⟨o, t, T', L, X', hL, hh, hq, hend⟩ := mx_run X₁ (hC H.size) E.ts rfl rfl o1 o2 o5 (g := F0 m pc la st) (ig := .invokestatic idx) (len := 3) rfl (by rw [E.ml]; exact h5.1) (by rw [E.b]; exact hd) (by show 2 * (F0 m pc la st).monitorRoom + _ ≤ 8; simpa [JFrame.monitorRoom] using hrm) (mk := mk) (X₁.named hnamed) (by show vm₁.method? mk = _; rw [hWm.alike.method?]; exact hmethM) hcM hlM (a := As.toArray) ⟨rfl, (cx_st E h3 h4 (U := T.setVm vm₁) hT hWm).blind⟩ (by omega) (by omega)
  refine ⟨o, t, T', (T.setVm vm₁).calling (F0 m pc la st) mk As.toArray, L, X', hL, hh, hT, hWm, hq, ?_⟩
  rcases hend with ⟨v, ho, hs⟩ | ⟨x, ho, hs⟩
  · exact Or.inl ⟨v, ho, fun tg h => hstep₁ _ fun acts => by rw [doInvoke_state]; exact hs.trans h⟩
  · exact Or.inr ⟨x, ho, fun tg h => hstep₁ _ fun acts => by rw [doInvoke_state]; exact hs.trans h⟩
/-- the call comes back -/
theorem a_callV (E : Cx p s m args c cc nL own D ar lay) {f k idx n maxL ci N : Nat} {y : MethodName} {ccY : ByteArray} {ret : Option FieldType} {rm : Room} {wr1 : Bool} {As : List Value} {r : Option Value} {M' : hm_M} {fs : List Value} {TT : u_T} {stk : List Value} (hC : Ct l D ar lay y rm wr1 (.ref (lay f k) :: As) M (.inl (r, M'))) (ok : OkV R own idx y ccY maxL ret rm n) (hn : As.length = n) (hk : k < wd_cnt f) (he : wd_cell ar lay f k (M f k) = .inr (ci, fs)) (hc : wd_cl[ci]? = some (y.cls, TT, N)) (hw : wr1 = true → wr = true) (hst : stk = As.reverse ++ .ref (lay f k) :: st) (hrm : (st.map fun v => v.category).sum ≤ 8) (hd : decode cc pc = .ok (.invokevirtual idx, 3)) (hcb : cB + rm.cells ≤ R.cells ∧ sB + rm.slots ≤ R.slots)
    (kk : AW p l e R s m args below meth c D ar lay wr nL (cB + rm.cells) (sB + rm.slots) Q (pc + 3) ls (r.toList ++ st) M') : AW p l e R s m args below meth c D ar lay wr nL cB sB Q pc ls stk M := by
  intro H locs la k0 n0 h1 h2 h3 h4 h5 T hT X
  obtain ⟨o, t, T', st0, L, X', hL, hh, h0, hWm, ⟨⟨ho, hM⟩, hF⟩, hend⟩ := cx_callV E hC ok hn hk he hc hst hrm hd hcb h1 h2 h3 h4 h5 hT X
  subst ho
  rcases hend with ⟨v, ho, hs⟩ | ⟨x, ho, hs⟩
  · cases ho
    obtain ⟨tt, a, b⟩ := kk t.heap _ la _ _ (Nat.add_le_add_right h1 _) (Nat.add_le_add_right h2 _) hM (cx_back h4 hw h0 hF hL) h5 T' hh X'
    exact ⟨tt, hs tt a, b⟩
  · cases ho
theorem a_callS (E : Cx p s m args c cc nL own D ar lay) {idx n maxL : Nat} {y : MethodName} {ccY : ByteArray} {ret : Option FieldType} {rm : Room} {wr1 : Bool} {As : List Value} {r : Option Value} {M' : hm_M} {stk : List Value} (hC : Ct l D ar lay y rm wr1 As M (.inl (r, M'))) (ok : OkS R own idx y maxL rm n) (hcode : Cond.code y ccY maxL ret ∈ wd_TB) (hn : As.length = n) (hw : wr1 = true → wr = true) (hst : stk = As.reverse ++ st) (hrm : (st.map fun v => v.category).sum ≤ 8) (hd : decode cc pc = .ok (.invokestatic idx, 3)) (hcb : cB + rm.cells ≤ R.cells ∧ sB + rm.slots ≤ R.slots)
    (kk : AW p l e R s m args below meth c D ar lay wr nL (cB + rm.cells) (sB + rm.slots) Q (pc + 3) ls (r.toList ++ st) M') : AW p l e R s m args below meth c D ar lay wr nL cB sB Q pc ls stk M := by
  intro H locs la k0 n0 h1 h2 h3 h4 h5 T hT X
  obtain ⟨mk, hnamed⟩ := Cond.code_named (E.ts _ hcode)
  obtain ⟨mY, cY, g1, g2, -, g4, -, -, -, g8⟩ := Cond.code_spec hnamed (E.ts _ hcode)
  obtain ⟨o, t, T', st0, L, X', hL, hh, h0, hWm, ⟨⟨ho, hM⟩, hF⟩, hend⟩ := cx_callS E hC ok ⟨mk, mY, cY, hnamed, g1, g2, g4, g8⟩ hn hst hrm hd hcb h1 h2 h3 h4 h5 hT X
  subst ho
  rcases hend with ⟨v, ho, hs⟩ | ⟨x, ho, hs⟩
  · cases ho
    obtain ⟨tt, a, b⟩ := kk t.heap _ la _ _ (Nat.add_le_add_right h1 _) (Nat.add_le_add_right h2 _) hM (cx_back h4 hw h0 hF hL) h5 T' hh X'
    exact ⟨tt, hs tt a, b⟩
  · cases ho
/-- a static method with handlers -/
theorem a_callSW (E : Cx p s m args c cc nL own D ar lay) {idx n maxL : Nat} {y : MethodName} {ccY : ByteArray} {ret : Option FieldType} {hds : List (Nat × Nat × Nat × Nat)} {rm : Room} {wr1 : Bool} {As : List Value} {r : Option Value} {M' : hm_M} {stk : List Value} (hC : Ct l D ar lay y rm wr1 As M (.inl (r, M'))) (ok : OkS R own idx y maxL rm n) (hcode : Cond.codeWith y ccY maxL ret hds ∈ wd_TB) (hn : As.length = n) (hw : wr1 = true → wr = true) (hst : stk = As.reverse ++ st) (hrm : (st.map fun v => v.category).sum ≤ 8) (hd : decode cc pc = .ok (.invokestatic idx, 3)) (hcb : cB + rm.cells ≤ R.cells ∧ sB + rm.slots ≤ R.slots)
    (kk : AW p l e R s m args below meth c D ar lay wr nL (cB + rm.cells) (sB + rm.slots) Q (pc + 3) ls (r.toList ++ st) M') : AW p l e R s m args below meth c D ar lay wr nL cB sB Q pc ls stk M := by
  intro H locs la k0 n0 h1 h2 h3 h4 h5 T hT X
  obtain ⟨mk, mY, cY, hnamed, g1, g2, -, g4, -, -, -, g8⟩ := Cond.codeWith_spec (E.ts _ hcode)
  obtain ⟨o, t, T', st0, L, X', hL, hh, h0, hWm, ⟨⟨ho, hM⟩, hF⟩, hend⟩ := cx_callS E hC ok ⟨mk, mY, cY, hnamed, g1, g2, g4, g8⟩ hn hst hrm hd hcb h1 h2 h3 h4 h5 hT X
  subst ho
  rcases hend with ⟨v, ho, hs⟩ | ⟨x, ho, hs⟩
  · cases ho
    obtain ⟨tt, a, b⟩ := kk t.heap _ la _ _ (Nat.add_le_add_right h1 _) (Nat.add_le_add_right h2 _) hM (cx_back h4 hw h0 hF hL) h5 T' hh X'
    exact ⟨tt, hs tt a, b⟩
  · cases ho
/-- the callee throws, and so does the caller, which has no handlers -/
theorem a_callVT (E : Cx p s m args c cc nL own D ar lay) {f k idx n maxL ci N mc ms : Nat} {y : MethodName} {ccY : ByteArray} {ret : Option FieldType} {rm : Room} {wr0 : Bool} {As : List Value} {XN : String} {fs : List Value} {TT : u_T} {stk : List Value} {res : hr_T} {M0 : hm_M} (hlk : meth.locks = false) (hno : c.exceptionTable.isEmpty = true) (hC : Ct l D ar lay y rm false (.ref (lay f k) :: As) M (.inr XN)) (ok : OkV R own idx y ccY maxL ret rm n) (hn : As.length = n) (hk : k < wd_cnt f) (he : wd_cell ar lay f k (M f k) = .inr (ci, fs)) (hc : wd_cl[ci]? = some (y.cls, TT, N)) (hst : stk = As.reverse ++ .ref (lay f k) :: st) (hrm : (st.map fun v => v.category).sum ≤ 8) (hd : decode cc pc = .ok (.invokevirtual idx, 3)) (hcb : cB + rm.cells ≤ R.cells ∧ sB + rm.slots ≤ R.slots)
    (hmc : cB + rm.cells ≤ mc) (hms : sB + rm.slots ≤ ms) (hM0 : M = M0) (hres : res = .inr XN) : AW p l e R s m args below meth c D ar lay false nL cB sB (MQX below (fun _ st o t => CQ D ar lay M0 s.heap.size wr0 res st o t) args s mc ms (hw_A lay wr0 s.heap.size)) pc ls stk M := by
  subst hM0; subst hres
  intro H locs la k0 n0 h1 h2 h3 h4 h5 T hT X
  obtain ⟨o, t, T', st0, L, X', hL, hh, h0, hWm, ⟨⟨q, cell, ho, hq1, hq2, hq3, hM⟩, hF⟩, hend⟩ := cx_callV E hC ok hn hk he hc hst hrm hd hcb h1 h2 h3 h4 h5 hT X
  subst ho
  rcases hend with ⟨v, ho, hs⟩ | ⟨x, ho, hs⟩
  · cases ho
  · cases ho
    have X2 := stand_widen X' (k := mc) (n := ms) (by omega) (by omega)
    obtain ⟨e1, e2, e3, e4, e5⟩ := X2.leaveThrown q (g := F0 m pc la st) rfl rfl rfl (fun x hx => by
      have : c.exceptionTable.toList = [] := by simpa [Array.isEmpty_iff] using hno
      rw [this] at hx; cases hx) hlk
    have hS := cx_back (s := s) (lay := lay) (wr := false) (wr1 := false) h4 (fun h => h) h0 hF hL
    refine ⟨_, hs _ e1, .threw q, e2, e3, ⟨⟨q, cell, rfl, ?_, hq2, ?_, ?_⟩, ?_⟩, locs ++ L, ⟨e4, e5⟩, fun z hz => (hS.2.2 z hz).mono (fun h => by cases h) (Nat.le_refl _)⟩
    · show T'.heap[q]? = some cell
      rw [hh]; exact hq1
    · rw [← hWm.alike.findClass]; exact hq3
    · show hw_H D ar lay M T'.heap
      rw [hh]; exact hM
    · refine ⟨?_, fun z a b => ?_⟩
      · show s.heap.size ≤ T'.heap.size
        rw [hh]; exact hS.1
      · show T'.heap[z]? = _
        rw [hh]; exact hS.2.1 z a (fun w => b (w.mono (fun h => by cases h) (Nat.le_refl _)))
/-- answers -/
theorem a_iret (E : Cx p s m args c cc nL own D ar lay) {mc ms : Nat} {wr0 : Bool} {v : Int32} {ty : FieldType} {M0 : hm_M} {res : hr_T} (hr : meth.sig.returnType = some ty) (hlk : meth.locks = false) (hn : narrow ty (.int v) = .int v) (hd : decode cc pc = .ok (.ireturn, 1)) (hw : wr = true → wr0 = true) (hc : cB ≤ mc) (hs : sB ≤ ms) (hres : res = .inl (some (.int v), M)) :
    AW p l e R s m args below meth c D ar lay wr nL cB sB (MQX below (fun _ st o t => CQ D ar lay M0 s.heap.size wr0 res st o t) args s mc ms (hw_A lay wr0 s.heap.size)) pc ls [.int v] M := by
  subst hres
  intro H locs la k0 n0 h1 h2 h3 h4 h5
  refine W.widen (k := mc) (n := ms) (by omega) (by omega) (w_mono (fun t => mq_x) ?_)
  exact W.zret E.x E.b hr hn (fun t ht hW => ⟨⟨rfl, by rw [ht]; exact h3⟩, by rw [ht]; exact h4.1, fun q a b => by rw [ht]; exact h4.2.1 q a (fun z => b (z.mono hw (Nat.le_refl _)))⟩) (fun q hq => (h4.2.2 q hq).mono hw (Nat.le_refl _)) hd hlk
theorem a_vret (E : Cx p s m args c cc nL own D ar lay) {mc ms : Nat} {wr0 : Bool} {M0 : hm_M} {res : hr_T} (hr : meth.sig.returnType = none) (hlk : meth.locks = false) (hd : decode cc pc = .ok (.return_, 1)) (hw : wr = true → wr0 = true) (hc : cB ≤ mc) (hs : sB ≤ ms) (hres : res = .inl (none, M)) :
    AW p l e R s m args below meth c D ar lay wr nL cB sB (MQX below (fun _ st o t => CQ D ar lay M0 s.heap.size wr0 res st o t) args s mc ms (hw_A lay wr0 s.heap.size)) pc ls [] M := by
  subst hres
  intro H locs la k0 n0 h1 h2 h3 h4 h5
  refine W.widen (k := mc) (n := ms) (by omega) (by omega) (w_mono (fun t => mq_x) ?_)
  exact W.vret E.x E.b hr (fun t ht hW => ⟨⟨rfl, by rw [ht]; exact h3⟩, by rw [ht]; exact h4.1, fun q a b => by rw [ht]; exact h4.2.1 q a (fun z => b (z.mono hw (Nat.le_refl _)))⟩) (fun q hq => (h4.2.2 q hq).mono hw (Nat.le_refl _)) hd hlk
theorem a_aret (E : Cx p s m args c cc nL own D ar lay) {mc ms a : Nat} {wr0 : Bool} {nm : String} {M0 : hm_M} {res : hr_T} (hr : meth.sig.returnType = some (.object nm)) (hlk : meth.locks = false) (hd : decode cc pc = .ok (.areturn, 1)) (hw : wr = true → wr0 = true) (hc : cB ≤ mc) (hs : sB ≤ ms) (hres : res = .inl (some (.ref a), M)) :
    AW p l e R s m args below meth c D ar lay wr nL cB sB (MQX below (fun _ st o t => CQ D ar lay M0 s.heap.size wr0 res st o t) args s mc ms (hw_A lay wr0 s.heap.size)) pc ls [.ref a] M := by
  subst hres
  intro H locs la k0 n0 h1 h2 h3 h4 h5
  refine W.widen (k := mc) (n := ms) (by omega) (by omega) (w_mono (fun t => mq_x) ?_)
  exact W.aret E.x E.b hr (Or.inl ⟨nm, rfl⟩) (Or.inr ⟨a, rfl⟩) (fun t ht hW => ⟨⟨rfl, by rw [ht]; exact h3⟩, by rw [ht]; exact h4.1, fun q a b => by rw [ht]; exact h4.2.1 q a (fun z => b (z.mono hw (Nat.le_refl _)))⟩) (fun q hq => (h4.2.2 q hq).mono hw (Nat.le_refl _)) hd hlk
end CALL
/-! A THROW OF ONE'S OWN, AND A CATCH -/
def wd_ow (w : Cond) : Bool := (decide (w ∈ lw_tbl) && wd_g w) || decide (w = Cond.isRef (.static "java/lang/Throwable" "UNASSIGNED_STACK" "[Ljava/lang/StackTraceElement;")) || decide (w = Cond.isRef (.static "java/lang/Throwable" "SUPPRESSED_SENTINEL" "Ljava/util/List;")) || decide (w = Cond.laysStatic "java/lang/Throwable" "UNASSIGNED_STACK" "[Ljava/lang/StackTraceElement;") || decide (w = Cond.laysStatic "java/lang/Throwable" "SUPPRESSED_SENTINEL" "Ljava/util/List;")
theorem wd_ow_at {lay : Nat → Nat → Nat} {args : Array Value} {s : State} {w : Cond} (hts : ∀ w ∈ wd_TB, w.before args s = true) (hZ : hw_Z lay s.heap.size s s.heap) (h : wd_ow w = true) : w.before args s = true := by
  simp only [wd_ow, Bool.or_eq_true, Bool.and_eq_true, decide_eq_true_eq] at h
  rcases h with (((h | rfl) | rfl) | rfl) | rfl
  · exact hts _ (wd_mem h.1 h.2)
  · exact vx_isRefq hZ.1.1
  · exact vx_isRefq hZ.2.1
  · exact hZ.1.2.word
  · exact hZ.2.2.word
section THR
variable {p : Program} {l : Launch} {e : Env} {R : Room} {s : State} {m : MethodId} {args : Array Value} {below : List Frame} {meth : Method} {c : Code} {Q : State → Prop} {cc : ByteArray} {nL cB sB : Nat} {own : String} {D : va_G} {ar : Nat → ClassId} {lay : Nat → Nat → Nat} {wr : Bool} {pc : Nat} {ls : List (Nat × Value)} {st : List Value} {M : hm_M}
/-- throw new X("text"), in a method without handlers that has written nothing yet -/
theorem a_throw (E : Cx p s m args c cc nL own D ar lay) {idx si ic mc ms : Nat} {XN tx : String} {names : List String} {wr0 : Bool} {res : hr_T} (htr : l.stackTraces = false) (hlk : meth.locks = false) (hno : c.exceptionTable.isEmpty = true) (hH0 : hw_H D ar lay M s.heap)
    (hd0 : decode cc pc = .ok (.new idx, 3)) (hd1 : decode cc (pc + 3) = .ok (.dup, 1)) (hd2 : decode cc (pc + 4) = .ok (.ldc si, 2)) (hd3 : decode cc (pc + 6) = .ok (.invokespecial ic, 3)) (hd4 : decode cc (pc + 9) = .ok (.athrow, 1))
    (hcl : Cond.classLink own idx XN ∈ wd_TB) (hins : Cond.instantiable XN 6 ∈ wd_TB) (hini : Cond.initialized XN ∈ wd_TB) (hstr : (own, si, tx) ∈ wd_strs) (hfX : Bundle.fit XN = true) (hfn : ∀ n ∈ names, Bundle.fit n = true)
    (hat : (Bundle.ownAtoms own ic XN names).all wd_ow = true)
    (hfr : names.length + 3 < R.frames) (hlo : 1 + (st.map fun v => v.category).sum + (13 * (names.length + 1) + 42) ≤ R.locals) (hcR : cB + 1 ≤ R.cells) (hsR : sB + 6 ≤ R.slots) (hmc : cB + 1 ≤ mc) (hms : sB + 6 ≤ ms) (hres : res = .inr XN) :
    AW p l e R s m args below meth c D ar lay false nL cB sB (MQX below (fun _ st o t => CQ D ar lay M s.heap.size wr0 res st o t) args s mc ms (hw_A lay wr0 s.heap.size)) pc ls st M := by
  subst hres
  intro H locs la k0 n0 h1 h2 h3 h4 h5
  refine va_forget (fun q hq => by
    rcases h4.2.2 q hq with ⟨h, -⟩ | h
    · cases h
    · exact h) ?_
  refine W.newc E.x E.b E.ow (E.ts _ hcl) (E.ts _ hins) (E.ts _ hini) rfl hd0 (by omega) (by omega) ?_
  intro cC kC f1 f2 f3 f4
  refine W.eq (g2 := F0 m (pc + 3) la (.ref H.size :: st)) rfl ?_
  refine lv_dup E.x E.b hd1 rfl ?_
  obtain ⟨a, ha⟩ := E.K.2.1 _ hstr
  refine va_ldcS E.x E.b E.ow ha hd2 ?_
  intro T hT X
  have hat' : ∀ w ∈ Bundle.ownAtoms own ic XN names, w.before args s = true := fun w hw => wd_ow_at E.ts E.Z (List.all_eq_true.mp hat w hw)
  obtain ⟨U, u1, u2, u3, u4, u5, ce, u6, u7⟩ := X.ctorThrowS E.x ((show e.platform.stackTraces = l.stackTraces by rw [X.admits.platform]).trans htr) E.ow hfX hfn hat' (fun x hx => by cases hx) (a := H.size) (cX := cC) (kX := kC) f1 f2 (by rw [hT]; simp [freshCell]) h4.1 (msg := .ref a) rfl
    (g := F0 m (pc + 3 + 1 + 2) la (.ref a :: .ref H.size :: .ref H.size :: st)) rfl (by rw [E.ml]; exact h5.1) rfl rfl (rest := st) rfl (by rw [E.b]; exact hd3) (by rw [E.b]; exact hd4) (fun x hx => by
      have : c.exceptionTable.toList = [] := by simpa [Array.isEmpty_iff] using hno
      rw [this] at hx; cases hx) hfr (by simpa [JFrame.monitorRoom, Value.category] using hlo) hlk
  have hold : ∀ q : Nat, q < s.heap.size → U.heap[q]? = s.heap[q]? := fun q hq => by
    have hc : s.heap[q]? = some s.heap[q] := Array.getElem?_eq_getElem hq
    rw [hc]
    exact u5.old_cell hc
  refine ⟨U, u1, .threw H.size, u2, u3, ⟨⟨H.size, ce, rfl, u6, u7.vm, u7.cls, hH0.kept fun f k hk => hold _ (hH0.lt hk)⟩, u5.2.1, fun q a _ => hold q a⟩, [], ⟨u4, u5.mono (by omega) (by omega)⟩, fun q h => by cases h⟩
end THR
section CATCH
variable {p : Program} {l : Launch} {e : Env} {R : Room} {s : State} {m : MethodId} {args : Array Value} {below : List Frame} {meth : Method} {c : Code} {Q : State → Prop} {cc : ByteArray} {nL cB sB : Nat} {own : String} {D : va_G} {ar : Nat → ClassId} {lay : Nat → Nat → Nat} {wr : Bool} {pc : Nat} {ls : List (Nat × Value)} {st : List Value} {M : hm_M}
/-- which rows of a table are passed, and which one catches: (start, end, handler, type) -/
def ct_ok (own XN : String) (pc : Nat) (hp : Nat) : List (Nat × Nat × Nat × Nat) → Prop
  | [] => False
  | q :: t => (q.1 ≤ pc ∧ pc < q.2.1) ∧ q.2.2.2 ≠ 0 ∧ ∃ nm : String, Cond.classLink own q.2.2.2 nm ∈ wd_TB ∧ ((nm = XN ∧ Cond.castable XN XN ∈ wd_TB ∧ q.2.2.1 = hp) ∨ ((XN, nm) ∈ wd_nc ∧ ct_ok own XN pc hp t))
theorem ct_split (E : Cx p s m args c cc nL own D ar lay) {XN : String} {hp : Nat} : ∀ (xs : List ExceptionTableEntry), ct_ok own XN pc hp (xs.map (fun h => (h.startPc, h.endPc, h.handlerPc, h.catchType))) →
    ∃ (pre : List ExceptionTableEntry) (x : ExceptionTableEntry) (suf : List ExceptionTableEntry), xs = pre ++ x :: suf ∧ (∀ z ∈ pre, covers z pc = false ∨ (z.catchType ≠ 0 ∧ ∃ nm : String, (Cond.classLink own z.catchType nm).before args s = true ∧ va_Nc XN nm s)) ∧ covers x pc = true ∧ x.catchType ≠ 0 ∧ (Cond.classLink own x.catchType XN).before args s = true ∧ (Cond.castable XN XN).before args s = true ∧ x.handlerPc = hp := by
  intro xs
  induction xs with
  | nil => intro h; exact h.elim
  | cons y t ih =>
    intro h
    obtain ⟨⟨h1, h2⟩, h0, nm, hl, hc⟩ := h
    rcases hc with ⟨rfl, hca, hhp⟩ | ⟨hn, hr⟩
    · exact ⟨[], y, t, rfl, fun z hz => (by cases hz), by simp only [covers, Bool.and_eq_true, decide_eq_true_eq]; exact ⟨h1, h2⟩, h0, E.ts _ hl, E.ts _ hca, hhp⟩
    · obtain ⟨pre, x, suf, e1, e2, e3⟩ := ih hr
      refine ⟨y :: pre, x, suf, by rw [e1]; rfl, fun z hz => ?_, e3⟩
      rcases List.mem_cons.mp hz with rfl | hz
      · exact Or.inr ⟨h0, nm, E.ts _ hl, E.K.2.2 _ hn⟩
      · exact e2 z hz
/-- the callee throws, and this method's table catches -/
theorem a_callVC (E : Cx p s m args c cc nL own D ar lay) {f k idx n maxL ci N hp : Nat} {y : MethodName} {ccY : ByteArray} {ret : Option FieldType} {rm : Room} {As : List Value} {XN : String} {fs : List Value} {TT : u_T} {stk : List Value} {hs : List (Nat × Nat × Nat × Nat)} (hht : c.exceptionTable.toList.map (fun h => (h.startPc, h.endPc, h.handlerPc, h.catchType)) = hs) (hC : Ct l D ar lay y rm wr (.ref (lay f k) :: As) M (.inr XN)) (ok : OkV R own idx y ccY maxL ret rm n) (hn : As.length = n) (hk : k < wd_cnt f) (he : wd_cell ar lay f k (M f k) = .inr (ci, fs)) (hc : wd_cl[ci]? = some (y.cls, TT, N)) (hst : stk = As.reverse ++ .ref (lay f k) :: st) (hrm : (st.map fun v => v.category).sum ≤ 8) (hd : decode cc pc = .ok (.invokevirtual idx, 3)) (hcb : cB + rm.cells ≤ R.cells ∧ sB + rm.slots ≤ R.slots) (hct : ct_ok own XN pc hp hs)
    (kk : ∀ q : Nat, AW p l e R s m args below meth c D ar lay wr nL (cB + rm.cells) (sB + rm.slots) Q hp ls [.ref q] M) : AW p l e R s m args below meth c D ar lay wr nL cB sB Q pc ls stk M := by
  intro H locs la k0 n0 h1 h2 h3 h4 h5 T hT X
  obtain ⟨o, t, T', st0, L, X', hL, hh, h0, hWm, ⟨⟨q, cell, ho, hq1, hq2, hq3, hM⟩, hF⟩, hend⟩ := cx_callV E hC ok hn hk he hc hst hrm hd hcb h1 h2 h3 h4 h5 hT X
  subst ho
  rcases hend with ⟨v, ho, hs2⟩ | ⟨x, ho, hs2⟩
  · cases ho
  · cases ho
    rw [← hht] at hct
    obtain ⟨pre, x, suf, e1, e2, e3, e4, e5, e6, e7⟩ := ct_split E _ hct
    subst e7
    have hcl : s.vm.findClass XN = some cell.cls := by rw [← hWm.alike.findClass]; exact hq3
    obtain ⟨tt, a, b⟩ := vx_catch (ls := la) (rest := st) E.ow pre x suf e1 e2 e3 e4 e5 e6 (H := T'.heap) (by rw [hh]; exact hq1) hq2 hcl (kk q _ _ la _ _ (Nat.add_le_add_right h1 _) (Nat.add_le_add_right h2 _) (by rw [hh]; exact hM) (by rw [hh]; exact cx_back h4 (fun h => h) h0 hF hL) h5) T' rfl X'
    exact ⟨tt, hs2 tt a, b⟩
end CATCH
