/-! THE LAYER: the heap from a base on as ONE function from addresses to cells; a row an instruction, a row a call, over it -/
abbrev wT : Type := Nat → Option va_E
abbrev gT : Type := va_G × (Nat → ClassId) × Nat
abbrev tyl (cs : Nat → ClassId) : List (ClassId × FieldType) := [(cs 0, .int), (cs 1, .boolean), (cs 2, .object RX2), (cs 3, .object RX3)]
def wH (G : gT) (w : wT) (H : Heap) : Prop := ∀ a e, w a = some e → G.2.2 ≤ a ∧ va_at G.1 vwCl (a, e) H
def fr (G : gT) : Nat → Prop := fun q => G.2.2 ≤ q
def wAO (U : State) : Prop := va_AO RX2 U ∧ va_AO RX3 U ∧ va_Nw (.methodLinkNest RX4 19 yX2_init RX4) U
def wG (G : gT) (w : wT) (U : State) : Prop := G.2.2 ≤ U.heap.size ∧ wH G w U.heap ∧ va_K G.1 vwCl (tyl G.2.1) U ∧ wAO U
def wZ (G : gT) (w : wT) (s : State) (H : Heap) (locs : List Loc) : Prop := G.2.2 ≤ s.heap.size ∧ wH G w H ∧ va_K G.1 vwCl (tyl G.2.1) s ∧ va_S (fr G) s.heap H locs ∧ wAO s
theorem wAO.warm {u U : State} (hW : u.WarmedH U.vm) (h : wAO u) : wAO U := ⟨h.1.moved hW.alike, h.2.1.moved hW.alike, h.2.2.warmM hW⟩
theorem wAO.same {u U : State} (hW : u.vm = U.vm) (h : wAO u) : wAO U := ⟨h.1.moved (by rw [hW]; exact Vm.Alike.refl _), h.2.1.moved (by rw [hW]; exact Vm.Alike.refl _), h.2.2.same rfl hW⟩
theorem wH.one {G : gT} {w : wT} {H : Heap} (h : wH G w H) {a : Nat} {e : va_E} (ha : w a = some e) : va_P G.1 vwCl [(a, e)] H := by
  intro k q hk
  cases k with
  | zero => cases hk; exact (h a e ha).2
  | succ k => simp at hk
theorem wH.lt {G : gT} {w : wT} {H : Heap} (h : wH G w H) {a : Nat} {e : va_E} (ha : w a = some e) : a < H.size := (h a e ha).2.lt
theorem up_eq {w : wT} {a : Nat} {x : Option va_E} : va_up w a x a = x := by simp [va_up]
theorem up_ne {w : wT} {a b : Nat} {x : Option va_E} (h : b ≠ a) : va_up w a x b = w b := by simp [va_up, h]
theorem lk_ne {w : wT} {a b : Nat} {x y : Option va_E} (h : b ≠ a) (hy : w b = y) : va_up w a x b = y := by rw [up_ne h]; exact hy
theorem ad_ne {w : wT} {a b : Nat} {x y : va_E} (ha : w a = some x) (hb : w b = some y) (h : x ≠ y) : a ≠ b := fun e => h (by subst e; exact Option.some.inj (ha.symm.trans hb))
theorem ad_new {w : wT} {a b : Nat} {x : va_E} (ha : w a = some x) (hb : w b = none) : a ≠ b := fun e => by subst e; rw [ha] at hb; cases hb
theorem wH.put {G : gT} {w : wT} {H H1 : Heap} {a : Nat} {e0 e : va_E} (h : wH G w H) (ha : w a = some e0) (he : va_at G.1 vwCl (a, e) H1) (oq : ∀ q : Nat, q ≠ a → H1[q]? = H[q]?) : wH G (va_up w a (some e)) H1 := by
  intro b x hb
  by_cases hba : b = a
  · subst hba
    rw [up_eq] at hb
    cases hb
    exact ⟨(h b e0 ha).1, he⟩
  · rw [up_ne hba] at hb
    exact ⟨(h b x hb).1, (h b x hb).2.kept (oq b hba)⟩
theorem wH.push {G : gT} {w : wT} {H H1 : Heap} {e : va_E} (h : wH G w H) (hB : G.2.2 ≤ H.size) (he : va_at G.1 vwCl (H.size, e) H1) (oq : ∀ q : Nat, q < H.size → H1[q]? = H[q]?) : w H.size = none ∧ wH G (va_up w H.size (some e)) H1 := by
  have hn : w H.size = none := by
    cases hq : w H.size with
    | none => rfl
    | some x => exact absurd (h.lt hq) (Nat.lt_irrefl _)
  refine ⟨hn, fun b x hb => ?_⟩
  by_cases hba : b = H.size
  · subst hba
    rw [up_eq] at hb
    cases hb
    exact ⟨hB, he⟩
  · rw [up_ne hba] at hb
    exact ⟨(h b x hb).1, (h b x hb).2.kept (oq b (h.lt hb))⟩
theorem wZ.put {G : gT} {w : wT} {s : State} {H H1 : Heap} {locs : List Loc} {a k : Nat} {e0 e : va_E} (Z : wZ G w s H locs) (ha : w a = some e0) (he : va_at G.1 vwCl (a, e) H1) (z : H1.size = H.size) (oq : ∀ q : Nat, q ≠ a → H1[q]? = H[q]?) : wZ G (va_up w a (some e)) s H1 (locs ++ [⟨a, k⟩]) :=
  ⟨Z.1, Z.2.1.put ha he oq, Z.2.2.1, Z.2.2.2.1.put z oq (Z.2.1 a e0 ha).1, Z.2.2.2.2⟩
theorem wZ.push {G : gT} {w : wT} {s : State} {H H1 : Heap} {locs : List Loc} {e : va_E} (Z : wZ G w s H locs) (he : va_at G.1 vwCl (H.size, e) H1) (z : H1.size = H.size + 1) (oq : ∀ q : Nat, q < H.size → H1[q]? = H[q]?) : w H.size = none ∧ wZ G (va_up w H.size (some e)) s H1 locs := by
  obtain ⟨h1, h2, h3, h4, h5⟩ := Z
  obtain ⟨a1, a2⟩ := h2.push (Nat.le_trans h1 h4.1) he oq
  exact ⟨a1, h1, a2, h3, ⟨Nat.le_trans h4.1 (by omega), fun x g1 g2 => (oq x (Nat.lt_of_lt_of_le g1 h4.1)).trans (h4.2.1 x g1 g2), h4.2.2⟩, h5⟩
/-! the locals as a row of options -/
def lV (ls : Array Slot) (nL : Nat) (vs : List (Option Value)) : Prop := ls.size = nL ∧ lv_wf ls ∧ (∀ (i : Nat) (v : Value), vs[i]? = some (some v) → ls[i]? = some (.val v)) ∧ vs.length = nL ∧ ∀ (i : Nat) (v : Value), vs[i]? = some (some v) → v.category = 1
theorem lV_at {ls : Array Slot} {nL : Nat} {vs : List (Option Value)} (h : lV ls nL vs) (i : Nat) {v : Value} (hv : vs[i]? = some (some v)) : ls[i]? = some (.val v) := h.2.2.1 i v hv
def lL (nL : Nat) (vs : List (Option Value)) : List (Nat × Value) := (List.range nL).filterMap (fun j => (vs[j]?.join).map (fun v => (j, v)))
theorem lV_L {ls : Array Slot} {nL : Nat} {vs : List (Option Value)} (h : lV ls nL vs) : lv_has ls nL (lL nL vs) := by
  obtain ⟨h1, h2, h3, h4, h5⟩ := h
  refine ⟨h1, h2, fun q hq => ?_⟩
  obtain ⟨j, -, hj⟩ := List.mem_filterMap.mp hq
  cases hv : vs[j]? with
  | none => rw [hv] at hj; simp at hj
  | some o =>
    cases o with
    | none => rw [hv] at hj; simp at hj
    | some v =>
      rw [hv] at hj
      simp at hj
      rw [← hj]
      exact h3 j v hv
theorem lV_of {ls ls' : Array Slot} {nL i : Nat} {v : Value} {vs : List (Option Value)} (h : lV ls nL vs) (hi : i < nL) (hc : v.category = 1) (e2 : lv_has ls' nL ((i, v) :: (lL nL vs).filter (fun q => !(q.1 == i) && !(q.1 + 1 == i && q.2.category == 2)))) : lV ls' nL (vs.set i (some v)) := by
  obtain ⟨h1, h2, h3, h4, h5⟩ := h
  refine ⟨e2.1, e2.2.1, fun j v' hj => ?_, by simp [h4], fun j v' hj => ?_⟩
  · by_cases hji : j = i
    · subst hji
      rw [List.getElem?_set_self (by omega)] at hj
      cases hj
      exact e2.2.2 (j, v) List.mem_cons_self
    · rw [List.getElem?_set_ne (Ne.symm hji)] at hj
      refine e2.2.2 (j, v') (List.mem_cons_of_mem _ (List.mem_filter.mpr ⟨List.mem_filterMap.mpr ⟨j, ?_, ?_⟩, ?_⟩))
      · have := (List.getElem?_eq_some_iff.mp hj).1
        exact List.mem_range.mpr (by omega)
      · rw [hj]; rfl
      · have := h5 j v' hj
        simp [hji, this]
  · by_cases hji : j = i
    · subst hji
      rw [List.getElem?_set_self (by omega)] at hj
      cases hj
      exact hc
    · rw [List.getElem?_set_ne (Ne.symm hji)] at hj
      exact h5 j v' hj
theorem va_rf_cat (r : Option Nat) : (va_rf r).category = 1 := by cases r <;> rfl
theorem nr_o (C : String) (r : Option Nat) : narrow (.object C) (va_rf r) = va_rf r := by cases r <;> rfl
theorem nr_a (t : FieldType) (r : Option Nat) : narrow (.array t) (va_rf r) = va_rf r := by cases r <;> rfl
theorem ft_o (C : String) (r : Option Nat) : fits (.object C) (va_rf r) = true := by cases r <;> rfl
theorem ft_a (t : FieldType) (r : Option Nat) : fits (.array t) (va_rf r) = true := by cases r <;> rfl
section FW
variable {p : Program} {l : Launch} {e : Env} {R : Room} {s : State} {m : MethodId} {args : Array Value} {below : List Frame} {meth : Method} {c : Code} {H : Heap} {locs : List Loc} {cells slots : Nat} {Q : State → Prop}
variable {cc : ByteArray} {pc nL : Nat} {ls : Array Slot} {rest : List Value} {G : gT} {w : wT} {Ts : List Cond} {own : String}
/-! locals -/
theorem f_iload (X : CallFix p m c cc nL s args Ts own) {i : Nat} {x : Int32} {vs : List (Option Value)} (hl : lV ls nL vs) (hdg : (∃ k : Fin 4, (k : Nat) = i ∧ decode cc pc = .ok (.iload_n k, 1))) (hv : vs[i]? = some (some (.int x))) (kk : W p l e R s m args below meth c H locs cells slots Q (F0 m (pc + 1) ls (.int x :: rest))) : W p l e R s m args below meth c H locs cells slots Q (F0 m pc ls rest) := by
  obtain ⟨k, hk, hd⟩ := hdg
  exact lv_iload_n X.1 X.2.1 hd hk (lV_at hl i hv) kk
theorem f_iload2 (X : CallFix p m c cc nL s args Ts own) {i : Nat} {x : Int32} {vs : List (Option Value)} (hl : lV ls nL vs) (hdg : decode cc pc = .ok (.iload i, 2)) (hv : vs[i]? = some (some (.int x))) (kk : W p l e R s m args below meth c H locs cells slots Q (F0 m (pc + 2) ls (.int x :: rest))) : W p l e R s m args below meth c H locs cells slots Q (F0 m pc ls rest) :=
  lv_iload X.1 X.2.1 hdg (lV_at hl i hv) kk
theorem f_aload (X : CallFix p m c cc nL s args Ts own) {i : Nat} {v : Value} {vs : List (Option Value)} (hl : lV ls nL vs) (hdg : (∃ k : Fin 4, (k : Nat) = i ∧ decode cc pc = .ok (.aload_n k, 1))) (hv : vs[i]? = some (some v)) (ha : ∃ r, v = va_rf r) (kk : W p l e R s m args below meth c H locs cells slots Q (F0 m (pc + 1) ls (v :: rest))) : W p l e R s m args below meth c H locs cells slots Q (F0 m pc ls rest) := by
  obtain ⟨k, hk, hd⟩ := hdg
  obtain ⟨r, rfl⟩ := ha
  cases r with
  | none => exact lv_aload_nN X.1 X.2.1 hd hk (lV_at hl i hv) kk
  | some a => exact lv_aload_n X.1 X.2.1 hd hk (lV_at hl i hv) kk
theorem f_aload2 (X : CallFix p m c cc nL s args Ts own) {i : Nat} {v : Value} {vs : List (Option Value)} (hl : lV ls nL vs) (hdg : decode cc pc = .ok (.aload i, 2)) (hv : vs[i]? = some (some v)) (ha : ∃ r, v = va_rf r) (kk : W p l e R s m args below meth c H locs cells slots Q (F0 m (pc + 2) ls (v :: rest))) : W p l e R s m args below meth c H locs cells slots Q (F0 m pc ls rest) := by
  obtain ⟨r, rfl⟩ := ha
  cases r with
  | none => exact lv_aloadN X.1 X.2.1 hdg (lV_at hl i hv) kk
  | some a => exact lv_aload X.1 X.2.1 hdg (lV_at hl i hv) kk
theorem f_istore (X : CallFix p m c cc nL s args Ts own) {i : Nat} {x : Int32} {vs : List (Option Value)} (hl : lV ls nL vs) (hdg : (∃ k : Fin 4, (k : Nat) = i ∧ decode cc pc = .ok (.istore_n k, 1))) (hi : i < nL) (kk : ∀ ls' : Array Slot, lV ls' nL (vs.set i (some (.int x))) → W p l e R s m args below meth c H locs cells slots Q (F0 m (pc + 1) ls' rest)) : W p l e R s m args below meth c H locs cells slots Q (F0 m pc ls (.int x :: rest)) := by
  obtain ⟨k, hk, hd⟩ := hdg
  exact lv_istore_n X.1 X.2.1 hd hk (lV_L hl) hi rfl (fun ls' h => kk ls' (lV_of hl hi rfl h))
theorem f_istore2 (X : CallFix p m c cc nL s args Ts own) {i : Nat} {x : Int32} {vs : List (Option Value)} (hl : lV ls nL vs) (hdg : decode cc pc = .ok (.istore i, 2)) (hi : i < nL) (kk : ∀ ls' : Array Slot, lV ls' nL (vs.set i (some (.int x))) → W p l e R s m args below meth c H locs cells slots Q (F0 m (pc + 2) ls' rest)) : W p l e R s m args below meth c H locs cells slots Q (F0 m pc ls (.int x :: rest)) :=
  lv_istore X.1 X.2.1 hdg (lV_L hl) hi rfl (fun ls' h => kk ls' (lV_of hl hi rfl h))
theorem f_astore (X : CallFix p m c cc nL s args Ts own) {i : Nat} {v : Value} {vs : List (Option Value)} (hl : lV ls nL vs) (hdg : (∃ k : Fin 4, (k : Nat) = i ∧ decode cc pc = .ok (.astore_n k, 1))) (hi : i < nL) (ha : ∃ r, v = va_rf r) (kk : ∀ ls' : Array Slot, lV ls' nL (vs.set i (some v)) → W p l e R s m args below meth c H locs cells slots Q (F0 m (pc + 1) ls' rest)) : W p l e R s m args below meth c H locs cells slots Q (F0 m pc ls (v :: rest)) := by
  obtain ⟨k, hk, hd⟩ := hdg
  obtain ⟨r, rfl⟩ := ha
  cases r with
  | none => exact lv_astore_nN X.1 X.2.1 hd hk (lV_L hl) hi rfl (fun ls' h => kk ls' (lV_of hl hi rfl h))
  | some a => exact lv_astore_n X.1 X.2.1 hd hk (lV_L hl) hi rfl (fun ls' h => kk ls' (lV_of hl hi rfl h))
theorem f_astore2 (X : CallFix p m c cc nL s args Ts own) {i : Nat} {v : Value} {vs : List (Option Value)} (hl : lV ls nL vs) (hdg : decode cc pc = .ok (.astore i, 2)) (hi : i < nL) (ha : ∃ r, v = va_rf r) (kk : ∀ ls' : Array Slot, lV ls' nL (vs.set i (some v)) → W p l e R s m args below meth c H locs cells slots Q (F0 m (pc + 2) ls' rest)) : W p l e R s m args below meth c H locs cells slots Q (F0 m pc ls (v :: rest)) := by
  obtain ⟨r, rfl⟩ := ha
  cases r with
  | none => exact lv_astoreN X.1 X.2.1 hdg (lV_L hl) hi rfl (fun ls' h => kk ls' (lV_of hl hi rfl h))
  | some a => exact lv_astore X.1 X.2.1 hdg (lV_L hl) hi rfl (fun ls' h => kk ls' (lV_of hl hi rfl h))
theorem lL_at {nL i : Nat} {v : Value} {vs : List (Option Value)} (hi : i < nL) (hv : vs[i]? = some (some v)) : ∃ k : Nat, (lL nL vs)[k]? = some (i, v) := by
  have : (i, v) ∈ lL nL vs := List.mem_filterMap.mpr ⟨i, List.mem_range.mpr hi, by rw [hv]; rfl⟩
  exact List.getElem?_of_mem this
theorem f_iinc (X : CallFix p m c cc nL s args Ts own) {i : Nat} {n : Int} {x v : Int32} {vs : List (Option Value)} (hl : lV ls nL vs) (hdg : decode cc pc = .ok (.iinc i n, 3)) (hi : i < nL) (hv : vs[i]? = some (some (.int x))) (hx : Int32.ofInt n = v) (kk : ∀ ls' : Array Slot, lV ls' nL (vs.set i (some (.int (x + v)))) → W p l e R s m args below meth c H locs cells slots Q (F0 m (pc + 3) ls' rest)) : W p l e R s m args below meth c H locs cells slots Q (F0 m pc ls rest) := by
  obtain ⟨k, hk⟩ := lL_at hi hv
  subst hx
  exact lv_iinc X.1 X.2.1 hdg (lV_L hl) hk rfl hi rfl (fun ls' h => kk ls' (lV_of hl hi rfl h))
/-! null tests -/
theorem f_ifnull (X : CallFix p m c cc nL s args Ts own) {r : Option Nat} {off : Int} {tgt : Nat} (hdg : decode cc pc = .ok (.ifnull off, 3)) (ht : (pc : Int) + off = (tgt : Int)) (k1 : r = none → W p l e R s m args below meth c H locs cells slots Q (F0 m tgt ls rest)) (k2 : ∀ a, r = some a → W p l e R s m args below meth c H locs cells slots Q (F0 m (pc + 3) ls rest)) : W p l e R s m args below meth c H locs cells slots Q (F0 m pc ls (va_rf r :: rest)) := by
  cases r with
  | none => exact lv_ifnullN X.1 X.2.1 hdg ht (k1 rfl)
  | some a => exact lv_ifnull X.1 X.2.1 hdg (k2 a rfl)
theorem f_ifnonnull (X : CallFix p m c cc nL s args Ts own) {r : Option Nat} {off : Int} {tgt : Nat} (hdg : decode cc pc = .ok (.ifnonnull off, 3)) (ht : (pc : Int) + off = (tgt : Int)) (k1 : ∀ a, r = some a → W p l e R s m args below meth c H locs cells slots Q (F0 m tgt ls rest)) (k2 : r = none → W p l e R s m args below meth c H locs cells slots Q (F0 m (pc + 3) ls rest)) : W p l e R s m args below meth c H locs cells slots Q (F0 m pc ls (va_rf r :: rest)) := by
  cases r with
  | none => exact lv_ifnonnullN X.1 X.2.1 hdg (k2 rfl)
  | some a => exact lv_ifnonnull X.1 X.2.1 hdg ht (k1 a rfl)
/-! fields -/
theorem f_get (X : CallFix p m c cc nL s args Ts own) (Z : wZ G w s H locs) {C : String} {T : u_T} {N ci index k a : Nat} {fs : List Value} {v : Value} (hin : ∀ w ∈ u_ws C T N, w ∈ Ts) (hc : vwCl[ci]? = some (C, T, N)) (hk : k < N) (hlink : Cond.fieldLink own index (T k).1 (T k).2.1 (T k).2.2.1 ∈ Ts) (hdg : decode cc pc = .ok (.getfield index, 3)) (ha : w a = some (.inr (ci, fs))) (hv : fs[k]? = some v)
    (kk : W p l e R s m args below meth c H locs cells slots Q (F0 m (pc + 3) ls (v :: rest))) : W p l e R s m args below meth c H locs cells slots Q (F0 m pc ls (.ref a :: rest)) :=
  va_get X.1 X.2.1 X.2.2.2.2 hin X.2.2.2.1 Z.2.2.1 (Z.2.1.one ha) 0 rfl hc k hk (X.2.2.2.2 _ hlink) (fun _ h => h) hv hdg kk
theorem f_put (X : CallFix p m c cc nL s args Ts own) (Z : wZ G w s H locs) {C : String} {T : u_T} {N ci index k a : Nat} {fs : List Value} {v : Value} {ty0 : Nat → FieldType} (hin : ∀ w ∈ u_ws C T N, w ∈ Ts) (hty : ∀ k, k < N → parseFieldDescriptor (T k).2.2.1 = some (ty0 k)) (hnm : ∀ a, a < N → ∀ b, b < N → a ≠ b → (T a).2.1 ≠ (T b).2.1) (hc : vwCl[ci]? = some (C, T, N)) (hk : k < N) (hlink : Cond.fieldLink own index (T k).1 (T k).2.1 (T k).2.2.1 ∈ Ts) (hfin : (T k).2.2.2 = false) (hdg : decode cc pc = .ok (.putfield index, 3)) (ha : w a = some (.inr (ci, fs))) (hn : narrow (ty0 k) v = v) (hfit : fits (ty0 k) v = true) (hl : k < fs.length)
    (kk : ∀ (H1 : Heap) (locs1 : List Loc) (w1 : wT), w1 = va_up w a (some (.inr (ci, fs.set k v))) → wZ G w1 s H1 locs1 → W p l e R s m args below meth c H1 locs1 cells slots Q (F0 m (pc + 3) ls rest)) : W p l e R s m args below meth c H locs cells slots Q (F0 m pc ls (v :: .ref a :: rest)) := by
  have hts := X.2.2.2.2
  have hK := Z.2.2.1
  have hap := va_apart (own := own) hts hin ty0 hty hnm hK hc
  obtain ⟨r, h1, cell, q1, q2, q3, q4⟩ := (Z.2.1 a _ ha).2
  have hr : r = (C, T, N) := Option.some.inj (h1.symm.trans hc)
  subst hr
  obtain ⟨hS, hfc, kC, hkC, hkind⟩ := hK.1 ci _ hc
  obtain ⟨cf, kf, fi, f, hi, hsl⟩ := hS k hk
  have hlay := hts _ (hin _ (u_in_lay hk))
  unfold u_lay at hlay
  rw [if_neg (by rw [hfin]; decide)] at hlay
  have hst := (u_facts hfc hkC (u_lays hts hin hk) hi).1
  have h6 := u_store hfc hkC hkind hlay hi (hty k hk) hn hfit
  refine W.putK X.1 X.2.1 (f := f) ⟨X.2.2.2.1, hts _ hlink, ⟨_, _, _, hi⟩, hst⟩ (by rw [q2]; exact h6) q1 q3 (by rw [hsl]; exact k2_hasslot (q4 k hk)) rfl rfl hdg fun H' e1 e2 e3 => ?_
  rw [hsl] at e1 ⊢
  exact kk H' _ _ rfl (Z.put ha ⟨_, hc, t_OB.to (V := updV (vp_V fs) k v) ⟨_, e1, q2, q3, t_set q4 hap hk v⟩ (fun j _ => vp_updV_set hl v j)⟩ e2 e3)
theorem f_putF (X : CallFix p m c cc nL s args Ts own) (Z : wZ G w s H locs) {C : String} {T : u_T} {N ci index k a : Nat} {fs : List Value} {v : Value} {ty0 : Nat → FieldType} (hin : ∀ w ∈ u_ws C T N, w ∈ Ts) (hty : ∀ k, k < N → parseFieldDescriptor (T k).2.2.1 = some (ty0 k)) (hnm : ∀ a, a < N → ∀ b, b < N → a ≠ b → (T a).2.1 ≠ (T b).2.1) (hc : vwCl[ci]? = some (C, T, N)) (hk : k < N) (hlink : Cond.fieldLink own index (T k).1 (T k).2.1 (T k).2.2.1 ∈ Ts) (hfin : (T k).2.2.2 = true) (hin2 : meth.name = "<init>") (hdecl : (T k).1 = own) (hdg : decode cc pc = .ok (.putfield index, 3)) (ha : w a = some (.inr (ci, fs))) (hn : narrow (ty0 k) v = v) (hfit : fits (ty0 k) v = true) (hl : k < fs.length)
    (kk : ∀ (H1 : Heap) (locs1 : List Loc) (w1 : wT), w1 = va_up w a (some (.inr (ci, fs.set k v))) → wZ G w1 s H1 locs1 → W p l e R s m args below meth c H1 locs1 cells slots Q (F0 m (pc + 3) ls rest)) : W p l e R s m args below meth c H locs cells slots Q (F0 m pc ls (v :: .ref a :: rest)) := by
  have hts := X.2.2.2.2
  have hown := X.2.2.2.1
  have hK := Z.2.2.1
  have hap := va_apart (own := own) hts hin ty0 hty hnm hK hc
  obtain ⟨r, h1, cell, q1, q2, q3, q4⟩ := (Z.2.1 a _ ha).2
  have hr : r = (C, T, N) := Option.some.inj (h1.symm.trans hc)
  subst hr
  obtain ⟨hS, hfc, kC, hkC, hkind⟩ := hK.1 ci _ hc
  obtain ⟨cf, kf, fi, f, hi, hsl⟩ := hS k hk
  have hlay := hts _ (hin _ (u_in_lay hk))
  unfold u_lay at hlay
  rw [if_pos hfin] at hlay
  have hst := (u_facts hfc hkC (u_lays hts hin hk) hi).1
  have hcf : m.cls = cf := by
    obtain ⟨_, _, c', _, _, _, -, -, hf', -, -, -, hown2, -⟩ := Cond.laysFinal_spec hlay
    have e1 : c' = cf := by have := hi.symm.trans hf'; simp at this; exact this.1.symm
    rw [hdecl] at hown2
    rw [← e1]; exact Option.some.inj (hown.symm.trans hown2)
  have h6 := u_fits hfc hkC hkind (Or.inr hlay) hi (hty k hk) hn hfit
  refine W.putFinK X.1 X.2.1 hown (hts _ hlink) hi hst hcf hin2 (by rw [q2]; exact h6) q1 q3 (by rw [hsl]; exact k2_hasslot (q4 k hk)) rfl rfl hdg fun H' e1 e2 e3 => ?_
  rw [hsl] at e1 ⊢
  exact kk H' _ _ rfl (Z.put ha ⟨_, hc, t_OB.to (V := updV (vp_V fs) k v) ⟨_, e1, q2, q3, t_set q4 hap hk v⟩ (fun j _ => vp_updV_set hl v j)⟩ e2 e3)
/-! arrays -/
theorem f_iald (X : CallFix p m c cc nL s args Ts own) (Z : wZ G w s H locs) {a n : Nat} {f : Nat → Int32} {i : Int32} (hdg : decode cc pc = .ok (.iaload, 1)) (ha : w a = some (.inl (G.2.1 0, n, .inl f))) (hin : vp_in i n)
    (kk : W p l e R s m args below meth c H locs cells slots Q (F0 m (pc + 1) ls (.int (f i.toNatClampNeg) :: rest))) : W p l e R s m args below meth c H locs cells slots Q (F0 m pc ls (.int i :: .ref a :: rest)) :=
  va_iald X.1 X.2.1 Z.2.2.1 (Z.2.1.one ha) 0 0 rfl rfl hin hdg kk
theorem f_zald (X : CallFix p m c cc nL s args Ts own) (Z : wZ G w s H locs) {a n : Nat} {f : Nat → Int32} {i : Int32} (hdg : decode cc pc = .ok (.baload, 1)) (ha : w a = some (.inl (G.2.1 1, n, .inl f))) (hin : vp_in i n)
    (kk : W p l e R s m args below meth c H locs cells slots Q (F0 m (pc + 1) ls (.int (f i.toNatClampNeg) :: rest))) : W p l e R s m args below meth c H locs cells slots Q (F0 m pc ls (.int i :: .ref a :: rest)) :=
  va_zald X.1 X.2.1 Z.2.2.1 (Z.2.1.one ha) 0 1 rfl rfl hin hdg kk
theorem f_tald (X : CallFix p m c cc nL s args Ts own) (Z : wZ G w s H locs) {a n : Nat} {f : Nat → Option Nat} {i : Int32} (hdg : decode cc pc = .ok (.aaload, 1)) (ha : w a = some (.inl (G.2.1 2, n, .inr (.inr (.inr (.inr f)))))) (hin : vp_in i n)
    (kk : W p l e R s m args below meth c H locs cells slots Q (F0 m (pc + 1) ls (va_rf (f i.toNatClampNeg) :: rest))) : W p l e R s m args below meth c H locs cells slots Q (F0 m pc ls (.int i :: .ref a :: rest)) :=
  va_aldq X.1 X.2.1 Z.2.2.1 (Z.2.1.one ha) 0 2 rfl rfl hin hdg kk
theorem f_vald (X : CallFix p m c cc nL s args Ts own) (Z : wZ G w s H locs) {a n : Nat} {f : Nat → Option Nat} {i : Int32} (hdg : decode cc pc = .ok (.aaload, 1)) (ha : w a = some (.inl (G.2.1 3, n, .inr (.inr (.inr (.inr f)))))) (hin : vp_in i n)
    (kk : W p l e R s m args below meth c H locs cells slots Q (F0 m (pc + 1) ls (va_rf (f i.toNatClampNeg) :: rest))) : W p l e R s m args below meth c H locs cells slots Q (F0 m pc ls (.int i :: .ref a :: rest)) :=
  va_aldq X.1 X.2.1 Z.2.2.1 (Z.2.1.one ha) 0 3 rfl rfl hin hdg kk
theorem f_alenI (X : CallFix p m c cc nL s args Ts own) (Z : wZ G w s H locs) {a n : Nat} {x} (hdg : decode cc pc = .ok (.arraylength, 1)) (ha : w a = some (.inl (G.2.1 0, n, x)))
    (kk : W p l e R s m args below meth c H locs cells slots Q (F0 m (pc + 1) ls (.int (nI n) :: rest))) : W p l e R s m args below meth c H locs cells slots Q (F0 m pc ls (.ref a :: rest)) :=
  va_alen X.1 X.2.1 Z.2.2.1 (Z.2.1.one ha) 0 0 rfl rfl rfl hdg kk
theorem f_alenV (X : CallFix p m c cc nL s args Ts own) (Z : wZ G w s H locs) {a n : Nat} {x} (hdg : decode cc pc = .ok (.arraylength, 1)) (ha : w a = some (.inl (G.2.1 3, n, x)))
    (kk : W p l e R s m args below meth c H locs cells slots Q (F0 m (pc + 1) ls (.int (nI n) :: rest))) : W p l e R s m args below meth c H locs cells slots Q (F0 m pc ls (.ref a :: rest)) :=
  va_alen X.1 X.2.1 Z.2.2.1 (Z.2.1.one ha) 0 3 rfl rfl rfl hdg kk
theorem f_iast (X : CallFix p m c cc nL s args Ts own) (Z : wZ G w s H locs) {a n : Nat} {f : Nat → Int32} {i x : Int32} (hdg : decode cc pc = .ok (.iastore, 1)) (ha : w a = some (.inl (G.2.1 0, n, .inl f))) (hin : vp_in i n)
    (kk : ∀ (H1 : Heap) (locs1 : List Loc) (w1 : wT), w1 = va_up w a (some (.inl (G.2.1 0, n, .inl (upd f i.toNatClampNeg x)))) → wZ G w1 s H1 locs1 → W p l e R s m args below meth c H1 locs1 cells slots Q (F0 m (pc + 1) ls rest)) : W p l e R s m args below meth c H locs cells slots Q (F0 m pc ls (.int x :: .int i :: .ref a :: rest)) := by
  refine W.iast X.1 X.2.1 ((Z.2.1 a _ ha).2) ((Z.2.2.1.2 0 _ rfl).1 n (fun j => .int (f j))) (fun q => by cases q) (by show ¬ (i < 0 ∨ (arrV _ _ _).slots.size ≤ _); rw [arrV_size]; exact hin) rfl rfl hdg fun H1 e z oq => ?_
  refine kk H1 _ _ rfl (Z.put ha ?_ z oq)
  show H1[a]? = some (vp_cell _ _)
  rw [e]
  rw [vp_cell_i, vp_cell_i, arrV_store]
  congr 2
  funext q
  by_cases hq : q = i.toNatClampNeg
  · subst hq
    simp [updV, upd]
  · simp [updV, upd, hq]
theorem f_zast (X : CallFix p m c cc nL s args Ts own) (Z : wZ G w s H locs) {a n : Nat} {f : Nat → Int32} {i x : Int32} (hdg : decode cc pc = .ok (.bastore, 1)) (ha : w a = some (.inl (G.2.1 1, n, .inl f))) (hin : vp_in i n) (hx : x &&& 1 = x)
    (kk : ∀ (H1 : Heap) (locs1 : List Loc) (w1 : wT), w1 = va_up w a (some (.inl (G.2.1 1, n, .inl (upd f i.toNatClampNeg x)))) → wZ G w1 s H1 locs1 → W p l e R s m args below meth c H1 locs1 cells slots Q (F0 m (pc + 1) ls rest)) : W p l e R s m args below meth c H locs cells slots Q (F0 m pc ls (.int x :: .int i :: .ref a :: rest)) := by
  refine W.zast X.1 X.2.1 ((Z.2.1 a _ ha).2) ((Z.2.2.1.2 1 _ rfl).1 n (fun j => .int (f j))) (fun q => by cases q) (by show ¬ (i < 0 ∨ (arrV _ _ _).slots.size ≤ _); rw [arrV_size]; exact hin) rfl rfl hdg fun H1 e z oq => ?_
  refine kk H1 _ _ rfl (Z.put ha ?_ z oq)
  show H1[a]? = some (vp_cell _ _)
  rw [e]
  rw [vp_cell_i, vp_cell_i, arrV_store]
  congr 2
  funext q
  by_cases hq : q = i.toNatClampNeg
  · subst hq
    simp [updV, upd, narrow, hx]
  · simp [updV, upd, hq]
theorem f_aast {ti ci : Nat} {r : vw_C} (X : CallFix p m c cc nL s args Ts own) (Z : wZ G w s H locs) (hc : vwCl[ci]? = some r) (ht : (tyl G.2.1)[ti]? = some (G.2.1 ti, .object r.1)) {a n : Nat} {f : Nat → Option Nat} {i : Int32} {v : Nat} {vs : List Value} (hdg : decode cc pc = .ok (.aastore, 1)) (ha : w a = some (.inl (G.2.1 ti, n, .inr (.inr (.inr (.inr f)))))) (hv : w v = some (.inr (ci, vs))) (hin : vp_in i n)
    (kk : ∀ (H1 : Heap) (locs1 : List Loc) (w1 : wT), w1 = va_up w a (some (.inl (G.2.1 ti, n, .inr (.inr (.inr (.inr (va_up f i.toNatClampNeg (some v)))))))) → wZ G w1 s H1 locs1 → W p l e R s m args below meth c H1 locs1 cells slots Q (F0 m (pc + 1) ls rest)) : W p l e R s m args below meth c H locs cells slots Q (F0 m pc ls (.ref v :: .int i :: .ref a :: rest)) := by
  have hK := Z.2.2.1
  have hlt : i.toNatClampNeg < n := Nat.not_le.mp fun q => hin (Or.inr q)
  have h0 : ¬ i < 0 := fun q => hin (Or.inl q)
  obtain ⟨r', hr', cellV, g1, g2, g3, -⟩ := (Z.2.1 v _ hv).2
  have hcls := (hK.1 ci r hc).2
  obtain ⟨kA, comp, k1, k2, k3, -⟩ := (hK.2 ti _ ht).2
  have hcomp : comp = G.1.1 ci := Option.some.inj (k3.symm.trans hcls.1)
  subst hcomp
  obtain ⟨kC, hkC, -⟩ := hcls.2
  refine W.aast X.1 X.2.1 ((Z.2.1 a _ ha).2) (fun q h => by cases h) (fun h => by cases h) k1 k2 rfl hkC ⟨h0, by show _ < (arrV _ _ _).slots.size; rw [arrV_size]; exact hlt⟩ g1 (fun q h => by rw [g3] at h; cases h) (by rw [g2]; exact hkC) (by rw [g2]; exact va_assign hcls) rfl rfl hdg fun H1 e z oq => ?_
  refine kk H1 _ _ rfl (Z.put ha ?_ z oq)
  show H1[a]? = some (vp_cell _ _)
  rw [e]
  rw [vp_cell_q, vp_cell_q, arrV_store]
  congr 2
  funext q
  by_cases hq : q = i.toNatClampNeg
  · subst hq
    simp [updV, va_up, va_rf]
  · simp [updV, va_up, hq]
theorem f_aastN {ti : Nat} {C : String} (X : CallFix p m c cc nL s args Ts own) (Z : wZ G w s H locs) (ht : (tyl G.2.1)[ti]? = some (G.2.1 ti, .object C)) {a n : Nat} {f : Nat → Option Nat} {i : Int32} (hdg : decode cc pc = .ok (.aastore, 1)) (ha : w a = some (.inl (G.2.1 ti, n, .inr (.inr (.inr (.inr f)))))) (hin : vp_in i n)
    (kk : ∀ (H1 : Heap) (locs1 : List Loc) (w1 : wT), w1 = va_up w a (some (.inl (G.2.1 ti, n, .inr (.inr (.inr (.inr (va_up f i.toNatClampNeg none))))))) → wZ G w1 s H1 locs1 → W p l e R s m args below meth c H1 locs1 cells slots Q (F0 m (pc + 1) ls rest)) : W p l e R s m args below meth c H locs cells slots Q (F0 m pc ls (.null :: .int i :: .ref a :: rest)) := by
  refine va_WaastN (C := C) X.1 X.2.1 ((Z.2.1 a _ ha).2) ((Z.2.2.1.2 ti _ ht).1 n (fun j => va_rf (f j))) (fun h => by cases h) (by show ¬ (i < 0 ∨ (arrV _ _ _).slots.size ≤ _); rw [arrV_size]; exact hin) rfl rfl hdg fun H1 e z oq => ?_
  refine kk H1 _ _ rfl (Z.put ha ?_ z oq)
  show H1[a]? = some (vp_cell _ _)
  rw [e]
  rw [vp_cell_q, vp_cell_q, arrV_store]
  congr 2
  funext q
  by_cases hq : q = i.toNatClampNeg
  · subst hq
    simp [updV, va_up, va_rf]
  · simp [updV, va_up, hq]
/-! new cells -/
theorem f_new (X : CallFix p m c cc nL s args Ts own) (Z : wZ G w s H locs) {C : String} {T : u_T} {N ci index : Nat} {ty : Nat → FieldType} {fs : List Value} (hin : ∀ w ∈ u_ws C T N, w ∈ Ts) (hty : ∀ k, k < N → parseFieldDescriptor (T k).2.2.1 = some (ty k)) (hc : vwCl[ci]? = some (C, T, N)) (hcl : Cond.classLink own index C ∈ Ts) (hinst : Cond.instantiable C N ∈ Ts) (hini : Cond.initialized C ∈ Ts) (hfs : ∀ j, j < N → defaultValue (ty j) = vp_V fs j) (hdg : decode cc pc = .ok (.new index, 3)) (hcells : cells + 1 ≤ R.cells) (hslots : slots + N ≤ R.slots)
    (kk : ∀ (q : Nat) (H1 : Heap) (w1 : wT), w q = none → w1 = va_up w q (some (.inr (ci, fs))) → wZ G w1 s H1 locs → W p l e R s m args below meth c H1 locs (cells + 1) (slots + N) Q (F0 m (pc + 3) ls (.ref q :: rest))) : W p l e R s m args below meth c H locs cells slots Q (F0 m pc ls rest) := by
  have hts := X.2.2.2.2
  have hKn := Z.2.2.1.1 ci _ hc
  refine W.newcK X.1 X.2.1 X.2.2.2.1 (hts _ hcl) (hts _ hinst) (hts _ hini) rfl hdg hcells hslots hKn.2.1 rfl fun H1 kC hkC e1 z1 o1 => ?_
  obtain ⟨a1, a2⟩ := Z.push (e := .inr (ci, fs)) (H1 := H1) ⟨_, hc, (u_born ty hts hin hKn hkC e1 hty).to hfs⟩ z1 o1
  exact kk H.size H1 _ a1 rfl a2
theorem f_newa {ti : Nat} {ty : FieldType} (X : CallFix p m c cc nL s args Ts own) (Z : wZ G w s H locs) {atype : ArrayType} (ht : (tyl G.2.1)[ti]? = some (G.2.1 ti, ty)) (harr : Cond.arrayClass (newarray.typeOf atype) ∈ Ts) (hty : newarray.typeOf atype = ty) (hpr : ∀ C, ty ≠ .object C) (hdf : defaultValue ty = .int 0) {n : Int32} {N' : Nat} (hn : ¬ n < 0) (hN : n.toNatClampNeg = N') (hbytes : N' * componentBytes ty ≤ 536870912) (hcells : cells + 1 ≤ R.cells) (hslots : slots + N' ≤ R.slots) (hdg : decode cc pc = .ok (.newarray atype, 2))
    (kk : ∀ (q : Nat) (H1 : Heap) (w1 : wT), w q = none → w1 = va_up w q (some (.inl (G.2.1 ti, N', .inl (fun _ => 0)))) → wZ G w1 s H1 locs → W p l e R s m args below meth c H1 locs (cells + 1) (slots + N') Q (F0 m (pc + 2) ls (.ref q :: rest))) : W p l e R s m args below meth c H locs cells slots Q (F0 m pc ls (.int n :: rest)) := by
  subst hty
  refine va_newaK X.1 X.2.1 (X.2.2.2.2 _ harr) rfl hdg rfl hn hN hbytes hcells hslots rfl fun H1 cA e1 z1 o1 hAr hNm => ?_
  have hcA : cA = G.2.1 ti := by
    have h2 := (Z.2.2.1.2 ti _ ht).2
    unfold va_RA at h2
    split at h2
    · rename_i C hC
      exact absurd hC (hpr C)
    · exact Option.some.inj (hNm.symm.trans h2)
  subst hcA
  obtain ⟨a1, a2⟩ := Z.push (e := .inl (G.2.1 ti, N', .inl (fun _ => 0))) (H1 := H1) (by
    show H1[H.size]? = some (vp_cell _ _)
    rw [e1, vp_cell_i, hdf]) z1 o1
  exact kk H.size H1 _ a1 rfl a2
theorem f_anew {ti index : Nat} {C : String} (X : CallFix p m c cc nL s args Ts own) (Z : wZ G w s H locs) (ht : (tyl G.2.1)[ti]? = some (G.2.1 ti, .object C)) (hcl : Cond.classLink own index C ∈ Ts) (hao : va_AO C s) {n : Int32} {N' : Nat} (hn : ¬ n < 0) (hN : n.toNatClampNeg = N') (hbytes : N' * 4 ≤ 536870912) (hcells : cells + 1 ≤ R.cells) (hslots : slots + N' ≤ R.slots) (hdg : decode cc pc = .ok (.anewarray index, 3))
    (kk : ∀ (q : Nat) (H1 : Heap) (w1 : wT), w q = none → w1 = va_up w q (some (.inl (G.2.1 ti, N', .inr (.inr (.inr (.inr (fun _ => none))))))) → wZ G w1 s H1 locs → W p l e R s m args below meth c H1 locs (cells + 1) (slots + N') Q (F0 m (pc + 3) ls (.ref q :: rest))) : W p l e R s m args below meth c H locs cells slots Q (F0 m pc ls (.int n :: rest)) := by
  subst hN
  refine W.anew X.1 X.2.1 X.2.2.2.1 (X.2.2.2.2 _ hcl) (va_AO.use hao) rfl hdg rfl hn hbytes hcells hslots fun cA kA comp f1 f2 f3 f4 => ?_
  generalize hH1 : H.push ({ cls := cA, slots := Array.replicate n.toNatClampNeg .null, vm := .none } : Cell) = H1
  have z1 : H1.size = H.size + 1 := by rw [← hH1, Array.size_push]
  have e1 : H1[H.size]? = some (arrV cA n.toNatClampNeg (fun _ => .null)) := by rw [← hH1, Array.getElem?_push_size, ← arrV_new]
  have o1 : ∀ q : Nat, q < H.size → H1[q]? = H[q]? := fun q hq => by rw [← hH1, Array.getElem?_push, if_neg (Nat.ne_of_lt hq)]
  have hcA : cA = G.2.1 ti := by
    obtain ⟨kA', comp', g1, g2, g3, g4⟩ := (Z.2.2.1.2 ti _ ht).2
    exact Option.some.inj (f1.symm.trans g4)
  subst hcA
  obtain ⟨a1, a2⟩ := Z.push (e := .inl (G.2.1 ti, n.toNatClampNeg, .inr (.inr (.inr (.inr (fun _ => none)))))) (H1 := H1) (by
    show H1[H.size]? = some (vp_cell _ _)
    rw [e1, vp_cell_q]
    rfl) z1 o1
  exact kk H.size H1 _ a1 rfl a2
/-! ends -/
def Qi (G : gT) (post : Int32 → wT → Prop) : Array Value → State → Outcome → State → Prop := va_Qi post (wG G) (fr G)
def Qv (G : gT) (post : wT → Prop) : Array Value → State → Outcome → State → Prop := va_Qv post (wG G) (fr G)
def Qq (G : gT) (post : Option Nat → wT → Prop) : Array Value → State → Outcome → State → Prop := va_Qq post (wG G) (fr G)
theorem wZ.end {t : State} (Z : wZ G w s H locs) (ht : t.heap = H) (hW : s.WarmedH t.vm) : wG G w t := ⟨by rw [ht]; exact Nat.le_trans Z.1 Z.2.2.2.1.1, by rw [ht]; exact Z.2.1, va_K.moved hW.alike Z.2.2.1, Z.2.2.2.2.warm hW⟩
theorem f_iret {mc ms : Nat} {post : Int32 → wT → Prop} (X : CallFix p m c cc nL s args Ts own) (hr : meth.sig.returnType = some .int) (hlk : meth.locks = false) (Z : wZ G w s H locs) (h1 : cells ≤ mc) (h2 : slots ≤ ms) (hdg : decode cc pc = .ok (.ireturn, 1)) {v : Int32} (hq : post v w) : W p l e R s m args below meth c H locs cells slots (MQ below (Qi G post) args s mc ms (fr G)) (F0 m pc ls [.int v]) := by
  refine W.widen h1 h2 ?_
  exact W.iret X.1 X.2.1 hr (fun t ht hW => ⟨⟨v, w, rfl, hq, Z.end ht hW⟩, Z.2.2.2.1.F ht⟩) Z.2.2.2.1.2.2 hdg hlk
theorem f_zret {mc ms : Nat} {post : Int32 → wT → Prop} (X : CallFix p m c cc nL s args Ts own) (hr : meth.sig.returnType = some .boolean) (hlk : meth.locks = false) (Z : wZ G w s H locs) (h1 : cells ≤ mc) (h2 : slots ≤ ms) (hdg : decode cc pc = .ok (.ireturn, 1)) {v : Int32} (hn : narrow .boolean (.int v) = .int v) (hq : post v w) : W p l e R s m args below meth c H locs cells slots (MQ below (Qi G post) args s mc ms (fr G)) (F0 m pc ls [.int v]) := by
  refine W.widen h1 h2 ?_
  exact W.zret X.1 X.2.1 hr hn (fun t ht hW => ⟨⟨v, w, rfl, hq, Z.end ht hW⟩, Z.2.2.2.1.F ht⟩) Z.2.2.2.1.2.2 hdg hlk
theorem f_vret {mc ms : Nat} {post : wT → Prop} (X : CallFix p m c cc nL s args Ts own) (hr : meth.sig.returnType = none) (hlk : meth.locks = false) (Z : wZ G w s H locs) (h1 : cells ≤ mc) (h2 : slots ≤ ms) (hdg : decode cc pc = .ok (.return_, 1)) (hq : post w) : W p l e R s m args below meth c H locs cells slots (MQ below (Qv G post) args s mc ms (fr G)) (F0 m pc ls []) := by
  refine W.widen h1 h2 ?_
  exact W.vret X.1 X.2.1 hr (fun t ht hW => ⟨⟨w, rfl, hq, Z.end ht hW⟩, Z.2.2.2.1.F ht⟩) Z.2.2.2.1.2.2 hdg hlk
theorem f_aret {mc ms : Nat} {post : Option Nat → wT → Prop} {C : String} (X : CallFix p m c cc nL s args Ts own) (hr : meth.sig.returnType = some (.object C)) (hlk : meth.locks = false) (Z : wZ G w s H locs) (h1 : cells ≤ mc) (h2 : slots ≤ ms) (hdg : decode cc pc = .ok (.areturn, 1)) {v : Value} {r : Option Nat} (hv : v = va_rf r) (hq : post r w) : W p l e R s m args below meth c H locs cells slots (MQ below (Qq G post) args s mc ms (fr G)) (F0 m pc ls [v]) := by
  refine W.widen h1 h2 ?_
  subst hv
  exact W.aret X.1 X.2.1 hr (Or.inl ⟨C, rfl⟩) (va_rf_or r) (fun t ht hW => ⟨⟨r, w, rfl, hq, Z.end ht hW⟩, Z.2.2.2.1.F ht⟩) Z.2.2.2.1.2.2 hdg hlk
/-! calls -/
theorem wPc_blind (As : List Value) : FrameBlind (va_Pc As (wG G w)) := fun a U g mk q => ⟨q.1, q.2.1, q.2.2.1, va_K.moved (u := U) (U := U.calling g mk a) (Vm.Alike.refl U.vm) q.2.2.2.1, wAO.same (u := U) (U := U.calling g mk a) rfl q.2.2.2.2⟩
theorem wPc_pre (Z : wZ G w s H locs) (As : List Value) : PreS s H (va_Pc As (wG G w)) As := ⟨wPc_blind As, fun U hU hW => ⟨rfl, by rw [hU]; exact Nat.le_trans Z.1 Z.2.2.2.1.1, by rw [hU]; exact Z.2.1, va_K.moved hW.alike Z.2.2.1, Z.2.2.2.2.warm hW⟩⟩
theorem wZ.back {w' : wT} {t : State} {H1 : Heap} {locs1 : List Loc} (Z : wZ G w s H locs) (ht : t.heap = H1) (hvm : s.vm.Alike t.vm) (hB : wG G w' t) (hS : va_S (fr G) s.heap H1 locs1) : wZ G w' s H1 locs1 := ⟨Z.1, by rw [← ht]; exact hB.2.1, Z.2.2.1, hS, Z.2.2.2.2⟩
variable {y : MethodName} {bytes : ByteArray} {maxL mc ms n index ci : Nat} {ret : Option FieldType} {ws : List Cond} {rm : Room} {C : String} {T : u_T} {N b : Nat} {As st : List Value} {fs : List Value}
theorem f_callVi {post : Int32 → wT → Prop} (X : CallFix p m c cc nL s args Ts own) (Z : wZ G w s H locs) (hsz : ls.size = nL) (hM : Met l y ws rm (va_Pc (.ref b :: As) (wG G w)) (Qi G post) mc ms (fr G)) (cw : CallW R s args own C index y bytes maxL ret ws rm mc ms n) (hc : vwCl[ci]? = some (C, T, N)) (hn : As.length = n) (hdg : decode cc pc = .ok (.invokevirtual index, 3)) (hf : cells + mc ≤ R.cells ∧ slots + ms ≤ R.slots) (hst : st = As.reverse ++ .ref b :: rest) (hrm : (rest.map fun v => v.category).sum ≤ 8) (hb : w b = some (.inr (ci, fs)))
    (kk : ∀ (r : Int32) (w' : wT) (H1 : Heap) (locs1 : List Loc), post r w' → wZ G w' s H1 locs1 → W p l e R s m args below meth c H1 locs1 (cells + mc) (slots + ms) Q (F0 m (pc + 3) ls (.int r :: rest))) : W p l e R s m args below meth c H locs cells slots Q (F0 m pc ls st) := by
  subst hst
  refine va_calli (va_runV (As := As) (rest := rest) X hM cw ⟨(wPc_pre Z _).1, va_recv Z.2.2.1 (Z.2.1.one hb) (q0 := 0) hc rfl, (wPc_pre Z _).2⟩ rfl hn hsz rfl (lv_room hrm) hdg hf) Z.2.2.2.1 (fun q _ h => h) (fun q h => h) (fun r u t H1 locs1 ht hvm hw hB _ _ hS => ?_)
  exact kk r u H1 locs1 hw (Z.back ht hvm hB hS)
theorem f_callVv {post : wT → Prop} (X : CallFix p m c cc nL s args Ts own) (Z : wZ G w s H locs) (hsz : ls.size = nL) (hM : Met l y ws rm (va_Pc (.ref b :: As) (wG G w)) (Qv G post) mc ms (fr G)) (cw : CallW R s args own C index y bytes maxL ret ws rm mc ms n) (hc : vwCl[ci]? = some (C, T, N)) (hn : As.length = n) (hdg : decode cc pc = .ok (.invokevirtual index, 3)) (hf : cells + mc ≤ R.cells ∧ slots + ms ≤ R.slots) (hst : st = As.reverse ++ .ref b :: rest) (hrm : (rest.map fun v => v.category).sum ≤ 8) (hb : w b = some (.inr (ci, fs)))
    (kk : ∀ (w' : wT) (H1 : Heap) (locs1 : List Loc), post w' → wZ G w' s H1 locs1 → W p l e R s m args below meth c H1 locs1 (cells + mc) (slots + ms) Q (F0 m (pc + 3) ls rest)) : W p l e R s m args below meth c H locs cells slots Q (F0 m pc ls st) := by
  subst hst
  refine va_callv (va_runV (As := As) (rest := rest) X hM cw ⟨(wPc_pre Z _).1, va_recv Z.2.2.1 (Z.2.1.one hb) (q0 := 0) hc rfl, (wPc_pre Z _).2⟩ rfl hn hsz rfl (lv_room hrm) hdg hf) Z.2.2.2.1 (fun q _ h => h) (fun q h => h) (fun u t H1 locs1 ht hvm hw hB _ _ hS => ?_)
  exact kk u H1 locs1 hw (Z.back ht hvm hB hS)
theorem f_callVq {post : Option Nat → wT → Prop} (X : CallFix p m c cc nL s args Ts own) (Z : wZ G w s H locs) (hsz : ls.size = nL) (hM : Met l y ws rm (va_Pc (.ref b :: As) (wG G w)) (Qq G post) mc ms (fr G)) (cw : CallW R s args own C index y bytes maxL ret ws rm mc ms n) (hc : vwCl[ci]? = some (C, T, N)) (hn : As.length = n) (hdg : decode cc pc = .ok (.invokevirtual index, 3)) (hf : cells + mc ≤ R.cells ∧ slots + ms ≤ R.slots) (hst : st = As.reverse ++ .ref b :: rest) (hrm : (rest.map fun v => v.category).sum ≤ 8) (hb : w b = some (.inr (ci, fs)))
    (kk : ∀ (r : Option Nat) (w' : wT) (H1 : Heap) (locs1 : List Loc), post r w' → wZ G w' s H1 locs1 → W p l e R s m args below meth c H1 locs1 (cells + mc) (slots + ms) Q (F0 m (pc + 3) ls (va_rf r :: rest))) : W p l e R s m args below meth c H locs cells slots Q (F0 m pc ls st) := by
  subst hst
  refine va_callq (va_runV (As := As) (rest := rest) X hM cw ⟨(wPc_pre Z _).1, va_recv Z.2.2.1 (Z.2.1.one hb) (q0 := 0) hc rfl, (wPc_pre Z _).2⟩ rfl hn hsz rfl (lv_room hrm) hdg hf) Z.2.2.2.1 (fun q _ h => h) (fun q h => h) (fun r u t H1 locs1 ht hvm hw hB _ _ hS => ?_)
  exact kk r u H1 locs1 hw (Z.back ht hvm hB hS)
theorem f_callSi {post : Int32 → wT → Prop} (X : CallFix p m c cc nL s args Ts own) (Z : wZ G w s H locs) (hsz : ls.size = nL) (hM : Met l y ws rm (va_Pc As (wG G w)) (Qi G post) mc ms (fr G)) (cw : CallB R s args own index y bytes maxL ret ws rm mc ms n ∧ (Cond.static y).before args s = true) (hn : As.length = n) (hdg : decode cc pc = .ok (.invokestatic index, 3)) (hf : cells + mc ≤ R.cells ∧ slots + ms ≤ R.slots) (hst : st = As.reverse ++ rest) (hrm : (rest.map fun v => v.category).sum ≤ 8)
    (kk : ∀ (r : Int32) (w' : wT) (H1 : Heap) (locs1 : List Loc), post r w' → wZ G w' s H1 locs1 → W p l e R s m args below meth c H1 locs1 (cells + mc) (slots + ms) Q (F0 m (pc + 3) ls (.int r :: rest))) : W p l e R s m args below meth c H locs cells slots Q (F0 m pc ls st) := by
  subst hst
  refine va_calli (va_runS (As := As) (rest := rest) X hM cw (wPc_pre Z _) rfl hn hsz rfl (lv_room hrm) hdg hf) Z.2.2.2.1 (fun q _ h => h) (fun q h => h) (fun r u t H1 locs1 ht hvm hw hB _ _ hS => ?_)
  exact kk r u H1 locs1 hw (Z.back ht hvm hB hS)
theorem f_callIv {post : wT → Prop} (X : CallFix p m c cc nL s args Ts own) (Z : wZ G w s H locs) (hsz : ls.size = nL) (hM : Met l y ws rm (va_Pc (.ref b :: As) (wG G w)) (Qv G post) mc ms (fr G)) (cw : CallB R s args own index y bytes maxL none ws rm mc ms n ∧ y.name = "<init>" ∧ (Cond.instanceMethod y).before args s = true) (hn : As.length = n) (hdg : decode cc pc = .ok (.invokespecial index, 3)) (hf : cells + mc ≤ R.cells ∧ slots + ms ≤ R.slots) (hst : st = As.reverse ++ .ref b :: rest) (hrm : (rest.map fun v => v.category).sum ≤ 8)
    (kk : ∀ (w' : wT) (H1 : Heap) (locs1 : List Loc), post w' → wZ G w' s H1 locs1 → W p l e R s m args below meth c H1 locs1 (cells + mc) (slots + ms) Q (F0 m (pc + 3) ls rest)) : W p l e R s m args below meth c H locs cells slots Q (F0 m pc ls st) := by
  subst hst
  refine va_callv (va_runI (As := As) (rest := rest) X hM cw (wPc_pre Z _) rfl hn hsz rfl (lv_room hrm) hdg hf) Z.2.2.2.1 (fun q _ h => h) (fun q h => h) (fun u t H1 locs1 ht hvm hw hB _ _ hS => ?_)
  exact kk u H1 locs1 hw (Z.back ht hvm hB hS)
theorem f_callINv {post : wT → Prop} {host : String} (X : CallFix p m c cc nL s args Ts own) (Z : wZ G w s H locs) (hsz : ls.size = nL) (hM : Met l y ws rm (va_Pc (.ref b :: As) (wG G w)) (Qv G post) mc ms (fr G)) (cw : va_CN R s args own index y host bytes maxL none ws rm mc ms n ∧ y.name = "<init>" ∧ (Cond.instanceMethod y).before args s = true) (hn : As.length = n) (hdg : decode cc pc = .ok (.invokespecial index, 3)) (hf : cells + mc ≤ R.cells ∧ slots + ms ≤ R.slots) (hst : st = As.reverse ++ .ref b :: rest) (hrm : (rest.map fun v => v.category).sum ≤ 8)
    (kk : ∀ (w' : wT) (H1 : Heap) (locs1 : List Loc), post w' → wZ G w' s H1 locs1 → W p l e R s m args below meth c H1 locs1 (cells + mc) (slots + ms) Q (F0 m (pc + 3) ls rest)) : W p l e R s m args below meth c H locs cells slots Q (F0 m pc ls st) := by
  subst hst
  refine va_callv (va_runIN (As := As) (rest := rest) X hM cw (wPc_pre Z _) rfl hn hsz rfl (lv_room hrm) hdg hf) Z.2.2.2.1 (fun q _ h => h) (fun q h => h) (fun u t H1 locs1 ht hvm hw hB _ _ hS => ?_)
  exact kk u H1 locs1 hw (Z.back ht hvm hB hS)
end FW

theorem f_met {l : Launch} {y : MethodName} {ws ws' : List Cond} {rm : Room} {Qc : Array Value → State → Outcome → State → Prop} {mc ms : Nat} {cc : ByteArray} {maxL : Nat} {ret : Option FieldType} {G : gT} {w : wT} {As : List Value} (hy : plainName y.cls = true) (hw : ws = Cond.code y cc maxL ret :: ws') (hA : As.all (fun v => v.category == 1) = true) (hn : As.length ≤ maxL)
    (body : ∀ (p : Program) (e : Env) (s : State) (m : MethodId) (below : List Frame) (meth : Method) (c : Code), CallFix p m c cc maxL s As.toArray ws y.cls → meth.sig.returnType = ret → meth.locks = false → meth.name = y.name → wZ G w s s.heap [] → ∀ ls : Array Slot, lV ls maxL (As.map some ++ List.replicate (maxL - As.length) none) → W p l e rm s m As.toArray below meth c s.heap [] 0 0 (MQ below Qc As.toArray s mc ms (fr G)) (F0 m 0 ls [])) : Met l y ws rm (va_Pc As (wG G w)) Qc mc ms (fr G) := by
  refine Met.ofW (cc := cc) (maxL := maxL) (ret := ret) hy hw ?_
  intro p e s m args below meth c s₁ B hml hv
  obtain ⟨rfl, h1, h2, h3, h4⟩ := hv
  have hcat : ∀ v ∈ As, v.category = 1 := fun v hv => by simpa using List.all_eq_true.mp hA v hv
  have hsl : ∀ (L : List Value), (∀ v ∈ L, v.category = 1) → (lg_sl L).length = L.length ∧ ∀ (k i : Nat) (v : Value), L[i]? = some v → (k + i, v) ∈ lv_args k L := by
    intro L
    induction L with
    | nil => intro _; exact ⟨rfl, fun k i v h => by simp at h⟩
    | cons x L ih =>
      intro hL
      obtain ⟨i1, i2⟩ := ih (fun v hv => hL v (List.mem_cons_of_mem _ hv))
      have hx := hL x List.mem_cons_self
      refine ⟨?_, fun k i v h => ?_⟩
      · simp [lg_sl] at i1 ⊢
        first | (simp [hx]; omega) | (simp [Value.category] at hx ⊢; cases x <;> simp_all <;> omega) | omega
      · cases i with
        | zero =>
          simp at h
          subst h
          simp [lv_args]
        | succ i =>
          simp at h
          simp only [lv_args, hx]
          refine List.mem_cons_of_mem _ ?_
          have := i2 (k + 1) i v h
          rw [show k + (i + 1) = k + 1 + i by omega]
          simpa using this
  have hl := lv_entry As (n := maxL) (by rw [(hsl As hcat).1]; exact hn)
  rw [lg_entry_eq]
  generalize (lg_sl As ++ List.replicate (maxL - (lg_sl As).length) Slot.unset).toArray = ls at hl ⊢
  refine body p e s m below meth c ⟨B.exec, B.bytes, hml, findClass_of_methodNamed B.named, atoms_spec (ws := ws) B.pre⟩ B.returns B.notSynchronized (name_of_methodNamed B.named B.method).1 ⟨h1, h2, h3, va_S.rf, h4⟩ ls ⟨hl.1, hl.2.1, fun i v hv => ?_, by simp; omega, fun i v hv => ?_⟩
  · have hi : As[i]? = some v := by
      by_cases hlt : i < As.length
      · rw [List.getElem?_append_left (by simpa using hlt), List.getElem?_map] at hv
        cases hq : As[i]? with
        | none => rw [hq] at hv; simp at hv
        | some x => rw [hq] at hv; simp at hv; rw [hv]
      · rw [List.getElem?_append_right (by simp; omega)] at hv
        have := List.eq_of_mem_replicate (List.mem_of_getElem? hv)
        cases this
    have := (hsl As hcat).2 0 i v hi
    rw [Nat.zero_add] at this
    exact hl.2.2 _ this
  · rcases List.mem_append.mp (List.mem_of_getElem? hv) with h | h
    · obtain ⟨x, hx, e⟩ := List.mem_map.mp h
      cases e
      exact hcat _ hx
    · have := List.eq_of_mem_replicate h
      cases this
