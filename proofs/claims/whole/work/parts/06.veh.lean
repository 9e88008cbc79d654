theorem lV_un {ls : Array Slot} {nL : Nat} {vs : List (Option Value)} (i : Nat) (h : lV ls nL vs) : lV ls nL (vs.set i none) := by
  obtain ⟨h1, h2, h3, h4, h5⟩ := h
  have key : ∀ (j : Nat) (v : Value), (vs.set i none)[j]? = some (some v) → vs[j]? = some (some v) := by
    intro j v hj
    by_cases hji : j = i
    · subst hji
      by_cases hl : j < vs.length
      · rw [List.getElem?_set_self hl] at hj; cases hj
      · rw [List.getElem?_eq_none (by simp; omega)] at hj; cases hj
    · rwa [List.getElem?_set_ne (Ne.symm hji)] at hj
  exact ⟨h1, h2, fun j v hj => h3 j v (key j v hj), by simp [h4], fun j v hj => h5 j v (key j v hj)⟩
def rowAt (G : gT) (w : wT) (ro : Option Nat) (cr : CR) : Prop := match cr with
  | none => ro = none
  | some (n, f) => n ≤ 12 ∧ ∃ r, ro = some r ∧ w r = some (aI G n f)
def vehAt (G : gT) (w : wT) (a : Nat) (d : VR) (bh : Option Nat) : Prop := ∃ ro, w a = some (cVeh d.1 d.2.1 d.2.2.1 ro bh) ∧ rowAt G w ro d.2.2.2
def trk (G : gT) (w : wT) (tr : Nat) (L : LV) : Prop := w tr = some (cTrk (hd L) (nI L.length)) ∧ L.length ≤ 512 ∧ ∀ (i a : Nat) (d : VR), L[i]? = some (a, d) → vehAt G w a d (nx L i)
def vix (L : LV) (k : Int32) : Option (Nat × VR) := if k.toInt < 0 then none else L[k.toNatClampNeg]?
theorem rowAt_none {G : gT} {w : wT} {cr : CR} (h : rowAt G w none cr) : cr = none := by
  cases cr with
  | none => rfl
  | some q => obtain ⟨n, f⟩ := q; obtain ⟨-, r, h1, -⟩ := h; cases h1
theorem rowAt_some {G : gT} {w : wT} {r : Nat} {cr : CR} (h : rowAt G w (some r) cr) : ∃ n f, cr = some (n, f) ∧ n ≤ 12 ∧ w r = some (aI G n f) := by
  cases cr with
  | none => cases h
  | some q => obtain ⟨n, f⟩ := q; obtain ⟨h0, r', h1, h2⟩ := h; cases h1; exact ⟨n, f, rfl, h0, h2⟩
set_option maxHeartbeats 4000000 in
set_option maxRecDepth 100000 in
theorem c_X3_init (l : Launch) (G : gT) (w : wT) (v : Nat) (so we : Int32) (h1 : w v = some (cVeh 0 0 0 none none)) : Met l yX3_init wsX3_init ({ frames := 1, cells := 0, slots := 0, locals := 16 }) (va_Pc [.ref v, .int so, .int we] (wG G w)) (Qv G (fun w' => w' = va_up w v (some (cVeh so we 0 none none)))) 0 0 (fr G) := by
  refine f_met (cc := cX3_init) (maxL := 3) (ret := none) (by decide) rfl rfl (Nat.le_of_ble_eq_true rfl) ?_
  intro p e s m below meth cd X hr hlk hnm Z ls hl
  have X : CallFix p m cd cX3_init 3 s [.ref v, .int so, .int we].toArray wsX3_init RX3 := X
  have hl : lV ls _ [some (.ref v), some (.int so), some (.int we)] := hl
  have i3 : ∀ w ∈ wsX30, w ∈ wsX3_init := by decide +kernel
  refine f_aload (v := .ref v) X hl ⟨_, rfl, dX3_init_0⟩ rfl ⟨(some v), rfl⟩ ?_
  refine W.objInit X.1 X.2.1 X.2.2.2.1 (X.2.2.2.2 (.methodLink RX3 1 objectInit) (by decide +kernel)) (X.2.2.2.2 (.instanceMethod objectInit) (by decide +kernel)) (X.2.2.2.2 (.code objectInit ⟨#[0xb1]⟩ 1 none) (by decide +kernel)) rfl (by rw [X.2.2.1]; exact hl.1) rfl dX3_init_1 (Nat.le_of_ble_eq_true rfl) (Nat.le_of_ble_eq_true rfl) ?_
  refine W.eq (g2 := F0 m 4 ls []) rfl ?_
  refine f_aload (v := .ref v) X hl ⟨_, rfl, dX3_init_4⟩ rfl ⟨(some v), rfl⟩ ?_
  refine f_iload X hl ⟨_, rfl, dX3_init_5⟩ rfl ?_
  refine f_putF (v := .int so) (ty0 := tyX3) (k := 0) X Z i3 tyX3_ok nmX3 rfl (by decide) (by decide +kernel) rfl hnm rfl dX3_init_6 h1 rfl rfl (Nat.le_of_ble_eq_true rfl) (fun H locs w1 e2 Z => ?_)
  have e2 : w1 = va_up w v (some (cVeh so 0 0 none none)) := e2
  have k3 : w1 v = some (cVeh so 0 0 none none) := by rw [e2]; exact up_eq
  refine f_aload (v := .ref v) X hl ⟨_, rfl, dX3_init_9⟩ rfl ⟨(some v), rfl⟩ ?_
  refine f_iload X hl ⟨_, rfl, dX3_init_10⟩ rfl ?_
  refine f_putF (v := .int we) (ty0 := tyX3) (k := 1) X Z i3 tyX3_ok nmX3 rfl (by decide) (by decide +kernel) rfl hnm rfl dX3_init_11 k3 rfl rfl (Nat.le_of_ble_eq_true rfl) (fun H locs w4 e5 Z => ?_)
  have e5 : w4 = va_up w1 v (some (cVeh so we 0 none none)) := e5
  have k6 : w4 v = some (cVeh so we 0 none none) := by rw [e5]; exact up_eq
  exact f_vret X hr hlk Z (Nat.le_of_ble_eq_true rfl) (Nat.le_of_ble_eq_true rfl) dX3_init_14 (by rw [e5, e2]; exact va_uu)
set_option maxHeartbeats 4000000 in
set_option maxRecDepth 100000 in
theorem c_X3_fullWeight (l : Launch) (G : gT) (w : wT) (v : Nat) (d : VR) (bh : Option Nat) (hv : vehAt G w v d bh) : Met l yX3_fullWeight wsX3_fullWeight ({ frames := 0, cells := 0, slots := 0, locals := 0 }) (va_Pc [.ref v] (wG G w)) (Qi G (fun r w' => w' = w ∧ r = ldOf d.2.1 d.2.2.2)) 0 0 (fr G) := by
  refine f_met (cc := cX3_fullWeight) (maxL := 6) (ret := (some .int)) (by decide) rfl rfl (Nat.le_of_ble_eq_true rfl) ?_
  intro p e s m below meth cd X hr hlk hnm Z ls hl
  have X : CallFix p m cd cX3_fullWeight 6 s [.ref v].toArray wsX3_fullWeight RX3 := X
  have hl : lV ls _ [some (.ref v), none, none, none, none, none] := hl
  have i3 : ∀ w ∈ wsX30, w ∈ wsX3_fullWeight := by decide +kernel
  obtain ⟨ro, h1, h2⟩ := hv
  refine f_aload (v := .ref v) X hl ⟨_, rfl, dX3_fullWeight_0⟩ rfl ⟨(some v), rfl⟩ ?_
  refine f_get (v := .int d.2.1) (k := 1) X Z i3 rfl (by decide) (by decide +kernel) dX3_fullWeight_1 h1 rfl ?_
  refine f_istore X hl ⟨_, rfl, dX3_fullWeight_4⟩ (by decide) (fun ls hl => ?_)
  have hl : lV ls _ [some (.ref v), some (.int d.2.1), none, none, none, none] := hl
  refine f_aload (v := .ref v) X hl ⟨_, rfl, dX3_fullWeight_5⟩ rfl ⟨(some v), rfl⟩ ?_
  refine f_get (v := va_rf ro) (k := 3) X Z i3 rfl (by decide) (by decide +kernel) dX3_fullWeight_6 h1 rfl ?_
  refine f_ifnull (tgt := 46) X dX3_fullWeight_9 (by decide) (fun c9 => ?_) (fun a9 c9 => ?_)
  · subst c9
    have h3 := rowAt_none h2
    refine f_iload X hl ⟨_, rfl, dX3_fullWeight_46⟩ rfl ?_
    exact f_iret X hr hlk Z (Nat.le_of_ble_eq_true rfl) (Nat.le_of_ble_eq_true rfl) dX3_fullWeight_47 ⟨rfl, by rw [h3]; rfl⟩
  · subst c9
    obtain ⟨n, f, h3, h4, h5⟩ := rowAt_some h2
    refine f_aload (v := .ref v) X hl ⟨_, rfl, dX3_fullWeight_12⟩ rfl ⟨(some v), rfl⟩ ?_
    refine f_get (v := .ref a9) (k := 3) X Z i3 rfl (by decide) (by decide +kernel) dX3_fullWeight_13 h1 rfl ?_
    refine f_astore X hl ⟨_, rfl, dX3_fullWeight_16⟩ (by decide) ⟨(some a9), rfl⟩ (fun ls hl => ?_)
    have hl : lV ls _ [some (.ref v), some (.int d.2.1), some (.ref a9), none, none, none] := hl
    refine f_aload (v := .ref a9) X hl ⟨_, rfl, dX3_fullWeight_17⟩ rfl ⟨(some a9), rfl⟩ ?_
    refine f_alenI X Z dX3_fullWeight_18 h5 ?_
    refine f_istore X hl ⟨_, rfl, dX3_fullWeight_19⟩ (by decide) (fun ls hl => ?_)
    have hl : lV ls _ [some (.ref v), some (.int d.2.1), some (.ref a9), some (.int (nI n)), none, none] := hl
    refine lv_iconst (v := 0) X.1 X.2.1 dX3_fullWeight_20 (by decide) ?_
    refine f_istore2 X hl dX3_fullWeight_21 (by decide) (fun ls hl => ?_)
    have hl : lV ls _ [some (.ref v), some (.int d.2.1), some (.ref a9), some (.int (nI n)), some (.int 0), none] := hl
    have hloop : ∀ (fu : Nat) (i : Nat) (x1 x4 : Int32), (x4 = nI i) → (x1 = sumTo d.2.1 f i) → (i ≤ n) → (n < i + fu) → ∀ (H : Heap) (locs : List Loc) (ls : Array Slot), wZ G w s H locs → lV ls 6 [some (.ref v), some (.int x1), some (.ref a9), some (.int (nI n)), some (.int x4), none] → W p l e ({ frames := 0, cells := 0, slots := 0, locals := 0 }) s m [.ref v].toArray below meth cd H locs 0 0 (MQ below (Qi G (fun r w' => w' = w ∧ r = ldOf d.2.1 d.2.2.2)) [.ref v].toArray s 0 0 (fr G)) (F0 m 23 ls []) := by
      clear hl Z
      intro fu
      induction fu with
      | zero => intro i x1 x4 hi hx hle hfu H locs ls Z hl; exact absurd hfu (by omega)
      | succ fu ih =>
        intro i x1 x4 hi hx hle hfu H locs ls Z hl
        refine f_iload2 X hl dX3_fullWeight_23 rfl ?_
        refine f_iload X hl ⟨_, rfl, dX3_fullWeight_25⟩ rfl ?_
        refine lv_icmp_ge (tgt := 46) X.1 X.2.1 dX3_fullWeight_26 (by decide) (fun c26 => ?_) (fun c26 => ?_)
        · refine f_iload X hl ⟨_, rfl, dX3_fullWeight_46⟩ rfl ?_
          exact f_iret X hr hlk Z (Nat.le_of_ble_eq_true rfl) (Nat.le_of_ble_eq_true rfl) dX3_fullWeight_47 ⟨rfl, by rw [h3, hx, show i = n from by have := (nI_leI (by omega) (by omega)).mp (hi ▸ c26); omega]; rfl⟩
        · have hlt : i < n := by
            rcases Nat.lt_or_ge i n with q | q
            · exact q
            · exact absurd (by rw [hi]; exact nI_le q (by omega)) c26
          refine f_aload (v := .ref a9) X hl ⟨_, rfl, dX3_fullWeight_29⟩ rfl ⟨(some a9), rfl⟩ ?_
          refine f_iload2 X hl dX3_fullWeight_30 rfl ?_
          refine f_iald X Z dX3_fullWeight_32 h5 (by rw [hi]; exact vp_in_nI hlt (by omega)) ?_
          refine f_istore2 X hl dX3_fullWeight_33 (by decide) (fun ls hl => ?_)
          have hl : lV ls _ [some (.ref v), some (.int x1), some (.ref a9), some (.int (nI n)), some (.int x4), some (.int (f x4.toNatClampNeg))] := hl
          refine f_iload X hl ⟨_, rfl, dX3_fullWeight_35⟩ rfl ?_
          refine f_iload2 X hl dX3_fullWeight_36 rfl ?_
          refine lv_iadd X.1 X.2.1 dX3_fullWeight_38 ?_
          refine f_istore X hl ⟨_, rfl, dX3_fullWeight_39⟩ (by decide) (fun ls hl => ?_)
          have hl : lV ls _ [some (.ref v), some (.int (x1 + (f x4.toNatClampNeg))), some (.ref a9), some (.int (nI n)), some (.int x4), some (.int (f x4.toNatClampNeg))] := hl
          refine f_iinc (v := 1) X hl dX3_fullWeight_40 (by decide) rfl (by decide) (fun ls hl => ?_)
          have hl : lV ls _ [some (.ref v), some (.int (x1 + (f x4.toNatClampNeg))), some (.ref a9), some (.int (nI n)), some (.int (x4 + 1)), some (.int (f x4.toNatClampNeg))] := hl
          refine lv_goto (tgt := 23) X.1 X.2.1 dX3_fullWeight_43 (by decide) ?_
          have hl := lV_un 5 hl
          exact ih (i + 1) _ _ (by rw [hi]; exact nI_1 i) (by rw [hx, hi, nI_clamp (by omega)]; rfl) (by omega) (by omega) _ _ _ Z hl
    exact hloop (n + 1) 0 _ _ nI_0.symm rfl (Nat.zero_le _) (by omega) _ _ _ Z hl
set_option maxHeartbeats 4000000 in
set_option maxRecDepth 100000 in
theorem c_X2_init (l : Launch) (G : gT) (w : wT) (v : Nat) : Met l yX2_init wsX2_init ({ frames := 1, cells := 0, slots := 0, locals := 16 }) (va_Pc [.ref v] (wG G w)) (Qv G (fun w' => w' = w)) 0 0 (fr G) := by
  refine f_met (cc := cX2_init) (maxL := 1) (ret := none) (by decide) rfl rfl (Nat.le_of_ble_eq_true rfl) ?_
  intro p e s m below meth cd X hr hlk hnm Z ls hl
  have X : CallFix p m cd cX2_init 1 s [.ref v].toArray wsX2_init RX2 := X
  have hl : lV ls _ [some (.ref v)] := hl
  refine f_aload (v := .ref v) X hl ⟨_, rfl, dX2_init_0⟩ rfl ⟨(some v), rfl⟩ ?_
  refine W.objInit X.1 X.2.1 X.2.2.2.1 (X.2.2.2.2 (.methodLink RX2 3 objectInit) (by decide +kernel)) (X.2.2.2.2 (.instanceMethod objectInit) (by decide +kernel)) (X.2.2.2.2 (.code objectInit ⟨#[0xb1]⟩ 1 none) (by decide +kernel)) rfl (by rw [X.2.2.1]; exact hl.1) rfl dX2_init_1 (Nat.le_of_ble_eq_true rfl) (Nat.le_of_ble_eq_true rfl) ?_
  refine W.eq (g2 := F0 m 4 ls []) rfl ?_
  exact f_vret X hr hlk Z (Nat.le_of_ble_eq_true rfl) (Nat.le_of_ble_eq_true rfl) dX2_init_4 rfl
