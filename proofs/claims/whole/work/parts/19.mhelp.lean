theorem Int32.tnc {v : Nat} (h : v < 2 ^ 31) : (nI v).toNatClampNeg = v := nI_clamp h
def chM (F : Nat → Nat → Int32) (t : Nat) (L : LV) : Prop := F 8 t = enc (hd L) ∧ L.length ≤ 2000 ∧ ∀ (i v : Nat) (d : VR), L[i]? = some (v, d) → v < 600 ∧ F 6 v = enc (nx L i)
theorem enc_at {L : LV} {i : Nat} {x : Int32} (h : x = enc (L[i]?.map Prod.fst)) (hne : ¬ x = -1) : ∃ v d, L[i]? = some (v, d) ∧ x = nI v := by
  cases hq : L[i]? with
  | none => rw [hq] at h; exact absurd h hne
  | some q => rw [hq] at h; exact ⟨q.1, q.2, rfl, h⟩
theorem enc_end {L : LV} {i : Nat} {x : Int32} (h : x = enc (L[i]?.map Prod.fst)) (he : x = -1) (hv : ∀ v d, L[i]? = some (v, d) → v < 600) : L.length ≤ i := by
  cases hq : L[i]? with
  | none => exact List.getElem?_eq_none_iff.mp hq
  | some q =>
    rw [hq] at h
    exact absurd (h.symm.trans he) (enc_ne (hv q.1 q.2 hq))
theorem crM_n {F : Nat → Nat → Int32} {v : Nat} {cr : CR} (we : Int32) (h : crM F v cr) : ∃ (nn : Nat) (f : Nat → Int32), nn ≤ 12 ∧ ldOf we cr = sumTo we f nn ∧ (∀ i : Nat, i < 2 ^ 30 → (F 4 v ≤ nI i ↔ nn ≤ i)) ∧ ∀ i, i < nn → F 5 (12 * v + i) = f i := by
  cases cr with
  | none =>
    refine ⟨0, fun _ => 0, by omega, rfl, fun i hi => ?_, fun i hi => by omega⟩
    rw [show F 4 v = -1 from h, Int32.le_iff_toInt_le, kc_m1, nI_toInt (by omega)]
    omega
  | some q =>
    obtain ⟨n, f⟩ := q
    obtain ⟨h1, h2, h3⟩ := h
    exact ⟨n, f, h2, rfl, fun i hi => by rw [h1]; exact nI_leI (by omega) (by omega), h3⟩
def vM (F : Nat → Nat → Int32) (v0 : Int32) (od : Option VR) : Prop := (v0 = -1 ∧ od = none) ∨ ∃ v d bh, v0 = nI v ∧ od = some d ∧ PM F v d bh
theorem vM_none {F : Nat → Nat → Int32} {v0 : Int32} {od : Option VR} (h : vM F v0 od) (hv : v0 = -1) : od = none := by
  rcases h with ⟨-, h⟩ | ⟨v, d, bh, h1, -, h3, -⟩
  · exact h
  · exact absurd (h1.symm.trans hv) (enc_ne h3)
theorem vM_some {F : Nat → Nat → Int32} {v0 : Int32} {od : Option VR} (h : vM F v0 od) (hv : ¬ v0 = -1) : ∃ v d bh, v0 = nI v ∧ od = some d ∧ PM F v d bh := by
  rcases h with ⟨h, -⟩ | h
  · exact absurd h hv
  · exact h
def whyA (op : OP) (i j m : Int32) : Nat := match op with
  | none => 1
  | some q => if (0 ≤ i.toInt ∧ i.toInt < q.1) ∧ 0 ≤ j.toInt ∧ j.toInt ≤ (m - 1).toInt then 0 else 5
theorem whyA_lt (od : OP) (i j m : Int32) : whyA od i j m < 8 := by
  unfold whyA
  split <;> try decide
  split <;> decide
theorem n1_toInt {n : Nat} (h : n ≤ 12) : (nI n - 1).toInt = (n : Int) - 1 := by
  have : nI n - nI 1 = nI n - 1 := rfl
  rw [← this, pk_sub_toInt (by omega) (by decide)]
  rfl
theorem ix12 {v i : Nat} (hv : v < 600) (hi : i < 12) : (12 : Int32) * nI v + nI i = nI (12 * v + i) := by
  have : (12 : Int32) = nI 12 := rfl
  rw [this, pk_mul, nI_add]
theorem ix12_in {v i : Nat} (hv : v < 600) (hi : i < 12) : vp_in ((12 : Int32) * nI v + nI i) 7200 := by
  rw [ix12 hv hi]; exact vp_in_nI (by omega) (by decide)
theorem upd_id (f : Nat → Int32) (k : Nat) : upd f k (f k) = f := by
  funext j
  by_cases h : j = k
  · subst h; simp [upd]
  · simp [upd, h]
theorem MW.fld {G : gT} {tg : tT} {w w' : wT} {ad : Nat → Nat} {F : Nat → Nat → Int32} {sd na ro wi lv sd' na' ro' wi' lv' : Int32} (h : MW G tg w ad F sd na ro wi lv) (hw : w' = va_up w (ad 0) (some (cMo (some (ad 1)) (some (ad 2)) (some (ad 3)) (some (ad 4)) (some (ad 5)) (some (ad 6)) (some (ad 7)) (some (ad 8)) sd' na' (some (ad 9)) ro' wi' (some (ad 10)) lv' (some (ad 11))))) : MW G tg w' ad F sd' na' ro' wi' lv' :=
  ⟨by rw [hw]; exact up_eq, fun k h1 h2 => by rw [hw, up_ne (adne h k 0 h2 (by decide) (by omega))]; exact h.2.1 k h1 h2, h.2.2⟩
set_option maxHeartbeats 4000000 in
set_option maxRecDepth 100000 in
theorem c_X5_in (l : Launch) (G : gT) (w : wT) (x a b : Int32) : Met l yX5_in wsX5_in ({ frames := 0, cells := 0, slots := 0, locals := 0 }) (va_Pc [.int x, .int a, .int b] (wG G w)) (Qi G (fun r w' => w' = w ∧ r = bI (a.toInt ≤ x.toInt ∧ x.toInt ≤ b.toInt))) 0 0 (fr G) := by
  refine f_met (cc := cX5_in) (maxL := 3) (ret := (some .boolean)) (by decide) rfl rfl (Nat.le_of_ble_eq_true rfl) ?_
  intro p e s m below meth cd X hr hlk hnm Z ls hl
  have X : CallFix p m cd cX5_in 3 s [.int x, .int a, .int b].toArray wsX5_in RX5 := X
  have hl : lV ls _ [some (.int x), some (.int a), some (.int b)] := hl
  refine f_iload X hl ⟨_, rfl, dX5_in_0⟩ rfl ?_
  refine f_iload X hl ⟨_, rfl, dX5_in_1⟩ rfl ?_
  refine lv_icmp_lt (tgt := 14) X.1 X.2.1 dX5_in_2 (by decide) (fun c2 => ?_) (fun c2 => ?_)
  · refine lv_iconst (v := 0) X.1 X.2.1 dX5_in_14 (by decide) ?_
    exact f_zret X hr hlk Z (Nat.le_of_ble_eq_true rfl) (Nat.le_of_ble_eq_true rfl) dX5_in_15 (by decide) ⟨rfl, by unfold bI; split <;> first | rfl | (exfalso; (try simp only [Int32.lt_iff_toInt_lt, Int32.le_iff_toInt_le, ← Int32.toInt_inj, ne_eq, kc_0, kc_1, kc_6] at *; omega))⟩
  · refine f_iload X hl ⟨_, rfl, dX5_in_5⟩ rfl ?_
    refine f_iload X hl ⟨_, rfl, dX5_in_6⟩ rfl ?_
    refine lv_icmp_gt (tgt := 14) X.1 X.2.1 dX5_in_7 (by decide) (fun c7 => ?_) (fun c7 => ?_)
    · refine lv_iconst (v := 0) X.1 X.2.1 dX5_in_14 (by decide) ?_
      exact f_zret X hr hlk Z (Nat.le_of_ble_eq_true rfl) (Nat.le_of_ble_eq_true rfl) dX5_in_15 (by decide) ⟨rfl, by unfold bI; split <;> first | rfl | (exfalso; (try simp only [Int32.lt_iff_toInt_lt, Int32.le_iff_toInt_le, ← Int32.toInt_inj, ne_eq, kc_0, kc_1, kc_6] at *; omega))⟩
    · refine lv_iconst (v := 1) X.1 X.2.1 dX5_in_10 (by decide) ?_
      refine lv_goto (tgt := 15) X.1 X.2.1 dX5_in_11 (by decide) ?_
      exact f_zret X hr hlk Z (Nat.le_of_ble_eq_true rfl) (Nat.le_of_ble_eq_true rfl) dX5_in_15 (by decide) ⟨rfl, by unfold bI; split <;> first | rfl | (exfalso; (try simp only [Int32.lt_iff_toInt_lt, Int32.le_iff_toInt_le, ← Int32.toInt_inj, ne_eq, kc_0, kc_1, kc_6] at *; omega))⟩
set_option maxHeartbeats 4000000 in
set_option maxRecDepth 100000 in
theorem c_X5_isTrack (l : Launch) (G : gT) (w : wT) (x : Int32) : Met l yX5_isTrack wsX5_isTrack ({ frames := 1, cells := 0, slots := 0, locals := 22 }) (va_Pc [.int x] (wG G w)) (Qi G (fun r w' => w' = w ∧ r = bI (0 ≤ x.toInt ∧ x.toInt < 6))) 0 0 (fr G) := by
  refine f_met (cc := cX5_isTrack) (maxL := 1) (ret := (some .boolean)) (by decide) rfl rfl (Nat.le_of_ble_eq_true rfl) ?_
  intro p e s m below meth cd X hr hlk hnm Z ls hl
  have X : CallFix p m cd cX5_isTrack 1 s [.int x].toArray wsX5_isTrack RX5 := X
  have hl : lV ls _ [some (.int x)] := hl
  refine f_iload X hl ⟨_, rfl, dX5_isTrack_0⟩ rfl ?_
  refine lv_iconst (v := 0) X.1 X.2.1 dX5_isTrack_1 (by decide) ?_
  refine lv_iconst (v := 5) X.1 X.2.1 dX5_isTrack_2 (by decide) ?_
  refine f_callSi (rest := []) X Z hl.1 (c_X5_in l G _ _ _ _) (va_cwS 3 X.2.2.2.2 gX5_isTrack_X5_in rfl rfl rfl (by decide +kernel) ⟨(Nat.le_of_ble_eq_true rfl), (Nat.le_of_ble_eq_true rfl)⟩) rfl dX5_isTrack_3 ⟨(Nat.le_of_ble_eq_true rfl), (Nat.le_of_ble_eq_true rfl)⟩ rfl (Nat.le_of_ble_eq_true rfl) (fun r3 w1 H locs p3 Z => ?_)
  obtain ⟨w1e, hr3⟩ := p3
  have w1e := w1e.symm
  subst w1e
  exact f_zret X hr hlk Z (Nat.le_of_ble_eq_true rfl) (Nat.le_of_ble_eq_true rfl) dX5_isTrack_6 (by rw [hr3]; exact bI_n) ⟨rfl, by rw [hr3]; unfold bI; rw [kc_0, kc_5]; split <;> split <;> first | rfl | (exfalso; omega)⟩
set_option maxHeartbeats 4000000 in
set_option maxRecDepth 100000 in
theorem c_X5_no (l : Launch) (G : gT) (w : wT) (tg : tT) (ad : Nat → Nat) (F : Nat → Nat → Int32) (sd na ro wi lv : Int32) (hM : MW G tg w ad F sd na ro wi lv) (k : Nat) (hk : k < 8) : Met l yX5_no wsX5_no ({ frames := 0, cells := 0, slots := 0, locals := 0 }) (va_Pc [.ref (ad 0), .int (nI k)] (wG G w)) (Qi G (fun r w' => r = -10 - nI k ∧ w' = va_up w (ad 11) (some (aI G 8 (upd (F 11) k (F 11 k + 1)))))) 0 0 (fr G) := by
  refine f_met (cc := cX5_no) (maxL := 2) (ret := (some .int)) (by decide) rfl rfl (Nat.le_of_ble_eq_true rfl) ?_
  intro p e s m below meth cd X hr hlk hnm Z ls hl
  have X : CallFix p m cd cX5_no 2 s [.ref (ad 0), .int (nI k)].toArray wsX5_no RX5 := X
  have hl : lV ls _ [some (.ref (ad 0)), some (.int (nI k))] := hl
  have i5 : ∀ w ∈ wsX50, w ∈ wsX5_no := by decide +kernel
  have km0 := hM.1
  have km1 : w (ad 1) = some (aI G 600 (F 1)) := hM.2.1 1 (by decide) (by decide)
  have km2 : w (ad 2) = some (aI G 600 (F 2)) := hM.2.1 2 (by decide) (by decide)
  have km3 : w (ad 3) = some (aI G 600 (F 3)) := hM.2.1 3 (by decide) (by decide)
  have km4 : w (ad 4) = some (aI G 600 (F 4)) := hM.2.1 4 (by decide) (by decide)
  have km5 : w (ad 5) = some (aI G 7200 (F 5)) := hM.2.1 5 (by decide) (by decide)
  have km6 : w (ad 6) = some (aI G 600 (F 6)) := hM.2.1 6 (by decide) (by decide)
  have km7 : w (ad 7) = some (aZ G 600 (F 7)) := hM.2.1 7 (by decide) (by decide)
  have km8 : w (ad 8) = some (aI G 6 (F 8)) := hM.2.1 8 (by decide) (by decide)
  have km9 : w (ad 9) = some (aI G 12 (F 9)) := hM.2.1 9 (by decide) (by decide)
  have km10 : w (ad 10) = some (aI G 144 (F 10)) := hM.2.1 10 (by decide) (by decide)
  have km11 : w (ad 11) = some (aI G 8 (F 11)) := hM.2.1 11 (by decide) (by decide)
  refine f_aload (v := .ref (ad 0)) X hl ⟨_, rfl, dX5_no_0⟩ rfl ⟨(some (ad 0)), rfl⟩ ?_
  refine f_get (v := .ref (ad 11)) (k := 15) X Z i5 rfl (by decide) (by decide +kernel) dX5_no_1 km0 rfl ?_
  refine f_iload X hl ⟨_, rfl, dX5_no_4⟩ rfl ?_
  refine lv_dup2_11 X.1 X.2.1 dX5_no_5 rfl rfl ?_
  refine f_iald X Z dX5_no_6 km11 (vp_in_nI hk (by omega)) ?_
  refine lv_iconst (v := 1) X.1 X.2.1 dX5_no_7 (by decide) ?_
  refine lv_iadd X.1 X.2.1 dX5_no_8 ?_
  refine f_iast X Z dX5_no_9 km11 (vp_in_nI hk (by omega)) (fun H locs w1 e2 Z => ?_)
  have e2 : w1 = va_up w (ad 11) (some (aI G 8 (upd (F 11) (nI k).toNatClampNeg (((F 11) (nI k).toNatClampNeg) + 1)))) := e2
  have k3 : w1 (ad 0) = some (cMo (some (ad 1)) (some (ad 2)) (some (ad 3)) (some (ad 4)) (some (ad 5)) (some (ad 6)) (some (ad 7)) (some (ad 8)) sd na (some (ad 9)) ro wi (some (ad 10)) lv (some (ad 11))) := by rw [e2]; exact lk_ne (adne hM 0 11 (by decide) (by decide) (by decide)) km0
  have k4 : w1 (ad 1) = some (aI G 600 (F 1)) := by rw [e2]; exact lk_ne (adne hM 1 11 (by decide) (by decide) (by decide)) km1
  have k5 : w1 (ad 2) = some (aI G 600 (F 2)) := by rw [e2]; exact lk_ne (adne hM 2 11 (by decide) (by decide) (by decide)) km2
  have k6 : w1 (ad 3) = some (aI G 600 (F 3)) := by rw [e2]; exact lk_ne (adne hM 3 11 (by decide) (by decide) (by decide)) km3
  have k7 : w1 (ad 4) = some (aI G 600 (F 4)) := by rw [e2]; exact lk_ne (adne hM 4 11 (by decide) (by decide) (by decide)) km4
  have k8 : w1 (ad 5) = some (aI G 7200 (F 5)) := by rw [e2]; exact lk_ne (adne hM 5 11 (by decide) (by decide) (by decide)) km5
  have k9 : w1 (ad 6) = some (aI G 600 (F 6)) := by rw [e2]; exact lk_ne (adne hM 6 11 (by decide) (by decide) (by decide)) km6
  have k10 : w1 (ad 7) = some (aZ G 600 (F 7)) := by rw [e2]; exact lk_ne (adne hM 7 11 (by decide) (by decide) (by decide)) km7
  have k11 : w1 (ad 8) = some (aI G 6 (F 8)) := by rw [e2]; exact lk_ne (adne hM 8 11 (by decide) (by decide) (by decide)) km8
  have k12 : w1 (ad 9) = some (aI G 12 (F 9)) := by rw [e2]; exact lk_ne (adne hM 9 11 (by decide) (by decide) (by decide)) km9
  have k13 : w1 (ad 10) = some (aI G 144 (F 10)) := by rw [e2]; exact lk_ne (adne hM 10 11 (by decide) (by decide) (by decide)) km10
  have k14 : w1 (ad 11) = some (aI G 8 (upd (F 11) (nI k).toNatClampNeg (((F 11) (nI k).toNatClampNeg) + 1))) := by rw [e2]; exact up_eq
  refine lv_bipush (v := (-10)) X.1 X.2.1 dX5_no_10 (by decide) ?_
  refine f_iload X hl ⟨_, rfl, dX5_no_12⟩ rfl ?_
  refine lv_isub X.1 X.2.1 dX5_no_13 ?_
  exact f_iret X hr hlk Z (Nat.le_of_ble_eq_true rfl) (Nat.le_of_ble_eq_true rfl) dX5_no_14 ⟨rfl, by rw [e2, nI_clamp (by omega)]⟩
set_option maxHeartbeats 4000000 in
set_option maxRecDepth 100000 in
theorem c_X5_countOf (l : Launch) (G : gT) (w : wT) (tg : tT) (ad : Nat → Nat) (F : Nat → Nat → Int32) (sd na ro wi lv : Int32) (hM : MW G tg w ad F sd na ro wi lv) (t0 : Int32) (t : Nat) (L : LV) (ht0 : t0.toNatClampNeg = t) (hin : vp_in t0 6) (hL : chM F t L) : Met l yX5_countOf wsX5_countOf ({ frames := 0, cells := 0, slots := 0, locals := 0 }) (va_Pc [.ref (ad 0), .int t0] (wG G w)) (Qi G (fun r w' => w' = w ∧ r = nI L.length)) 0 0 (fr G) := by
  refine f_met (cc := cX5_countOf) (maxL := 4) (ret := (some .int)) (by decide) rfl rfl (Nat.le_of_ble_eq_true rfl) ?_
  intro p e s m below meth cd X hr hlk hnm Z ls hl
  have X : CallFix p m cd cX5_countOf 4 s [.ref (ad 0), .int t0].toArray wsX5_countOf RX5 := X
  have hl : lV ls _ [some (.ref (ad 0)), some (.int t0), none, none] := hl
  have i5 : ∀ w ∈ wsX50, w ∈ wsX5_countOf := by decide +kernel
  have km0 := hM.1
  have km1 : w (ad 1) = some (aI G 600 (F 1)) := hM.2.1 1 (by decide) (by decide)
  have km2 : w (ad 2) = some (aI G 600 (F 2)) := hM.2.1 2 (by decide) (by decide)
  have km3 : w (ad 3) = some (aI G 600 (F 3)) := hM.2.1 3 (by decide) (by decide)
  have km4 : w (ad 4) = some (aI G 600 (F 4)) := hM.2.1 4 (by decide) (by decide)
  have km5 : w (ad 5) = some (aI G 7200 (F 5)) := hM.2.1 5 (by decide) (by decide)
  have km6 : w (ad 6) = some (aI G 600 (F 6)) := hM.2.1 6 (by decide) (by decide)
  have km7 : w (ad 7) = some (aZ G 600 (F 7)) := hM.2.1 7 (by decide) (by decide)
  have km8 : w (ad 8) = some (aI G 6 (F 8)) := hM.2.1 8 (by decide) (by decide)
  have km9 : w (ad 9) = some (aI G 12 (F 9)) := hM.2.1 9 (by decide) (by decide)
  have km10 : w (ad 10) = some (aI G 144 (F 10)) := hM.2.1 10 (by decide) (by decide)
  have km11 : w (ad 11) = some (aI G 8 (F 11)) := hM.2.1 11 (by decide) (by decide)
  refine lv_iconst (v := 0) X.1 X.2.1 dX5_countOf_0 (by decide) ?_
  refine f_istore X hl ⟨_, rfl, dX5_countOf_1⟩ (by decide) (fun ls hl => ?_)
  have hl : lV ls _ [some (.ref (ad 0)), some (.int t0), some (.int 0), none] := hl
  refine f_aload (v := .ref (ad 0)) X hl ⟨_, rfl, dX5_countOf_2⟩ rfl ⟨(some (ad 0)), rfl⟩ ?_
  refine f_get (v := .ref (ad 8)) (k := 7) X Z i5 rfl (by decide) (by decide +kernel) dX5_countOf_3 km0 rfl ?_
  refine f_iload X hl ⟨_, rfl, dX5_countOf_6⟩ rfl ?_
  refine f_iald X Z dX5_countOf_7 km8 hin ?_
  refine f_istore X hl ⟨_, rfl, dX5_countOf_8⟩ (by decide) (fun ls hl => ?_)
  have hl : lV ls _ [some (.ref (ad 0)), some (.int t0), some (.int 0), some (.int ((F 8) t0.toNatClampNeg))] := hl
  have hloop : ∀ (fu : Nat) (i : Nat) (x2 x3 : Int32), (x2 = nI i) → (x3 = enc (L[i]?.map Prod.fst)) → (i ≤ L.length) → (L.length < i + fu) → ∀ (H : Heap) (locs : List Loc) (ls : Array Slot), wZ G w s H locs → lV ls 4 [some (.ref (ad 0)), some (.int t0), some (.int x2), some (.int x3)] → W p l e ({ frames := 0, cells := 0, slots := 0, locals := 0 }) s m [.ref (ad 0), .int t0].toArray below meth cd H locs 0 0 (MQ below (Qi G (fun r w' => w' = w ∧ r = nI L.length)) [.ref (ad 0), .int t0].toArray s 0 0 (fr G)) (F0 m 9 ls []) := by
    clear hl Z
    intro fu
    induction fu with
    | zero => intro i x2 x3 hx2 hx3 hle hfu H locs ls Z hl; exact absurd hfu (by omega)
    | succ fu ih =>
      intro i x2 x3 hx2 hx3 hle hfu H locs ls Z hl
      refine f_iload X hl ⟨_, rfl, dX5_countOf_9⟩ rfl ?_
      refine lv_iconst (v := (-1)) X.1 X.2.1 dX5_countOf_10 (by decide) ?_
      refine lv_icmp_eq (tgt := 27) X.1 X.2.1 dX5_countOf_11 (by decide) (fun c11 => ?_) (fun c11 => ?_)
      · refine f_iload X hl ⟨_, rfl, dX5_countOf_27⟩ rfl ?_
        exact f_iret X hr hlk Z (Nat.le_of_ble_eq_true rfl) (Nat.le_of_ble_eq_true rfl) dX5_countOf_28 ⟨rfl, by rw [hx2, show i = L.length from by have := enc_end hx3 c11 (fun v d h => (hL.2.2 i v d h).1); omega]⟩
      · obtain ⟨v, d, hLi, hx3v⟩ := enc_at hx3 c11
        refine f_iinc (v := 1) X hl dX5_countOf_14 (by decide) rfl (by decide) (fun ls hl => ?_)
        have hl : lV ls _ [some (.ref (ad 0)), some (.int t0), some (.int (x2 + 1)), some (.int x3)] := hl
        refine f_aload (v := .ref (ad 0)) X hl ⟨_, rfl, dX5_countOf_17⟩ rfl ⟨(some (ad 0)), rfl⟩ ?_
        refine f_get (v := .ref (ad 6)) (k := 5) X Z i5 rfl (by decide) (by decide +kernel) dX5_countOf_18 km0 rfl ?_
        refine f_iload X hl ⟨_, rfl, dX5_countOf_21⟩ rfl ?_
        refine f_iald X Z dX5_countOf_22 km6 (by rw [hx3v]; exact vp_in_nI (hL.2.2 i v d hLi).1 (by decide)) ?_
        refine f_istore X hl ⟨_, rfl, dX5_countOf_23⟩ (by decide) (fun ls hl => ?_)
        have hl : lV ls _ [some (.ref (ad 0)), some (.int t0), some (.int (x2 + 1)), some (.int ((F 6) x3.toNatClampNeg))] := hl
        refine lv_goto (tgt := 9) X.1 X.2.1 dX5_countOf_24 (by decide) ?_
        exact ih (i + 1) _ _ (by rw [hx2]; exact nI_1 i) (by rw [hx3v, nI_clamp (by have := (hL.2.2 i v d hLi).1; omega)]; exact (hL.2.2 i v d hLi).2) (by have := (List.getElem?_eq_some_iff.mp hLi).1; omega) (by omega) _ _ _ Z hl
  exact hloop (L.length + 1) 0 _ _ nI_0.symm (by rw [ht0]; exact hL.1) (Nat.zero_le _) (by omega) _ _ _ Z hl
set_option maxHeartbeats 4000000 in
set_option maxRecDepth 100000 in
theorem c_X5_at (l : Launch) (G : gT) (w : wT) (tg : tT) (ad : Nat → Nat) (F : Nat → Nat → Int32) (sd na ro wi lv : Int32) (hM : MW G tg w ad F sd na ro wi lv) (t0 k : Int32) (t : Nat) (L : LV) (ht0 : t0.toNatClampNeg = t) (hin : vp_in t0 6) (hL : chM F t L) (hk : 0 ≤ k.toInt) : Met l yX5_at wsX5_at ({ frames := 0, cells := 0, slots := 0, locals := 0 }) (va_Pc [.ref (ad 0), .int t0, .int k] (wG G w)) (Qi G (fun r w' => w' = w ∧ r = enc ((L[k.toNatClampNeg]?).map Prod.fst))) 0 0 (fr G) := by
  refine f_met (cc := cX5_at) (maxL := 5) (ret := (some .int)) (by decide) rfl rfl (Nat.le_of_ble_eq_true rfl) ?_
  intro p e s m below meth cd X hr hlk hnm Z ls hl
  have X : CallFix p m cd cX5_at 5 s [.ref (ad 0), .int t0, .int k].toArray wsX5_at RX5 := X
  have hl : lV ls _ [some (.ref (ad 0)), some (.int t0), some (.int k), none, none] := hl
  have i5 : ∀ w ∈ wsX50, w ∈ wsX5_at := by decide +kernel
  have km0 := hM.1
  have km1 : w (ad 1) = some (aI G 600 (F 1)) := hM.2.1 1 (by decide) (by decide)
  have km2 : w (ad 2) = some (aI G 600 (F 2)) := hM.2.1 2 (by decide) (by decide)
  have km3 : w (ad 3) = some (aI G 600 (F 3)) := hM.2.1 3 (by decide) (by decide)
  have km4 : w (ad 4) = some (aI G 600 (F 4)) := hM.2.1 4 (by decide) (by decide)
  have km5 : w (ad 5) = some (aI G 7200 (F 5)) := hM.2.1 5 (by decide) (by decide)
  have km6 : w (ad 6) = some (aI G 600 (F 6)) := hM.2.1 6 (by decide) (by decide)
  have km7 : w (ad 7) = some (aZ G 600 (F 7)) := hM.2.1 7 (by decide) (by decide)
  have km8 : w (ad 8) = some (aI G 6 (F 8)) := hM.2.1 8 (by decide) (by decide)
  have km9 : w (ad 9) = some (aI G 12 (F 9)) := hM.2.1 9 (by decide) (by decide)
  have km10 : w (ad 10) = some (aI G 144 (F 10)) := hM.2.1 10 (by decide) (by decide)
  have km11 : w (ad 11) = some (aI G 8 (F 11)) := hM.2.1 11 (by decide) (by decide)
  obtain ⟨kn, hkn, hkk⟩ := nI_of (x := k) (by rw [Int32.lt_iff_toInt_lt, kc_0]; omega)
  have hkt : k.toNatClampNeg = kn := by rw [hkk, nI_clamp hkn]
  refine f_aload (v := .ref (ad 0)) X hl ⟨_, rfl, dX5_at_0⟩ rfl ⟨(some (ad 0)), rfl⟩ ?_
  refine f_get (v := .ref (ad 8)) (k := 7) X Z i5 rfl (by decide) (by decide +kernel) dX5_at_1 km0 rfl ?_
  refine f_iload X hl ⟨_, rfl, dX5_at_4⟩ rfl ?_
  refine f_iald X Z dX5_at_5 km8 hin ?_
  refine f_istore X hl ⟨_, rfl, dX5_at_6⟩ (by decide) (fun ls hl => ?_)
  have hl : lV ls _ [some (.ref (ad 0)), some (.int t0), some (.int k), some (.int ((F 8) t0.toNatClampNeg)), none] := hl
  refine f_iload X hl ⟨_, rfl, dX5_at_7⟩ rfl ?_
  refine f_istore2 X hl dX5_at_8 (by decide) (fun ls hl => ?_)
  have hl : lV ls _ [some (.ref (ad 0)), some (.int t0), some (.int k), some (.int ((F 8) t0.toNatClampNeg)), some (.int k)] := hl
  have hloop : ∀ (fu : Nat) (i : Nat) (x3 x4 : Int32), (x3 = enc (L[i]?.map Prod.fst)) → (x4 = nI (kn - i)) → (i ≤ kn) → (kn < i + fu) → ∀ (H : Heap) (locs : List Loc) (ls : Array Slot), wZ G w s H locs → lV ls 5 [some (.ref (ad 0)), some (.int t0), some (.int k), some (.int x3), some (.int x4)] → W p l e ({ frames := 0, cells := 0, slots := 0, locals := 0 }) s m [.ref (ad 0), .int t0, .int k].toArray below meth cd H locs 0 0 (MQ below (Qi G (fun r w' => w' = w ∧ r = enc ((L[k.toNatClampNeg]?).map Prod.fst))) [.ref (ad 0), .int t0, .int k].toArray s 0 0 (fr G)) (F0 m 10 ls []) := by
    clear hl Z
    intro fu
    induction fu with
    | zero => intro i x3 x4 hx3 hx4 hle hfu H locs ls Z hl; exact absurd hfu (by omega)
    | succ fu ih =>
      intro i x3 x4 hx3 hx4 hle hfu H locs ls Z hl
      refine f_iload X hl ⟨_, rfl, dX5_at_10⟩ rfl ?_
      refine lv_iconst (v := (-1)) X.1 X.2.1 dX5_at_11 (by decide) ?_
      refine lv_icmp_eq (tgt := 33) X.1 X.2.1 dX5_at_12 (by decide) (fun c12 => ?_) (fun c12 => ?_)
      · refine f_iload X hl ⟨_, rfl, dX5_at_33⟩ rfl ?_
        exact f_iret X hr hlk Z (Nat.le_of_ble_eq_true rfl) (Nat.le_of_ble_eq_true rfl) dX5_at_34 ⟨rfl, by rw [hkt, List.getElem?_eq_none (Nat.le_trans (enc_end hx3 c12 (fun v d h => (hL.2.2 i v d h).1)) hle), c12]; rfl⟩
      · obtain ⟨v, d, hLi, hx3v⟩ := enc_at hx3 c12
        refine f_iload2 X hl dX5_at_15 rfl ?_
        refine lv_if_le (tgt := 33) X.1 X.2.1 dX5_at_17 (by decide) (fun c17 => ?_) (fun c17 => ?_)
        · refine f_iload X hl ⟨_, rfl, dX5_at_33⟩ rfl ?_
          exact f_iret X hr hlk Z (Nat.le_of_ble_eq_true rfl) (Nat.le_of_ble_eq_true rfl) dX5_at_34 ⟨rfl, by rw [hkt, hx3, show i = kn from by have q := c17; rw [hx4, Int32.le_iff_toInt_le, kc_0, nI_toInt (by omega)] at q; omega]⟩
        · have hik : i < kn := by
            rcases Nat.lt_or_ge i kn with q | q
            · exact q
            · exact absurd (by rw [hx4, show kn - i = 0 by omega, nI_0]; decide) c17
          refine f_aload (v := .ref (ad 0)) X hl ⟨_, rfl, dX5_at_20⟩ rfl ⟨(some (ad 0)), rfl⟩ ?_
          refine f_get (v := .ref (ad 6)) (k := 5) X Z i5 rfl (by decide) (by decide +kernel) dX5_at_21 km0 rfl ?_
          refine f_iload X hl ⟨_, rfl, dX5_at_24⟩ rfl ?_
          refine f_iald X Z dX5_at_25 km6 (by rw [hx3v]; exact vp_in_nI (hL.2.2 i v d hLi).1 (by decide)) ?_
          refine f_istore X hl ⟨_, rfl, dX5_at_26⟩ (by decide) (fun ls hl => ?_)
          have hl : lV ls _ [some (.ref (ad 0)), some (.int t0), some (.int k), some (.int ((F 6) x3.toNatClampNeg)), some (.int x4)] := hl
          refine f_iinc (v := -1) X hl dX5_at_27 (by decide) rfl (by decide) (fun ls hl => ?_)
          have hl : lV ls _ [some (.ref (ad 0)), some (.int t0), some (.int k), some (.int ((F 6) x3.toNatClampNeg)), some (.int (x4 + (-1)))] := hl
          refine lv_goto (tgt := 10) X.1 X.2.1 dX5_at_30 (by decide) ?_
          exact ih (i + 1) _ _ (by rw [hx3v, nI_clamp (by have := (hL.2.2 i v d hLi).1; omega)]; exact (hL.2.2 i v d hLi).2) (by rw [hx4, show kn - i = (kn - (i + 1)) + 1 by omega]; exact pk_m1 _) (by omega) (by omega) _ _ _ Z hl
  exact hloop (kn + 1) 0 _ _ (by rw [ht0]; exact hL.1) hkk (Nat.zero_le _) (by omega) _ _ _ Z hl
set_option maxHeartbeats 4000000 in
set_option maxRecDepth 100000 in
theorem c_X5_loadOf (l : Launch) (G : gT) (w : wT) (tg : tT) (ad : Nat → Nat) (F : Nat → Nat → Int32) (sd na ro wi lv : Int32) (hM : MW G tg w ad F sd na ro wi lv) (v : Nat) (d : VR) (hv6 : v < 600) (hwe : F 2 v = d.2.1) (hcr : crM F v d.2.2.2) : Met l yX5_loadOf wsX5_loadOf ({ frames := 0, cells := 0, slots := 0, locals := 0 }) (va_Pc [.ref (ad 0), .int (nI v)] (wG G w)) (Qi G (fun r w' => w' = w ∧ r = ldOf d.2.1 d.2.2.2)) 0 0 (fr G) := by
  refine f_met (cc := cX5_loadOf) (maxL := 4) (ret := (some .int)) (by decide) rfl rfl (Nat.le_of_ble_eq_true rfl) ?_
  intro p e s m below meth cd X hr hlk hnm Z ls hl
  have X : CallFix p m cd cX5_loadOf 4 s [.ref (ad 0), .int (nI v)].toArray wsX5_loadOf RX5 := X
  have hl : lV ls _ [some (.ref (ad 0)), some (.int (nI v)), none, none] := hl
  have i5 : ∀ w ∈ wsX50, w ∈ wsX5_loadOf := by decide +kernel
  have km0 := hM.1
  have km1 : w (ad 1) = some (aI G 600 (F 1)) := hM.2.1 1 (by decide) (by decide)
  have km2 : w (ad 2) = some (aI G 600 (F 2)) := hM.2.1 2 (by decide) (by decide)
  have km3 : w (ad 3) = some (aI G 600 (F 3)) := hM.2.1 3 (by decide) (by decide)
  have km4 : w (ad 4) = some (aI G 600 (F 4)) := hM.2.1 4 (by decide) (by decide)
  have km5 : w (ad 5) = some (aI G 7200 (F 5)) := hM.2.1 5 (by decide) (by decide)
  have km6 : w (ad 6) = some (aI G 600 (F 6)) := hM.2.1 6 (by decide) (by decide)
  have km7 : w (ad 7) = some (aZ G 600 (F 7)) := hM.2.1 7 (by decide) (by decide)
  have km8 : w (ad 8) = some (aI G 6 (F 8)) := hM.2.1 8 (by decide) (by decide)
  have km9 : w (ad 9) = some (aI G 12 (F 9)) := hM.2.1 9 (by decide) (by decide)
  have km10 : w (ad 10) = some (aI G 144 (F 10)) := hM.2.1 10 (by decide) (by decide)
  have km11 : w (ad 11) = some (aI G 8 (F 11)) := hM.2.1 11 (by decide) (by decide)
  obtain ⟨nn, f, hnn, hld, hcmp, hcf⟩ := crM_n d.2.1 hcr
  have hcl : (nI v).toNatClampNeg = v := nI_clamp (by omega)
  refine f_aload (v := .ref (ad 0)) X hl ⟨_, rfl, dX5_loadOf_0⟩ rfl ⟨(some (ad 0)), rfl⟩ ?_
  refine f_get (v := .ref (ad 2)) (k := 1) X Z i5 rfl (by decide) (by decide +kernel) dX5_loadOf_1 km0 rfl ?_
  refine f_iload X hl ⟨_, rfl, dX5_loadOf_4⟩ rfl ?_
  refine f_iald X Z dX5_loadOf_5 km2 (vp_in_nI hv6 (by decide)) ?_
  refine f_istore X hl ⟨_, rfl, dX5_loadOf_6⟩ (by decide) (fun ls hl => ?_)
  have hl : lV ls _ [some (.ref (ad 0)), some (.int (nI v)), some (.int ((F 2) (nI v).toNatClampNeg)), none] := hl
  refine lv_iconst (v := 0) X.1 X.2.1 dX5_loadOf_7 (by decide) ?_
  refine f_istore X hl ⟨_, rfl, dX5_loadOf_8⟩ (by decide) (fun ls hl => ?_)
  have hl : lV ls _ [some (.ref (ad 0)), some (.int (nI v)), some (.int ((F 2) (nI v).toNatClampNeg)), some (.int 0)] := hl
  have hloop : ∀ (fu : Nat) (i : Nat) (x2 x3 : Int32), (x3 = nI i) → (x2 = sumTo d.2.1 f i) → (i ≤ nn) → (nn < i + fu) → ∀ (H : Heap) (locs : List Loc) (ls : Array Slot), wZ G w s H locs → lV ls 4 [some (.ref (ad 0)), some (.int (nI v)), some (.int x2), some (.int x3)] → W p l e ({ frames := 0, cells := 0, slots := 0, locals := 0 }) s m [.ref (ad 0), .int (nI v)].toArray below meth cd H locs 0 0 (MQ below (Qi G (fun r w' => w' = w ∧ r = ldOf d.2.1 d.2.2.2)) [.ref (ad 0), .int (nI v)].toArray s 0 0 (fr G)) (F0 m 9 ls []) := by
    clear hl Z
    intro fu
    induction fu with
    | zero => intro i x2 x3 hx3 hx2 hle hfu H locs ls Z hl; exact absurd hfu (by omega)
    | succ fu ih =>
      intro i x2 x3 hx3 hx2 hle hfu H locs ls Z hl
      refine f_iload X hl ⟨_, rfl, dX5_loadOf_9⟩ rfl ?_
      refine f_aload (v := .ref (ad 0)) X hl ⟨_, rfl, dX5_loadOf_10⟩ rfl ⟨(some (ad 0)), rfl⟩ ?_
      refine f_get (v := .ref (ad 4)) (k := 3) X Z i5 rfl (by decide) (by decide +kernel) dX5_loadOf_11 km0 rfl ?_
      refine f_iload X hl ⟨_, rfl, dX5_loadOf_14⟩ rfl ?_
      refine f_iald X Z dX5_loadOf_15 km4 (vp_in_nI hv6 (by decide)) ?_
      refine lv_icmp_ge (tgt := 39) X.1 X.2.1 dX5_loadOf_16 (by decide) (fun c16 => ?_) (fun c16 => ?_)
      · refine f_iload X hl ⟨_, rfl, dX5_loadOf_39⟩ rfl ?_
        exact f_iret X hr hlk Z (Nat.le_of_ble_eq_true rfl) (Nat.le_of_ble_eq_true rfl) dX5_loadOf_40 ⟨rfl, by rw [hld, hx2, show i = nn from by have q := c16; rw [hx3, hcl] at q; have := (hcmp i (by omega)).mp q; omega]⟩
      · have hin : i < nn := by
          rcases Nat.lt_or_ge i nn with q | q
          · exact q
          · exact absurd (by rw [hx3, hcl]; exact (hcmp i (by omega)).mpr q) c16
        refine f_iload X hl ⟨_, rfl, dX5_loadOf_19⟩ rfl ?_
        refine f_aload (v := .ref (ad 0)) X hl ⟨_, rfl, dX5_loadOf_20⟩ rfl ⟨(some (ad 0)), rfl⟩ ?_
        refine f_get (v := .ref (ad 5)) (k := 4) X Z i5 rfl (by decide) (by decide +kernel) dX5_loadOf_21 km0 rfl ?_
        refine lv_bipush (v := 12) X.1 X.2.1 dX5_loadOf_24 (by decide) ?_
        refine f_iload X hl ⟨_, rfl, dX5_loadOf_26⟩ rfl ?_
        refine lv_imul X.1 X.2.1 dX5_loadOf_27 ?_
        refine f_iload X hl ⟨_, rfl, dX5_loadOf_28⟩ rfl ?_
        refine lv_iadd X.1 X.2.1 dX5_loadOf_29 ?_
        refine f_iald X Z dX5_loadOf_30 km5 (by rw [hx3]; exact ix12_in hv6 (by omega)) ?_
        refine lv_iadd X.1 X.2.1 dX5_loadOf_31 ?_
        refine f_istore X hl ⟨_, rfl, dX5_loadOf_32⟩ (by decide) (fun ls hl => ?_)
        have hl : lV ls _ [some (.ref (ad 0)), some (.int (nI v)), some (.int (x2 + ((F 5) ((12 * (nI v)) + x3).toNatClampNeg))), some (.int x3)] := hl
        refine f_iinc (v := 1) X hl dX5_loadOf_33 (by decide) rfl (by decide) (fun ls hl => ?_)
        have hl : lV ls _ [some (.ref (ad 0)), some (.int (nI v)), some (.int (x2 + ((F 5) ((12 * (nI v)) + x3).toNatClampNeg))), some (.int (x3 + 1))] := hl
        refine lv_goto (tgt := 9) X.1 X.2.1 dX5_loadOf_36 (by decide) ?_
        exact ih (i + 1) _ _ (by rw [hx3]; exact nI_1 i) (by rw [hx2, hx3, ix12 hv6 (by omega), nI_clamp (by omega), hcf i hin]; rfl) (by omega) (by omega) _ _ _ Z hl
  exact hloop (nn + 1) 0 _ _ nI_0.symm (by rw [hcl]; exact hwe) (Nat.zero_le _) (by omega) _ _ _ Z hl
set_option maxHeartbeats 4000000 in
set_option maxRecDepth 100000 in
theorem c_X5_against (l : Launch) (G : gT) (w : wT) (tg : tT) (ad : Nat → Nat) (F : Nat → Nat → Int32) (sd na ro wi lv : Int32) (hM : MW G tg w ad F sd na ro wi lv) (v0 i : Int32) (od : Option VR) (hv : vM F v0 od) : Met l yX5_against wsX5_against ({ frames := 1, cells := 0, slots := 0, locals := 22 }) (va_Pc [.ref (ad 0), .int v0, .int i] (wG G w)) (Qi G (fun r w' => w' = w ∧ r = nI (whyC od i))) 0 0 (fr G) := by
  refine f_met (cc := cX5_against) (maxL := 3) (ret := (some .int)) (by decide) rfl rfl (Nat.le_of_ble_eq_true rfl) ?_
  intro p e s m below meth cd X hr hlk hnm Z ls hl
  have X : CallFix p m cd cX5_against 3 s [.ref (ad 0), .int v0, .int i].toArray wsX5_against RX5 := X
  have hl : lV ls _ [some (.ref (ad 0)), some (.int v0), some (.int i)] := hl
  have i5 : ∀ w ∈ wsX50, w ∈ wsX5_against := by decide +kernel
  have km0 := hM.1
  have km1 : w (ad 1) = some (aI G 600 (F 1)) := hM.2.1 1 (by decide) (by decide)
  have km2 : w (ad 2) = some (aI G 600 (F 2)) := hM.2.1 2 (by decide) (by decide)
  have km3 : w (ad 3) = some (aI G 600 (F 3)) := hM.2.1 3 (by decide) (by decide)
  have km4 : w (ad 4) = some (aI G 600 (F 4)) := hM.2.1 4 (by decide) (by decide)
  have km5 : w (ad 5) = some (aI G 7200 (F 5)) := hM.2.1 5 (by decide) (by decide)
  have km6 : w (ad 6) = some (aI G 600 (F 6)) := hM.2.1 6 (by decide) (by decide)
  have km7 : w (ad 7) = some (aZ G 600 (F 7)) := hM.2.1 7 (by decide) (by decide)
  have km8 : w (ad 8) = some (aI G 6 (F 8)) := hM.2.1 8 (by decide) (by decide)
  have km9 : w (ad 9) = some (aI G 12 (F 9)) := hM.2.1 9 (by decide) (by decide)
  have km10 : w (ad 10) = some (aI G 144 (F 10)) := hM.2.1 10 (by decide) (by decide)
  have km11 : w (ad 11) = some (aI G 8 (F 11)) := hM.2.1 11 (by decide) (by decide)
  refine f_iload X hl ⟨_, rfl, dX5_against_0⟩ rfl ?_
  refine lv_iconst (v := (-1)) X.1 X.2.1 dX5_against_1 (by decide) ?_
  refine lv_icmp_ne (tgt := 7) X.1 X.2.1 dX5_against_2 (by decide) (fun c2 => ?_) (fun c2 => ?_)
  · obtain ⟨v, d, bh, hv0, hod, hp⟩ := vM_some hv c2
    subst hv0
    subst hod
    obtain ⟨hv6, hso, -, -, hcr, -, -⟩ := hp
    have hcl : (nI v).toNatClampNeg = v := nI_clamp (by omega)
    refine f_aload (v := .ref (ad 0)) X hl ⟨_, rfl, dX5_against_7⟩ rfl ⟨(some (ad 0)), rfl⟩ ?_
    refine f_get (v := .ref (ad 1)) (k := 0) X Z i5 rfl (by decide) (by decide +kernel) dX5_against_8 km0 rfl ?_
    refine f_iload X hl ⟨_, rfl, dX5_against_11⟩ rfl ?_
    refine f_iald X Z dX5_against_12 km1 (vp_in_nI hv6 (by decide)) ?_
    refine lv_iconst (v := 1) X.1 X.2.1 dX5_against_13 (by decide) ?_
    refine lv_icmp_ne (tgt := 21) X.1 X.2.1 dX5_against_14 (by decide) (fun c14 => ?_) (fun c14 => ?_)
    · rw [hcl, hso] at c14
      have hne : ¬ d.1.toInt = 1 := fun z => c14 (Int32.toInt_inj.mp z)
      refine f_aload (v := .ref (ad 0)) X hl ⟨_, rfl, dX5_against_21⟩ rfl ⟨(some (ad 0)), rfl⟩ ?_
      refine f_get (v := .ref (ad 4)) (k := 3) X Z i5 rfl (by decide) (by decide +kernel) dX5_against_22 km0 rfl ?_
      refine f_iload X hl ⟨_, rfl, dX5_against_25⟩ rfl ?_
      refine f_iald X Z dX5_against_26 km4 (vp_in_nI hv6 (by decide)) ?_
      refine lv_iconst (v := (-1)) X.1 X.2.1 dX5_against_27 (by decide) ?_
      refine lv_icmp_ne (tgt := 35) X.1 X.2.1 dX5_against_28 (by decide) (fun c28 => ?_) (fun c28 => ?_)
      · rw [hcl] at c28
        obtain ⟨n, f, hcd, h4n, hn12⟩ : ∃ n f, d.2.2.2 = some (n, f) ∧ F 4 v = nI n ∧ n ≤ 12 := by
          cases hq : d.2.2.2 with
          | none => rw [hq] at hcr; exact absurd hcr c28
          | some q => rw [hq] at hcr; exact ⟨q.1, q.2, rfl, hcr.1, hcr.2.1⟩
        refine f_iload X hl ⟨_, rfl, dX5_against_35⟩ rfl ?_
        refine lv_iconst (v := 0) X.1 X.2.1 dX5_against_36 (by decide) ?_
        refine f_aload (v := .ref (ad 0)) X hl ⟨_, rfl, dX5_against_37⟩ rfl ⟨(some (ad 0)), rfl⟩ ?_
        refine f_get (v := .ref (ad 4)) (k := 3) X Z i5 rfl (by decide) (by decide +kernel) dX5_against_38 km0 rfl ?_
        refine f_iload X hl ⟨_, rfl, dX5_against_41⟩ rfl ?_
        refine f_iald X Z dX5_against_42 km4 (vp_in_nI hv6 (by decide)) ?_
        refine lv_iconst (v := 1) X.1 X.2.1 dX5_against_43 (by decide) ?_
        refine lv_isub X.1 X.2.1 dX5_against_44 ?_
        refine f_callSi (rest := []) X Z hl.1 (c_X5_in l G _ _ _ _) (va_cwS 3 X.2.2.2.2 gX5_against_X5_in rfl rfl rfl (by decide +kernel) ⟨(Nat.le_of_ble_eq_true rfl), (Nat.le_of_ble_eq_true rfl)⟩) rfl dX5_against_45 ⟨(Nat.le_of_ble_eq_true rfl), (Nat.le_of_ble_eq_true rfl)⟩ rfl (Nat.le_of_ble_eq_true rfl) (fun r45 w1 H locs p45 Z => ?_)
        obtain ⟨w1e, hr45⟩ := p45
        have w1e := w1e.symm
        subst w1e
        refine lv_if_eq (tgt := 55) X.1 X.2.1 dX5_against_48 (by decide) (fun c48 => ?_) (fun c48 => ?_)
        · rw [hr45, bI_0] at c48
          rw [hcl, h4n, n1_toInt hn12, kc_0] at c48
          refine lv_iconst (v := 5) X.1 X.2.1 dX5_against_55 (by decide) ?_
          exact f_iret X hr hlk Z (Nat.le_of_ble_eq_true rfl) (Nat.le_of_ble_eq_true rfl) dX5_against_56 ⟨rfl, by simp only [whyC, if_neg hne, hcd]; rw [if_neg (by omega)]; rfl⟩
        · rw [hr45, bI_0, Classical.not_not] at c48
          rw [hcl, h4n, n1_toInt hn12, kc_0] at c48
          refine lv_iconst (v := 0) X.1 X.2.1 dX5_against_51 (by decide) ?_
          refine lv_goto (tgt := 56) X.1 X.2.1 dX5_against_52 (by decide) ?_
          exact f_iret X hr hlk Z (Nat.le_of_ble_eq_true rfl) (Nat.le_of_ble_eq_true rfl) dX5_against_56 ⟨rfl, by simp only [whyC, if_neg hne, hcd]; rw [if_pos (by omega)]; rfl⟩
      · rw [hcl] at c28
        have hcd : d.2.2.2 = none := by
          cases hq : d.2.2.2 with
          | none => rfl
          | some q => rw [hq] at hcr; exact absurd (hcr.1.symm.trans c28) (enc_ne (by have := hcr.2.1; omega))
        refine lv_iconst (v := 1) X.1 X.2.1 dX5_against_31 (by decide) ?_
        refine lv_goto (tgt := 56) X.1 X.2.1 dX5_against_32 (by decide) ?_
        exact f_iret X hr hlk Z (Nat.le_of_ble_eq_true rfl) (Nat.le_of_ble_eq_true rfl) dX5_against_56 ⟨rfl, by simp only [whyC, if_neg hne, hcd]; rfl⟩
    · rw [hcl, hso] at c14
      refine lv_iconst (v := 2) X.1 X.2.1 dX5_against_17 (by decide) ?_
      refine lv_goto (tgt := 56) X.1 X.2.1 dX5_against_18 (by decide) ?_
      exact f_iret X hr hlk Z (Nat.le_of_ble_eq_true rfl) (Nat.le_of_ble_eq_true rfl) dX5_against_56 ⟨rfl, by simp only [whyC, c14, kc_1, if_pos]; rfl⟩
  · have ho := vM_none hv c2; subst ho
    refine lv_iconst (v := 1) X.1 X.2.1 dX5_against_5 (by decide) ?_
    exact f_iret X hr hlk Z (Nat.le_of_ble_eq_true rfl) (Nat.le_of_ble_eq_true rfl) dX5_against_6 ⟨rfl, rfl⟩
set_option maxHeartbeats 4000000 in
set_option maxRecDepth 100000 in
theorem c_X5_reported (l : Launch) (G : gT) (w : wT) (tg : tT) (ad : Nat → Nat) (F : Nat → Nat → Int32) (sd na ro wi lv : Int32) (hM : MW G tg w ad F sd na ro wi lv) (v : Nat) (hv6 : v < 600) : Met l yX5_reported wsX5_reported ({ frames := 1, cells := 0, slots := 0, locals := 21 }) (va_Pc [.ref (ad 0), .int (nI v)] (wG G w)) (Qi G (fun r w' => r = -10 - nI 7 ∧ w' = va_up (va_up w (ad 0) (some (cMo (some (ad 1)) (some (ad 2)) (some (ad 3)) (some (ad 4)) (some (ad 5)) (some (ad 6)) (some (ad 7)) (some (ad 8)) sd na (some (ad 9)) ro wi (some (ad 10)) (F 3 v) (some (ad 11))))) (ad 11) (some (aI G 8 (upd (F 11) 7 (F 11 7 + 1)))))) 0 0 (fr G) := by
  refine f_met (cc := cX5_reported) (maxL := 2) (ret := (some .int)) (by decide) rfl rfl (Nat.le_of_ble_eq_true rfl) ?_
  intro p e s m below meth cd X hr hlk hnm Z ls hl
  have X : CallFix p m cd cX5_reported 2 s [.ref (ad 0), .int (nI v)].toArray wsX5_reported RX5 := X
  have hl : lV ls _ [some (.ref (ad 0)), some (.int (nI v))] := hl
  have i5 : ∀ w ∈ wsX50, w ∈ wsX5_reported := by decide +kernel
  have km0 := hM.1
  have km1 : w (ad 1) = some (aI G 600 (F 1)) := hM.2.1 1 (by decide) (by decide)
  have km2 : w (ad 2) = some (aI G 600 (F 2)) := hM.2.1 2 (by decide) (by decide)
  have km3 : w (ad 3) = some (aI G 600 (F 3)) := hM.2.1 3 (by decide) (by decide)
  have km4 : w (ad 4) = some (aI G 600 (F 4)) := hM.2.1 4 (by decide) (by decide)
  have km5 : w (ad 5) = some (aI G 7200 (F 5)) := hM.2.1 5 (by decide) (by decide)
  have km6 : w (ad 6) = some (aI G 600 (F 6)) := hM.2.1 6 (by decide) (by decide)
  have km7 : w (ad 7) = some (aZ G 600 (F 7)) := hM.2.1 7 (by decide) (by decide)
  have km8 : w (ad 8) = some (aI G 6 (F 8)) := hM.2.1 8 (by decide) (by decide)
  have km9 : w (ad 9) = some (aI G 12 (F 9)) := hM.2.1 9 (by decide) (by decide)
  have km10 : w (ad 10) = some (aI G 144 (F 10)) := hM.2.1 10 (by decide) (by decide)
  have km11 : w (ad 11) = some (aI G 8 (F 11)) := hM.2.1 11 (by decide) (by decide)
  have hcl : (nI v).toNatClampNeg = v := nI_clamp (by omega)
  refine f_aload (v := .ref (ad 0)) X hl ⟨_, rfl, dX5_reported_0⟩ rfl ⟨(some (ad 0)), rfl⟩ ?_
  refine f_aload (v := .ref (ad 0)) X hl ⟨_, rfl, dX5_reported_1⟩ rfl ⟨(some (ad 0)), rfl⟩ ?_
  refine f_get (v := .ref (ad 3)) (k := 2) X Z i5 rfl (by decide) (by decide +kernel) dX5_reported_2 km0 rfl ?_
  refine f_iload X hl ⟨_, rfl, dX5_reported_5⟩ rfl ?_
  refine f_iald X Z dX5_reported_6 km3 (vp_in_nI hv6 (by decide)) ?_
  rw [hcl]
  refine f_put (v := .int (F 3 v)) (ty0 := tyX5) (k := 14) X Z i5 tyX5_ok nmX5 rfl (by decide) (by decide +kernel) rfl dX5_reported_7 km0 rfl rfl (Nat.le_of_ble_eq_true rfl) (fun H locs w1 e2 Z => ?_)
  have e2 : w1 = va_up w (ad 0) (some (cMo (some (ad 1)) (some (ad 2)) (some (ad 3)) (some (ad 4)) (some (ad 5)) (some (ad 6)) (some (ad 7)) (some (ad 8)) sd na (some (ad 9)) ro wi (some (ad 10)) (F 3 v) (some (ad 11)))) := e2
  have k3 : w1 (ad 1) = some (aI G 600 (F 1)) := by rw [e2]; exact lk_ne (adne hM 1 0 (by decide) (by decide) (by decide)) km1
  have k4 : w1 (ad 2) = some (aI G 600 (F 2)) := by rw [e2]; exact lk_ne (adne hM 2 0 (by decide) (by decide) (by decide)) km2
  have k5 : w1 (ad 3) = some (aI G 600 (F 3)) := by rw [e2]; exact lk_ne (adne hM 3 0 (by decide) (by decide) (by decide)) km3
  have k6 : w1 (ad 4) = some (aI G 600 (F 4)) := by rw [e2]; exact lk_ne (adne hM 4 0 (by decide) (by decide) (by decide)) km4
  have k7 : w1 (ad 5) = some (aI G 7200 (F 5)) := by rw [e2]; exact lk_ne (adne hM 5 0 (by decide) (by decide) (by decide)) km5
  have k8 : w1 (ad 6) = some (aI G 600 (F 6)) := by rw [e2]; exact lk_ne (adne hM 6 0 (by decide) (by decide) (by decide)) km6
  have k9 : w1 (ad 7) = some (aZ G 600 (F 7)) := by rw [e2]; exact lk_ne (adne hM 7 0 (by decide) (by decide) (by decide)) km7
  have k10 : w1 (ad 8) = some (aI G 6 (F 8)) := by rw [e2]; exact lk_ne (adne hM 8 0 (by decide) (by decide) (by decide)) km8
  have k11 : w1 (ad 9) = some (aI G 12 (F 9)) := by rw [e2]; exact lk_ne (adne hM 9 0 (by decide) (by decide) (by decide)) km9
  have k12 : w1 (ad 10) = some (aI G 144 (F 10)) := by rw [e2]; exact lk_ne (adne hM 10 0 (by decide) (by decide) (by decide)) km10
  have k13 : w1 (ad 11) = some (aI G 8 (F 11)) := by rw [e2]; exact lk_ne (adne hM 11 0 (by decide) (by decide) (by decide)) km11
  have k14 : w1 (ad 0) = some (cMo (some (ad 1)) (some (ad 2)) (some (ad 3)) (some (ad 4)) (some (ad 5)) (some (ad 6)) (some (ad 7)) (some (ad 8)) sd na (some (ad 9)) ro wi (some (ad 10)) (F 3 v) (some (ad 11))) := by rw [e2]; exact up_eq
  refine f_aload (v := .ref (ad 0)) X hl ⟨_, rfl, dX5_reported_10⟩ rfl ⟨(some (ad 0)), rfl⟩ ?_
  refine lv_bipush (v := 7) X.1 X.2.1 dX5_reported_11 (by decide) ?_
  refine f_callVi (rest := []) X Z hl.1 (c_X5_no l G w1 tg ad F sd na ro wi (F 3 v) (hM.fld e2) 7 (by decide)) (cwV 1 X.2.2.2.2 gX5_reported_X5_no rfl rfl rfl (by decide +kernel) ⟨(Nat.le_of_ble_eq_true rfl), (Nat.le_of_ble_eq_true rfl)⟩) rfl rfl dX5_reported_13 ⟨(Nat.le_of_ble_eq_true rfl), (Nat.le_of_ble_eq_true rfl)⟩ rfl (Nat.le_of_ble_eq_true rfl) k14 (fun r13 w15 H locs p13 Z => ?_)
  obtain ⟨hrT, hwT⟩ := p13
  exact f_iret X hr hlk Z (Nat.le_of_ble_eq_true rfl) (Nat.le_of_ble_eq_true rfl) dX5_reported_16 ⟨hrT, by rw [hwT, e2]⟩
set_option maxHeartbeats 4000000 in
set_option maxRecDepth 100000 in
theorem c_X5_against_ (l : Launch) (G : gT) (w : wT) (tg : tT) (ad : Nat → Nat) (F : Nat → Nat → Int32) (sd na ro wi lv : Int32) (hM : MW G tg w ad F sd na ro wi lv) (i j mm : Int32) (op : OP) (ho : (ro = -1 ∧ op = none) ∨ ∃ r k, ro = nI r ∧ op = some (r, k) ∧ r ≤ 12) : Met l yX5_against_ wsX5_against_ ({ frames := 1, cells := 0, slots := 0, locals := 22 }) (va_Pc [.ref (ad 0), .int i, .int j, .int mm] (wG G w)) (Qi G (fun v w' => w' = w ∧ v = nI (whyA op i j mm))) 0 0 (fr G) := by
  refine f_met (cc := cX5_against_) (maxL := 4) (ret := (some .int)) (by decide) rfl rfl (Nat.le_of_ble_eq_true rfl) ?_
  intro p e s m below meth cd X hr hlk hnm Z ls hl
  have X : CallFix p m cd cX5_against_ 4 s [.ref (ad 0), .int i, .int j, .int mm].toArray wsX5_against_ RX5 := X
  have hl : lV ls _ [some (.ref (ad 0)), some (.int i), some (.int j), some (.int mm)] := hl
  have i5 : ∀ w ∈ wsX50, w ∈ wsX5_against_ := by decide +kernel
  have km0 := hM.1
  have km1 : w (ad 1) = some (aI G 600 (F 1)) := hM.2.1 1 (by decide) (by decide)
  have km2 : w (ad 2) = some (aI G 600 (F 2)) := hM.2.1 2 (by decide) (by decide)
  have km3 : w (ad 3) = some (aI G 600 (F 3)) := hM.2.1 3 (by decide) (by decide)
  have km4 : w (ad 4) = some (aI G 600 (F 4)) := hM.2.1 4 (by decide) (by decide)
  have km5 : w (ad 5) = some (aI G 7200 (F 5)) := hM.2.1 5 (by decide) (by decide)
  have km6 : w (ad 6) = some (aI G 600 (F 6)) := hM.2.1 6 (by decide) (by decide)
  have km7 : w (ad 7) = some (aZ G 600 (F 7)) := hM.2.1 7 (by decide) (by decide)
  have km8 : w (ad 8) = some (aI G 6 (F 8)) := hM.2.1 8 (by decide) (by decide)
  have km9 : w (ad 9) = some (aI G 12 (F 9)) := hM.2.1 9 (by decide) (by decide)
  have km10 : w (ad 10) = some (aI G 144 (F 10)) := hM.2.1 10 (by decide) (by decide)
  have km11 : w (ad 11) = some (aI G 8 (F 11)) := hM.2.1 11 (by decide) (by decide)
  refine f_aload (v := .ref (ad 0)) X hl ⟨_, rfl, dX5_against__0⟩ rfl ⟨(some (ad 0)), rfl⟩ ?_
  refine f_get (v := .int ro) (k := 11) X Z i5 rfl (by decide) (by decide +kernel) dX5_against__1 km0 rfl ?_
  refine lv_iconst (v := (-1)) X.1 X.2.1 dX5_against__4 (by decide) ?_
  refine lv_icmp_ne (tgt := 12) X.1 X.2.1 dX5_against__5 (by decide) (fun c5 => ?_) (fun c5 => ?_)
  · obtain ⟨r, k, hro, hop, hr12⟩ : ∃ r k, ro = nI r ∧ op = some (r, k) ∧ r ≤ 12 := by
      rcases ho with ⟨h, -⟩ | h
      · exact absurd h c5
      · exact h
    subst hop
    refine f_iload X hl ⟨_, rfl, dX5_against__12⟩ rfl ?_
    refine lv_iconst (v := 0) X.1 X.2.1 dX5_against__13 (by decide) ?_
    refine f_aload (v := .ref (ad 0)) X hl ⟨_, rfl, dX5_against__14⟩ rfl ⟨(some (ad 0)), rfl⟩ ?_
    refine f_get (v := .int ro) (k := 11) X Z i5 rfl (by decide) (by decide +kernel) dX5_against__15 km0 rfl ?_
    refine lv_iconst (v := 1) X.1 X.2.1 dX5_against__18 (by decide) ?_
    refine lv_isub X.1 X.2.1 dX5_against__19 ?_
    refine f_callSi (rest := []) X Z hl.1 (c_X5_in l G _ _ _ _) (va_cwS 3 X.2.2.2.2 gX5_against__X5_in rfl rfl rfl (by decide +kernel) ⟨(Nat.le_of_ble_eq_true rfl), (Nat.le_of_ble_eq_true rfl)⟩) rfl dX5_against__20 ⟨(Nat.le_of_ble_eq_true rfl), (Nat.le_of_ble_eq_true rfl)⟩ rfl (Nat.le_of_ble_eq_true rfl) (fun r20 w1 H locs p20 Z => ?_)
    obtain ⟨w1e, hr20⟩ := p20
    have w1e := w1e.symm
    subst w1e
    refine lv_if_eq (tgt := 37) X.1 X.2.1 dX5_against__23 (by decide) (fun c23 => ?_) (fun c23 => ?_)
    · rw [hr20, bI_0] at c23
      rw [hro, n1_toInt hr12, kc_0] at c23
      refine lv_iconst (v := 5) X.1 X.2.1 dX5_against__37 (by decide) ?_
      refine lv_goto (tgt := 42) X.1 X.2.1 dX5_against__38 (by decide) ?_
      exact f_iret X hr hlk Z (Nat.le_of_ble_eq_true rfl) (Nat.le_of_ble_eq_true rfl) dX5_against__42 ⟨rfl, by simp only [whyA]; rw [if_neg (by omega)]; rfl⟩
    · rw [hr20, bI_0, Classical.not_not] at c23
      rw [hro, n1_toInt hr12, kc_0] at c23
      refine f_iload X hl ⟨_, rfl, dX5_against__26⟩ rfl ?_
      refine lv_iconst (v := 0) X.1 X.2.1 dX5_against__27 (by decide) ?_
      refine f_iload X hl ⟨_, rfl, dX5_against__28⟩ rfl ?_
      refine lv_iconst (v := 1) X.1 X.2.1 dX5_against__29 (by decide) ?_
      refine lv_isub X.1 X.2.1 dX5_against__30 ?_
      refine f_callSi (rest := []) X Z hl.1 (c_X5_in l G _ _ _ _) (va_cwS 3 X.2.2.2.2 gX5_against__X5_in rfl rfl rfl (by decide +kernel) ⟨(Nat.le_of_ble_eq_true rfl), (Nat.le_of_ble_eq_true rfl)⟩) rfl dX5_against__31 ⟨(Nat.le_of_ble_eq_true rfl), (Nat.le_of_ble_eq_true rfl)⟩ rfl (Nat.le_of_ble_eq_true rfl) (fun r31 w2 H locs p31 Z => ?_)
      obtain ⟨w2e, hr31⟩ := p31
      have w2e := w2e.symm
      subst w2e
      refine lv_if_ne (tgt := 41) X.1 X.2.1 dX5_against__34 (by decide) (fun c34 => ?_) (fun c34 => ?_)
      · rw [hr31, bI_0, Classical.not_not] at c34
        rw [kc_0] at c34
        refine lv_iconst (v := 0) X.1 X.2.1 dX5_against__41 (by decide) ?_
        exact f_iret X hr hlk Z (Nat.le_of_ble_eq_true rfl) (Nat.le_of_ble_eq_true rfl) dX5_against__42 ⟨rfl, by simp only [whyA]; rw [if_pos ⟨by omega, c34⟩]; rfl⟩
      · rw [hr31, bI_0] at c34
        rw [kc_0] at c34
        refine lv_iconst (v := 5) X.1 X.2.1 dX5_against__37 (by decide) ?_
        refine lv_goto (tgt := 42) X.1 X.2.1 dX5_against__38 (by decide) ?_
        exact f_iret X hr hlk Z (Nat.le_of_ble_eq_true rfl) (Nat.le_of_ble_eq_true rfl) dX5_against__42 ⟨rfl, by simp only [whyA]; rw [if_neg (fun z => c34 z.2)]; rfl⟩
  · have hop : op = none := by
      rcases ho with ⟨-, h⟩ | ⟨r, k, h1, h2, h3⟩
      · exact h
      · exact absurd (h1.symm.trans c5) (enc_ne (by omega))
    subst hop
    refine lv_iconst (v := 1) X.1 X.2.1 dX5_against__8 (by decide) ?_
    refine lv_goto (tgt := 42) X.1 X.2.1 dX5_against__9 (by decide) ?_
    exact f_iret X hr hlk Z (Nat.le_of_ble_eq_true rfl) (Nat.le_of_ble_eq_true rfl) dX5_against__42 ⟨rfl, rfl⟩
