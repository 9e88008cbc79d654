theorem mkF79 {F : Nat → Nat → Int32} {g h : Nat → Int32} : ∀ k, 1 ≤ k → k ≤ 11 → k ≠ 7 → k ≠ 9 → mkF (F 1) (F 2) (F 3) (F 4) (F 5) (F 6) g (F 8) h (F 10) (F 11) k = F k := by
  intro k h1 h2 h3 h4
  rcases (show k = 1 ∨ k = 2 ∨ k = 3 ∨ k = 4 ∨ k = 5 ∨ k = 6 ∨ k = 8 ∨ k = 10 ∨ k = 11 by omega) with rfl | rfl | rfl | rfl | rfl | rfl | rfl | rfl | rfl <;> rfl
theorem SM.n {F : Nat → Nat → Int32} {sd na : Int32} {os : OS} {T : Nat → LV} (h : SM F sd na os T) : ∃ nn : Nat, ((sd = -1 ∧ nn = 0) ∨ sd = nI nn) ∧ nn ≤ 12 ∧ ∀ q, q < nn → F 9 q = enc (hd (T (6 + q))) := by
  rcases h with ⟨h, -⟩ | ⟨n, b, h1, -, -, h4, h5⟩
  · exact ⟨0, Or.inl ⟨h, rfl⟩, by omega, fun q hq => absurd hq (by omega)⟩
  · exact ⟨n, Or.inr h1, h4, h5⟩
theorem hd_at {L : LV} {v : Nat} (h : hd L = some v) : ∃ d, L[0]? = some (v, d) := mf h.symm
theorem yset3 {a b : Nat} {l m : List VR} {y : Yd} (h : a ≠ b) : yset a m (yset b l (yset a [] y)) = yset a m (yset b l y) := by
  unfold yset
  congr 1
  funext q
  by_cases h1 : q = a
  · subst h1; simp [va_up]
  · by_cases h2 : q = b
    · subst h2; simp [va_up, h1]
    · simp [va_up, h1, h2]
theorem na_cases {na : Int32} (h : na = 0 ∨ na = 1) (hz : ¬ na = 0) : na = 1 := h.resolve_left hz
theorem PlMn {F : Nat → Nat → Int32} {ro wi : Int32} {op : OP} {N : Nat → Nat → Int32} (h : PlM F ro wi op N) (hr : ro = -1) : op = none := by
  rcases h with ⟨-, z⟩ | ⟨r, k, h1, -, -, h4, -⟩
  · exact z
  · exact absurd (h1.symm.trans hr) (enc_ne (by omega))
theorem is1 {x : Int32} (h : okB x 0 1) (hz : ¬ x = 0) : x = 1 := by
  obtain ⟨h1, h2⟩ := h
  rw [kc_0] at h1
  rw [kc_1] at h2
  have hz : ¬ x.toInt = 0 := fun z => hz (Int32.toInt_inj.mp z)
  exact Int32.toInt_inj.mp (by rw [kc_1]; omega)
set_option maxHeartbeats 4000000 in
set_option maxRecDepth 100000 in
theorem c_X5_empty (l : Launch) (G : gT) (w : wT) (tg : tT) (ad : Nat → Nat) (F : Nat → Nat → Int32) (sd na ro wi lv : Int32) (hM : MW G tg w ad F sd na ro wi lv) (pp : Nat) (hpp : pp < 12) (o : Option Nat) (ho : F 9 pp = enc o) (hov : ∀ v, o = some v → v < 600) : Met l yX5_empty wsX5_empty ({ frames := 0, cells := 0, slots := 0, locals := 0 }) (va_Pc [.ref (ad 0), .int (nI pp)] (wG G w)) (Qv G (fun w' => ∃ F', MW G tg w' ad F' sd na ro wi lv ∧ FrM w tg w' ∧ F' 9 = upd (F 9) pp (-1) ∧ F' 7 = free7 (F 7) o ∧ ∀ k, 1 ≤ k → k ≤ 11 → k ≠ 7 → k ≠ 9 → F' k = F k)) 0 0 (fr G) := by
  refine f_met (cc := cX5_empty) (maxL := 2) (ret := none) (by decide) rfl rfl (Nat.le_of_ble_eq_true rfl) ?_
  intro p e s m below meth cd X hr hlk hnm Z ls hl
  have X : CallFix p m cd cX5_empty 2 s [.ref (ad 0), .int (nI pp)].toArray wsX5_empty RX5 := X
  have hl : lV ls _ [some (.ref (ad 0)), some (.int (nI pp))] := hl
  have i5 : ∀ w ∈ wsX50, w ∈ wsX5_empty := by decide +kernel
  have km0 := hM.1
  have km1 : w (ad 1) = some (aI G 600 (F 1)) := hM.2.1 1 (by decide) (by decide)
  have km2 : w (ad 2) = some (aI G 600 (F 2)) := hM.2.1 2 (by decide) (by decide)
  have km3 : w (ad 3) = some (aI G 600 (F 3)) := hM.2.1 3 (by decide) (by decide)
  have km4 : w (ad 4) = some (aI G 600 (F 4)) := hM.2.1 4 (by decide) (by decide)
  have km5 : w (ad 5) = some (aI G 7200 (F 5)) := hM.2.1 5 (by decide) (by decide)
  have km6 : w (ad 6) = some (aI G 600 (F 6)) := hM.2.1 6 (by decide) (by decide)
  have km7 : w (ad 7) = some (aZ G 600 (F 7)) := hM.2.1 7 (by decide) (by decide)
  have km8 : w (ad 8) = some (aI G 6 (F 8)) := hM.2.1 8 (by decide) (by decide)
  have km9 : w (ad 9) = some (aI G 12 (F 9)) := hM.2.1 9 (by decide) (by decide)
  have km10 : w (ad 10) = some (aI G 144 (F 10)) := hM.2.1 10 (by decide) (by decide)
  have km11 : w (ad 11) = some (aI G 8 (F 11)) := hM.2.1 11 (by decide) (by decide)
  have hpc : (nI pp).toNatClampNeg = pp := nI_clamp (by omega)
  rcases o with _ | v
  · have h9 : F 9 pp = -1 := ho
    refine f_aload (v := .ref (ad 0)) X hl ⟨_, rfl, dX5_empty_0⟩ rfl ⟨(some (ad 0)), rfl⟩ ?_
    refine f_get (v := .ref (ad 9)) (k := 10) X Z i5 rfl (by decide) (by decide +kernel) dX5_empty_1 km0 rfl ?_
    refine f_iload X hl ⟨_, rfl, dX5_empty_4⟩ rfl ?_
    refine f_iald X Z dX5_empty_5 km9 (vp_in_nI hpp (by decide)) ?_
    rw [hpc]
    rw [h9]
    refine lv_iconst (v := (-1)) X.1 X.2.1 dX5_empty_6 (by decide) ?_
    refine lv_icmp_eq (tgt := 29) X.1 X.2.1 dX5_empty_7 (by decide) (fun c7 => ?_) (fun c7 => ?_)
    · exact f_vret X hr hlk Z (Nat.le_of_ble_eq_true rfl) (Nat.le_of_ble_eq_true rfl) dX5_empty_29 ⟨F, hM, FrM.rf, (by have q := upd_id (F 9) pp; rw [h9] at q; exact q.symm), rfl, fun _ _ _ _ _ => rfl⟩
    · exact absurd rfl c7
  · have h9 : F 9 pp = nI v := ho
    have hv6 := hov v rfl
    have hcl : (nI v).toNatClampNeg = v := nI_clamp (by omega)
    refine f_aload (v := .ref (ad 0)) X hl ⟨_, rfl, dX5_empty_0⟩ rfl ⟨(some (ad 0)), rfl⟩ ?_
    refine f_get (v := .ref (ad 9)) (k := 10) X Z i5 rfl (by decide) (by decide +kernel) dX5_empty_1 km0 rfl ?_
    refine f_iload X hl ⟨_, rfl, dX5_empty_4⟩ rfl ?_
    refine f_iald X Z dX5_empty_5 km9 (vp_in_nI hpp (by decide)) ?_
    rw [hpc]
    rw [h9]
    refine lv_iconst (v := (-1)) X.1 X.2.1 dX5_empty_6 (by decide) ?_
    refine lv_icmp_eq (tgt := 29) X.1 X.2.1 dX5_empty_7 (by decide) (fun c7 => ?_) (fun c7 => ?_)
    · exact absurd c7 (enc_ne hv6)
    · refine f_aload (v := .ref (ad 0)) X hl ⟨_, rfl, dX5_empty_10⟩ rfl ⟨(some (ad 0)), rfl⟩ ?_
      refine f_get (v := .ref (ad 7)) (k := 6) X Z i5 rfl (by decide) (by decide +kernel) dX5_empty_11 km0 rfl ?_
      refine f_aload (v := .ref (ad 0)) X hl ⟨_, rfl, dX5_empty_14⟩ rfl ⟨(some (ad 0)), rfl⟩ ?_
      refine f_get (v := .ref (ad 9)) (k := 10) X Z i5 rfl (by decide) (by decide +kernel) dX5_empty_15 km0 rfl ?_
      refine f_iload X hl ⟨_, rfl, dX5_empty_18⟩ rfl ?_
      refine f_iald X Z dX5_empty_19 km9 (vp_in_nI hpp (by decide)) ?_
      rw [hpc]
      rw [h9]
      refine lv_iconst (v := 0) X.1 X.2.1 dX5_empty_20 (by decide) ?_
      refine f_zast X Z dX5_empty_21 km7 (vp_in_nI hv6 (by decide)) (by decide) (fun H locs w1 e2 Z => ?_)
      rw [hcl] at e2
      have e2 : w1 = va_up w (ad 7) (some (aZ G 600 (upd (F 7) v 0))) := e2
      have fm15 : FrM w tg w1 := by rw [e2]; exact FrM.put FrM.rf (hM.2.2 7 (by decide))
      have k3 : w1 (ad 0) = some (cMo (some (ad 1)) (some (ad 2)) (some (ad 3)) (some (ad 4)) (some (ad 5)) (some (ad 6)) (some (ad 7)) (some (ad 8)) sd na (some (ad 9)) ro wi (some (ad 10)) lv (some (ad 11))) := by rw [e2]; exact lk_ne (adne hM 0 7 (by decide) (by decide) (by decide)) km0
      have k4 : w1 (ad 1) = some (aI G 600 (F 1)) := by rw [e2]; exact lk_ne (adne hM 1 7 (by decide) (by decide) (by decide)) km1
      have k5 : w1 (ad 2) = some (aI G 600 (F 2)) := by rw [e2]; exact lk_ne (adne hM 2 7 (by decide) (by decide) (by decide)) km2
      have k6 : w1 (ad 3) = some (aI G 600 (F 3)) := by rw [e2]; exact lk_ne (adne hM 3 7 (by decide) (by decide) (by decide)) km3
      have k7 : w1 (ad 4) = some (aI G 600 (F 4)) := by rw [e2]; exact lk_ne (adne hM 4 7 (by decide) (by decide) (by decide)) km4
      have k8 : w1 (ad 5) = some (aI G 7200 (F 5)) := by rw [e2]; exact lk_ne (adne hM 5 7 (by decide) (by decide) (by decide)) km5
      have k9 : w1 (ad 6) = some (aI G 600 (F 6)) := by rw [e2]; exact lk_ne (adne hM 6 7 (by decide) (by decide) (by decide)) km6
      have k10 : w1 (ad 8) = some (aI G 6 (F 8)) := by rw [e2]; exact lk_ne (adne hM 8 7 (by decide) (by decide) (by decide)) km8
      have k11 : w1 (ad 9) = some (aI G 12 (F 9)) := by rw [e2]; exact lk_ne (adne hM 9 7 (by decide) (by decide) (by decide)) km9
      have k12 : w1 (ad 10) = some (aI G 144 (F 10)) := by rw [e2]; exact lk_ne (adne hM 10 7 (by decide) (by decide) (by decide)) km10
      have k13 : w1 (ad 11) = some (aI G 8 (F 11)) := by rw [e2]; exact lk_ne (adne hM 11 7 (by decide) (by decide) (by decide)) km11
      have k14 : w1 (ad 7) = some (aZ G 600 (upd (F 7) v 0)) := by rw [e2]; exact up_eq
      refine f_aload (v := .ref (ad 0)) X hl ⟨_, rfl, dX5_empty_22⟩ rfl ⟨(some (ad 0)), rfl⟩ ?_
      refine f_get (v := .ref (ad 9)) (k := 10) X Z i5 rfl (by decide) (by decide +kernel) dX5_empty_23 k3 rfl ?_
      refine f_iload X hl ⟨_, rfl, dX5_empty_26⟩ rfl ?_
      refine lv_iconst (v := (-1)) X.1 X.2.1 dX5_empty_27 (by decide) ?_
      refine f_iast X Z dX5_empty_28 k11 (vp_in_nI hpp (by decide)) (fun H locs w16 e17 Z => ?_)
      rw [hpc] at e17
      have e17 : w16 = va_up w1 (ad 9) (some (aI G 12 (upd (F 9) pp (-1)))) := e17
      have fm30 : FrM w tg w16 := by rw [e17]; exact FrM.put fm15 (hM.2.2 9 (by decide))
      have k18 : w16 (ad 0) = some (cMo (some (ad 1)) (some (ad 2)) (some (ad 3)) (some (ad 4)) (some (ad 5)) (some (ad 6)) (some (ad 7)) (some (ad 8)) sd na (some (ad 9)) ro wi (some (ad 10)) lv (some (ad 11))) := by rw [e17]; exact lk_ne (adne hM 0 9 (by decide) (by decide) (by decide)) k3
      have k19 : w16 (ad 1) = some (aI G 600 (F 1)) := by rw [e17]; exact lk_ne (adne hM 1 9 (by decide) (by decide) (by decide)) k4
      have k20 : w16 (ad 2) = some (aI G 600 (F 2)) := by rw [e17]; exact lk_ne (adne hM 2 9 (by decide) (by decide) (by decide)) k5
      have k21 : w16 (ad 3) = some (aI G 600 (F 3)) := by rw [e17]; exact lk_ne (adne hM 3 9 (by decide) (by decide) (by decide)) k6
      have k22 : w16 (ad 4) = some (aI G 600 (F 4)) := by rw [e17]; exact lk_ne (adne hM 4 9 (by decide) (by decide) (by decide)) k7
      have k23 : w16 (ad 5) = some (aI G 7200 (F 5)) := by rw [e17]; exact lk_ne (adne hM 5 9 (by decide) (by decide) (by decide)) k8
      have k24 : w16 (ad 6) = some (aI G 600 (F 6)) := by rw [e17]; exact lk_ne (adne hM 6 9 (by decide) (by decide) (by decide)) k9
      have k25 : w16 (ad 8) = some (aI G 6 (F 8)) := by rw [e17]; exact lk_ne (adne hM 8 9 (by decide) (by decide) (by decide)) k10
      have k26 : w16 (ad 10) = some (aI G 144 (F 10)) := by rw [e17]; exact lk_ne (adne hM 10 9 (by decide) (by decide) (by decide)) k12
      have k27 : w16 (ad 11) = some (aI G 8 (F 11)) := by rw [e17]; exact lk_ne (adne hM 11 9 (by decide) (by decide) (by decide)) k13
      have k28 : w16 (ad 7) = some (aZ G 600 (upd (F 7) v 0)) := by rw [e17]; exact lk_ne (adne hM 7 9 (by decide) (by decide) (by decide)) k14
      have k29 : w16 (ad 9) = some (aI G 12 (upd (F 9) pp (-1))) := by rw [e17]; exact up_eq
      exact f_vret X hr hlk Z (Nat.le_of_ble_eq_true rfl) (Nat.le_of_ble_eq_true rfl) dX5_empty_29 ⟨(mkF (F 1) (F 2) (F 3) (F 4) (F 5) (F 6) (upd (F 7) v 0) (F 8) (upd (F 9) pp (-1)) (F 10) (F 11)), (MW.of hM k18 k19 k20 k21 k22 k23 k24 k28 k25 k29 k26 k27), fm30, rfl, rfl, mkF79⟩
set_option maxHeartbeats 4000000 in
set_option maxRecDepth 100000 in
theorem c_X5_clear (l : Launch) (G : gT) (w : wT) (tg : tT) (ad : Nat → Nat) (F : Nat → Nat → Int32) (sd na ro wi lv : Int32) (hM : MW G tg w ad F sd na ro wi lv) (nn : Nat) (hsd : (sd = -1 ∧ nn = 0) ∨ sd = nI nn) (hnn : nn ≤ 12) (hp : Nat → Option Nat) (h9 : ∀ q, q < nn → F 9 q = enc (hp q)) (hv : ∀ q v, q < nn → hp q = some v → v < 600) : Met l yX5_clear wsX5_clear ({ frames := 1, cells := 0, slots := 0, locals := 21 }) (va_Pc [.ref (ad 0)] (wG G w)) (Qv G (fun w' => ∃ F', MW G tg w' ad F' sd na ro wi lv ∧ FrM w tg w' ∧ (∀ k, 1 ≤ k → k ≤ 11 → k ≠ 7 → k ≠ 9 → F' k = F k) ∧ (∀ q, q < nn → F' 9 q = -1) ∧ (∀ q, nn ≤ q → F' 9 q = F 9 q) ∧ (∀ x, (∀ q, q < nn → hp q ≠ some x) → F' 7 x = F 7 x) ∧ ∀ x, F' 7 x = F 7 x ∨ F' 7 x = 0)) 0 0 (fr G) := by
  refine f_met (cc := cX5_clear) (maxL := 2) (ret := none) (by decide) rfl rfl (Nat.le_of_ble_eq_true rfl) ?_
  intro p e s m below meth cd X hr hlk hnm Z ls hl
  have X : CallFix p m cd cX5_clear 2 s [.ref (ad 0)].toArray wsX5_clear RX5 := X
  have hl : lV ls _ [some (.ref (ad 0)), none] := hl
  have i5 : ∀ w ∈ wsX50, w ∈ wsX5_clear := by decide +kernel
  have km0 := hM.1
  have km1 : w (ad 1) = some (aI G 600 (F 1)) := hM.2.1 1 (by decide) (by decide)
  have km2 : w (ad 2) = some (aI G 600 (F 2)) := hM.2.1 2 (by decide) (by decide)
  have km3 : w (ad 3) = some (aI G 600 (F 3)) := hM.2.1 3 (by decide) (by decide)
  have km4 : w (ad 4) = some (aI G 600 (F 4)) := hM.2.1 4 (by decide) (by decide)
  have km5 : w (ad 5) = some (aI G 7200 (F 5)) := hM.2.1 5 (by decide) (by decide)
  have km6 : w (ad 6) = some (aI G 600 (F 6)) := hM.2.1 6 (by decide) (by decide)
  have km7 : w (ad 7) = some (aZ G 600 (F 7)) := hM.2.1 7 (by decide) (by decide)
  have km8 : w (ad 8) = some (aI G 6 (F 8)) := hM.2.1 8 (by decide) (by decide)
  have km9 : w (ad 9) = some (aI G 12 (F 9)) := hM.2.1 9 (by decide) (by decide)
  have km10 : w (ad 10) = some (aI G 144 (F 10)) := hM.2.1 10 (by decide) (by decide)
  have km11 : w (ad 11) = some (aI G 8 (F 11)) := hM.2.1 11 (by decide) (by decide)
  refine lv_iconst (v := 0) X.1 X.2.1 dX5_clear_0 (by decide) ?_
  refine f_istore X hl ⟨_, rfl, dX5_clear_1⟩ (by decide) (fun ls hl => ?_)
  have hl : lV ls _ [some (.ref (ad 0)), some (.int 0)] := hl
  have hloop : ∀ (fu : Nat) (i : Nat) (x1 : Int32) (wL : wT) (FL : Nat → Nat → Int32), (x1 = nI i) → (MW G tg wL ad FL sd na ro wi lv) → (FrM w tg wL) → (∀ k, 1 ≤ k → k ≤ 11 → k ≠ 7 → k ≠ 9 → FL k = F k) → (∀ q, q < i → FL 9 q = -1) → (∀ q, i ≤ q → FL 9 q = F 9 q) → (∀ x, (∀ q, q < i → hp q ≠ some x) → FL 7 x = F 7 x) → (∀ x, FL 7 x = F 7 x ∨ FL 7 x = 0) → (i ≤ nn) → (nn < i + fu) → ∀ (H : Heap) (locs : List Loc) (ls : Array Slot), wZ G wL s H locs → lV ls 2 [some (.ref (ad 0)), some (.int x1)] → W p l e ({ frames := 1, cells := 0, slots := 0, locals := 21 }) s m [.ref (ad 0)].toArray below meth cd H locs 0 0 (MQ below (Qv G (fun w' => ∃ F', MW G tg w' ad F' sd na ro wi lv ∧ FrM w tg w' ∧ (∀ k, 1 ≤ k → k ≤ 11 → k ≠ 7 → k ≠ 9 → F' k = F k) ∧ (∀ q, q < nn → F' 9 q = -1) ∧ (∀ q, nn ≤ q → F' 9 q = F 9 q) ∧ (∀ x, (∀ q, q < nn → hp q ≠ some x) → F' 7 x = F 7 x) ∧ ∀ x, F' 7 x = F 7 x ∨ F' 7 x = 0)) [.ref (ad 0)].toArray s 0 0 (fr G)) (F0 m 2 ls []) := by
    clear hl Z
    intro fu
    induction fu with
    | zero => intro i x1 wL FL hx1 hML hfL hk h9a h9b h7a h7b hle hfu H locs ls Z hl; exact absurd hfu (by omega)
    | succ fu ih =>
      intro i x1 wL FL hx1 hML hfL hk h9a h9b h7a h7b hle hfu H locs ls Z hl
      refine f_iload X hl ⟨_, rfl, dX5_clear_2⟩ rfl ?_
      refine f_aload (v := .ref (ad 0)) X hl ⟨_, rfl, dX5_clear_3⟩ rfl ⟨(some (ad 0)), rfl⟩ ?_
      refine f_get (v := .int sd) (k := 8) X Z i5 rfl (by decide) (by decide +kernel) dX5_clear_4 hML.1 rfl ?_
      refine lv_icmp_ge (tgt := 21) X.1 X.2.1 dX5_clear_7 (by decide) (fun c7 => ?_) (fun c7 => ?_)
      · exact f_vret X hr hlk Z (Nat.le_of_ble_eq_true rfl) (Nat.le_of_ble_eq_true rfl) dX5_clear_21 (by
            have hi : i = nn := by
              rcases hsd with ⟨z, z2⟩ | z
              · omega
              · have := (nI_leI (a := nn) (b := i) (by omega) (by omega)).mp (by rw [← z, ← hx1]; exact c7)
                omega
            subst hi
            exact ⟨FL, hML, hfL, hk, h9a, h9b, h7a, h7b⟩)
      · have hlt : i < nn := by
          rcases Nat.lt_or_ge i nn with q | q
          · exact q
          · exfalso
            refine c7 ?_
            rw [hx1]
            rcases hsd with ⟨z, -⟩ | z
            · rw [z, Int32.le_iff_toInt_le, kc_m1, nI_toInt (by omega)]; omega
            · rw [z]; exact nI_le q (by omega)
        subst hx1
        refine f_aload (v := .ref (ad 0)) X hl ⟨_, rfl, dX5_clear_10⟩ rfl ⟨(some (ad 0)), rfl⟩ ?_
        refine f_iload X hl ⟨_, rfl, dX5_clear_11⟩ rfl ?_
        refine f_callVv (rest := []) X Z hl.1 (c_X5_empty l G wL tg ad FL sd na ro wi lv hML i (by omega) (hp i) (by rw [h9b i (Nat.le_refl _)]; exact h9 i hlt) (fun v h => hv i v hlt h)) (cwV 1 X.2.2.2.2 gX5_clear_X5_empty rfl rfl rfl (by decide +kernel) ⟨(Nat.le_of_ble_eq_true rfl), (Nat.le_of_ble_eq_true rfl)⟩) rfl rfl dX5_clear_12 ⟨(Nat.le_of_ble_eq_true rfl), (Nat.le_of_ble_eq_true rfl)⟩ rfl (Nat.le_of_ble_eq_true rfl) hML.1 (fun w1 H locs p12 Z => ?_)
        obtain ⟨F2, hM2, hf2, e9, e7, ek⟩ := p12
        refine f_iinc (v := 1) X hl dX5_clear_15 (by decide) rfl (by decide) (fun ls hl => ?_)
        have hl : lV ls _ [some (.ref (ad 0)), some (.int ((nI i) + 1))] := hl
        refine lv_goto (tgt := 2) X.1 X.2.1 dX5_clear_18 (by decide) ?_
        exact ih (i + 1) _ w1 F2 (nI_1 i) hM2 (hfL.tr hf2) (fun k a b c d => (ek k a b c d).trans (hk k a b c d)) (fun q hq => by rw [e9]; by_cases hqi : q = i; subst hqi; exact upd_at; exact (upd_off hqi).trans (h9a q (by omega))) (fun q hq => by rw [e9]; exact (upd_off (by omega)).trans (h9b q (by omega))) (fun x hx => by rw [e7]; cases hz : hp i with | none => exact h7a x (fun q hq => hx q (by omega)) | some z => exact (upd_off (fun e => hx i (by omega) (by rw [hz, e]))).trans (h7a x (fun q hq => hx q (by omega)))) (fun x => by rw [e7]; cases hz : hp i with | none => exact h7b x | some z => by_cases hxz : x = z; subst hxz; exact Or.inr upd_at; rw [show free7 (FL 7) (some z) x = FL 7 x from upd_off hxz]; exact h7b x) (by omega) (by omega) _ _ _ Z hl
  exact hloop (nn + 1) 0 _ w F nI_0.symm hM FrM.rf (fun _ _ _ _ _ => rfl) (fun q h => absurd h (by omega)) (fun _ _ => rfl) (fun _ _ => rfl) (fun _ => Or.inl rfl) (Nat.zero_le _) (by omega) _ _ _ Z hl
set_option maxHeartbeats 4000000 in
set_option maxRecDepth 100000 in
theorem c_X5_siding (l : Launch) (G : gT) (w : wT) (tg : tT) (ad : Nat → Nat) (c nb : Nat) (y : Yd) (hR : RepM G tg w ad c y) (hY : Yok nb y) (hn : nb ≤ 512) (n b : Int32) (hb : b = 0 ∨ b = 1) : Met l yX5_siding wsX5_siding ({ frames := 2, cells := 0, slots := 0, locals := 42 }) (va_Pc [.ref (ad 0), .int n, .int b] (wG G w)) (Qi G (OutM G tg w ad c (sp_siding n b y))) 0 0 (fr G) := by
  refine f_met (cc := cX5_siding) (maxL := 4) (ret := (some .int)) (by decide) rfl rfl (Nat.le_of_ble_eq_true rfl) ?_
  intro p e s m below meth cd X hr hlk hnm Z ls hl
  have X : CallFix p m cd cX5_siding 4 s [.ref (ad 0), .int n, .int b].toArray wsX5_siding RX5 := X
  have hl : lV ls _ [some (.ref (ad 0)), some (.int n), some (.int b), none] := hl
  have i5 : ∀ w ∈ wsX50, w ∈ wsX5_siding := by decide +kernel
  obtain ⟨F, sd, na, ro, wi, T, hM, hP⟩ := id hR
  obtain ⟨h1, h2, h3, h4, h5, h6, h7⟩ := id hP
  have km0 := hM.1
  have km1 : w (ad 1) = some (aI G 600 (F 1)) := hM.2.1 1 (by decide) (by decide)
  have km2 : w (ad 2) = some (aI G 600 (F 2)) := hM.2.1 2 (by decide) (by decide)
  have km3 : w (ad 3) = some (aI G 600 (F 3)) := hM.2.1 3 (by decide) (by decide)
  have km4 : w (ad 4) = some (aI G 600 (F 4)) := hM.2.1 4 (by decide) (by decide)
  have km5 : w (ad 5) = some (aI G 7200 (F 5)) := hM.2.1 5 (by decide) (by decide)
  have km6 : w (ad 6) = some (aI G 600 (F 6)) := hM.2.1 6 (by decide) (by decide)
  have km7 : w (ad 7) = some (aZ G 600 (F 7)) := hM.2.1 7 (by decide) (by decide)
  have km8 : w (ad 8) = some (aI G 6 (F 8)) := hM.2.1 8 (by decide) (by decide)
  have km9 : w (ad 9) = some (aI G 12 (F 9)) := hM.2.1 9 (by decide) (by decide)
  have km10 : w (ad 10) = some (aI G 144 (F 10)) := hM.2.1 10 (by decide) (by decide)
  have km11 : w (ad 11) = some (aI G 8 (F 11)) := hM.2.1 11 (by decide) (by decide)
  refine f_iload X hl ⟨_, rfl, dX5_siding_0⟩ rfl ?_
  refine lv_bipush (v := 12) X.1 X.2.1 dX5_siding_1 (by decide) ?_
  refine lv_icmp_le (tgt := 8) X.1 X.2.1 dX5_siding_3 (by decide) (fun c3 => ?_) (fun c3 => ?_)
  · refine f_iload X hl ⟨_, rfl, dX5_siding_8⟩ rfl ?_
    refine lv_if_ge (tgt := 18) X.1 X.2.1 dX5_siding_9 (by decide) (fun c9 => ?_) (fun c9 => ?_)
    · have hn0 : 0 ≤ n.toInt := by rw [Int32.le_iff_toInt_le, kc_0] at c9; exact c9
      have hn12 := le12 c3
      refine f_aload (v := .ref (ad 0)) X hl ⟨_, rfl, dX5_siding_18⟩ rfl ⟨(some (ad 0)), rfl⟩ ?_
      obtain ⟨nn, hsdn, hnn, h9n⟩ := h5.n
      refine f_callVv (rest := []) X Z hl.1 (c_X5_clear l G w tg ad F sd na ro wi y.2.2.2.2.1 hM nn hsdn hnn (fun q => hd (T (6 + q))) h9n (fun q v hq hz => by obtain ⟨d, hd⟩ := hd_at hz; exact (h1.1 _ _ v d hd).1)) (cwV 0 X.2.2.2.2 gX5_siding_X5_clear rfl rfl rfl (by decide +kernel) ⟨(Nat.le_of_ble_eq_true rfl), (Nat.le_of_ble_eq_true rfl)⟩) rfl rfl dX5_siding_19 ⟨(Nat.le_of_ble_eq_true rfl), (Nat.le_of_ble_eq_true rfl)⟩ rfl (Nat.le_of_ble_eq_true rfl) km0 (fun w1 H locs p19 Z => ?_)
      obtain ⟨F1, hM1, hf1, ek, e9a, e9b, e7a, e7b⟩ := p19
      have u20 := hM1.1
      have u2_1 : w1 (ad 1) = some (aI G 600 (F1 1)) := hM1.2.1 1 (by decide) (by decide)
      have u2_2 : w1 (ad 2) = some (aI G 600 (F1 2)) := hM1.2.1 2 (by decide) (by decide)
      have u2_3 : w1 (ad 3) = some (aI G 600 (F1 3)) := hM1.2.1 3 (by decide) (by decide)
      have u2_4 : w1 (ad 4) = some (aI G 600 (F1 4)) := hM1.2.1 4 (by decide) (by decide)
      have u2_5 : w1 (ad 5) = some (aI G 7200 (F1 5)) := hM1.2.1 5 (by decide) (by decide)
      have u2_6 : w1 (ad 6) = some (aI G 600 (F1 6)) := hM1.2.1 6 (by decide) (by decide)
      have u2_7 : w1 (ad 7) = some (aZ G 600 (F1 7)) := hM1.2.1 7 (by decide) (by decide)
      have u2_8 : w1 (ad 8) = some (aI G 6 (F1 8)) := hM1.2.1 8 (by decide) (by decide)
      have u2_9 : w1 (ad 9) = some (aI G 12 (F1 9)) := hM1.2.1 9 (by decide) (by decide)
      have u2_10 : w1 (ad 10) = some (aI G 144 (F1 10)) := hM1.2.1 10 (by decide) (by decide)
      have u2_11 : w1 (ad 11) = some (aI G 8 (F1 11)) := hM1.2.1 11 (by decide) (by decide)
      refine f_aload (v := .ref (ad 0)) X hl ⟨_, rfl, dX5_siding_22⟩ rfl ⟨(some (ad 0)), rfl⟩ ?_
      refine f_iload X hl ⟨_, rfl, dX5_siding_23⟩ rfl ?_
      refine f_put (v := .int n) (ty0 := tyX5) (k := 8) X Z i5 tyX5_ok nmX5 rfl (by decide) (by decide +kernel) rfl dX5_siding_24 u20 rfl rfl (Nat.le_of_ble_eq_true rfl) (fun H locs w3 e4 Z => ?_)
      have e4 : w3 = va_up w1 (ad 0) (some (cMo (some (ad 1)) (some (ad 2)) (some (ad 3)) (some (ad 4)) (some (ad 5)) (some (ad 6)) (some (ad 7)) (some (ad 8)) n na (some (ad 9)) ro wi (some (ad 10)) y.2.2.2.2.1 (some (ad 11)))) := e4
      have fm17 : FrM w tg w3 := by rw [e4]; exact FrM.put hf1 (hM.2.2 0 (by decide))
      have k5 : w3 (ad 1) = some (aI G 600 (F1 1)) := by rw [e4]; exact lk_ne (adne hM 1 0 (by decide) (by decide) (by decide)) u2_1
      have k6 : w3 (ad 2) = some (aI G 600 (F1 2)) := by rw [e4]; exact lk_ne (adne hM 2 0 (by decide) (by decide) (by decide)) u2_2
      have k7 : w3 (ad 3) = some (aI G 600 (F1 3)) := by rw [e4]; exact lk_ne (adne hM 3 0 (by decide) (by decide) (by decide)) u2_3
      have k8 : w3 (ad 4) = some (aI G 600 (F1 4)) := by rw [e4]; exact lk_ne (adne hM 4 0 (by decide) (by decide) (by decide)) u2_4
      have k9 : w3 (ad 5) = some (aI G 7200 (F1 5)) := by rw [e4]; exact lk_ne (adne hM 5 0 (by decide) (by decide) (by decide)) u2_5
      have k10 : w3 (ad 6) = some (aI G 600 (F1 6)) := by rw [e4]; exact lk_ne (adne hM 6 0 (by decide) (by decide) (by decide)) u2_6
      have k11 : w3 (ad 7) = some (aZ G 600 (F1 7)) := by rw [e4]; exact lk_ne (adne hM 7 0 (by decide) (by decide) (by decide)) u2_7
      have k12 : w3 (ad 8) = some (aI G 6 (F1 8)) := by rw [e4]; exact lk_ne (adne hM 8 0 (by decide) (by decide) (by decide)) u2_8
      have k13 : w3 (ad 9) = some (aI G 12 (F1 9)) := by rw [e4]; exact lk_ne (adne hM 9 0 (by decide) (by decide) (by decide)) u2_9
      have k14 : w3 (ad 10) = some (aI G 144 (F1 10)) := by rw [e4]; exact lk_ne (adne hM 10 0 (by decide) (by decide) (by decide)) u2_10
      have k15 : w3 (ad 11) = some (aI G 8 (F1 11)) := by rw [e4]; exact lk_ne (adne hM 11 0 (by decide) (by decide) (by decide)) u2_11
      have k16 : w3 (ad 0) = some (cMo (some (ad 1)) (some (ad 2)) (some (ad 3)) (some (ad 4)) (some (ad 5)) (some (ad 6)) (some (ad 7)) (some (ad 8)) n na (some (ad 9)) ro wi (some (ad 10)) y.2.2.2.2.1 (some (ad 11))) := by rw [e4]; exact up_eq
      refine f_aload (v := .ref (ad 0)) X hl ⟨_, rfl, dX5_siding_27⟩ rfl ⟨(some (ad 0)), rfl⟩ ?_
      refine f_iload X hl ⟨_, rfl, dX5_siding_28⟩ rfl ?_
      refine f_put (v := .int b) (ty0 := tyX5) (k := 9) X Z i5 tyX5_ok nmX5 rfl (by decide) (by decide +kernel) rfl dX5_siding_29 k16 (by rcases hb with rfl | rfl <;> rfl) (by rcases hb with rfl | rfl <;> rfl) (Nat.le_of_ble_eq_true rfl) (fun H locs w18 e19 Z => ?_)
      have e19 : w18 = va_up w3 (ad 0) (some (cMo (some (ad 1)) (some (ad 2)) (some (ad 3)) (some (ad 4)) (some (ad 5)) (some (ad 6)) (some (ad 7)) (some (ad 8)) n b (some (ad 9)) ro wi (some (ad 10)) y.2.2.2.2.1 (some (ad 11)))) := e19
      have fm32 : FrM w tg w18 := by rw [e19]; exact FrM.put fm17 (hM.2.2 0 (by decide))
      have k20 : w18 (ad 1) = some (aI G 600 (F1 1)) := by rw [e19]; exact lk_ne (adne hM 1 0 (by decide) (by decide) (by decide)) k5
      have k21 : w18 (ad 2) = some (aI G 600 (F1 2)) := by rw [e19]; exact lk_ne (adne hM 2 0 (by decide) (by decide) (by decide)) k6
      have k22 : w18 (ad 3) = some (aI G 600 (F1 3)) := by rw [e19]; exact lk_ne (adne hM 3 0 (by decide) (by decide) (by decide)) k7
      have k23 : w18 (ad 4) = some (aI G 600 (F1 4)) := by rw [e19]; exact lk_ne (adne hM 4 0 (by decide) (by decide) (by decide)) k8
      have k24 : w18 (ad 5) = some (aI G 7200 (F1 5)) := by rw [e19]; exact lk_ne (adne hM 5 0 (by decide) (by decide) (by decide)) k9
      have k25 : w18 (ad 6) = some (aI G 600 (F1 6)) := by rw [e19]; exact lk_ne (adne hM 6 0 (by decide) (by decide) (by decide)) k10
      have k26 : w18 (ad 7) = some (aZ G 600 (F1 7)) := by rw [e19]; exact lk_ne (adne hM 7 0 (by decide) (by decide) (by decide)) k11
      have k27 : w18 (ad 8) = some (aI G 6 (F1 8)) := by rw [e19]; exact lk_ne (adne hM 8 0 (by decide) (by decide) (by decide)) k12
      have k28 : w18 (ad 9) = some (aI G 12 (F1 9)) := by rw [e19]; exact lk_ne (adne hM 9 0 (by decide) (by decide) (by decide)) k13
      have k29 : w18 (ad 10) = some (aI G 144 (F1 10)) := by rw [e19]; exact lk_ne (adne hM 10 0 (by decide) (by decide) (by decide)) k14
      have k30 : w18 (ad 11) = some (aI G 8 (F1 11)) := by rw [e19]; exact lk_ne (adne hM 11 0 (by decide) (by decide) (by decide)) k15
      have k31 : w18 (ad 0) = some (cMo (some (ad 1)) (some (ad 2)) (some (ad 3)) (some (ad 4)) (some (ad 5)) (some (ad 6)) (some (ad 7)) (some (ad 8)) n b (some (ad 9)) ro wi (some (ad 10)) y.2.2.2.2.1 (some (ad 11))) := by rw [e19]; exact up_eq
      refine lv_iconst (v := 0) X.1 X.2.1 dX5_siding_32 (by decide) ?_
      refine f_istore X hl ⟨_, rfl, dX5_siding_33⟩ (by decide) (fun ls hl => ?_)
      have hl : lV ls _ [some (.ref (ad 0)), some (.int n), some (.int b), some (.int 0)] := hl
      have hloop : ∀ (fu : Nat) (i : Nat) (x3 : Int32) (f : Nat → Int32) (wL : wT), (x3 = nI i) → (∀ q, q < i → f q = -1) → (i ≤ 12) → (12 < i + fu) → wL = va_up w18 (ad 9) (some (aI G 12 f)) → FrM w tg wL → ∀ (H : Heap) (locs : List Loc) (ls : Array Slot), wZ G wL s H locs → lV ls 4 [some (.ref (ad 0)), some (.int n), some (.int b), some (.int x3)] → W p l e ({ frames := 2, cells := 0, slots := 0, locals := 42 }) s m [.ref (ad 0), .int n, .int b].toArray below meth cd H locs 0 0 (MQ below (Qi G (OutM G tg w ad c (sp_siding n b y))) [.ref (ad 0), .int n, .int b].toArray s 0 0 (fr G)) (F0 m 34 ls []) := by
        clear hl Z
        intro fu
        induction fu with
        | zero => intro i x3 f wL hx3 hz hle hfu hwL hfL H locs ls Z hl; exact absurd hfu (by omega)
        | succ fu ih =>
          intro i x3 f wL hx3 hz hle hfu hwL hfL H locs ls Z hl
          have k33 : wL (ad 1) = some (aI G 600 (F1 1)) := by rw [hwL]; exact lk_ne (adne hM 1 9 (by decide) (by decide) (by decide)) k20
          have k34 : wL (ad 2) = some (aI G 600 (F1 2)) := by rw [hwL]; exact lk_ne (adne hM 2 9 (by decide) (by decide) (by decide)) k21
          have k35 : wL (ad 3) = some (aI G 600 (F1 3)) := by rw [hwL]; exact lk_ne (adne hM 3 9 (by decide) (by decide) (by decide)) k22
          have k36 : wL (ad 4) = some (aI G 600 (F1 4)) := by rw [hwL]; exact lk_ne (adne hM 4 9 (by decide) (by decide) (by decide)) k23
          have k37 : wL (ad 5) = some (aI G 7200 (F1 5)) := by rw [hwL]; exact lk_ne (adne hM 5 9 (by decide) (by decide) (by decide)) k24
          have k38 : wL (ad 6) = some (aI G 600 (F1 6)) := by rw [hwL]; exact lk_ne (adne hM 6 9 (by decide) (by decide) (by decide)) k25
          have k39 : wL (ad 7) = some (aZ G 600 (F1 7)) := by rw [hwL]; exact lk_ne (adne hM 7 9 (by decide) (by decide) (by decide)) k26
          have k40 : wL (ad 8) = some (aI G 6 (F1 8)) := by rw [hwL]; exact lk_ne (adne hM 8 9 (by decide) (by decide) (by decide)) k27
          have k41 : wL (ad 10) = some (aI G 144 (F1 10)) := by rw [hwL]; exact lk_ne (adne hM 10 9 (by decide) (by decide) (by decide)) k29
          have k42 : wL (ad 11) = some (aI G 8 (F1 11)) := by rw [hwL]; exact lk_ne (adne hM 11 9 (by decide) (by decide) (by decide)) k30
          have k43 : wL (ad 0) = some (cMo (some (ad 1)) (some (ad 2)) (some (ad 3)) (some (ad 4)) (some (ad 5)) (some (ad 6)) (some (ad 7)) (some (ad 8)) n b (some (ad 9)) ro wi (some (ad 10)) y.2.2.2.2.1 (some (ad 11))) := by rw [hwL]; exact lk_ne (adne hM 0 9 (by decide) (by decide) (by decide)) k31
          have k44 : wL (ad 9) = some (aI G 12 f) := by rw [hwL]; exact up_eq
          have hxc : x3.toNatClampNeg = i := by rw [hx3, nI_clamp (by omega)]
          refine f_iload X hl ⟨_, rfl, dX5_siding_34⟩ rfl ?_
          refine lv_bipush (v := 12) X.1 X.2.1 dX5_siding_35 (by decide) ?_
          refine lv_icmp_ge (tgt := 53) X.1 X.2.1 dX5_siding_37 (by decide) (fun c37 => ?_) (fun c37 => ?_)
          · refine f_iload X hl ⟨_, rfl, dX5_siding_53⟩ rfl ?_
            exact f_iret X hr hlk Z (Nat.le_of_ble_eq_true rfl) (Nat.le_of_ble_eq_true rfl) dX5_siding_54 (by
                have hi : 12 ≤ i := (nI_leI (a := 12) (b := i) (by omega) (by omega)).mp (hx3 ▸ c37)
                exact outM_of (hP.clr (F' := (mkF (F1 1) (F1 2) (F1 3) (F1 4) (F1 5) (F1 6) (F1 7) (F1 8) f (F1 10) (F1 11))) (os' := some (n.toNatClampNeg, b)) (Or.inr ⟨n.toNatClampNeg, b, (nI_tn hn0).symm, rfl, rfl, toNat_le hn12, fun q hq => (hz q (by have := toNat_le (n := n) (m := 12) hn12; omega)).trans (by simp [Tclr, hd, enc, show ¬ 6 + q < 6 by omega])⟩) (ek 1 (by decide) (by decide) (by decide) (by decide)) (ek 2 (by decide) (by decide) (by decide) (by decide)) (ek 3 (by decide) (by decide) (by decide) (by decide)) (ek 4 (by decide) (by decide) (by decide) (by decide)) (ek 5 (by decide) (by decide) (by decide) (by decide)) (ek 6 (by decide) (by decide) (by decide) (by decide)) (fun t1 i1 v1 d1 ht1 hz1 => e7a v1 (fun q hq hz => by obtain ⟨d2, hd2⟩ := hd_at hz; have := (h1.2 _ _ _ _ _ _ _ hz1 hd2).1; omega)) (fun v1 hv1 => (e7b v1).elim (fun z => z.trans (h4 v1 hv1)) id) (ek 8 (by decide) (by decide) (by decide) (by decide)) (ek 10 (by decide) (by decide) (by decide) (by decide)) (ek 11 (by decide) (by decide) (by decide) (by decide))) (MW.of hM k43 k33 k34 k35 k36 k37 k38 k39 k40 k44 k41 k42) (by omega) hfL (by unfold sp_siding tn; rw [if_pos hn12, if_neg (by omega)]))
          · have hlt : i < 12 := by
              rcases Nat.lt_or_ge i 12 with q | q
              · exact q
              · exact absurd (by rw [hx3]; exact nI_le (a := 12) q (by omega)) c37
            refine f_aload (v := .ref (ad 0)) X hl ⟨_, rfl, dX5_siding_40⟩ rfl ⟨(some (ad 0)), rfl⟩ ?_
            refine f_get (v := .ref (ad 9)) (k := 10) X Z i5 rfl (by decide) (by decide +kernel) dX5_siding_41 k43 rfl ?_
            refine f_iload X hl ⟨_, rfl, dX5_siding_44⟩ rfl ?_
            refine lv_iconst (v := (-1)) X.1 X.2.1 dX5_siding_45 (by decide) ?_
            refine f_iast X Z dX5_siding_46 k44 (by rw [hx3]; exact vp_in_nI hlt (by decide)) (fun H locs w45 e46 Z => ?_)
            rw [hxc] at e46
            have e46 : w45 = va_up wL (ad 9) (some (aI G 12 (upd f i (-1)))) := e46
            have fm59 : FrM w tg w45 := by rw [e46]; exact FrM.put hfL (hM.2.2 9 (by decide))
            have k47 : w45 (ad 1) = some (aI G 600 (F1 1)) := by rw [e46]; exact lk_ne (adne hM 1 9 (by decide) (by decide) (by decide)) k33
            have k48 : w45 (ad 2) = some (aI G 600 (F1 2)) := by rw [e46]; exact lk_ne (adne hM 2 9 (by decide) (by decide) (by decide)) k34
            have k49 : w45 (ad 3) = some (aI G 600 (F1 3)) := by rw [e46]; exact lk_ne (adne hM 3 9 (by decide) (by decide) (by decide)) k35
            have k50 : w45 (ad 4) = some (aI G 600 (F1 4)) := by rw [e46]; exact lk_ne (adne hM 4 9 (by decide) (by decide) (by decide)) k36
            have k51 : w45 (ad 5) = some (aI G 7200 (F1 5)) := by rw [e46]; exact lk_ne (adne hM 5 9 (by decide) (by decide) (by decide)) k37
            have k52 : w45 (ad 6) = some (aI G 600 (F1 6)) := by rw [e46]; exact lk_ne (adne hM 6 9 (by decide) (by decide) (by decide)) k38
            have k53 : w45 (ad 7) = some (aZ G 600 (F1 7)) := by rw [e46]; exact lk_ne (adne hM 7 9 (by decide) (by decide) (by decide)) k39
            have k54 : w45 (ad 8) = some (aI G 6 (F1 8)) := by rw [e46]; exact lk_ne (adne hM 8 9 (by decide) (by decide) (by decide)) k40
            have k55 : w45 (ad 10) = some (aI G 144 (F1 10)) := by rw [e46]; exact lk_ne (adne hM 10 9 (by decide) (by decide) (by decide)) k41
            have k56 : w45 (ad 11) = some (aI G 8 (F1 11)) := by rw [e46]; exact lk_ne (adne hM 11 9 (by decide) (by decide) (by decide)) k42
            have k57 : w45 (ad 0) = some (cMo (some (ad 1)) (some (ad 2)) (some (ad 3)) (some (ad 4)) (some (ad 5)) (some (ad 6)) (some (ad 7)) (some (ad 8)) n b (some (ad 9)) ro wi (some (ad 10)) y.2.2.2.2.1 (some (ad 11))) := by rw [e46]; exact lk_ne (adne hM 0 9 (by decide) (by decide) (by decide)) k43
            have k58 : w45 (ad 9) = some (aI G 12 (upd f i (-1))) := by rw [e46]; exact up_eq
            refine f_iinc (v := 1) X hl dX5_siding_47 (by decide) rfl (by decide) (fun ls hl => ?_)
            have hl : lV ls _ [some (.ref (ad 0)), some (.int n), some (.int b), some (.int (x3 + 1))] := hl
            refine lv_goto (tgt := 34) X.1 X.2.1 dX5_siding_50 (by decide) ?_
            have hwN : w45 = va_up w18 (ad 9) (some (aI G 12 (upd f i (-1)))) := by rw [e46, hwL, va_uu]
            exact ih (i + 1) _ _ _ (by rw [hx3]; exact nI_1 i) (fun q h => by by_cases hqi : q = i; subst hqi; exact upd_at; exact (upd_off hqi).trans (hz q (by omega))) (by omega) (by omega) hwN fm59 _ _ _ Z hl
      exact hloop 13 0 _ _ _ nI_0.symm (fun q h => absurd h (by omega)) (by omega) (by omega) (up_self k28).symm fm32 _ _ _ Z hl
    · refine f_aload (v := .ref (ad 0)) X hl ⟨_, rfl, dX5_siding_12⟩ rfl ⟨(some (ad 0)), rfl⟩ ?_
      refine lv_iconst (v := 4) X.1 X.2.1 dX5_siding_13 (by decide) ?_
      refine f_callVi (rest := []) X Z hl.1 (c_X5_no l G w tg ad F sd na ro wi y.2.2.2.2.1 hM 4 (by decide)) (cwV 1 X.2.2.2.2 gX5_siding_X5_no rfl rfl rfl (by decide +kernel) ⟨(Nat.le_of_ble_eq_true rfl), (Nat.le_of_ble_eq_true rfl)⟩) rfl rfl dX5_siding_14 ⟨(Nat.le_of_ble_eq_true rfl), (Nat.le_of_ble_eq_true rfl)⟩ rfl (Nat.le_of_ble_eq_true rfl) km0 (fun r14 w60 H locs p14 Z => ?_)
      obtain ⟨hrT, hwT⟩ := p14
      exact f_iret X hr hlk Z (Nat.le_of_ble_eq_true rfl) (Nat.le_of_ble_eq_true rfl) dX5_siding_17 (outM_no hP hM FrM.rf hrT hwT (by unfold sp_siding; rw [if_pos (le12 c3), if_pos (by rw [Int32.le_iff_toInt_le, kc_0] at c9; omega)]))
  · refine lv_iconst (v := (-1)) X.1 X.2.1 dX5_siding_6 (by decide) ?_
    exact f_iret X hr hlk Z (Nat.le_of_ble_eq_true rfl) (Nat.le_of_ble_eq_true rfl) dX5_siding_7 (outM_same hR (if_neg (nle12 c3)))
set_option maxHeartbeats 4000000 in
set_option maxRecDepth 100000 in
theorem c_X5_away (l : Launch) (G : gT) (w : wT) (tg : tT) (ad : Nat → Nat) (c nb : Nat) (y : Yd) (hR : RepM G tg w ad c y) (hY : Yok nb y) (hn : nb ≤ 512) (x : Int32) : Met l yX5_away wsX5_away ({ frames := 2, cells := 0, slots := 0, locals := 42 }) (va_Pc [.ref (ad 0), .int x] (wG G w)) (Qi G (OutM G tg w ad c (sp_away x y))) 0 0 (fr G) := by
  refine f_met (cc := cX5_away) (maxL := 3) (ret := (some .int)) (by decide) rfl rfl (Nat.le_of_ble_eq_true rfl) ?_
  intro p e s m below meth cd X hr hlk hnm Z ls hl
  have X : CallFix p m cd cX5_away 3 s [.ref (ad 0), .int x].toArray wsX5_away RX5 := X
  have hl : lV ls _ [some (.ref (ad 0)), some (.int x), none] := hl
  have i5 : ∀ w ∈ wsX50, w ∈ wsX5_away := by decide +kernel
  obtain ⟨F, sd, na, ro, wi, T, hM, hP⟩ := id hR
  obtain ⟨h1, h2, h3, h4, h5, h6, h7⟩ := id hP
  have km0 := hM.1
  have km1 : w (ad 1) = some (aI G 600 (F 1)) := hM.2.1 1 (by decide) (by decide)
  have km2 : w (ad 2) = some (aI G 600 (F 2)) := hM.2.1 2 (by decide) (by decide)
  have km3 : w (ad 3) = some (aI G 600 (F 3)) := hM.2.1 3 (by decide) (by decide)
  have km4 : w (ad 4) = some (aI G 600 (F 4)) := hM.2.1 4 (by decide) (by decide)
  have km5 : w (ad 5) = some (aI G 7200 (F 5)) := hM.2.1 5 (by decide) (by decide)
  have km6 : w (ad 6) = some (aI G 600 (F 6)) := hM.2.1 6 (by decide) (by decide)
  have km7 : w (ad 7) = some (aZ G 600 (F 7)) := hM.2.1 7 (by decide) (by decide)
  have km8 : w (ad 8) = some (aI G 6 (F 8)) := hM.2.1 8 (by decide) (by decide)
  have km9 : w (ad 9) = some (aI G 12 (F 9)) := hM.2.1 9 (by decide) (by decide)
  have km10 : w (ad 10) = some (aI G 144 (F 10)) := hM.2.1 10 (by decide) (by decide)
  have km11 : w (ad 11) = some (aI G 8 (F 11)) := hM.2.1 11 (by decide) (by decide)
  refine f_iload X hl ⟨_, rfl, dX5_away_0⟩ rfl ?_
  refine lv_iconst (v := 0) X.1 X.2.1 dX5_away_1 (by decide) ?_
  refine lv_iconst (v := 1) X.1 X.2.1 dX5_away_2 (by decide) ?_
  refine f_callSi (rest := []) X Z hl.1 (c_X5_in l G _ _ _ _) (va_cwS 3 X.2.2.2.2 gX5_away_X5_in rfl rfl rfl (by decide +kernel) ⟨(Nat.le_of_ble_eq_true rfl), (Nat.le_of_ble_eq_true rfl)⟩) rfl dX5_away_3 ⟨(Nat.le_of_ble_eq_true rfl), (Nat.le_of_ble_eq_true rfl)⟩ rfl (Nat.le_of_ble_eq_true rfl) (fun r3 w1 H locs p3 Z => ?_)
  obtain ⟨w1e, hr3⟩ := p3
  have w1e := w1e.symm
  subst w1e
  refine lv_if_ne (tgt := 11) X.1 X.2.1 dX5_away_6 (by decide) (fun c6 => ?_) (fun c6 => ?_)
  · rw [hr3, bI_0, Classical.not_not] at c6
    refine f_iload X hl ⟨_, rfl, dX5_away_11⟩ rfl ?_
    refine lv_if_ne (tgt := 31) X.1 X.2.1 dX5_away_12 (by decide) (fun c12 => ?_) (fun c12 => ?_)
    · have hx1 := is1 c6 c12
      refine f_aload (v := .ref (ad 0)) X hl ⟨_, rfl, dX5_away_31⟩ rfl ⟨(some (ad 0)), rfl⟩ ?_
      refine f_get (v := .int ro) (k := 11) X Z i5 rfl (by decide) (by decide +kernel) dX5_away_32 km0 rfl ?_
      refine lv_iconst (v := (-1)) X.1 X.2.1 dX5_away_35 (by decide) ?_
      refine lv_icmp_eq (tgt := 43) X.1 X.2.1 dX5_away_36 (by decide) (fun c36 => ?_) (fun c36 => ?_)
      · refine lv_iconst (v := 0) X.1 X.2.1 dX5_away_43 (by decide) ?_
        refine f_istore X hl ⟨_, rfl, dX5_away_44⟩ (by decide) (fun ls hl => ?_)
        have hl : lV ls _ [some (.ref (ad 0)), some (.int x), some (.int 0)] := hl
        refine f_iload X hl ⟨_, rfl, dX5_away_45⟩ rfl ?_
        refine lv_if_ne (tgt := 61) X.1 X.2.1 dX5_away_46 (by decide) (fun c46 => ?_) (fun c46 => ?_)
        · refine f_aload (v := .ref (ad 0)) X hl ⟨_, rfl, dX5_away_61⟩ rfl ⟨(some (ad 0)), rfl⟩ ?_
          refine lv_iconst (v := (-1)) X.1 X.2.1 dX5_away_62 (by decide) ?_
          refine f_put (v := .int (-1)) (ty0 := tyX5) (k := 11) X Z i5 tyX5_ok nmX5 rfl (by decide) (by decide +kernel) rfl dX5_away_63 km0 rfl rfl (Nat.le_of_ble_eq_true rfl) (fun H locs w2 e3 Z => ?_)
          have e3 : w2 = va_up w (ad 0) (some (cMo (some (ad 1)) (some (ad 2)) (some (ad 3)) (some (ad 4)) (some (ad 5)) (some (ad 6)) (some (ad 7)) (some (ad 8)) sd na (some (ad 9)) (-1) wi (some (ad 10)) y.2.2.2.2.1 (some (ad 11)))) := e3
          have fm16 : FrM w tg w2 := by rw [e3]; exact FrM.put FrM.rf (hM.2.2 0 (by decide))
          have k4 : w2 (ad 1) = some (aI G 600 (F 1)) := by rw [e3]; exact lk_ne (adne hM 1 0 (by decide) (by decide) (by decide)) km1
          have k5 : w2 (ad 2) = some (aI G 600 (F 2)) := by rw [e3]; exact lk_ne (adne hM 2 0 (by decide) (by decide) (by decide)) km2
          have k6 : w2 (ad 3) = some (aI G 600 (F 3)) := by rw [e3]; exact lk_ne (adne hM 3 0 (by decide) (by decide) (by decide)) km3
          have k7 : w2 (ad 4) = some (aI G 600 (F 4)) := by rw [e3]; exact lk_ne (adne hM 4 0 (by decide) (by decide) (by decide)) km4
          have k8 : w2 (ad 5) = some (aI G 7200 (F 5)) := by rw [e3]; exact lk_ne (adne hM 5 0 (by decide) (by decide) (by decide)) km5
          have k9 : w2 (ad 6) = some (aI G 600 (F 6)) := by rw [e3]; exact lk_ne (adne hM 6 0 (by decide) (by decide) (by decide)) km6
          have k10 : w2 (ad 7) = some (aZ G 600 (F 7)) := by rw [e3]; exact lk_ne (adne hM 7 0 (by decide) (by decide) (by decide)) km7
          have k11 : w2 (ad 8) = some (aI G 6 (F 8)) := by rw [e3]; exact lk_ne (adne hM 8 0 (by decide) (by decide) (by decide)) km8
          have k12 : w2 (ad 9) = some (aI G 12 (F 9)) := by rw [e3]; exact lk_ne (adne hM 9 0 (by decide) (by decide) (by decide)) km9
          have k13 : w2 (ad 10) = some (aI G 144 (F 10)) := by rw [e3]; exact lk_ne (adne hM 10 0 (by decide) (by decide) (by decide)) km10
          have k14 : w2 (ad 11) = some (aI G 8 (F 11)) := by rw [e3]; exact lk_ne (adne hM 11 0 (by decide) (by decide) (by decide)) km11
          have k15 : w2 (ad 0) = some (cMo (some (ad 1)) (some (ad 2)) (some (ad 3)) (some (ad 4)) (some (ad 5)) (some (ad 6)) (some (ad 7)) (some (ad 8)) sd na (some (ad 9)) (-1) wi (some (ad 10)) y.2.2.2.2.1 (some (ad 11))) := by rw [e3]; exact up_eq
          refine f_iload X hl ⟨_, rfl, dX5_away_66⟩ rfl ?_
          refine lv_if_eq (tgt := 74) X.1 X.2.1 dX5_away_67 (by decide) (fun c67 => ?_) (fun c67 => ?_)
          · refine lv_iconst (v := 0) X.1 X.2.1 dX5_away_74 (by decide) ?_
            exact f_iret X hr hlk Z (Nat.le_of_ble_eq_true rfl) (Nat.le_of_ble_eq_true rfl) dX5_away_75 (outM_of (hP.planned (F' := F) (ro' := -1) (wi' := wi) (op' := none) (N' := y.2.2.2.1) (Or.inl ⟨rfl, rfl⟩) (fun _ _ _ _ => rfl)) (hM.fld e3) (by omega) fm16 (by unfold sp_away; rw [if_neg c12, if_pos hx1, bI_f (c := y.2.2.1 ≠ none) (fun z => z (PlMn h6 c36))]))
          · exact absurd rfl c67
        · exact absurd c46 c12
      · refine lv_iconst (v := 1) X.1 X.2.1 dX5_away_39 (by decide) ?_
        refine lv_goto (tgt := 44) X.1 X.2.1 dX5_away_40 (by decide) ?_
        refine f_istore X hl ⟨_, rfl, dX5_away_44⟩ (by decide) (fun ls hl => ?_)
        have hl : lV ls _ [some (.ref (ad 0)), some (.int x), some (.int 1)] := hl
        refine f_iload X hl ⟨_, rfl, dX5_away_45⟩ rfl ?_
        refine lv_if_ne (tgt := 61) X.1 X.2.1 dX5_away_46 (by decide) (fun c46 => ?_) (fun c46 => ?_)
        · refine f_aload (v := .ref (ad 0)) X hl ⟨_, rfl, dX5_away_61⟩ rfl ⟨(some (ad 0)), rfl⟩ ?_
          refine lv_iconst (v := (-1)) X.1 X.2.1 dX5_away_62 (by decide) ?_
          refine f_put (v := .int (-1)) (ty0 := tyX5) (k := 11) X Z i5 tyX5_ok nmX5 rfl (by decide) (by decide +kernel) rfl dX5_away_63 km0 rfl rfl (Nat.le_of_ble_eq_true rfl) (fun H locs w17 e18 Z => ?_)
          have e18 : w17 = va_up w (ad 0) (some (cMo (some (ad 1)) (some (ad 2)) (some (ad 3)) (some (ad 4)) (some (ad 5)) (some (ad 6)) (some (ad 7)) (some (ad 8)) sd na (some (ad 9)) (-1) wi (some (ad 10)) y.2.2.2.2.1 (some (ad 11)))) := e18
          have fm31 : FrM w tg w17 := by rw [e18]; exact FrM.put FrM.rf (hM.2.2 0 (by decide))
          have k19 : w17 (ad 1) = some (aI G 600 (F 1)) := by rw [e18]; exact lk_ne (adne hM 1 0 (by decide) (by decide) (by decide)) km1
          have k20 : w17 (ad 2) = some (aI G 600 (F 2)) := by rw [e18]; exact lk_ne (adne hM 2 0 (by decide) (by decide) (by decide)) km2
          have k21 : w17 (ad 3) = some (aI G 600 (F 3)) := by rw [e18]; exact lk_ne (adne hM 3 0 (by decide) (by decide) (by decide)) km3
          have k22 : w17 (ad 4) = some (aI G 600 (F 4)) := by rw [e18]; exact lk_ne (adne hM 4 0 (by decide) (by decide) (by decide)) km4
          have k23 : w17 (ad 5) = some (aI G 7200 (F 5)) := by rw [e18]; exact lk_ne (adne hM 5 0 (by decide) (by decide) (by decide)) km5
          have k24 : w17 (ad 6) = some (aI G 600 (F 6)) := by rw [e18]; exact lk_ne (adne hM 6 0 (by decide) (by decide) (by decide)) km6
          have k25 : w17 (ad 7) = some (aZ G 600 (F 7)) := by rw [e18]; exact lk_ne (adne hM 7 0 (by decide) (by decide) (by decide)) km7
          have k26 : w17 (ad 8) = some (aI G 6 (F 8)) := by rw [e18]; exact lk_ne (adne hM 8 0 (by decide) (by decide) (by decide)) km8
          have k27 : w17 (ad 9) = some (aI G 12 (F 9)) := by rw [e18]; exact lk_ne (adne hM 9 0 (by decide) (by decide) (by decide)) km9
          have k28 : w17 (ad 10) = some (aI G 144 (F 10)) := by rw [e18]; exact lk_ne (adne hM 10 0 (by decide) (by decide) (by decide)) km10
          have k29 : w17 (ad 11) = some (aI G 8 (F 11)) := by rw [e18]; exact lk_ne (adne hM 11 0 (by decide) (by decide) (by decide)) km11
          have k30 : w17 (ad 0) = some (cMo (some (ad 1)) (some (ad 2)) (some (ad 3)) (some (ad 4)) (some (ad 5)) (some (ad 6)) (some (ad 7)) (some (ad 8)) sd na (some (ad 9)) (-1) wi (some (ad 10)) y.2.2.2.2.1 (some (ad 11))) := by rw [e18]; exact up_eq
          refine f_iload X hl ⟨_, rfl, dX5_away_66⟩ rfl ?_
          refine lv_if_eq (tgt := 74) X.1 X.2.1 dX5_away_67 (by decide) (fun c67 => ?_) (fun c67 => ?_)
          · exact absurd c67 (by decide)
          · refine lv_iconst (v := 1) X.1 X.2.1 dX5_away_70 (by decide) ?_
            refine lv_goto (tgt := 75) X.1 X.2.1 dX5_away_71 (by decide) ?_
            exact f_iret X hr hlk Z (Nat.le_of_ble_eq_true rfl) (Nat.le_of_ble_eq_true rfl) dX5_away_75 (outM_of (hP.planned (F' := F) (ro' := -1) (wi' := wi) (op' := none) (N' := y.2.2.2.1) (Or.inl ⟨rfl, rfl⟩) (fun _ _ _ _ => rfl)) (hM.fld e18) (by omega) fm31 (by unfold sp_away; rw [if_neg c12, if_pos hx1, bI_t (c := y.2.2.1 ≠ none) (fun z => by rcases PlMo h6 with ⟨q, -⟩ | ⟨r, k, -, q, -⟩; exact c36 q; rw [q] at z; cases z)]))
        · exact absurd c46 c12
    · refine f_aload (v := .ref (ad 0)) X hl ⟨_, rfl, dX5_away_15⟩ rfl ⟨(some (ad 0)), rfl⟩ ?_
      refine f_get (v := .int sd) (k := 8) X Z i5 rfl (by decide) (by decide +kernel) dX5_away_16 km0 rfl ?_
      refine lv_iconst (v := (-1)) X.1 X.2.1 dX5_away_19 (by decide) ?_
      refine lv_icmp_eq (tgt := 27) X.1 X.2.1 dX5_away_20 (by decide) (fun c20 => ?_) (fun c20 => ?_)
      · refine lv_iconst (v := 0) X.1 X.2.1 dX5_away_27 (by decide) ?_
        refine lv_goto (tgt := 44) X.1 X.2.1 dX5_away_28 (by decide) ?_
        refine f_istore X hl ⟨_, rfl, dX5_away_44⟩ (by decide) (fun ls hl => ?_)
        have hl : lV ls _ [some (.ref (ad 0)), some (.int x), some (.int 0)] := hl
        refine f_iload X hl ⟨_, rfl, dX5_away_45⟩ rfl ?_
        refine lv_if_ne (tgt := 61) X.1 X.2.1 dX5_away_46 (by decide) (fun c46 => ?_) (fun c46 => ?_)
        · exact absurd c12 c46
        · refine f_aload (v := .ref (ad 0)) X hl ⟨_, rfl, dX5_away_49⟩ rfl ⟨(some (ad 0)), rfl⟩ ?_
          obtain ⟨nn, hsdn, hnn, h9n⟩ := h5.n
          refine f_callVv (rest := []) X Z hl.1 (c_X5_clear l G w tg ad F sd na ro wi y.2.2.2.2.1 hM nn hsdn hnn (fun q => hd (T (6 + q))) h9n (fun q v hq hz => by obtain ⟨d, hd⟩ := hd_at hz; exact (h1.1 _ _ v d hd).1)) (cwV 0 X.2.2.2.2 gX5_away_X5_clear rfl rfl rfl (by decide +kernel) ⟨(Nat.le_of_ble_eq_true rfl), (Nat.le_of_ble_eq_true rfl)⟩) rfl rfl dX5_away_50 ⟨(Nat.le_of_ble_eq_true rfl), (Nat.le_of_ble_eq_true rfl)⟩ rfl (Nat.le_of_ble_eq_true rfl) km0 (fun w32 H locs p50 Z => ?_)
          obtain ⟨F1, hM1, hf1, ek, e9a, e9b, e7a, e7b⟩ := p50
          have u330 := hM1.1
          have u33_1 : w32 (ad 1) = some (aI G 600 (F1 1)) := hM1.2.1 1 (by decide) (by decide)
          have u33_2 : w32 (ad 2) = some (aI G 600 (F1 2)) := hM1.2.1 2 (by decide) (by decide)
          have u33_3 : w32 (ad 3) = some (aI G 600 (F1 3)) := hM1.2.1 3 (by decide) (by decide)
          have u33_4 : w32 (ad 4) = some (aI G 600 (F1 4)) := hM1.2.1 4 (by decide) (by decide)
          have u33_5 : w32 (ad 5) = some (aI G 7200 (F1 5)) := hM1.2.1 5 (by decide) (by decide)
          have u33_6 : w32 (ad 6) = some (aI G 600 (F1 6)) := hM1.2.1 6 (by decide) (by decide)
          have u33_7 : w32 (ad 7) = some (aZ G 600 (F1 7)) := hM1.2.1 7 (by decide) (by decide)
          have u33_8 : w32 (ad 8) = some (aI G 6 (F1 8)) := hM1.2.1 8 (by decide) (by decide)
          have u33_9 : w32 (ad 9) = some (aI G 12 (F1 9)) := hM1.2.1 9 (by decide) (by decide)
          have u33_10 : w32 (ad 10) = some (aI G 144 (F1 10)) := hM1.2.1 10 (by decide) (by decide)
          have u33_11 : w32 (ad 11) = some (aI G 8 (F1 11)) := hM1.2.1 11 (by decide) (by decide)
          refine f_aload (v := .ref (ad 0)) X hl ⟨_, rfl, dX5_away_53⟩ rfl ⟨(some (ad 0)), rfl⟩ ?_
          refine lv_iconst (v := (-1)) X.1 X.2.1 dX5_away_54 (by decide) ?_
          refine f_put (v := .int (-1)) (ty0 := tyX5) (k := 8) X Z i5 tyX5_ok nmX5 rfl (by decide) (by decide +kernel) rfl dX5_away_55 u330 rfl rfl (Nat.le_of_ble_eq_true rfl) (fun H locs w34 e35 Z => ?_)
          have e35 : w34 = va_up w32 (ad 0) (some (cMo (some (ad 1)) (some (ad 2)) (some (ad 3)) (some (ad 4)) (some (ad 5)) (some (ad 6)) (some (ad 7)) (some (ad 8)) (-1) na (some (ad 9)) ro wi (some (ad 10)) y.2.2.2.2.1 (some (ad 11)))) := e35
          have fm48 : FrM w tg w34 := by rw [e35]; exact FrM.put hf1 (hM.2.2 0 (by decide))
          have k36 : w34 (ad 1) = some (aI G 600 (F1 1)) := by rw [e35]; exact lk_ne (adne hM 1 0 (by decide) (by decide) (by decide)) u33_1
          have k37 : w34 (ad 2) = some (aI G 600 (F1 2)) := by rw [e35]; exact lk_ne (adne hM 2 0 (by decide) (by decide) (by decide)) u33_2
          have k38 : w34 (ad 3) = some (aI G 600 (F1 3)) := by rw [e35]; exact lk_ne (adne hM 3 0 (by decide) (by decide) (by decide)) u33_3
          have k39 : w34 (ad 4) = some (aI G 600 (F1 4)) := by rw [e35]; exact lk_ne (adne hM 4 0 (by decide) (by decide) (by decide)) u33_4
          have k40 : w34 (ad 5) = some (aI G 7200 (F1 5)) := by rw [e35]; exact lk_ne (adne hM 5 0 (by decide) (by decide) (by decide)) u33_5
          have k41 : w34 (ad 6) = some (aI G 600 (F1 6)) := by rw [e35]; exact lk_ne (adne hM 6 0 (by decide) (by decide) (by decide)) u33_6
          have k42 : w34 (ad 7) = some (aZ G 600 (F1 7)) := by rw [e35]; exact lk_ne (adne hM 7 0 (by decide) (by decide) (by decide)) u33_7
          have k43 : w34 (ad 8) = some (aI G 6 (F1 8)) := by rw [e35]; exact lk_ne (adne hM 8 0 (by decide) (by decide) (by decide)) u33_8
          have k44 : w34 (ad 9) = some (aI G 12 (F1 9)) := by rw [e35]; exact lk_ne (adne hM 9 0 (by decide) (by decide) (by decide)) u33_9
          have k45 : w34 (ad 10) = some (aI G 144 (F1 10)) := by rw [e35]; exact lk_ne (adne hM 10 0 (by decide) (by decide) (by decide)) u33_10
          have k46 : w34 (ad 11) = some (aI G 8 (F1 11)) := by rw [e35]; exact lk_ne (adne hM 11 0 (by decide) (by decide) (by decide)) u33_11
          have k47 : w34 (ad 0) = some (cMo (some (ad 1)) (some (ad 2)) (some (ad 3)) (some (ad 4)) (some (ad 5)) (some (ad 6)) (some (ad 7)) (some (ad 8)) (-1) na (some (ad 9)) ro wi (some (ad 10)) y.2.2.2.2.1 (some (ad 11))) := by rw [e35]; exact up_eq
          refine lv_goto (tgt := 66) X.1 X.2.1 dX5_away_58 (by decide) ?_
          refine f_iload X hl ⟨_, rfl, dX5_away_66⟩ rfl ?_
          refine lv_if_eq (tgt := 74) X.1 X.2.1 dX5_away_67 (by decide) (fun c67 => ?_) (fun c67 => ?_)
          · refine lv_iconst (v := 0) X.1 X.2.1 dX5_away_74 (by decide) ?_
            exact f_iret X hr hlk Z (Nat.le_of_ble_eq_true rfl) (Nat.le_of_ble_eq_true rfl) dX5_away_75 (outM_of (hP.clr (F' := F1) (sd' := -1) (na' := na) (os' := none) (Or.inl ⟨rfl, rfl⟩) (ek 1 (by decide) (by decide) (by decide) (by decide)) (ek 2 (by decide) (by decide) (by decide) (by decide)) (ek 3 (by decide) (by decide) (by decide) (by decide)) (ek 4 (by decide) (by decide) (by decide) (by decide)) (ek 5 (by decide) (by decide) (by decide) (by decide)) (ek 6 (by decide) (by decide) (by decide) (by decide)) (fun t1 i1 v1 d1 ht1 hz1 => e7a v1 (fun q hq hz => by obtain ⟨d2, hd2⟩ := hd_at hz; have := (h1.2 _ _ _ _ _ _ _ hz1 hd2).1; omega)) (fun v1 hv1 => (e7b v1).elim (fun z => z.trans (h4 v1 hv1)) id) (ek 8 (by decide) (by decide) (by decide) (by decide)) (ek 10 (by decide) (by decide) (by decide) (by decide)) (ek 11 (by decide) (by decide) (by decide) (by decide))) (hM1.fld e35) (by omega) fm48 (by unfold sp_away; rw [if_pos c12, bI_f (c := y.2.1 ≠ none) (fun z => z (SMn h5 c20))]))
          · exact absurd rfl c67
      · refine lv_iconst (v := 1) X.1 X.2.1 dX5_away_23 (by decide) ?_
        refine lv_goto (tgt := 44) X.1 X.2.1 dX5_away_24 (by decide) ?_
        refine f_istore X hl ⟨_, rfl, dX5_away_44⟩ (by decide) (fun ls hl => ?_)
        have hl : lV ls _ [some (.ref (ad 0)), some (.int x), some (.int 1)] := hl
        refine f_iload X hl ⟨_, rfl, dX5_away_45⟩ rfl ?_
        refine lv_if_ne (tgt := 61) X.1 X.2.1 dX5_away_46 (by decide) (fun c46 => ?_) (fun c46 => ?_)
        · exact absurd c12 c46
        · refine f_aload (v := .ref (ad 0)) X hl ⟨_, rfl, dX5_away_49⟩ rfl ⟨(some (ad 0)), rfl⟩ ?_
          obtain ⟨nn, hsdn, hnn, h9n⟩ := h5.n
          refine f_callVv (rest := []) X Z hl.1 (c_X5_clear l G w tg ad F sd na ro wi y.2.2.2.2.1 hM nn hsdn hnn (fun q => hd (T (6 + q))) h9n (fun q v hq hz => by obtain ⟨d, hd⟩ := hd_at hz; exact (h1.1 _ _ v d hd).1)) (cwV 0 X.2.2.2.2 gX5_away_X5_clear rfl rfl rfl (by decide +kernel) ⟨(Nat.le_of_ble_eq_true rfl), (Nat.le_of_ble_eq_true rfl)⟩) rfl rfl dX5_away_50 ⟨(Nat.le_of_ble_eq_true rfl), (Nat.le_of_ble_eq_true rfl)⟩ rfl (Nat.le_of_ble_eq_true rfl) km0 (fun w49 H locs p50 Z => ?_)
          obtain ⟨F1, hM1, hf1, ek, e9a, e9b, e7a, e7b⟩ := p50
          have u500 := hM1.1
          have u50_1 : w49 (ad 1) = some (aI G 600 (F1 1)) := hM1.2.1 1 (by decide) (by decide)
          have u50_2 : w49 (ad 2) = some (aI G 600 (F1 2)) := hM1.2.1 2 (by decide) (by decide)
          have u50_3 : w49 (ad 3) = some (aI G 600 (F1 3)) := hM1.2.1 3 (by decide) (by decide)
          have u50_4 : w49 (ad 4) = some (aI G 600 (F1 4)) := hM1.2.1 4 (by decide) (by decide)
          have u50_5 : w49 (ad 5) = some (aI G 7200 (F1 5)) := hM1.2.1 5 (by decide) (by decide)
          have u50_6 : w49 (ad 6) = some (aI G 600 (F1 6)) := hM1.2.1 6 (by decide) (by decide)
          have u50_7 : w49 (ad 7) = some (aZ G 600 (F1 7)) := hM1.2.1 7 (by decide) (by decide)
          have u50_8 : w49 (ad 8) = some (aI G 6 (F1 8)) := hM1.2.1 8 (by decide) (by decide)
          have u50_9 : w49 (ad 9) = some (aI G 12 (F1 9)) := hM1.2.1 9 (by decide) (by decide)
          have u50_10 : w49 (ad 10) = some (aI G 144 (F1 10)) := hM1.2.1 10 (by decide) (by decide)
          have u50_11 : w49 (ad 11) = some (aI G 8 (F1 11)) := hM1.2.1 11 (by decide) (by decide)
          refine f_aload (v := .ref (ad 0)) X hl ⟨_, rfl, dX5_away_53⟩ rfl ⟨(some (ad 0)), rfl⟩ ?_
          refine lv_iconst (v := (-1)) X.1 X.2.1 dX5_away_54 (by decide) ?_
          refine f_put (v := .int (-1)) (ty0 := tyX5) (k := 8) X Z i5 tyX5_ok nmX5 rfl (by decide) (by decide +kernel) rfl dX5_away_55 u500 rfl rfl (Nat.le_of_ble_eq_true rfl) (fun H locs w51 e52 Z => ?_)
          have e52 : w51 = va_up w49 (ad 0) (some (cMo (some (ad 1)) (some (ad 2)) (some (ad 3)) (some (ad 4)) (some (ad 5)) (some (ad 6)) (some (ad 7)) (some (ad 8)) (-1) na (some (ad 9)) ro wi (some (ad 10)) y.2.2.2.2.1 (some (ad 11)))) := e52
          have fm65 : FrM w tg w51 := by rw [e52]; exact FrM.put hf1 (hM.2.2 0 (by decide))
          have k53 : w51 (ad 1) = some (aI G 600 (F1 1)) := by rw [e52]; exact lk_ne (adne hM 1 0 (by decide) (by decide) (by decide)) u50_1
          have k54 : w51 (ad 2) = some (aI G 600 (F1 2)) := by rw [e52]; exact lk_ne (adne hM 2 0 (by decide) (by decide) (by decide)) u50_2
          have k55 : w51 (ad 3) = some (aI G 600 (F1 3)) := by rw [e52]; exact lk_ne (adne hM 3 0 (by decide) (by decide) (by decide)) u50_3
          have k56 : w51 (ad 4) = some (aI G 600 (F1 4)) := by rw [e52]; exact lk_ne (adne hM 4 0 (by decide) (by decide) (by decide)) u50_4
          have k57 : w51 (ad 5) = some (aI G 7200 (F1 5)) := by rw [e52]; exact lk_ne (adne hM 5 0 (by decide) (by decide) (by decide)) u50_5
          have k58 : w51 (ad 6) = some (aI G 600 (F1 6)) := by rw [e52]; exact lk_ne (adne hM 6 0 (by decide) (by decide) (by decide)) u50_6
          have k59 : w51 (ad 7) = some (aZ G 600 (F1 7)) := by rw [e52]; exact lk_ne (adne hM 7 0 (by decide) (by decide) (by decide)) u50_7
          have k60 : w51 (ad 8) = some (aI G 6 (F1 8)) := by rw [e52]; exact lk_ne (adne hM 8 0 (by decide) (by decide) (by decide)) u50_8
          have k61 : w51 (ad 9) = some (aI G 12 (F1 9)) := by rw [e52]; exact lk_ne (adne hM 9 0 (by decide) (by decide) (by decide)) u50_9
          have k62 : w51 (ad 10) = some (aI G 144 (F1 10)) := by rw [e52]; exact lk_ne (adne hM 10 0 (by decide) (by decide) (by decide)) u50_10
          have k63 : w51 (ad 11) = some (aI G 8 (F1 11)) := by rw [e52]; exact lk_ne (adne hM 11 0 (by decide) (by decide) (by decide)) u50_11
          have k64 : w51 (ad 0) = some (cMo (some (ad 1)) (some (ad 2)) (some (ad 3)) (some (ad 4)) (some (ad 5)) (some (ad 6)) (some (ad 7)) (some (ad 8)) (-1) na (some (ad 9)) ro wi (some (ad 10)) y.2.2.2.2.1 (some (ad 11))) := by rw [e52]; exact up_eq
          refine lv_goto (tgt := 66) X.1 X.2.1 dX5_away_58 (by decide) ?_
          refine f_iload X hl ⟨_, rfl, dX5_away_66⟩ rfl ?_
          refine lv_if_eq (tgt := 74) X.1 X.2.1 dX5_away_67 (by decide) (fun c67 => ?_) (fun c67 => ?_)
          · exact absurd c67 (by decide)
          · refine lv_iconst (v := 1) X.1 X.2.1 dX5_away_70 (by decide) ?_
            refine lv_goto (tgt := 75) X.1 X.2.1 dX5_away_71 (by decide) ?_
            exact f_iret X hr hlk Z (Nat.le_of_ble_eq_true rfl) (Nat.le_of_ble_eq_true rfl) dX5_away_75 (outM_of (hP.clr (F' := F1) (sd' := -1) (na' := na) (os' := none) (Or.inl ⟨rfl, rfl⟩) (ek 1 (by decide) (by decide) (by decide) (by decide)) (ek 2 (by decide) (by decide) (by decide) (by decide)) (ek 3 (by decide) (by decide) (by decide) (by decide)) (ek 4 (by decide) (by decide) (by decide) (by decide)) (ek 5 (by decide) (by decide) (by decide) (by decide)) (ek 6 (by decide) (by decide) (by decide) (by decide)) (fun t1 i1 v1 d1 ht1 hz1 => e7a v1 (fun q hq hz => by obtain ⟨d2, hd2⟩ := hd_at hz; have := (h1.2 _ _ _ _ _ _ _ hz1 hd2).1; omega)) (fun v1 hv1 => (e7b v1).elim (fun z => z.trans (h4 v1 hv1)) id) (ek 8 (by decide) (by decide) (by decide) (by decide)) (ek 10 (by decide) (by decide) (by decide) (by decide)) (ek 11 (by decide) (by decide) (by decide) (by decide))) (hM1.fld e52) (by omega) fm65 (by unfold sp_away; rw [if_pos c12, bI_t (c := y.2.1 ≠ none) (fun z => by obtain ⟨sn, sb, -, -, hos, -⟩ := SMo h5 c20; rw [hos] at z; cases z)]))
  · rw [hr3, bI_0] at c6
    refine lv_iconst (v := (-1)) X.1 X.2.1 dX5_away_9 (by decide) ?_
    exact f_iret X hr hlk Z (Nat.le_of_ble_eq_true rfl) (Nat.le_of_ble_eq_true rfl) dX5_away_10 (outM_same hR (by unfold sp_away; rw [if_neg (fun z => c6 (by rw [z]; decide)), if_neg (fun z => c6 (by rw [z]; decide))]))
