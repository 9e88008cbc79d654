theorem okB_nat {x : Int32} {a b : Nat} {A B : Int32} (hA : A.toInt = a) (hB : B.toInt = b) (h : okB x A B) : ∃ s, a ≤ s ∧ s ≤ b ∧ x = nI s := by
  obtain ⟨h1, h2⟩ := h
  rw [hA] at h1
  rw [hB] at h2
  have h0 : 0 ≤ x.toInt := by omega
  refine ⟨x.toNatClampNeg, ?_, ?_, (nI_tn h0).symm⟩ <;> (have : x.toNatClampNeg = x.toInt.toNat := rfl; omega)
theorem sumTo_n {f : Nat → Int32} {a : Nat} : ∀ {n : Nat}, (∀ i, i < n → okB (f i) 0 99) → ∃ s, s ≤ a + 99 * n ∧ sumTo (nI a) f n = nI s := by
  intro n
  induction n with
  | zero => intro _; exact ⟨a, by omega, rfl⟩
  | succ n ih =>
    intro h
    obtain ⟨s, h1, h2⟩ := ih (fun i hi => h i (by omega))
    obtain ⟨x, h3, h4, h5⟩ := okB_nat (a := 0) (b := 99) kc_0 kc_99 (h n (by omega))
    exact ⟨s + x, by omega, by simp only [sumTo]; rw [h2, h5, nI_add]⟩
theorem ldOf_n {d : VR} (h : vok d) : ∃ s, s ≤ 2188 ∧ ldOf d.2.1 d.2.2.2 = nI s := by
  obtain ⟨-, h1, -, h2⟩ := h
  obtain ⟨x, h3, h4, h5⟩ := okB_nat (a := 1) (b := 1000) kc_1 kc_1000 h1
  cases hq : d.2.2.2 with
  | none => exact ⟨x, by omega, h5⟩
  | some q =>
    obtain ⟨n, f⟩ := q
    obtain ⟨g1, g2⟩ := h2 n f hq
    obtain ⟨s, g3, g4⟩ := sumTo_n (a := x) g2
    exact ⟨s, by omega, by show sumTo d.2.1 f n = nI s; rw [h5]; exact g4⟩
theorem sLd_n : ∀ {l : List VR} {a : Nat}, (∀ e, e ∈ l → vok e) → ∃ s, s ≤ a + 2188 * l.length ∧ sLd (nI a) l = nI s := by
  intro l
  induction l with
  | nil => intro a _; exact ⟨a, by simp, rfl⟩
  | cons e l ih =>
    intro a h
    obtain ⟨x, h1, h2⟩ := ldOf_n (h e List.mem_cons_self)
    obtain ⟨s, h3, h4⟩ := ih (a := a + x) (fun e he => h e (List.mem_cons_of_mem _ he))
    refine ⟨s, by simp only [List.length_cons]; omega, ?_⟩
    simp only [sLd]
    rw [h2, nI_add]; exact h4
theorem draw_cmp {l : List VR} {we : Int32} (hl : ∀ e, e ∈ l → vok e) (hn : l.length ≤ 512) (hw : okB we 1 1000) : 0 < (sLd 0 l - 10 * we).toInt ↔ ¬ sLd 0 l ≤ 10 * we := by
  obtain ⟨s, h1, h2⟩ := sLd_n (a := 0) hl
  obtain ⟨x, h3, h4, h5⟩ := okB_nat (a := 1) (b := 1000) kc_1 kc_1000 hw
  have h10 : (10 : Int32) = nI 10 := rfl
  rw [nI_0] at h2
  rw [h2, h5, h10, pk_mul, pk_sub_toInt (by omega) (by omega), nI_leI (by omega) (by omega)]
  omega
set_option maxHeartbeats 4000000 in
set_option maxRecDepth 100000 in
theorem c_X5_place (l : Launch) (G : gT) (w : wT) (tg : tT) (ad : Nat → Nat) (c nb : Nat) (y : Yd) (hR : RepM G tg w ad c y) (hY : Yok nb y) (hn : nb ≤ 512) (hc : c < 512) (t so we : Int32) : Met l yX5_place wsX5_place ({ frames := 2, cells := 0, slots := 0, locals := 42 }) (va_Pc [.ref (ad 0), .int t, .int so, .int we] (wG G w)) (Qi G (OutM G tg w ad c (sp_place t so we y))) 0 0 (fr G) := by
  refine f_met (cc := cX5_place) (maxL := 5) (ret := (some .int)) (by decide) rfl rfl (Nat.le_of_ble_eq_true rfl) ?_
  intro p e s m below meth cd X hr hlk hnm Z ls hl
  have X : CallFix p m cd cX5_place 5 s [.ref (ad 0), .int t, .int so, .int we].toArray wsX5_place RX5 := X
  have hl : lV ls _ [some (.ref (ad 0)), some (.int t), some (.int so), some (.int we), none] := hl
  have i5 : ∀ w ∈ wsX50, w ∈ wsX5_place := by decide +kernel
  obtain ⟨F, sd, na, ro, wi, T, hM, hP⟩ := id hR
  obtain ⟨h1, h2, h3, h4, h5, h6, h7⟩ := id hP
  have km0 := hM.1
  have km1 : w (ad 1) = some (aI G 600 (F 1)) := hM.2.1 1 (by decide) (by decide)
  have km2 : w (ad 2) = some (aI G 600 (F 2)) := hM.2.1 2 (by decide) (by decide)
  have km3 : w (ad 3) = some (aI G 600 (F 3)) := hM.2.1 3 (by decide) (by decide)
  have km4 : w (ad 4) = some (aI G 600 (F 4)) := hM.2.1 4 (by decide) (by decide)
  have km5 : w (ad 5) = some (aI G 7200 (F 5)) := hM.2.1 5 (by decide) (by decide)
  have km6 : w (ad 6) = some (aI G 600 (F 6)) := hM.2.1 6 (by decide) (by decide)
  have km7 : w (ad 7) = some (aZ G 600 (F 7)) := hM.2.1 7 (by decide) (by decide)
  have km8 : w (ad 8) = some (aI G 6 (F 8)) := hM.2.1 8 (by decide) (by decide)
  have km9 : w (ad 9) = some (aI G 12 (F 9)) := hM.2.1 9 (by decide) (by decide)
  have km10 : w (ad 10) = some (aI G 144 (F 10)) := hM.2.1 10 (by decide) (by decide)
  have km11 : w (ad 11) = some (aI G 8 (F 11)) := hM.2.1 11 (by decide) (by decide)
  refine f_iload X hl ⟨_, rfl, dX5_place_0⟩ rfl ?_
  refine f_callSi (rest := []) X Z hl.1 (c_X5_isTrack l G _ _) (va_cwS 1 X.2.2.2.2 gX5_place_X5_isTrack rfl rfl rfl (by decide +kernel) ⟨(Nat.le_of_ble_eq_true rfl), (Nat.le_of_ble_eq_true rfl)⟩) rfl dX5_place_1 ⟨(Nat.le_of_ble_eq_true rfl), (Nat.le_of_ble_eq_true rfl)⟩ rfl (Nat.le_of_ble_eq_true rfl) (fun r1 w1 H locs p1 Z => ?_)
  obtain ⟨w1e, hr1⟩ := p1
  have w1e := w1e.symm
  subst w1e
  refine lv_if_eq (tgt := 27) X.1 X.2.1 dX5_place_4 (by decide) (fun c4 => ?_) (fun c4 => ?_)
  · rw [hr1, bI_0] at c4
    refine lv_iconst (v := (-1)) X.1 X.2.1 dX5_place_27 (by decide) ?_
    exact f_iret X hr hlk Z (Nat.le_of_ble_eq_true rfl) (Nat.le_of_ble_eq_true rfl) dX5_place_28 (outM_same hR (if_neg (fun h => c4 h.1)))
  · rw [hr1, bI_0, Classical.not_not] at c4
    refine f_iload X hl ⟨_, rfl, dX5_place_7⟩ rfl ?_
    refine lv_iconst (v := 1) X.1 X.2.1 dX5_place_8 (by decide) ?_
    refine lv_iconst (v := 3) X.1 X.2.1 dX5_place_9 (by decide) ?_
    refine f_callSi (rest := []) X Z hl.1 (c_X5_in l G _ _ _ _) (va_cwS 3 X.2.2.2.2 gX5_place_X5_in rfl rfl rfl (by decide +kernel) ⟨(Nat.le_of_ble_eq_true rfl), (Nat.le_of_ble_eq_true rfl)⟩) rfl dX5_place_10 ⟨(Nat.le_of_ble_eq_true rfl), (Nat.le_of_ble_eq_true rfl)⟩ rfl (Nat.le_of_ble_eq_true rfl) (fun r10 w2 H locs p10 Z => ?_)
    obtain ⟨w2e, hr10⟩ := p10
    have w2e := w2e.symm
    subst w2e
    refine lv_if_eq (tgt := 27) X.1 X.2.1 dX5_place_13 (by decide) (fun c13 => ?_) (fun c13 => ?_)
    · rw [hr10, bI_0] at c13
      refine lv_iconst (v := (-1)) X.1 X.2.1 dX5_place_27 (by decide) ?_
      exact f_iret X hr hlk Z (Nat.le_of_ble_eq_true rfl) (Nat.le_of_ble_eq_true rfl) dX5_place_28 (outM_same hR (if_neg (fun h => c13 h.2.1)))
    · rw [hr10, bI_0, Classical.not_not] at c13
      refine f_iload X hl ⟨_, rfl, dX5_place_16⟩ rfl ?_
      refine lv_iconst (v := 1) X.1 X.2.1 dX5_place_17 (by decide) ?_
      refine lv_sipush (v := 1000) X.1 X.2.1 dX5_place_18 (by decide) ?_
      refine f_callSi (rest := []) X Z hl.1 (c_X5_in l G _ _ _ _) (va_cwS 3 X.2.2.2.2 gX5_place_X5_in rfl rfl rfl (by decide +kernel) ⟨(Nat.le_of_ble_eq_true rfl), (Nat.le_of_ble_eq_true rfl)⟩) rfl dX5_place_21 ⟨(Nat.le_of_ble_eq_true rfl), (Nat.le_of_ble_eq_true rfl)⟩ rfl (Nat.le_of_ble_eq_true rfl) (fun r21 w3 H locs p21 Z => ?_)
      obtain ⟨w3e, hr21⟩ := p21
      have w3e := w3e.symm
      subst w3e
      refine lv_if_ne (tgt := 29) X.1 X.2.1 dX5_place_24 (by decide) (fun c24 => ?_) (fun c24 => ?_)
      · rw [hr21, bI_0, Classical.not_not] at c24
        obtain ⟨j, hjt_j⟩ : ∃ j, t.toNatClampNeg = j := ⟨_, rfl⟩
        have hj_j : j < 6 := hjt_j ▸ tn_lt c4
        have hin_j : vp_in t 6 := vp_in_iff.mpr c4
        have hch_j : chM F j (T j) := hP.ch hj_j (Nat.le_trans (hP.lenT hY hn hj_j) (by decide))
        refine lv_iconst (v := 0) X.1 X.2.1 dX5_place_29 (by decide) ?_
        refine f_istore2 X hl dX5_place_30 (by decide) (fun ls hl => ?_)
        have hl : lV ls _ [some (.ref (ad 0)), some (.int t), some (.int so), some (.int we), some (.int 0)] := hl
        have hloop : ∀ (fu : Nat) (i : Nat) (x4 : Int32), (x4 = nI i) → (i ≤ c) → (c < i + fu) → ∀ (H : Heap) (locs : List Loc) (ls : Array Slot), wZ G w s H locs → lV ls 5 [some (.ref (ad 0)), some (.int t), some (.int so), some (.int we), some (.int x4)] → W p l e ({ frames := 2, cells := 0, slots := 0, locals := 42 }) s m [.ref (ad 0), .int t, .int so, .int we].toArray below meth cd H locs 0 0 (MQ below (Qi G (OutM G tg w ad c (sp_place t so we y))) [.ref (ad 0), .int t, .int so, .int we].toArray s 0 0 (fr G)) (F0 m 32 ls []) := by
          clear hl Z
          intro fu
          induction fu with
          | zero => intro i x4 hx4 hle hfu H locs ls Z hl; exact absurd hfu (by omega)
          | succ fu ih =>
            intro i x4 hx4 hle hfu H locs ls Z hl
            have hxc : x4.toNatClampNeg = i := by rw [hx4, nI_clamp (by omega)]
            refine f_aload (v := .ref (ad 0)) X hl ⟨_, rfl, dX5_place_32⟩ rfl ⟨(some (ad 0)), rfl⟩ ?_
            refine f_get (v := .ref (ad 7)) (k := 6) X Z i5 rfl (by decide) (by decide +kernel) dX5_place_33 km0 rfl ?_
            refine f_iload2 X hl dX5_place_36 rfl ?_
            refine f_zald X Z dX5_place_38 km7 (by rw [hx4]; exact vp_in_nI (by omega) (by decide)) ?_
            rw [hxc]
            refine lv_if_eq (tgt := 48) X.1 X.2.1 dX5_place_39 (by decide) (fun c39 => ?_) (fun c39 => ?_)
            · subst hx4
              have hi6 : i < 600 := by omega
              refine f_aload (v := .ref (ad 0)) X hl ⟨_, rfl, dX5_place_48⟩ rfl ⟨(some (ad 0)), rfl⟩ ?_
              refine f_get (v := .ref (ad 7)) (k := 6) X Z i5 rfl (by decide) (by decide +kernel) dX5_place_49 km0 rfl ?_
              refine f_iload2 X hl dX5_place_52 rfl ?_
              refine lv_iconst (v := 1) X.1 X.2.1 dX5_place_54 (by decide) ?_
              refine f_zast X Z dX5_place_55 km7 (vp_in_nI hi6 (by decide)) (by decide) (fun H locs w4 e5 Z => ?_)
              rw [hxc] at e5
              have e5 : w4 = va_up w (ad 7) (some (aZ G 600 (upd (F 7) i 1))) := e5
              have fm18 : FrM w tg w4 := by rw [e5]; exact FrM.put FrM.rf (hM.2.2 7 (by decide))
              have k6 : w4 (ad 0) = some (cMo (some (ad 1)) (some (ad 2)) (some (ad 3)) (some (ad 4)) (some (ad 5)) (some (ad 6)) (some (ad 7)) (some (ad 8)) sd na (some (ad 9)) ro wi (some (ad 10)) y.2.2.2.2.1 (some (ad 11))) := by rw [e5]; exact lk_ne (adne hM 0 7 (by decide) (by decide) (by decide)) km0
              have k7 : w4 (ad 1) = some (aI G 600 (F 1)) := by rw [e5]; exact lk_ne (adne hM 1 7 (by decide) (by decide) (by decide)) km1
              have k8 : w4 (ad 2) = some (aI G 600 (F 2)) := by rw [e5]; exact lk_ne (adne hM 2 7 (by decide) (by decide) (by decide)) km2
              have k9 : w4 (ad 3) = some (aI G 600 (F 3)) := by rw [e5]; exact lk_ne (adne hM 3 7 (by decide) (by decide) (by decide)) km3
              have k10 : w4 (ad 4) = some (aI G 600 (F 4)) := by rw [e5]; exact lk_ne (adne hM 4 7 (by decide) (by decide) (by decide)) km4
              have k11 : w4 (ad 5) = some (aI G 7200 (F 5)) := by rw [e5]; exact lk_ne (adne hM 5 7 (by decide) (by decide) (by decide)) km5
              have k12 : w4 (ad 6) = some (aI G 600 (F 6)) := by rw [e5]; exact lk_ne (adne hM 6 7 (by decide) (by decide) (by decide)) km6
              have k13 : w4 (ad 8) = some (aI G 6 (F 8)) := by rw [e5]; exact lk_ne (adne hM 8 7 (by decide) (by decide) (by decide)) km8
              have k14 : w4 (ad 9) = some (aI G 12 (F 9)) := by rw [e5]; exact lk_ne (adne hM 9 7 (by decide) (by decide) (by decide)) km9
              have k15 : w4 (ad 10) = some (aI G 144 (F 10)) := by rw [e5]; exact lk_ne (adne hM 10 7 (by decide) (by decide) (by decide)) km10
              have k16 : w4 (ad 11) = some (aI G 8 (F 11)) := by rw [e5]; exact lk_ne (adne hM 11 7 (by decide) (by decide) (by decide)) km11
              have k17 : w4 (ad 7) = some (aZ G 600 (upd (F 7) i 1)) := by rw [e5]; exact up_eq
              refine f_aload (v := .ref (ad 0)) X hl ⟨_, rfl, dX5_place_56⟩ rfl ⟨(some (ad 0)), rfl⟩ ?_
              refine f_get (v := .ref (ad 1)) (k := 0) X Z i5 rfl (by decide) (by decide +kernel) dX5_place_57 k6 rfl ?_
              refine f_iload2 X hl dX5_place_60 rfl ?_
              refine f_iload X hl ⟨_, rfl, dX5_place_62⟩ rfl ?_
              refine f_iast X Z dX5_place_63 k7 (vp_in_nI hi6 (by decide)) (fun H locs w19 e20 Z => ?_)
              rw [hxc] at e20
              have e20 : w19 = va_up w4 (ad 1) (some (aI G 600 (upd (F 1) i so))) := e20
              have fm33 : FrM w tg w19 := by rw [e20]; exact FrM.put fm18 (hM.2.2 1 (by decide))
              have k21 : w19 (ad 0) = some (cMo (some (ad 1)) (some (ad 2)) (some (ad 3)) (some (ad 4)) (some (ad 5)) (some (ad 6)) (some (ad 7)) (some (ad 8)) sd na (some (ad 9)) ro wi (some (ad 10)) y.2.2.2.2.1 (some (ad 11))) := by rw [e20]; exact lk_ne (adne hM 0 1 (by decide) (by decide) (by decide)) k6
              have k22 : w19 (ad 2) = some (aI G 600 (F 2)) := by rw [e20]; exact lk_ne (adne hM 2 1 (by decide) (by decide) (by decide)) k8
              have k23 : w19 (ad 3) = some (aI G 600 (F 3)) := by rw [e20]; exact lk_ne (adne hM 3 1 (by decide) (by decide) (by decide)) k9
              have k24 : w19 (ad 4) = some (aI G 600 (F 4)) := by rw [e20]; exact lk_ne (adne hM 4 1 (by decide) (by decide) (by decide)) k10
              have k25 : w19 (ad 5) = some (aI G 7200 (F 5)) := by rw [e20]; exact lk_ne (adne hM 5 1 (by decide) (by decide) (by decide)) k11
              have k26 : w19 (ad 6) = some (aI G 600 (F 6)) := by rw [e20]; exact lk_ne (adne hM 6 1 (by decide) (by decide) (by decide)) k12
              have k27 : w19 (ad 8) = some (aI G 6 (F 8)) := by rw [e20]; exact lk_ne (adne hM 8 1 (by decide) (by decide) (by decide)) k13
              have k28 : w19 (ad 9) = some (aI G 12 (F 9)) := by rw [e20]; exact lk_ne (adne hM 9 1 (by decide) (by decide) (by decide)) k14
              have k29 : w19 (ad 10) = some (aI G 144 (F 10)) := by rw [e20]; exact lk_ne (adne hM 10 1 (by decide) (by decide) (by decide)) k15
              have k30 : w19 (ad 11) = some (aI G 8 (F 11)) := by rw [e20]; exact lk_ne (adne hM 11 1 (by decide) (by decide) (by decide)) k16
              have k31 : w19 (ad 7) = some (aZ G 600 (upd (F 7) i 1)) := by rw [e20]; exact lk_ne (adne hM 7 1 (by decide) (by decide) (by decide)) k17
              have k32 : w19 (ad 1) = some (aI G 600 (upd (F 1) i so)) := by rw [e20]; exact up_eq
              refine f_aload (v := .ref (ad 0)) X hl ⟨_, rfl, dX5_place_64⟩ rfl ⟨(some (ad 0)), rfl⟩ ?_
              refine f_get (v := .ref (ad 2)) (k := 1) X Z i5 rfl (by decide) (by decide +kernel) dX5_place_65 k21 rfl ?_
              refine f_iload2 X hl dX5_place_68 rfl ?_
              refine f_iload X hl ⟨_, rfl, dX5_place_70⟩ rfl ?_
              refine f_iast X Z dX5_place_71 k22 (vp_in_nI hi6 (by decide)) (fun H locs w34 e35 Z => ?_)
              rw [hxc] at e35
              have e35 : w34 = va_up w19 (ad 2) (some (aI G 600 (upd (F 2) i we))) := e35
              have fm48 : FrM w tg w34 := by rw [e35]; exact FrM.put fm33 (hM.2.2 2 (by decide))
              have k36 : w34 (ad 0) = some (cMo (some (ad 1)) (some (ad 2)) (some (ad 3)) (some (ad 4)) (some (ad 5)) (some (ad 6)) (some (ad 7)) (some (ad 8)) sd na (some (ad 9)) ro wi (some (ad 10)) y.2.2.2.2.1 (some (ad 11))) := by rw [e35]; exact lk_ne (adne hM 0 2 (by decide) (by decide) (by decide)) k21
              have k37 : w34 (ad 3) = some (aI G 600 (F 3)) := by rw [e35]; exact lk_ne (adne hM 3 2 (by decide) (by decide) (by decide)) k23
              have k38 : w34 (ad 4) = some (aI G 600 (F 4)) := by rw [e35]; exact lk_ne (adne hM 4 2 (by decide) (by decide) (by decide)) k24
              have k39 : w34 (ad 5) = some (aI G 7200 (F 5)) := by rw [e35]; exact lk_ne (adne hM 5 2 (by decide) (by decide) (by decide)) k25
              have k40 : w34 (ad 6) = some (aI G 600 (F 6)) := by rw [e35]; exact lk_ne (adne hM 6 2 (by decide) (by decide) (by decide)) k26
              have k41 : w34 (ad 8) = some (aI G 6 (F 8)) := by rw [e35]; exact lk_ne (adne hM 8 2 (by decide) (by decide) (by decide)) k27
              have k42 : w34 (ad 9) = some (aI G 12 (F 9)) := by rw [e35]; exact lk_ne (adne hM 9 2 (by decide) (by decide) (by decide)) k28
              have k43 : w34 (ad 10) = some (aI G 144 (F 10)) := by rw [e35]; exact lk_ne (adne hM 10 2 (by decide) (by decide) (by decide)) k29
              have k44 : w34 (ad 11) = some (aI G 8 (F 11)) := by rw [e35]; exact lk_ne (adne hM 11 2 (by decide) (by decide) (by decide)) k30
              have k45 : w34 (ad 7) = some (aZ G 600 (upd (F 7) i 1)) := by rw [e35]; exact lk_ne (adne hM 7 2 (by decide) (by decide) (by decide)) k31
              have k46 : w34 (ad 1) = some (aI G 600 (upd (F 1) i so)) := by rw [e35]; exact lk_ne (adne hM 1 2 (by decide) (by decide) (by decide)) k32
              have k47 : w34 (ad 2) = some (aI G 600 (upd (F 2) i we)) := by rw [e35]; exact up_eq
              refine f_aload (v := .ref (ad 0)) X hl ⟨_, rfl, dX5_place_72⟩ rfl ⟨(some (ad 0)), rfl⟩ ?_
              refine f_get (v := .ref (ad 3)) (k := 2) X Z i5 rfl (by decide) (by decide +kernel) dX5_place_73 k36 rfl ?_
              refine f_iload2 X hl dX5_place_76 rfl ?_
              refine lv_iconst (v := 0) X.1 X.2.1 dX5_place_78 (by decide) ?_
              refine f_iast X Z dX5_place_79 k37 (vp_in_nI hi6 (by decide)) (fun H locs w49 e50 Z => ?_)
              rw [hxc] at e50
              have e50 : w49 = va_up w34 (ad 3) (some (aI G 600 (upd (F 3) i 0))) := e50
              have fm63 : FrM w tg w49 := by rw [e50]; exact FrM.put fm48 (hM.2.2 3 (by decide))
              have k51 : w49 (ad 0) = some (cMo (some (ad 1)) (some (ad 2)) (some (ad 3)) (some (ad 4)) (some (ad 5)) (some (ad 6)) (some (ad 7)) (some (ad 8)) sd na (some (ad 9)) ro wi (some (ad 10)) y.2.2.2.2.1 (some (ad 11))) := by rw [e50]; exact lk_ne (adne hM 0 3 (by decide) (by decide) (by decide)) k36
              have k52 : w49 (ad 4) = some (aI G 600 (F 4)) := by rw [e50]; exact lk_ne (adne hM 4 3 (by decide) (by decide) (by decide)) k38
              have k53 : w49 (ad 5) = some (aI G 7200 (F 5)) := by rw [e50]; exact lk_ne (adne hM 5 3 (by decide) (by decide) (by decide)) k39
              have k54 : w49 (ad 6) = some (aI G 600 (F 6)) := by rw [e50]; exact lk_ne (adne hM 6 3 (by decide) (by decide) (by decide)) k40
              have k55 : w49 (ad 8) = some (aI G 6 (F 8)) := by rw [e50]; exact lk_ne (adne hM 8 3 (by decide) (by decide) (by decide)) k41
              have k56 : w49 (ad 9) = some (aI G 12 (F 9)) := by rw [e50]; exact lk_ne (adne hM 9 3 (by decide) (by decide) (by decide)) k42
              have k57 : w49 (ad 10) = some (aI G 144 (F 10)) := by rw [e50]; exact lk_ne (adne hM 10 3 (by decide) (by decide) (by decide)) k43
              have k58 : w49 (ad 11) = some (aI G 8 (F 11)) := by rw [e50]; exact lk_ne (adne hM 11 3 (by decide) (by decide) (by decide)) k44
              have k59 : w49 (ad 7) = some (aZ G 600 (upd (F 7) i 1)) := by rw [e50]; exact lk_ne (adne hM 7 3 (by decide) (by decide) (by decide)) k45
              have k60 : w49 (ad 1) = some (aI G 600 (upd (F 1) i so)) := by rw [e50]; exact lk_ne (adne hM 1 3 (by decide) (by decide) (by decide)) k46
              have k61 : w49 (ad 2) = some (aI G 600 (upd (F 2) i we)) := by rw [e50]; exact lk_ne (adne hM 2 3 (by decide) (by decide) (by decide)) k47
              have k62 : w49 (ad 3) = some (aI G 600 (upd (F 3) i 0)) := by rw [e50]; exact up_eq
              refine f_aload (v := .ref (ad 0)) X hl ⟨_, rfl, dX5_place_80⟩ rfl ⟨(some (ad 0)), rfl⟩ ?_
              refine f_get (v := .ref (ad 4)) (k := 3) X Z i5 rfl (by decide) (by decide +kernel) dX5_place_81 k51 rfl ?_
              refine f_iload2 X hl dX5_place_84 rfl ?_
              refine lv_iconst (v := (-1)) X.1 X.2.1 dX5_place_86 (by decide) ?_
              refine f_iast X Z dX5_place_87 k52 (vp_in_nI hi6 (by decide)) (fun H locs w64 e65 Z => ?_)
              rw [hxc] at e65
              have e65 : w64 = va_up w49 (ad 4) (some (aI G 600 (upd (F 4) i (-1)))) := e65
              have fm78 : FrM w tg w64 := by rw [e65]; exact FrM.put fm63 (hM.2.2 4 (by decide))
              have k66 : w64 (ad 0) = some (cMo (some (ad 1)) (some (ad 2)) (some (ad 3)) (some (ad 4)) (some (ad 5)) (some (ad 6)) (some (ad 7)) (some (ad 8)) sd na (some (ad 9)) ro wi (some (ad 10)) y.2.2.2.2.1 (some (ad 11))) := by rw [e65]; exact lk_ne (adne hM 0 4 (by decide) (by decide) (by decide)) k51
              have k67 : w64 (ad 5) = some (aI G 7200 (F 5)) := by rw [e65]; exact lk_ne (adne hM 5 4 (by decide) (by decide) (by decide)) k53
              have k68 : w64 (ad 6) = some (aI G 600 (F 6)) := by rw [e65]; exact lk_ne (adne hM 6 4 (by decide) (by decide) (by decide)) k54
              have k69 : w64 (ad 8) = some (aI G 6 (F 8)) := by rw [e65]; exact lk_ne (adne hM 8 4 (by decide) (by decide) (by decide)) k55
              have k70 : w64 (ad 9) = some (aI G 12 (F 9)) := by rw [e65]; exact lk_ne (adne hM 9 4 (by decide) (by decide) (by decide)) k56
              have k71 : w64 (ad 10) = some (aI G 144 (F 10)) := by rw [e65]; exact lk_ne (adne hM 10 4 (by decide) (by decide) (by decide)) k57
              have k72 : w64 (ad 11) = some (aI G 8 (F 11)) := by rw [e65]; exact lk_ne (adne hM 11 4 (by decide) (by decide) (by decide)) k58
              have k73 : w64 (ad 7) = some (aZ G 600 (upd (F 7) i 1)) := by rw [e65]; exact lk_ne (adne hM 7 4 (by decide) (by decide) (by decide)) k59
              have k74 : w64 (ad 1) = some (aI G 600 (upd (F 1) i so)) := by rw [e65]; exact lk_ne (adne hM 1 4 (by decide) (by decide) (by decide)) k60
              have k75 : w64 (ad 2) = some (aI G 600 (upd (F 2) i we)) := by rw [e65]; exact lk_ne (adne hM 2 4 (by decide) (by decide) (by decide)) k61
              have k76 : w64 (ad 3) = some (aI G 600 (upd (F 3) i 0)) := by rw [e65]; exact lk_ne (adne hM 3 4 (by decide) (by decide) (by decide)) k62
              have k77 : w64 (ad 4) = some (aI G 600 (upd (F 4) i (-1))) := by rw [e65]; exact up_eq
              refine f_aload (v := .ref (ad 0)) X hl ⟨_, rfl, dX5_place_88⟩ rfl ⟨(some (ad 0)), rfl⟩ ?_
              refine f_get (v := .ref (ad 6)) (k := 5) X Z i5 rfl (by decide) (by decide +kernel) dX5_place_89 k66 rfl ?_
              refine f_iload2 X hl dX5_place_92 rfl ?_
              refine f_aload (v := .ref (ad 0)) X hl ⟨_, rfl, dX5_place_94⟩ rfl ⟨(some (ad 0)), rfl⟩ ?_
              refine f_get (v := .ref (ad 8)) (k := 7) X Z i5 rfl (by decide) (by decide +kernel) dX5_place_95 k66 rfl ?_
              refine f_iload X hl ⟨_, rfl, dX5_place_98⟩ rfl ?_
              refine f_iald X Z dX5_place_99 k69 hin_j ?_
              rw [hjt_j]
              refine f_iast X Z dX5_place_100 k68 (vp_in_nI hi6 (by decide)) (fun H locs w79 e80 Z => ?_)
              rw [hxc] at e80
              have e80 : w79 = va_up w64 (ad 6) (some (aI G 600 (upd (F 6) i ((F 8) j)))) := e80
              have fm93 : FrM w tg w79 := by rw [e80]; exact FrM.put fm78 (hM.2.2 6 (by decide))
              have k81 : w79 (ad 0) = some (cMo (some (ad 1)) (some (ad 2)) (some (ad 3)) (some (ad 4)) (some (ad 5)) (some (ad 6)) (some (ad 7)) (some (ad 8)) sd na (some (ad 9)) ro wi (some (ad 10)) y.2.2.2.2.1 (some (ad 11))) := by rw [e80]; exact lk_ne (adne hM 0 6 (by decide) (by decide) (by decide)) k66
              have k82 : w79 (ad 5) = some (aI G 7200 (F 5)) := by rw [e80]; exact lk_ne (adne hM 5 6 (by decide) (by decide) (by decide)) k67
              have k83 : w79 (ad 8) = some (aI G 6 (F 8)) := by rw [e80]; exact lk_ne (adne hM 8 6 (by decide) (by decide) (by decide)) k69
              have k84 : w79 (ad 9) = some (aI G 12 (F 9)) := by rw [e80]; exact lk_ne (adne hM 9 6 (by decide) (by decide) (by decide)) k70
              have k85 : w79 (ad 10) = some (aI G 144 (F 10)) := by rw [e80]; exact lk_ne (adne hM 10 6 (by decide) (by decide) (by decide)) k71
              have k86 : w79 (ad 11) = some (aI G 8 (F 11)) := by rw [e80]; exact lk_ne (adne hM 11 6 (by decide) (by decide) (by decide)) k72
              have k87 : w79 (ad 7) = some (aZ G 600 (upd (F 7) i 1)) := by rw [e80]; exact lk_ne (adne hM 7 6 (by decide) (by decide) (by decide)) k73
              have k88 : w79 (ad 1) = some (aI G 600 (upd (F 1) i so)) := by rw [e80]; exact lk_ne (adne hM 1 6 (by decide) (by decide) (by decide)) k74
              have k89 : w79 (ad 2) = some (aI G 600 (upd (F 2) i we)) := by rw [e80]; exact lk_ne (adne hM 2 6 (by decide) (by decide) (by decide)) k75
              have k90 : w79 (ad 3) = some (aI G 600 (upd (F 3) i 0)) := by rw [e80]; exact lk_ne (adne hM 3 6 (by decide) (by decide) (by decide)) k76
              have k91 : w79 (ad 4) = some (aI G 600 (upd (F 4) i (-1))) := by rw [e80]; exact lk_ne (adne hM 4 6 (by decide) (by decide) (by decide)) k77
              have k92 : w79 (ad 6) = some (aI G 600 (upd (F 6) i ((F 8) j))) := by rw [e80]; exact up_eq
              refine f_aload (v := .ref (ad 0)) X hl ⟨_, rfl, dX5_place_101⟩ rfl ⟨(some (ad 0)), rfl⟩ ?_
              refine f_get (v := .ref (ad 8)) (k := 7) X Z i5 rfl (by decide) (by decide +kernel) dX5_place_102 k81 rfl ?_
              refine f_iload X hl ⟨_, rfl, dX5_place_105⟩ rfl ?_
              refine f_iload2 X hl dX5_place_106 rfl ?_
              refine f_iast X Z dX5_place_108 k83 hin_j (fun H locs w94 e95 Z => ?_)
              rw [hjt_j] at e95
              have e95 : w94 = va_up w79 (ad 8) (some (aI G 6 (upd (F 8) j (nI i)))) := e95
              have fm108 : FrM w tg w94 := by rw [e95]; exact FrM.put fm93 (hM.2.2 8 (by decide))
              have k96 : w94 (ad 0) = some (cMo (some (ad 1)) (some (ad 2)) (some (ad 3)) (some (ad 4)) (some (ad 5)) (some (ad 6)) (some (ad 7)) (some (ad 8)) sd na (some (ad 9)) ro wi (some (ad 10)) y.2.2.2.2.1 (some (ad 11))) := by rw [e95]; exact lk_ne (adne hM 0 8 (by decide) (by decide) (by decide)) k81
              have k97 : w94 (ad 5) = some (aI G 7200 (F 5)) := by rw [e95]; exact lk_ne (adne hM 5 8 (by decide) (by decide) (by decide)) k82
              have k98 : w94 (ad 9) = some (aI G 12 (F 9)) := by rw [e95]; exact lk_ne (adne hM 9 8 (by decide) (by decide) (by decide)) k84
              have k99 : w94 (ad 10) = some (aI G 144 (F 10)) := by rw [e95]; exact lk_ne (adne hM 10 8 (by decide) (by decide) (by decide)) k85
              have k100 : w94 (ad 11) = some (aI G 8 (F 11)) := by rw [e95]; exact lk_ne (adne hM 11 8 (by decide) (by decide) (by decide)) k86
              have k101 : w94 (ad 7) = some (aZ G 600 (upd (F 7) i 1)) := by rw [e95]; exact lk_ne (adne hM 7 8 (by decide) (by decide) (by decide)) k87
              have k102 : w94 (ad 1) = some (aI G 600 (upd (F 1) i so)) := by rw [e95]; exact lk_ne (adne hM 1 8 (by decide) (by decide) (by decide)) k88
              have k103 : w94 (ad 2) = some (aI G 600 (upd (F 2) i we)) := by rw [e95]; exact lk_ne (adne hM 2 8 (by decide) (by decide) (by decide)) k89
              have k104 : w94 (ad 3) = some (aI G 600 (upd (F 3) i 0)) := by rw [e95]; exact lk_ne (adne hM 3 8 (by decide) (by decide) (by decide)) k90
              have k105 : w94 (ad 4) = some (aI G 600 (upd (F 4) i (-1))) := by rw [e95]; exact lk_ne (adne hM 4 8 (by decide) (by decide) (by decide)) k91
              have k106 : w94 (ad 6) = some (aI G 600 (upd (F 6) i ((F 8) j))) := by rw [e95]; exact lk_ne (adne hM 6 8 (by decide) (by decide) (by decide)) k92
              have k107 : w94 (ad 8) = some (aI G 6 (upd (F 8) j (nI i))) := by rw [e95]; exact up_eq
              refine f_aload (v := .ref (ad 0)) X hl ⟨_, rfl, dX5_place_109⟩ rfl ⟨(some (ad 0)), rfl⟩ ?_
              refine f_iload X hl ⟨_, rfl, dX5_place_110⟩ rfl ?_
              have hP2 := hP.push (F' := (mkF (upd (F 1) i so) (upd (F 2) i we) (upd (F 3) i 0) (upd (F 4) i (-1)) (F 5) (upd (F 6) i ((F 8) j)) (upd (F 7) i 1) (upd (F 8) j (nI i)) (F 9) (F 10) (F 11))) (d := (so, we, 0, none)) hj_j hi6 hle c39 rfl rfl rfl rfl rfl rfl rfl rfl rfl rfl rfl rfl
              have hl2 : ((va_up T j ((i, (so, we, 0, none)) :: T j)) j).length ≤ 2000 := by rw [hP2.len]; have := hP.lenT hY hn hj_j; have := hP.len j; simp only [yset, va_up, if_true, List.length_cons]; omega
              refine f_callVi (rest := []) X Z hl.1 (c_X5_countOf l G w94 tg ad (mkF (upd (F 1) i so) (upd (F 2) i we) (upd (F 3) i 0) (upd (F 4) i (-1)) (F 5) (upd (F 6) i ((F 8) j)) (upd (F 7) i 1) (upd (F 8) j (nI i)) (F 9) (F 10) (F 11)) sd na ro wi y.2.2.2.2.1 (MW.of hM k96 k102 k103 k104 k105 k97 k106 k101 k107 k98 k99 k100) t j ((va_up T j ((i, (so, we, 0, none)) :: T j)) j) hjt_j hin_j (hP2.ch hj_j hl2)) (cwV 1 X.2.2.2.2 gX5_place_X5_countOf rfl rfl rfl (by decide +kernel) ⟨(Nat.le_of_ble_eq_true rfl), (Nat.le_of_ble_eq_true rfl)⟩) rfl rfl dX5_place_111 ⟨(Nat.le_of_ble_eq_true rfl), (Nat.le_of_ble_eq_true rfl)⟩ rfl (Nat.le_of_ble_eq_true rfl) k96 (fun r111 w109 H locs p111 Z => ?_)
              obtain ⟨w109e, hr111⟩ := p111
              have w109e := w109e.symm
              subst w109e
              exact f_iret X hr hlk Z (Nat.le_of_ble_eq_true rfl) (Nat.le_of_ble_eq_true rfl) dX5_place_114 (outM_of hP2 (MW.of hM k96 k102 k103 k104 k105 k97 k106 k101 k107 k98 k99 k100) (by omega) fm108 (by unfold sp_place tn; rw [if_pos ⟨c4, c13, c24⟩, hjt_j, hr111, up_at, List.length_cons, hP.len j]))
            · have hic := least_free h4 c39
              refine f_iinc (v := 1) X hl dX5_place_42 (by decide) rfl (by decide) (fun ls hl => ?_)
              have hl : lV ls _ [some (.ref (ad 0)), some (.int t), some (.int so), some (.int we), some (.int (x4 + 1))] := hl
              refine lv_goto (tgt := 32) X.1 X.2.1 dX5_place_45 (by decide) ?_
              exact ih (i + 1) _ (by rw [hx4]; exact nI_1 i) (by omega) (by omega) _ _ _ Z hl
        exact hloop (c + 1) 0 _ nI_0.symm (Nat.zero_le _) (by omega) _ _ _ Z hl
      · rw [hr21, bI_0] at c24
        refine lv_iconst (v := (-1)) X.1 X.2.1 dX5_place_27 (by decide) ?_
        exact f_iret X hr hlk Z (Nat.le_of_ble_eq_true rfl) (Nat.le_of_ble_eq_true rfl) dX5_place_28 (outM_same hR (if_neg (fun h => c24 h.2.2)))
set_option maxHeartbeats 4000000 in
set_option maxRecDepth 100000 in
theorem c_X5_draw (l : Launch) (G : gT) (w : wT) (tg : tT) (ad : Nat → Nat) (c nb : Nat) (y : Yd) (hR : RepM G tg w ad c y) (hY : Yok nb y) (hn : nb ≤ 512) (t : Int32) : Met l yX5_draw wsX5_draw ({ frames := 2, cells := 0, slots := 0, locals := 42 }) (va_Pc [.ref (ad 0), .int t] (wG G w)) (Qi G (OutM G tg w ad c (sp_draw t y))) 0 0 (fr G) := by
  refine f_met (cc := cX5_draw) (maxL := 6) (ret := (some .int)) (by decide) rfl rfl (Nat.le_of_ble_eq_true rfl) ?_
  intro p e s m below meth cd X hr hlk hnm Z ls hl
  have X : CallFix p m cd cX5_draw 6 s [.ref (ad 0), .int t].toArray wsX5_draw RX5 := X
  have hl : lV ls _ [some (.ref (ad 0)), some (.int t), none, none, none, none] := hl
  have i5 : ∀ w ∈ wsX50, w ∈ wsX5_draw := by decide +kernel
  obtain ⟨F, sd, na, ro, wi, T, hM, hP⟩ := id hR
  obtain ⟨h1, h2, h3, h4, h5, h6, h7⟩ := id hP
  have km0 := hM.1
  have km1 : w (ad 1) = some (aI G 600 (F 1)) := hM.2.1 1 (by decide) (by decide)
  have km2 : w (ad 2) = some (aI G 600 (F 2)) := hM.2.1 2 (by decide) (by decide)
  have km3 : w (ad 3) = some (aI G 600 (F 3)) := hM.2.1 3 (by decide) (by decide)
  have km4 : w (ad 4) = some (aI G 600 (F 4)) := hM.2.1 4 (by decide) (by decide)
  have km5 : w (ad 5) = some (aI G 7200 (F 5)) := hM.2.1 5 (by decide) (by decide)
  have km6 : w (ad 6) = some (aI G 600 (F 6)) := hM.2.1 6 (by decide) (by decide)
  have km7 : w (ad 7) = some (aZ G 600 (F 7)) := hM.2.1 7 (by decide) (by decide)
  have km8 : w (ad 8) = some (aI G 6 (F 8)) := hM.2.1 8 (by decide) (by decide)
  have km9 : w (ad 9) = some (aI G 12 (F 9)) := hM.2.1 9 (by decide) (by decide)
  have km10 : w (ad 10) = some (aI G 144 (F 10)) := hM.2.1 10 (by decide) (by decide)
  have km11 : w (ad 11) = some (aI G 8 (F 11)) := hM.2.1 11 (by decide) (by decide)
  refine f_iload X hl ⟨_, rfl, dX5_draw_0⟩ rfl ?_
  refine f_callSi (rest := []) X Z hl.1 (c_X5_isTrack l G _ _) (va_cwS 1 X.2.2.2.2 gX5_draw_X5_isTrack rfl rfl rfl (by decide +kernel) ⟨(Nat.le_of_ble_eq_true rfl), (Nat.le_of_ble_eq_true rfl)⟩) rfl dX5_draw_1 ⟨(Nat.le_of_ble_eq_true rfl), (Nat.le_of_ble_eq_true rfl)⟩ rfl (Nat.le_of_ble_eq_true rfl) (fun r1 w1 H locs p1 Z => ?_)
  obtain ⟨w1e, hr1⟩ := p1
  have w1e := w1e.symm
  subst w1e
  refine lv_if_ne (tgt := 9) X.1 X.2.1 dX5_draw_4 (by decide) (fun c4 => ?_) (fun c4 => ?_)
  · rw [hr1, bI_0, Classical.not_not] at c4
    obtain ⟨j, hjt_j⟩ : ∃ j, t.toNatClampNeg = j := ⟨_, rfl⟩
    have hj_j : j < 6 := hjt_j ▸ tn_lt c4
    have hin_j : vp_in t 6 := vp_in_iff.mpr c4
    have hch_j : chM F j (T j) := hP.ch hj_j (Nat.le_trans (hP.lenT hY hn hj_j) (by decide))
    refine f_aload (v := .ref (ad 0)) X hl ⟨_, rfl, dX5_draw_9⟩ rfl ⟨(some (ad 0)), rfl⟩ ?_
    refine f_get (v := .ref (ad 8)) (k := 7) X Z i5 rfl (by decide) (by decide +kernel) dX5_draw_10 km0 rfl ?_
    refine f_iload X hl ⟨_, rfl, dX5_draw_13⟩ rfl ?_
    rcases hTj : T j with _ | ⟨⟨v, d⟩, L⟩
    · have hyj : y.1 j = [] := by rw [← h3 j, hTj]; rfl
      have h8j : F 8 j = -1 := by rw [h2 j hj_j, hTj]; rfl
      refine f_iald X Z dX5_draw_14 km8 hin_j ?_
      rw [hjt_j]
      rw [h8j]
      refine f_istore X hl ⟨_, rfl, dX5_draw_15⟩ (by decide) (fun ls hl => ?_)
      have hl : lV ls _ [some (.ref (ad 0)), some (.int t), some (.int (-1)), none, none, none] := hl
      refine f_iload X hl ⟨_, rfl, dX5_draw_16⟩ rfl ?_
      refine lv_iconst (v := (-1)) X.1 X.2.1 dX5_draw_17 (by decide) ?_
      refine lv_icmp_ne (tgt := 27) X.1 X.2.1 dX5_draw_18 (by decide) (fun c18 => ?_) (fun c18 => ?_)
      · exact absurd rfl c18
      · refine f_aload (v := .ref (ad 0)) X hl ⟨_, rfl, dX5_draw_21⟩ rfl ⟨(some (ad 0)), rfl⟩ ?_
        refine lv_iconst (v := 1) X.1 X.2.1 dX5_draw_22 (by decide) ?_
        refine f_callVi (rest := []) X Z hl.1 (c_X5_no l G w tg ad F sd na ro wi y.2.2.2.2.1 hM 1 (by decide)) (cwV 1 X.2.2.2.2 gX5_draw_X5_no rfl rfl rfl (by decide +kernel) ⟨(Nat.le_of_ble_eq_true rfl), (Nat.le_of_ble_eq_true rfl)⟩) rfl rfl dX5_draw_23 ⟨(Nat.le_of_ble_eq_true rfl), (Nat.le_of_ble_eq_true rfl)⟩ rfl (Nat.le_of_ble_eq_true rfl) km0 (fun r23 w2 H locs p23 Z => ?_)
        obtain ⟨hrT, hwT⟩ := p23
        exact f_iret X hr hlk Z (Nat.le_of_ble_eq_true rfl) (Nat.le_of_ble_eq_true rfl) dX5_draw_26 (outM_no hP hM FrM.rf hrT hwT (by unfold sp_draw tn; rw [if_pos c4, hjt_j, hyj]))
    · have hd1 : (T j)[0]? = some (v, d) := by rw [hTj]; rfl
      have hyj : y.1 j = d :: L.map Prod.snd := by rw [← h3 j, hTj]; rfl
      have h8j : F 8 j = nI v := by rw [h2 j hj_j, hTj]; rfl
      have hp := h1.1 j 0 v d hd1
      obtain ⟨hv6, hso, hwe, hde, hcr, hbh, hus⟩ := id hp
      have hcl : (nI v).toNatClampNeg = v := nI_clamp (by omega)
      refine f_iald X Z dX5_draw_14 km8 hin_j ?_
      rw [hjt_j]
      rw [h8j]
      refine f_istore X hl ⟨_, rfl, dX5_draw_15⟩ (by decide) (fun ls hl => ?_)
      have hl : lV ls _ [some (.ref (ad 0)), some (.int t), some (.int (nI v)), none, none, none] := hl
      refine f_iload X hl ⟨_, rfl, dX5_draw_16⟩ rfl ?_
      refine lv_iconst (v := (-1)) X.1 X.2.1 dX5_draw_17 (by decide) ?_
      refine lv_icmp_ne (tgt := 27) X.1 X.2.1 dX5_draw_18 (by decide) (fun c18 => ?_) (fun c18 => ?_)
      · refine f_aload (v := .ref (ad 0)) X hl ⟨_, rfl, dX5_draw_27⟩ rfl ⟨(some (ad 0)), rfl⟩ ?_
        refine f_get (v := .ref (ad 1)) (k := 0) X Z i5 rfl (by decide) (by decide +kernel) dX5_draw_28 km0 rfl ?_
        refine f_iload X hl ⟨_, rfl, dX5_draw_31⟩ rfl ?_
        refine f_iald X Z dX5_draw_32 km1 (vp_in_nI hv6 (by decide)) ?_
        rw [hcl]
        rw [hso]
        refine lv_iconst (v := 1) X.1 X.2.1 dX5_draw_33 (by decide) ?_
        refine lv_icmp_eq (tgt := 43) X.1 X.2.1 dX5_draw_34 (by decide) (fun c34 => ?_) (fun c34 => ?_)
        · refine lv_bipush (v := 10) X.1 X.2.1 dX5_draw_43 (by decide) ?_
          refine f_aload (v := .ref (ad 0)) X hl ⟨_, rfl, dX5_draw_45⟩ rfl ⟨(some (ad 0)), rfl⟩ ?_
          refine f_get (v := .ref (ad 2)) (k := 1) X Z i5 rfl (by decide) (by decide +kernel) dX5_draw_46 km0 rfl ?_
          refine f_iload X hl ⟨_, rfl, dX5_draw_49⟩ rfl ?_
          refine f_iald X Z dX5_draw_50 km2 (vp_in_nI hv6 (by decide)) ?_
          rw [hcl]
          rw [hwe]
          refine lv_imul X.1 X.2.1 dX5_draw_51 ?_
          refine f_istore X hl ⟨_, rfl, dX5_draw_52⟩ (by decide) (fun ls hl => ?_)
          have hl : lV ls _ [some (.ref (ad 0)), some (.int t), some (.int (nI v)), some (.int (10 * d.2.1)), none, none] := hl
          refine lv_iconst (v := 0) X.1 X.2.1 dX5_draw_53 (by decide) ?_
          refine f_istore2 X hl dX5_draw_54 (by decide) (fun ls hl => ?_)
          have hl : lV ls _ [some (.ref (ad 0)), some (.int t), some (.int (nI v)), some (.int (10 * d.2.1)), some (.int 0), none] := hl
          refine f_aload (v := .ref (ad 0)) X hl ⟨_, rfl, dX5_draw_56⟩ rfl ⟨(some (ad 0)), rfl⟩ ?_
          refine f_get (v := .ref (ad 6)) (k := 5) X Z i5 rfl (by decide) (by decide +kernel) dX5_draw_57 km0 rfl ?_
          refine f_iload X hl ⟨_, rfl, dX5_draw_60⟩ rfl ?_
          refine f_iald X Z dX5_draw_61 km6 (vp_in_nI hv6 (by decide)) ?_
          rw [hcl]
          refine f_istore2 X hl dX5_draw_62 (by decide) (fun ls hl => ?_)
          have hl : lV ls _ [some (.ref (ad 0)), some (.int t), some (.int (nI v)), some (.int (10 * d.2.1)), some (.int 0), some (.int ((F 6) v))] := hl
          have hloop : ∀ (fu : Nat) (i : Nat) (x4 x5 : Int32), (x5 = enc ((T j)[i]?.map Prod.fst)) → (sLd 0 (L.map Prod.snd) = sLd x4 (((T j).drop i).map Prod.snd)) → (L.find? gP = ((T j).drop i).find? gP) → (1 ≤ i) → (i ≤ (T j).length) → ((T j).length < i + fu) → ∀ (H : Heap) (locs : List Loc) (ls : Array Slot), wZ G w s H locs → lV ls 6 [some (.ref (ad 0)), some (.int t), some (.int (nI v)), some (.int (10 * d.2.1)), some (.int x4), some (.int x5)] → W p l e ({ frames := 2, cells := 0, slots := 0, locals := 42 }) s m [.ref (ad 0), .int t].toArray below meth cd H locs 0 0 (MQ below (Qi G (OutM G tg w ad c (sp_draw t y))) [.ref (ad 0), .int t].toArray s 0 0 (fr G)) (F0 m 64 ls []) := by
            clear hl Z
            intro fu
            induction fu with
            | zero => intro i x4 x5 hx5 hs hf hi1 hle hfu H locs ls Z hl; exact absurd hfu (by omega)
            | succ fu ih =>
              intro i x4 x5 hx5 hs hf hi1 hle hfu H locs ls Z hl
              refine f_iload2 X hl dX5_draw_64 rfl ?_
              refine lv_iconst (v := (-1)) X.1 X.2.1 dX5_draw_66 (by decide) ?_
              refine lv_icmp_eq (tgt := 112) X.1 X.2.1 dX5_draw_67 (by decide) (fun c67 => ?_) (fun c67 => ?_)
              · refine f_iload2 X hl dX5_draw_112 rfl ?_
                refine f_iload X hl ⟨_, rfl, dX5_draw_114⟩ rfl ?_
                refine lv_icmp_le (tgt := 133) X.1 X.2.1 dX5_draw_115 (by decide) (fun c115 => ?_) (fun c115 => ?_)
                · refine f_iload2 X hl dX5_draw_133 rfl ?_
                  exact f_iret X hr hlk Z (Nat.le_of_ble_eq_true rfl) (Nat.le_of_ble_eq_true rfl) dX5_draw_135 (by
                      have hend := enc_end hx5 c67 (fun b db hb => (h1.1 j i b db hb).1)
                      rw [drop_off hend] at hs hf
                      have hs : sLd 0 (L.map Prod.snd) = x4 := hs
                      subst hs
                      have hf : L.find? gP = none := hf
                      exact outM_same hR (by unfold sp_draw tn; rw [if_pos c4, hjt_j, hyj]; refine (if_pos (by rw [c34]; rfl)).trans ?_; rw [find_snd, hf]; exact if_neg (fun z => (draw_cmp (l := L.map Prod.snd) (we := d.2.1) (fun e he => hY.2.1 j e (by rw [hyj]; exact List.mem_cons_of_mem _ he)) (by have q := hP.lenT hY hn hj_j; rw [hTj] at q; simp at q ⊢; omega) (hY.2.1 j d (by rw [hyj]; exact List.mem_cons_self)).2.1).mp z c115)))
                · refine f_aload (v := .ref (ad 0)) X hl ⟨_, rfl, dX5_draw_118⟩ rfl ⟨(some (ad 0)), rfl⟩ ?_
                  refine f_iload2 X hl dX5_draw_119 rfl ?_
                  refine f_iload X hl ⟨_, rfl, dX5_draw_121⟩ rfl ?_
                  refine lv_isub X.1 X.2.1 dX5_draw_122 ?_
                  refine f_put (v := .int (x4 - (10 * d.2.1))) (ty0 := tyX5) (k := 14) X Z i5 tyX5_ok nmX5 rfl (by decide) (by decide +kernel) rfl dX5_draw_123 km0 rfl rfl (Nat.le_of_ble_eq_true rfl) (fun H locs w3 e4 Z => ?_)
                  have e4 : w3 = va_up w (ad 0) (some (cMo (some (ad 1)) (some (ad 2)) (some (ad 3)) (some (ad 4)) (some (ad 5)) (some (ad 6)) (some (ad 7)) (some (ad 8)) sd na (some (ad 9)) ro wi (some (ad 10)) (x4 - (10 * d.2.1)) (some (ad 11)))) := e4
                  have fm17 : FrM w tg w3 := by rw [e4]; exact FrM.put FrM.rf (hM.2.2 0 (by decide))
                  have k5 : w3 (ad 1) = some (aI G 600 (F 1)) := by rw [e4]; exact lk_ne (adne hM 1 0 (by decide) (by decide) (by decide)) km1
                  have k6 : w3 (ad 2) = some (aI G 600 (F 2)) := by rw [e4]; exact lk_ne (adne hM 2 0 (by decide) (by decide) (by decide)) km2
                  have k7 : w3 (ad 3) = some (aI G 600 (F 3)) := by rw [e4]; exact lk_ne (adne hM 3 0 (by decide) (by decide) (by decide)) km3
                  have k8 : w3 (ad 4) = some (aI G 600 (F 4)) := by rw [e4]; exact lk_ne (adne hM 4 0 (by decide) (by decide) (by decide)) km4
                  have k9 : w3 (ad 5) = some (aI G 7200 (F 5)) := by rw [e4]; exact lk_ne (adne hM 5 0 (by decide) (by decide) (by decide)) km5
                  have k10 : w3 (ad 6) = some (aI G 600 (F 6)) := by rw [e4]; exact lk_ne (adne hM 6 0 (by decide) (by decide) (by decide)) km6
                  have k11 : w3 (ad 7) = some (aZ G 600 (F 7)) := by rw [e4]; exact lk_ne (adne hM 7 0 (by decide) (by decide) (by decide)) km7
                  have k12 : w3 (ad 8) = some (aI G 6 (F 8)) := by rw [e4]; exact lk_ne (adne hM 8 0 (by decide) (by decide) (by decide)) km8
                  have k13 : w3 (ad 9) = some (aI G 12 (F 9)) := by rw [e4]; exact lk_ne (adne hM 9 0 (by decide) (by decide) (by decide)) km9
                  have k14 : w3 (ad 10) = some (aI G 144 (F 10)) := by rw [e4]; exact lk_ne (adne hM 10 0 (by decide) (by decide) (by decide)) km10
                  have k15 : w3 (ad 11) = some (aI G 8 (F 11)) := by rw [e4]; exact lk_ne (adne hM 11 0 (by decide) (by decide) (by decide)) km11
                  have k16 : w3 (ad 0) = some (cMo (some (ad 1)) (some (ad 2)) (some (ad 3)) (some (ad 4)) (some (ad 5)) (some (ad 6)) (some (ad 7)) (some (ad 8)) sd na (some (ad 9)) ro wi (some (ad 10)) (x4 - (10 * d.2.1)) (some (ad 11))) := by rw [e4]; exact up_eq
                  refine f_aload (v := .ref (ad 0)) X hl ⟨_, rfl, dX5_draw_126⟩ rfl ⟨(some (ad 0)), rfl⟩ ?_
                  refine lv_bipush (v := 6) X.1 X.2.1 dX5_draw_127 (by decide) ?_
                  refine f_callVi (rest := []) X Z hl.1 (c_X5_no l G w3 tg ad F sd na ro wi (x4 - (10 * d.2.1)) (hM.fld e4) 6 (by decide)) (cwV 1 X.2.2.2.2 gX5_draw_X5_no rfl rfl rfl (by decide +kernel) ⟨(Nat.le_of_ble_eq_true rfl), (Nat.le_of_ble_eq_true rfl)⟩) rfl rfl dX5_draw_129 ⟨(Nat.le_of_ble_eq_true rfl), (Nat.le_of_ble_eq_true rfl)⟩ rfl (Nat.le_of_ble_eq_true rfl) k16 (fun r129 w18 H locs p129 Z => ?_)
                  obtain ⟨hrT, hwT⟩ := p129
                  exact f_iret X hr hlk Z (Nat.le_of_ble_eq_true rfl) (Nat.le_of_ble_eq_true rfl) dX5_draw_132 (by
                      have hend := enc_end hx5 c67 (fun b db hb => (h1.1 j i b db hb).1)
                      rw [drop_off hend] at hs hf
                      have hs : sLd 0 (L.map Prod.snd) = x4 := hs
                      subst hs
                      have hf : L.find? gP = none := hf
                      exact outM_rep hM hP hrT (by rw [hwT, e4]) (by unfold sp_draw tn; rw [if_pos c4, hjt_j, hyj]; refine (if_pos (by rw [c34]; rfl)).trans ?_; rw [find_snd, hf]; exact if_pos ((draw_cmp (l := L.map Prod.snd) (we := d.2.1) (fun e he => hY.2.1 j e (by rw [hyj]; exact List.mem_cons_of_mem _ he)) (by have q := hP.lenT hY hn hj_j; rw [hTj] at q; simp at q ⊢; omega) (hY.2.1 j d (by rw [hyj]; exact List.mem_cons_self)).2.1).mpr c115)))
              · obtain ⟨b, db, hb, hx5b⟩ := enc_at hx5 c67
                subst hx5b
                obtain ⟨hb6, -, hweb, hdeb, hcrb, hbhb, -⟩ := h1.1 j i b db hb
                have hclb : (nI b).toNatClampNeg = b := nI_clamp (by omega)
                refine f_aload (v := .ref (ad 0)) X hl ⟨_, rfl, dX5_draw_70⟩ rfl ⟨(some (ad 0)), rfl⟩ ?_
                refine f_get (v := .ref (ad 3)) (k := 2) X Z i5 rfl (by decide) (by decide +kernel) dX5_draw_71 km0 rfl ?_
                refine f_iload2 X hl dX5_draw_74 rfl ?_
                refine f_iald X Z dX5_draw_76 km3 (vp_in_nI hb6 (by decide)) ?_
                rw [hclb]
                rw [hdeb]
                refine lv_bipush (v := 50) X.1 X.2.1 dX5_draw_77 (by decide) ?_
                refine lv_icmp_lt (tgt := 89) X.1 X.2.1 dX5_draw_79 (by decide) (fun c79 => ?_) (fun c79 => ?_)
                · refine f_iload2 X hl dX5_draw_89 rfl ?_
                  refine f_aload (v := .ref (ad 0)) X hl ⟨_, rfl, dX5_draw_91⟩ rfl ⟨(some (ad 0)), rfl⟩ ?_
                  refine f_iload2 X hl dX5_draw_92 rfl ?_
                  refine f_callVi (rest := [.int x4]) X Z hl.1 (c_X5_loadOf l G w tg ad F sd na ro wi y.2.2.2.2.1 hM b db hb6 hweb hcrb) (cwV 1 X.2.2.2.2 gX5_draw_X5_loadOf rfl rfl rfl (by decide +kernel) ⟨(Nat.le_of_ble_eq_true rfl), (Nat.le_of_ble_eq_true rfl)⟩) rfl rfl dX5_draw_94 ⟨(Nat.le_of_ble_eq_true rfl), (Nat.le_of_ble_eq_true rfl)⟩ rfl (Nat.le_of_ble_eq_true rfl) km0 (fun r94 w19 H locs p94 Z => ?_)
                  obtain ⟨w19e, hr94⟩ := p94
                  have w19e := w19e.symm
                  subst w19e
                  refine lv_iadd X.1 X.2.1 dX5_draw_97 ?_
                  refine f_istore2 X hl dX5_draw_98 (by decide) (fun ls hl => ?_)
                  have hl : lV ls _ [some (.ref (ad 0)), some (.int t), some (.int (nI v)), some (.int (10 * d.2.1)), some (.int (x4 + r94)), some (.int (nI b))] := hl
                  refine f_aload (v := .ref (ad 0)) X hl ⟨_, rfl, dX5_draw_100⟩ rfl ⟨(some (ad 0)), rfl⟩ ?_
                  refine f_get (v := .ref (ad 6)) (k := 5) X Z i5 rfl (by decide) (by decide +kernel) dX5_draw_101 km0 rfl ?_
                  refine f_iload2 X hl dX5_draw_104 rfl ?_
                  refine f_iald X Z dX5_draw_106 km6 (vp_in_nI hb6 (by decide)) ?_
                  rw [hclb]
                  refine f_istore2 X hl dX5_draw_107 (by decide) (fun ls hl => ?_)
                  have hl : lV ls _ [some (.ref (ad 0)), some (.int t), some (.int (nI v)), some (.int (10 * d.2.1)), some (.int (x4 + r94)), some (.int ((F 6) b))] := hl
                  refine lv_goto (tgt := 64) X.1 X.2.1 dX5_draw_109 (by decide) ?_
                  exact ih (i + 1) _ _ hbhb (by rw [hs, drop_at hb, hr94]; rfl) (by rw [hf, drop_at hb, List.find?_cons, show gP (b, db) = false from by simp only [gP, decide_eq_false_iff_not]; rw [Int32.lt_iff_toInt_lt, kc_50] at c79; omega]) (by omega) (by have := (List.getElem?_eq_some_iff.mp hb).1; omega) (by omega) _ _ _ Z hl
                · refine f_aload (v := .ref (ad 0)) X hl ⟨_, rfl, dX5_draw_82⟩ rfl ⟨(some (ad 0)), rfl⟩ ?_
                  refine f_iload2 X hl dX5_draw_83 rfl ?_
                  refine f_callVi (rest := []) X Z hl.1 (c_X5_reported l G w tg ad F sd na ro wi y.2.2.2.2.1 hM b hb6) (cwV 1 X.2.2.2.2 gX5_draw_X5_reported rfl rfl rfl (by decide +kernel) ⟨(Nat.le_of_ble_eq_true rfl), (Nat.le_of_ble_eq_true rfl)⟩) rfl rfl dX5_draw_85 ⟨(Nat.le_of_ble_eq_true rfl), (Nat.le_of_ble_eq_true rfl)⟩ rfl (Nat.le_of_ble_eq_true rfl) km0 (fun r85 w20 H locs p85 Z => ?_)
                  obtain ⟨hrT, hwT⟩ := p85
                  exact f_iret X hr hlk Z (Nat.le_of_ble_eq_true rfl) (Nat.le_of_ble_eq_true rfl) dX5_draw_88 (outM_rep hM hP hrT hwT (by unfold sp_draw tn; rw [if_pos c4, hjt_j, hyj]; refine (if_pos (by rw [c34]; rfl)).trans ?_; rw [find_snd, hf, drop_at hb, List.find?_cons, show gP (b, db) = true from by simp only [gP, decide_eq_true_eq]; rw [Int32.lt_iff_toInt_lt, kc_50] at c79; omega]; simp only [Option.map_some]; rw [hdeb]))
          exact hloop ((T j).length + 1) 1 _ _ hbh (by rw [hTj]; rfl) (by rw [hTj]; rfl) (by omega) (by rw [hTj]; simp) (by omega) _ _ _ Z hl
        · refine f_aload (v := .ref (ad 0)) X hl ⟨_, rfl, dX5_draw_37⟩ rfl ⟨(some (ad 0)), rfl⟩ ?_
          refine lv_iconst (v := 2) X.1 X.2.1 dX5_draw_38 (by decide) ?_
          refine f_callVi (rest := []) X Z hl.1 (c_X5_no l G w tg ad F sd na ro wi y.2.2.2.2.1 hM 2 (by decide)) (cwV 1 X.2.2.2.2 gX5_draw_X5_no rfl rfl rfl (by decide +kernel) ⟨(Nat.le_of_ble_eq_true rfl), (Nat.le_of_ble_eq_true rfl)⟩) rfl rfl dX5_draw_39 ⟨(Nat.le_of_ble_eq_true rfl), (Nat.le_of_ble_eq_true rfl)⟩ rfl (Nat.le_of_ble_eq_true rfl) km0 (fun r39 w21 H locs p39 Z => ?_)
          obtain ⟨hrT, hwT⟩ := p39
          exact f_iret X hr hlk Z (Nat.le_of_ble_eq_true rfl) (Nat.le_of_ble_eq_true rfl) dX5_draw_42 (outM_no hP hM FrM.rf hrT hwT (by unfold sp_draw tn; rw [if_pos c4, hjt_j, hyj]; exact if_neg (fun z => c34 (Int32.toInt_inj.mp z))))
      · exact absurd c18 (enc_ne hv6)
  · rw [hr1, bI_0] at c4
    refine lv_iconst (v := (-1)) X.1 X.2.1 dX5_draw_7 (by decide) ?_
    exact f_iret X hr hlk Z (Nat.le_of_ble_eq_true rfl) (Nat.le_of_ble_eq_true rfl) dX5_draw_8 (outM_same hR (if_neg c4))
