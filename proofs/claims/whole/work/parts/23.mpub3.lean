theorem mkF10 {F : Nat → Nat → Int32} {g : Nat → Int32} : ∀ k, 1 ≤ k → k ≤ 11 → k ≠ 10 → mkF (F 1) (F 2) (F 3) (F 4) (F 5) (F 6) (F 7) (F 8) (F 9) g (F 11) k = F k := fun k h1 h2 hk => mkF_ne k h1 h2 hk
theorem least_free {f : Nat → Int32} {c i : Nat} (h : ∀ v, c ≤ v → f v = 0) (hi : ¬ f i = 0) : i < c := Nat.lt_of_not_le (fun z => hi (h i z))
set_option maxHeartbeats 4000000 in
set_option maxRecDepth 100000 in
theorem c_X5_note (l : Launch) (G : gT) (w : wT) (tg : tT) (ad : Nat → Nat) (c nb : Nat) (y : Yd) (hR : RepM G tg w ad c y) (hY : Yok nb y) (hn : nb ≤ 512) (i j x : Int32) : Met l yX5_note wsX5_note ({ frames := 2, cells := 0, slots := 0, locals := 45 }) (va_Pc [.ref (ad 0), .int i, .int j, .int x] (wG G w)) (Qi G (OutM G tg w ad c (sp_note i j x y))) 0 0 (fr G) := by
  refine f_met (cc := cX5_note) (maxL := 5) (ret := (some .int)) (by decide) rfl rfl (Nat.le_of_ble_eq_true rfl) ?_
  intro p e s m below meth cd X hr hlk hnm Z ls hl
  have X : CallFix p m cd cX5_note 5 s [.ref (ad 0), .int i, .int j, .int x].toArray wsX5_note RX5 := X
  have hl : lV ls _ [some (.ref (ad 0)), some (.int i), some (.int j), some (.int x), none] := hl
  have i5 : ∀ w ∈ wsX50, w ∈ wsX5_note := by decide +kernel
  obtain ⟨F, sd, na, ro, wi, T, hM, hP⟩ := id hR
  obtain ⟨h1, h2, h3, h4, h5, h6, h7⟩ := id hP
  have km0 := hM.1
  have km1 : w (ad 1) = some (aI G 600 (F 1)) := hM.2.1 1 (by decide) (by decide)
  have km2 : w (ad 2) = some (aI G 600 (F 2)) := hM.2.1 2 (by decide) (by decide)
  have km3 : w (ad 3) = some (aI G 600 (F 3)) := hM.2.1 3 (by decide) (by decide)
  have km4 : w (ad 4) = some (aI G 600 (F 4)) := hM.2.1 4 (by decide) (by decide)
  have km5 : w (ad 5) = some (aI G 7200 (F 5)) := hM.2.1 5 (by decide) (by decide)
  have km6 : w (ad 6) = some (aI G 600 (F 6)) := hM.2.1 6 (by decide) (by decide)
  have km7 : w (ad 7) = some (aZ G 600 (F 7)) := hM.2.1 7 (by decide) (by decide)
  have km8 : w (ad 8) = some (aI G 6 (F 8)) := hM.2.1 8 (by decide) (by decide)
  have km9 : w (ad 9) = some (aI G 12 (F 9)) := hM.2.1 9 (by decide) (by decide)
  have km10 : w (ad 10) = some (aI G 144 (F 10)) := hM.2.1 10 (by decide) (by decide)
  have km11 : w (ad 11) = some (aI G 8 (F 11)) := hM.2.1 11 (by decide) (by decide)
  refine f_iload X hl ⟨_, rfl, dX5_note_0⟩ rfl ?_
  refine lv_iconst (v := 0) X.1 X.2.1 dX5_note_1 (by decide) ?_
  refine lv_bipush (v := 99) X.1 X.2.1 dX5_note_2 (by decide) ?_
  refine f_callSi (rest := []) X Z hl.1 (c_X5_in l G _ _ _ _) (va_cwS 3 X.2.2.2.2 gX5_note_X5_in rfl rfl rfl (by decide +kernel) ⟨(Nat.le_of_ble_eq_true rfl), (Nat.le_of_ble_eq_true rfl)⟩) rfl dX5_note_4 ⟨(Nat.le_of_ble_eq_true rfl), (Nat.le_of_ble_eq_true rfl)⟩ rfl (Nat.le_of_ble_eq_true rfl) (fun r4 w1 H locs p4 Z => ?_)
  obtain ⟨w1e, hr4⟩ := p4
  have w1e := w1e.symm
  subst w1e
  refine lv_if_ne (tgt := 12) X.1 X.2.1 dX5_note_7 (by decide) (fun c7 => ?_) (fun c7 => ?_)
  · rw [hr4, bI_0, Classical.not_not] at c7
    refine f_aload (v := .ref (ad 0)) X hl ⟨_, rfl, dX5_note_12⟩ rfl ⟨(some (ad 0)), rfl⟩ ?_
    refine f_iload X hl ⟨_, rfl, dX5_note_13⟩ rfl ?_
    refine f_iload X hl ⟨_, rfl, dX5_note_14⟩ rfl ?_
    refine f_aload (v := .ref (ad 0)) X hl ⟨_, rfl, dX5_note_15⟩ rfl ⟨(some (ad 0)), rfl⟩ ?_
    refine f_get (v := .int wi) (k := 12) X Z i5 rfl (by decide) (by decide +kernel) dX5_note_16 km0 rfl ?_
    refine f_callVi (rest := []) X Z hl.1 (c_X5_against_ l G w tg ad F sd na ro wi y.2.2.2.2.1 hM i j wi y.2.2.1 (PlMo h6)) (cwV 3 X.2.2.2.2 gX5_note_X5_against_ rfl rfl rfl (by decide +kernel) ⟨(Nat.le_of_ble_eq_true rfl), (Nat.le_of_ble_eq_true rfl)⟩) rfl rfl dX5_note_19 ⟨(Nat.le_of_ble_eq_true rfl), (Nat.le_of_ble_eq_true rfl)⟩ rfl (Nat.le_of_ble_eq_true rfl) km0 (fun r19 w2 H locs p19 Z => ?_)
    obtain ⟨w2e, hr19⟩ := p19
    have w2e := w2e.symm
    subst w2e
    rw [whyA_N h6] at hr19
    subst hr19
    refine f_istore2 X hl dX5_note_22 (by decide) (fun ls hl => ?_)
    have hl : lV ls _ [some (.ref (ad 0)), some (.int i), some (.int j), some (.int x), some (.int (nI (whyN y.2.2.1 i j)))] := hl
    refine f_iload2 X hl dX5_note_24 rfl ?_
    refine lv_if_le (tgt := 36) X.1 X.2.1 dX5_note_26 (by decide) (fun c26 => ?_) (fun c26 => ?_)
    · have hz := nI_le0 (whyN_lt _ _ _) c26
      obtain ⟨r, kk, hop, hi, hj0, hj1⟩ := whyN_0 hz
      obtain ⟨hro, hwi, hr12, hk12, hfN⟩ := PlMs h6 hop
      have hin : i.toNatClampNeg < r := tn_lt hi
      have hjn : j.toNatClampNeg < kk := tn_lt ⟨hj0, hj1⟩
      have hix : (12 : Int32) * i + j = nI (12 * i.toNatClampNeg + j.toNatClampNeg) := by rw [← nI_add, ← pk_mul, nI_tn hi.1, nI_tn hj0]; rfl
      have hixc : ((12 : Int32) * i + j).toNatClampNeg = 12 * i.toNatClampNeg + j.toNatClampNeg := by rw [hix, nI_clamp (by omega)]
      have hixi : vp_in ((12 : Int32) * i + j) 144 := by rw [hix]; exact vp_in_nI (by omega) (by decide)
      refine f_aload (v := .ref (ad 0)) X hl ⟨_, rfl, dX5_note_36⟩ rfl ⟨(some (ad 0)), rfl⟩ ?_
      refine f_get (v := .ref (ad 10)) (k := 13) X Z i5 rfl (by decide) (by decide +kernel) dX5_note_37 km0 rfl ?_
      refine lv_bipush (v := 12) X.1 X.2.1 dX5_note_40 (by decide) ?_
      refine f_iload X hl ⟨_, rfl, dX5_note_42⟩ rfl ?_
      refine lv_imul X.1 X.2.1 dX5_note_43 ?_
      refine f_iload X hl ⟨_, rfl, dX5_note_44⟩ rfl ?_
      refine lv_iadd X.1 X.2.1 dX5_note_45 ?_
      refine f_iload X hl ⟨_, rfl, dX5_note_46⟩ rfl ?_
      refine f_iast X Z dX5_note_47 km10 hixi (fun H locs w3 e4 Z => ?_)
      rw [hixc] at e4
      have e4 : w3 = va_up w (ad 10) (some (aI G 144 (upd (F 10) (12 * i.toNatClampNeg + j.toNatClampNeg) x))) := e4
      have fm17 : FrM w tg w3 := by rw [e4]; exact FrM.put FrM.rf (hM.2.2 10 (by decide))
      have k5 : w3 (ad 0) = some (cMo (some (ad 1)) (some (ad 2)) (some (ad 3)) (some (ad 4)) (some (ad 5)) (some (ad 6)) (some (ad 7)) (some (ad 8)) sd na (some (ad 9)) ro wi (some (ad 10)) y.2.2.2.2.1 (some (ad 11))) := by rw [e4]; exact lk_ne (adne hM 0 10 (by decide) (by decide) (by decide)) km0
      have k6 : w3 (ad 1) = some (aI G 600 (F 1)) := by rw [e4]; exact lk_ne (adne hM 1 10 (by decide) (by decide) (by decide)) km1
      have k7 : w3 (ad 2) = some (aI G 600 (F 2)) := by rw [e4]; exact lk_ne (adne hM 2 10 (by decide) (by decide) (by decide)) km2
      have k8 : w3 (ad 3) = some (aI G 600 (F 3)) := by rw [e4]; exact lk_ne (adne hM 3 10 (by decide) (by decide) (by decide)) km3
      have k9 : w3 (ad 4) = some (aI G 600 (F 4)) := by rw [e4]; exact lk_ne (adne hM 4 10 (by decide) (by decide) (by decide)) km4
      have k10 : w3 (ad 5) = some (aI G 7200 (F 5)) := by rw [e4]; exact lk_ne (adne hM 5 10 (by decide) (by decide) (by decide)) km5
      have k11 : w3 (ad 6) = some (aI G 600 (F 6)) := by rw [e4]; exact lk_ne (adne hM 6 10 (by decide) (by decide) (by decide)) km6
      have k12 : w3 (ad 7) = some (aZ G 600 (F 7)) := by rw [e4]; exact lk_ne (adne hM 7 10 (by decide) (by decide) (by decide)) km7
      have k13 : w3 (ad 8) = some (aI G 6 (F 8)) := by rw [e4]; exact lk_ne (adne hM 8 10 (by decide) (by decide) (by decide)) km8
      have k14 : w3 (ad 9) = some (aI G 12 (F 9)) := by rw [e4]; exact lk_ne (adne hM 9 10 (by decide) (by decide) (by decide)) km9
      have k15 : w3 (ad 11) = some (aI G 8 (F 11)) := by rw [e4]; exact lk_ne (adne hM 11 10 (by decide) (by decide) (by decide)) km11
      have k16 : w3 (ad 10) = some (aI G 144 (upd (F 10) (12 * i.toNatClampNeg + j.toNatClampNeg) x)) := by rw [e4]; exact up_eq
      refine f_iload X hl ⟨_, rfl, dX5_note_48⟩ rfl ?_
      exact f_iret X hr hlk Z (Nat.le_of_ble_eq_true rfl) (Nat.le_of_ble_eq_true rfl) dX5_note_49 (outM_of (hP.planned (F' := (mkF (F 1) (F 2) (F 3) (F 4) (F 5) (F 6) (F 7) (F 8) (F 9) (upd (F 10) (12 * i.toNatClampNeg + j.toNatClampNeg) x) (F 11))) (N' := upd2 y.2.2.2.1 i.toNatClampNeg j.toNatClampNeg x) (Or.inr ⟨r, kk, hro, hwi, hop, hr12, hk12, (fun a b ha hb => by by_cases hab : a = i.toNatClampNeg ∧ b = j.toNatClampNeg; obtain ⟨rfl, rfl⟩ := hab; exact upd_at.trans (if_pos ⟨rfl, rfl⟩).symm; exact (upd_off (by omega)).trans ((hfN a b ha hb).trans (if_neg hab).symm))⟩) mkF10) (MW.of hM k5 k6 k7 k8 k9 k10 k11 k12 k13 k14 k16 k15) (by omega) fm17 (by unfold sp_note; rw [if_pos c7, if_neg (fun z => z hz)]))
    · refine f_aload (v := .ref (ad 0)) X hl ⟨_, rfl, dX5_note_29⟩ rfl ⟨(some (ad 0)), rfl⟩ ?_
      refine f_iload2 X hl dX5_note_30 rfl ?_
      refine f_callVi (rest := []) X Z hl.1 (c_X5_no l G w tg ad F sd na ro wi y.2.2.2.2.1 hM (whyN y.2.2.1 i j) (whyN_lt _ _ _)) (cwV 1 X.2.2.2.2 gX5_note_X5_no rfl rfl rfl (by decide +kernel) ⟨(Nat.le_of_ble_eq_true rfl), (Nat.le_of_ble_eq_true rfl)⟩) rfl rfl dX5_note_32 ⟨(Nat.le_of_ble_eq_true rfl), (Nat.le_of_ble_eq_true rfl)⟩ rfl (Nat.le_of_ble_eq_true rfl) km0 (fun r32 w18 H locs p32 Z => ?_)
      obtain ⟨hrT, hwT⟩ := p32
      exact f_iret X hr hlk Z (Nat.le_of_ble_eq_true rfl) (Nat.le_of_ble_eq_true rfl) dX5_note_35 (outM_no hP hM FrM.rf hrT hwT (by unfold sp_note; rw [if_pos c7, if_pos (nI_pos0 (whyN_lt _ _ _) c26)]))
  · rw [hr4, bI_0] at c7
    refine lv_iconst (v := (-1)) X.1 X.2.1 dX5_note_10 (by decide) ?_
    exact f_iret X hr hlk Z (Nat.le_of_ble_eq_true rfl) (Nat.le_of_ble_eq_true rfl) dX5_note_11 (outM_same hR (if_neg c7))
set_option maxHeartbeats 4000000 in
set_option maxRecDepth 100000 in
theorem c_X5_plan (l : Launch) (G : gT) (w : wT) (tg : tT) (ad : Nat → Nat) (c nb : Nat) (y : Yd) (hR : RepM G tg w ad c y) (hY : Yok nb y) (hn : nb ≤ 512) (n k : Int32) : Met l yX5_plan wsX5_plan ({ frames := 1, cells := 0, slots := 0, locals := 21 }) (va_Pc [.ref (ad 0), .int n, .int k] (wG G w)) (Qi G (OutM G tg w ad c (sp_plan n k y))) 0 0 (fr G) := by
  refine f_met (cc := cX5_plan) (maxL := 4) (ret := (some .int)) (by decide) rfl rfl (Nat.le_of_ble_eq_true rfl) ?_
  intro p e s m below meth cd X hr hlk hnm Z ls hl
  have X : CallFix p m cd cX5_plan 4 s [.ref (ad 0), .int n, .int k].toArray wsX5_plan RX5 := X
  have hl : lV ls _ [some (.ref (ad 0)), some (.int n), some (.int k), none] := hl
  have i5 : ∀ w ∈ wsX50, w ∈ wsX5_plan := by decide +kernel
  obtain ⟨F, sd, na, ro, wi, T, hM, hP⟩ := id hR
  obtain ⟨h1, h2, h3, h4, h5, h6, h7⟩ := id hP
  have km0 := hM.1
  have km1 : w (ad 1) = some (aI G 600 (F 1)) := hM.2.1 1 (by decide) (by decide)
  have km2 : w (ad 2) = some (aI G 600 (F 2)) := hM.2.1 2 (by decide) (by decide)
  have km3 : w (ad 3) = some (aI G 600 (F 3)) := hM.2.1 3 (by decide) (by decide)
  have km4 : w (ad 4) = some (aI G 600 (F 4)) := hM.2.1 4 (by decide) (by decide)
  have km5 : w (ad 5) = some (aI G 7200 (F 5)) := hM.2.1 5 (by decide) (by decide)
  have km6 : w (ad 6) = some (aI G 600 (F 6)) := hM.2.1 6 (by decide) (by decide)
  have km7 : w (ad 7) = some (aZ G 600 (F 7)) := hM.2.1 7 (by decide) (by decide)
  have km8 : w (ad 8) = some (aI G 6 (F 8)) := hM.2.1 8 (by decide) (by decide)
  have km9 : w (ad 9) = some (aI G 12 (F 9)) := hM.2.1 9 (by decide) (by decide)
  have km10 : w (ad 10) = some (aI G 144 (F 10)) := hM.2.1 10 (by decide) (by decide)
  have km11 : w (ad 11) = some (aI G 8 (F 11)) := hM.2.1 11 (by decide) (by decide)
  refine f_iload X hl ⟨_, rfl, dX5_plan_0⟩ rfl ?_
  refine lv_bipush (v := 12) X.1 X.2.1 dX5_plan_1 (by decide) ?_
  refine lv_icmp_gt (tgt := 12) X.1 X.2.1 dX5_plan_3 (by decide) (fun c3 => ?_) (fun c3 => ?_)
  · refine lv_iconst (v := (-1)) X.1 X.2.1 dX5_plan_12 (by decide) ?_
    exact f_iret X hr hlk Z (Nat.le_of_ble_eq_true rfl) (Nat.le_of_ble_eq_true rfl) dX5_plan_13 (outM_same hR (if_neg (fun h => nle12 (Int32.not_le.mpr c3) h.1)))
  · refine f_iload X hl ⟨_, rfl, dX5_plan_6⟩ rfl ?_
    refine lv_bipush (v := 12) X.1 X.2.1 dX5_plan_7 (by decide) ?_
    refine lv_icmp_le (tgt := 14) X.1 X.2.1 dX5_plan_9 (by decide) (fun c9 => ?_) (fun c9 => ?_)
    · refine f_iload X hl ⟨_, rfl, dX5_plan_14⟩ rfl ?_
      refine lv_if_lt (tgt := 22) X.1 X.2.1 dX5_plan_15 (by decide) (fun c15 => ?_) (fun c15 => ?_)
      · refine f_aload (v := .ref (ad 0)) X hl ⟨_, rfl, dX5_plan_22⟩ rfl ⟨(some (ad 0)), rfl⟩ ?_
        refine lv_iconst (v := 4) X.1 X.2.1 dX5_plan_23 (by decide) ?_
        refine f_callVi (rest := []) X Z hl.1 (c_X5_no l G w tg ad F sd na ro wi y.2.2.2.2.1 hM 4 (by decide)) (cwV 1 X.2.2.2.2 gX5_plan_X5_no rfl rfl rfl (by decide +kernel) ⟨(Nat.le_of_ble_eq_true rfl), (Nat.le_of_ble_eq_true rfl)⟩) rfl rfl dX5_plan_24 ⟨(Nat.le_of_ble_eq_true rfl), (Nat.le_of_ble_eq_true rfl)⟩ rfl (Nat.le_of_ble_eq_true rfl) km0 (fun r24 w1 H locs p24 Z => ?_)
        obtain ⟨hrT, hwT⟩ := p24
        exact f_iret X hr hlk Z (Nat.le_of_ble_eq_true rfl) (Nat.le_of_ble_eq_true rfl) dX5_plan_27 (outM_no hP hM FrM.rf hrT hwT (by unfold sp_plan; rw [if_pos ⟨le12 (Int32.not_lt.mp c3), le12 c9⟩, if_pos (Or.inl (isneg c15))]))
      · refine f_iload X hl ⟨_, rfl, dX5_plan_18⟩ rfl ?_
        refine lv_if_ge (tgt := 28) X.1 X.2.1 dX5_plan_19 (by decide) (fun c19 => ?_) (fun c19 => ?_)
        · have c19 : ¬ k < 0 := fun h => by rw [Int32.lt_iff_toInt_lt, kc_0] at h; rw [Int32.le_iff_toInt_le, kc_0] at c19; omega
          have c3 := Int32.not_lt.mp c3
          have hn12 := le12 c3
          have hk12 := le12 c9
          have hn0 := nonneg c15
          have hk0 := nonneg c19
          have hnt : nI n.toNatClampNeg = n := nI_tn hn0
          have hkt : nI k.toNatClampNeg = k := nI_tn hk0
          have hnl : n.toNatClampNeg ≤ 12 := toNat_le hn12
          have hkl : k.toNatClampNeg ≤ 12 := toNat_le hk12
          refine f_aload (v := .ref (ad 0)) X hl ⟨_, rfl, dX5_plan_28⟩ rfl ⟨(some (ad 0)), rfl⟩ ?_
          refine f_iload X hl ⟨_, rfl, dX5_plan_29⟩ rfl ?_
          refine f_put (v := .int n) (ty0 := tyX5) (k := 11) X Z i5 tyX5_ok nmX5 rfl (by decide) (by decide +kernel) rfl dX5_plan_30 km0 rfl rfl (Nat.le_of_ble_eq_true rfl) (fun H locs w2 e3 Z => ?_)
          have e3 : w2 = va_up w (ad 0) (some (cMo (some (ad 1)) (some (ad 2)) (some (ad 3)) (some (ad 4)) (some (ad 5)) (some (ad 6)) (some (ad 7)) (some (ad 8)) sd na (some (ad 9)) n wi (some (ad 10)) y.2.2.2.2.1 (some (ad 11)))) := e3
          have fm16 : FrM w tg w2 := by rw [e3]; exact FrM.put FrM.rf (hM.2.2 0 (by decide))
          have k4 : w2 (ad 1) = some (aI G 600 (F 1)) := by rw [e3]; exact lk_ne (adne hM 1 0 (by decide) (by decide) (by decide)) km1
          have k5 : w2 (ad 2) = some (aI G 600 (F 2)) := by rw [e3]; exact lk_ne (adne hM 2 0 (by decide) (by decide) (by decide)) km2
          have k6 : w2 (ad 3) = some (aI G 600 (F 3)) := by rw [e3]; exact lk_ne (adne hM 3 0 (by decide) (by decide) (by decide)) km3
          have k7 : w2 (ad 4) = some (aI G 600 (F 4)) := by rw [e3]; exact lk_ne (adne hM 4 0 (by decide) (by decide) (by decide)) km4
          have k8 : w2 (ad 5) = some (aI G 7200 (F 5)) := by rw [e3]; exact lk_ne (adne hM 5 0 (by decide) (by decide) (by decide)) km5
          have k9 : w2 (ad 6) = some (aI G 600 (F 6)) := by rw [e3]; exact lk_ne (adne hM 6 0 (by decide) (by decide) (by decide)) km6
          have k10 : w2 (ad 7) = some (aZ G 600 (F 7)) := by rw [e3]; exact lk_ne (adne hM 7 0 (by decide) (by decide) (by decide)) km7
          have k11 : w2 (ad 8) = some (aI G 6 (F 8)) := by rw [e3]; exact lk_ne (adne hM 8 0 (by decide) (by decide) (by decide)) km8
          have k12 : w2 (ad 9) = some (aI G 12 (F 9)) := by rw [e3]; exact lk_ne (adne hM 9 0 (by decide) (by decide) (by decide)) km9
          have k13 : w2 (ad 10) = some (aI G 144 (F 10)) := by rw [e3]; exact lk_ne (adne hM 10 0 (by decide) (by decide) (by decide)) km10
          have k14 : w2 (ad 11) = some (aI G 8 (F 11)) := by rw [e3]; exact lk_ne (adne hM 11 0 (by decide) (by decide) (by decide)) km11
          have k15 : w2 (ad 0) = some (cMo (some (ad 1)) (some (ad 2)) (some (ad 3)) (some (ad 4)) (some (ad 5)) (some (ad 6)) (some (ad 7)) (some (ad 8)) sd na (some (ad 9)) n wi (some (ad 10)) y.2.2.2.2.1 (some (ad 11))) := by rw [e3]; exact up_eq
          refine f_aload (v := .ref (ad 0)) X hl ⟨_, rfl, dX5_plan_33⟩ rfl ⟨(some (ad 0)), rfl⟩ ?_
          refine f_iload X hl ⟨_, rfl, dX5_plan_34⟩ rfl ?_
          refine f_put (v := .int k) (ty0 := tyX5) (k := 12) X Z i5 tyX5_ok nmX5 rfl (by decide) (by decide +kernel) rfl dX5_plan_35 k15 rfl rfl (Nat.le_of_ble_eq_true rfl) (fun H locs w17 e18 Z => ?_)
          have e18 : w17 = va_up w2 (ad 0) (some (cMo (some (ad 1)) (some (ad 2)) (some (ad 3)) (some (ad 4)) (some (ad 5)) (some (ad 6)) (some (ad 7)) (some (ad 8)) sd na (some (ad 9)) n k (some (ad 10)) y.2.2.2.2.1 (some (ad 11)))) := e18
          have fm31 : FrM w tg w17 := by rw [e18]; exact FrM.put fm16 (hM.2.2 0 (by decide))
          have k19 : w17 (ad 1) = some (aI G 600 (F 1)) := by rw [e18]; exact lk_ne (adne hM 1 0 (by decide) (by decide) (by decide)) k4
          have k20 : w17 (ad 2) = some (aI G 600 (F 2)) := by rw [e18]; exact lk_ne (adne hM 2 0 (by decide) (by decide) (by decide)) k5
          have k21 : w17 (ad 3) = some (aI G 600 (F 3)) := by rw [e18]; exact lk_ne (adne hM 3 0 (by decide) (by decide) (by decide)) k6
          have k22 : w17 (ad 4) = some (aI G 600 (F 4)) := by rw [e18]; exact lk_ne (adne hM 4 0 (by decide) (by decide) (by decide)) k7
          have k23 : w17 (ad 5) = some (aI G 7200 (F 5)) := by rw [e18]; exact lk_ne (adne hM 5 0 (by decide) (by decide) (by decide)) k8
          have k24 : w17 (ad 6) = some (aI G 600 (F 6)) := by rw [e18]; exact lk_ne (adne hM 6 0 (by decide) (by decide) (by decide)) k9
          have k25 : w17 (ad 7) = some (aZ G 600 (F 7)) := by rw [e18]; exact lk_ne (adne hM 7 0 (by decide) (by decide) (by decide)) k10
          have k26 : w17 (ad 8) = some (aI G 6 (F 8)) := by rw [e18]; exact lk_ne (adne hM 8 0 (by decide) (by decide) (by decide)) k11
          have k27 : w17 (ad 9) = some (aI G 12 (F 9)) := by rw [e18]; exact lk_ne (adne hM 9 0 (by decide) (by decide) (by decide)) k12
          have k28 : w17 (ad 10) = some (aI G 144 (F 10)) := by rw [e18]; exact lk_ne (adne hM 10 0 (by decide) (by decide) (by decide)) k13
          have k29 : w17 (ad 11) = some (aI G 8 (F 11)) := by rw [e18]; exact lk_ne (adne hM 11 0 (by decide) (by decide) (by decide)) k14
          have k30 : w17 (ad 0) = some (cMo (some (ad 1)) (some (ad 2)) (some (ad 3)) (some (ad 4)) (some (ad 5)) (some (ad 6)) (some (ad 7)) (some (ad 8)) sd na (some (ad 9)) n k (some (ad 10)) y.2.2.2.2.1 (some (ad 11))) := by rw [e18]; exact up_eq
          refine lv_iconst (v := 0) X.1 X.2.1 dX5_plan_38 (by decide) ?_
          refine f_istore X hl ⟨_, rfl, dX5_plan_39⟩ (by decide) (fun ls hl => ?_)
          have hl : lV ls _ [some (.ref (ad 0)), some (.int n), some (.int k), some (.int 0)] := hl
          have hloop : ∀ (fu : Nat) (i : Nat) (x3 : Int32) (f : Nat → Int32) (wL : wT), (x3 = nI i) → (∀ q, q < i → f q = 0) → (i ≤ 144) → (144 < i + fu) → wL = va_up w17 (ad 10) (some (aI G 144 f)) → FrM w tg wL → ∀ (H : Heap) (locs : List Loc) (ls : Array Slot), wZ G wL s H locs → lV ls 4 [some (.ref (ad 0)), some (.int n), some (.int k), some (.int x3)] → W p l e ({ frames := 1, cells := 0, slots := 0, locals := 21 }) s m [.ref (ad 0), .int n, .int k].toArray below meth cd H locs 0 0 (MQ below (Qi G (OutM G tg w ad c (sp_plan n k y))) [.ref (ad 0), .int n, .int k].toArray s 0 0 (fr G)) (F0 m 40 ls []) := by
            clear hl Z
            intro fu
            induction fu with
            | zero => intro i x3 f wL hx3 hz hle hfu hwL hfL H locs ls Z hl; exact absurd hfu (by omega)
            | succ fu ih =>
              intro i x3 f wL hx3 hz hle hfu hwL hfL H locs ls Z hl
              have k32 : wL (ad 1) = some (aI G 600 (F 1)) := by rw [hwL]; exact lk_ne (adne hM 1 10 (by decide) (by decide) (by decide)) k19
              have k33 : wL (ad 2) = some (aI G 600 (F 2)) := by rw [hwL]; exact lk_ne (adne hM 2 10 (by decide) (by decide) (by decide)) k20
              have k34 : wL (ad 3) = some (aI G 600 (F 3)) := by rw [hwL]; exact lk_ne (adne hM 3 10 (by decide) (by decide) (by decide)) k21
              have k35 : wL (ad 4) = some (aI G 600 (F 4)) := by rw [hwL]; exact lk_ne (adne hM 4 10 (by decide) (by decide) (by decide)) k22
              have k36 : wL (ad 5) = some (aI G 7200 (F 5)) := by rw [hwL]; exact lk_ne (adne hM 5 10 (by decide) (by decide) (by decide)) k23
              have k37 : wL (ad 6) = some (aI G 600 (F 6)) := by rw [hwL]; exact lk_ne (adne hM 6 10 (by decide) (by decide) (by decide)) k24
              have k38 : wL (ad 7) = some (aZ G 600 (F 7)) := by rw [hwL]; exact lk_ne (adne hM 7 10 (by decide) (by decide) (by decide)) k25
              have k39 : wL (ad 8) = some (aI G 6 (F 8)) := by rw [hwL]; exact lk_ne (adne hM 8 10 (by decide) (by decide) (by decide)) k26
              have k40 : wL (ad 9) = some (aI G 12 (F 9)) := by rw [hwL]; exact lk_ne (adne hM 9 10 (by decide) (by decide) (by decide)) k27
              have k41 : wL (ad 11) = some (aI G 8 (F 11)) := by rw [hwL]; exact lk_ne (adne hM 11 10 (by decide) (by decide) (by decide)) k29
              have k42 : wL (ad 0) = some (cMo (some (ad 1)) (some (ad 2)) (some (ad 3)) (some (ad 4)) (some (ad 5)) (some (ad 6)) (some (ad 7)) (some (ad 8)) sd na (some (ad 9)) n k (some (ad 10)) y.2.2.2.2.1 (some (ad 11))) := by rw [hwL]; exact lk_ne (adne hM 0 10 (by decide) (by decide) (by decide)) k30
              have k43 : wL (ad 10) = some (aI G 144 f) := by rw [hwL]; exact up_eq
              have hxc : x3.toNatClampNeg = i := by rw [hx3, nI_clamp (by omega)]
              refine f_iload X hl ⟨_, rfl, dX5_plan_40⟩ rfl ?_
              refine lv_sipush (v := 144) X.1 X.2.1 dX5_plan_41 (by decide) ?_
              refine lv_icmp_ge (tgt := 60) X.1 X.2.1 dX5_plan_44 (by decide) (fun c44 => ?_) (fun c44 => ?_)
              · refine f_iload X hl ⟨_, rfl, dX5_plan_60⟩ rfl ?_
                refine f_iload X hl ⟨_, rfl, dX5_plan_61⟩ rfl ?_
                refine lv_imul X.1 X.2.1 dX5_plan_62 ?_
                exact f_iret X hr hlk Z (Nat.le_of_ble_eq_true rfl) (Nat.le_of_ble_eq_true rfl) dX5_plan_63 (by
                    have hi : 144 ≤ i := (nI_leI (a := 144) (b := i) (by omega) (by omega)).mp (hx3 ▸ c44)
                    exact outM_of (hP.planned (F' := (mkF (F 1) (F 2) (F 3) (F 4) (F 5) (F 6) (F 7) (F 8) (F 9) f (F 11))) (N' := fun _ _ => 0) (op' := some (n.toNatClampNeg, k.toNatClampNeg)) (Or.inr ⟨_, _, hnt.symm, hkt.symm, rfl, hnl, hkl, fun a b ha hb => hz _ (by omega)⟩) mkF10) (MW.of hM k42 k32 k33 k34 k35 k36 k37 k38 k39 k40 k43 k41) (by omega) hfL (by unfold sp_plan tn; rw [if_pos ⟨hn12, hk12⟩, if_neg (by omega)]))
              · have hlt : i < 144 := by
                  rcases Nat.lt_or_ge i 144 with q | q
                  · exact q
                  · exact absurd (by rw [hx3]; exact nI_le (a := 144) q (by omega)) c44
                refine f_aload (v := .ref (ad 0)) X hl ⟨_, rfl, dX5_plan_47⟩ rfl ⟨(some (ad 0)), rfl⟩ ?_
                refine f_get (v := .ref (ad 10)) (k := 13) X Z i5 rfl (by decide) (by decide +kernel) dX5_plan_48 k42 rfl ?_
                refine f_iload X hl ⟨_, rfl, dX5_plan_51⟩ rfl ?_
                refine lv_iconst (v := 0) X.1 X.2.1 dX5_plan_52 (by decide) ?_
                refine f_iast X Z dX5_plan_53 k43 (by rw [hx3]; exact vp_in_nI hlt (by decide)) (fun H locs w44 e45 Z => ?_)
                rw [hxc] at e45
                have e45 : w44 = va_up wL (ad 10) (some (aI G 144 (upd f i 0))) := e45
                have fm58 : FrM w tg w44 := by rw [e45]; exact FrM.put hfL (hM.2.2 10 (by decide))
                have k46 : w44 (ad 1) = some (aI G 600 (F 1)) := by rw [e45]; exact lk_ne (adne hM 1 10 (by decide) (by decide) (by decide)) k32
                have k47 : w44 (ad 2) = some (aI G 600 (F 2)) := by rw [e45]; exact lk_ne (adne hM 2 10 (by decide) (by decide) (by decide)) k33
                have k48 : w44 (ad 3) = some (aI G 600 (F 3)) := by rw [e45]; exact lk_ne (adne hM 3 10 (by decide) (by decide) (by decide)) k34
                have k49 : w44 (ad 4) = some (aI G 600 (F 4)) := by rw [e45]; exact lk_ne (adne hM 4 10 (by decide) (by decide) (by decide)) k35
                have k50 : w44 (ad 5) = some (aI G 7200 (F 5)) := by rw [e45]; exact lk_ne (adne hM 5 10 (by decide) (by decide) (by decide)) k36
                have k51 : w44 (ad 6) = some (aI G 600 (F 6)) := by rw [e45]; exact lk_ne (adne hM 6 10 (by decide) (by decide) (by decide)) k37
                have k52 : w44 (ad 7) = some (aZ G 600 (F 7)) := by rw [e45]; exact lk_ne (adne hM 7 10 (by decide) (by decide) (by decide)) k38
                have k53 : w44 (ad 8) = some (aI G 6 (F 8)) := by rw [e45]; exact lk_ne (adne hM 8 10 (by decide) (by decide) (by decide)) k39
                have k54 : w44 (ad 9) = some (aI G 12 (F 9)) := by rw [e45]; exact lk_ne (adne hM 9 10 (by decide) (by decide) (by decide)) k40
                have k55 : w44 (ad 11) = some (aI G 8 (F 11)) := by rw [e45]; exact lk_ne (adne hM 11 10 (by decide) (by decide) (by decide)) k41
                have k56 : w44 (ad 0) = some (cMo (some (ad 1)) (some (ad 2)) (some (ad 3)) (some (ad 4)) (some (ad 5)) (some (ad 6)) (some (ad 7)) (some (ad 8)) sd na (some (ad 9)) n k (some (ad 10)) y.2.2.2.2.1 (some (ad 11))) := by rw [e45]; exact lk_ne (adne hM 0 10 (by decide) (by decide) (by decide)) k42
                have k57 : w44 (ad 10) = some (aI G 144 (upd f i 0)) := by rw [e45]; exact up_eq
                refine f_iinc (v := 1) X hl dX5_plan_54 (by decide) rfl (by decide) (fun ls hl => ?_)
                have hl : lV ls _ [some (.ref (ad 0)), some (.int n), some (.int k), some (.int (x3 + 1))] := hl
                refine lv_goto (tgt := 40) X.1 X.2.1 dX5_plan_57 (by decide) ?_
                have hwN : w44 = va_up w17 (ad 10) (some (aI G 144 (upd f i 0))) := by rw [e45, hwL, va_uu]
                exact ih (i + 1) _ _ _ (by rw [hx3]; exact nI_1 i) (fun q h => by by_cases hqi : q = i; subst hqi; exact upd_at; exact (upd_off hqi).trans (hz q (by omega))) (by omega) (by omega) hwN fm58 _ _ _ Z hl
          exact hloop 145 0 _ _ _ nI_0.symm (fun q h => absurd h (by omega)) (by omega) (by omega) (up_self k28).symm fm31 _ _ _ Z hl
        · refine f_aload (v := .ref (ad 0)) X hl ⟨_, rfl, dX5_plan_22⟩ rfl ⟨(some (ad 0)), rfl⟩ ?_
          refine lv_iconst (v := 4) X.1 X.2.1 dX5_plan_23 (by decide) ?_
          refine f_callVi (rest := []) X Z hl.1 (c_X5_no l G w tg ad F sd na ro wi y.2.2.2.2.1 hM 4 (by decide)) (cwV 1 X.2.2.2.2 gX5_plan_X5_no rfl rfl rfl (by decide +kernel) ⟨(Nat.le_of_ble_eq_true rfl), (Nat.le_of_ble_eq_true rfl)⟩) rfl rfl dX5_plan_24 ⟨(Nat.le_of_ble_eq_true rfl), (Nat.le_of_ble_eq_true rfl)⟩ rfl (Nat.le_of_ble_eq_true rfl) km0 (fun r24 w59 H locs p24 Z => ?_)
          obtain ⟨hrT, hwT⟩ := p24
          exact f_iret X hr hlk Z (Nat.le_of_ble_eq_true rfl) (Nat.le_of_ble_eq_true rfl) dX5_plan_27 (outM_no hP hM FrM.rf hrT hwT (by unfold sp_plan; rw [if_pos ⟨le12 (Int32.not_lt.mp c3), le12 c9⟩, if_pos (Or.inr (by rw [Int32.le_iff_toInt_le, kc_0] at c19; omega))]))
    · refine lv_iconst (v := (-1)) X.1 X.2.1 dX5_plan_12 (by decide) ?_
      exact f_iret X hr hlk Z (Nat.le_of_ble_eq_true rfl) (Nat.le_of_ble_eq_true rfl) dX5_plan_13 (outM_same hR (if_neg (fun h => nle12 c9 h.2)))
set_option maxHeartbeats 4000000 in
set_option maxRecDepth 100000 in
theorem c_X5_crates (l : Launch) (G : gT) (w : wT) (tg : tT) (ad : Nat → Nat) (c nb : Nat) (y : Yd) (hR : RepM G tg w ad c y) (hY : Yok nb y) (hn : nb ≤ 512) (t k n : Int32) : Met l yX5_crates wsX5_crates ({ frames := 2, cells := 0, slots := 0, locals := 42 }) (va_Pc [.ref (ad 0), .int t, .int k, .int n] (wG G w)) (Qi G (OutM G tg w ad c (sp_crates t k n y))) 0 0 (fr G) := by
  refine f_met (cc := cX5_crates) (maxL := 6) (ret := (some .int)) (by decide) rfl rfl (Nat.le_of_ble_eq_true rfl) ?_
  intro p e s m below meth cd X hr hlk hnm Z ls hl
  have X : CallFix p m cd cX5_crates 6 s [.ref (ad 0), .int t, .int k, .int n].toArray wsX5_crates RX5 := X
  have hl : lV ls _ [some (.ref (ad 0)), some (.int t), some (.int k), some (.int n), none, none] := hl
  have i5 : ∀ w ∈ wsX50, w ∈ wsX5_crates := by decide +kernel
  obtain ⟨F, sd, na, ro, wi, T, hM, hP⟩ := id hR
  obtain ⟨h1, h2, h3, h4, h5, h6, h7⟩ := id hP
  have km0 := hM.1
  have km1 : w (ad 1) = some (aI G 600 (F 1)) := hM.2.1 1 (by decide) (by decide)
  have km2 : w (ad 2) = some (aI G 600 (F 2)) := hM.2.1 2 (by decide) (by decide)
  have km3 : w (ad 3) = some (aI G 600 (F 3)) := hM.2.1 3 (by decide) (by decide)
  have km4 : w (ad 4) = some (aI G 600 (F 4)) := hM.2.1 4 (by decide) (by decide)
  have km5 : w (ad 5) = some (aI G 7200 (F 5)) := hM.2.1 5 (by decide) (by decide)
  have km6 : w (ad 6) = some (aI G 600 (F 6)) := hM.2.1 6 (by decide) (by decide)
  have km7 : w (ad 7) = some (aZ G 600 (F 7)) := hM.2.1 7 (by decide) (by decide)
  have km8 : w (ad 8) = some (aI G 6 (F 8)) := hM.2.1 8 (by decide) (by decide)
  have km9 : w (ad 9) = some (aI G 12 (F 9)) := hM.2.1 9 (by decide) (by decide)
  have km10 : w (ad 10) = some (aI G 144 (F 10)) := hM.2.1 10 (by decide) (by decide)
  have km11 : w (ad 11) = some (aI G 8 (F 11)) := hM.2.1 11 (by decide) (by decide)
  refine f_iload X hl ⟨_, rfl, dX5_crates_0⟩ rfl ?_
  refine f_callSi (rest := []) X Z hl.1 (c_X5_isTrack l G _ _) (va_cwS 1 X.2.2.2.2 gX5_crates_X5_isTrack rfl rfl rfl (by decide +kernel) ⟨(Nat.le_of_ble_eq_true rfl), (Nat.le_of_ble_eq_true rfl)⟩) rfl dX5_crates_1 ⟨(Nat.le_of_ble_eq_true rfl), (Nat.le_of_ble_eq_true rfl)⟩ rfl (Nat.le_of_ble_eq_true rfl) (fun r1 w1 H locs p1 Z => ?_)
  obtain ⟨w1e, hr1⟩ := p1
  have w1e := w1e.symm
  subst w1e
  refine lv_if_eq (tgt := 17) X.1 X.2.1 dX5_crates_4 (by decide) (fun c4 => ?_) (fun c4 => ?_)
  · rw [hr1, bI_0] at c4
    refine lv_iconst (v := (-1)) X.1 X.2.1 dX5_crates_17 (by decide) ?_
    exact f_iret X hr hlk Z (Nat.le_of_ble_eq_true rfl) (Nat.le_of_ble_eq_true rfl) dX5_crates_18 (outM_same hR (if_neg (fun h => c4 h.1.1)))
  · rw [hr1, bI_0, Classical.not_not] at c4
    refine f_iload X hl ⟨_, rfl, dX5_crates_7⟩ rfl ?_
    refine lv_if_lt (tgt := 17) X.1 X.2.1 dX5_crates_8 (by decide) (fun c8 => ?_) (fun c8 => ?_)
    · refine lv_iconst (v := (-1)) X.1 X.2.1 dX5_crates_17 (by decide) ?_
      exact f_iret X hr hlk Z (Nat.le_of_ble_eq_true rfl) (Nat.le_of_ble_eq_true rfl) dX5_crates_18 (outM_same hR (if_neg (fun h => nge0' c8 h.1.2)))
    · refine f_iload X hl ⟨_, rfl, dX5_crates_11⟩ rfl ?_
      refine lv_bipush (v := 12) X.1 X.2.1 dX5_crates_12 (by decide) ?_
      refine lv_icmp_le (tgt := 19) X.1 X.2.1 dX5_crates_14 (by decide) (fun c14 => ?_) (fun c14 => ?_)
      · obtain ⟨j, hjt_j⟩ : ∃ j, t.toNatClampNeg = j := ⟨_, rfl⟩
        have hj_j : j < 6 := hjt_j ▸ tn_lt c4
        have hin_j : vp_in t 6 := vp_in_iff.mpr c4
        have hch_j : chM F j (T j) := hP.ch hj_j (Nat.le_trans (hP.lenT hY hn hj_j) (by decide))
        have hn12 := le12 c14
        refine f_aload (v := .ref (ad 0)) X hl ⟨_, rfl, dX5_crates_19⟩ rfl ⟨(some (ad 0)), rfl⟩ ?_
        refine f_iload X hl ⟨_, rfl, dX5_crates_20⟩ rfl ?_
        refine f_iload X hl ⟨_, rfl, dX5_crates_21⟩ rfl ?_
        refine f_callVi (rest := []) X Z hl.1 (c_X5_at l G w tg ad F sd na ro wi y.2.2.2.2.1 hM t k j (T j) hjt_j hin_j hch_j (ge0' c8)) (cwV 2 X.2.2.2.2 gX5_crates_X5_at rfl rfl rfl (by decide +kernel) ⟨(Nat.le_of_ble_eq_true rfl), (Nat.le_of_ble_eq_true rfl)⟩) rfl rfl dX5_crates_22 ⟨(Nat.le_of_ble_eq_true rfl), (Nat.le_of_ble_eq_true rfl)⟩ rfl (Nat.le_of_ble_eq_true rfl) km0 (fun r22 w2 H locs p22 Z => ?_)
        obtain ⟨w2e, hr22⟩ := p22
        have w2e := w2e.symm
        subst w2e
        rcases hq : (T j)[k.toNatClampNeg]? with _ | ⟨v, d⟩
        · have hr0 : r22 = -1 := by rw [hr22, hq]; rfl
          subst hr0
          have hya : (y.1 j)[k.toNatClampNeg]? = none := by rw [hP.at, hq]; rfl
          refine f_istore2 X hl dX5_crates_25 (by decide) (fun ls hl => ?_)
          have hl : lV ls _ [some (.ref (ad 0)), some (.int t), some (.int k), some (.int n), some (.int (-1)), none] := hl
          refine f_iload2 X hl dX5_crates_27 rfl ?_
          refine lv_iconst (v := (-1)) X.1 X.2.1 dX5_crates_29 (by decide) ?_
          refine lv_icmp_eq (tgt := 50) X.1 X.2.1 dX5_crates_30 (by decide) (fun c30 => ?_) (fun c30 => ?_)
          · refine f_iload X hl ⟨_, rfl, dX5_crates_50⟩ rfl ?_
            refine lv_if_ge (tgt := 60) X.1 X.2.1 dX5_crates_51 (by decide) (fun c51 => ?_) (fun c51 => ?_)
            · have hn0 : 0 ≤ n.toInt := by rw [Int32.le_iff_toInt_le, kc_0] at c51; exact c51
              refine f_iload2 X hl dX5_crates_60 rfl ?_
              refine lv_iconst (v := (-1)) X.1 X.2.1 dX5_crates_62 (by decide) ?_
              refine lv_icmp_ne (tgt := 72) X.1 X.2.1 dX5_crates_63 (by decide) (fun c63 => ?_) (fun c63 => ?_)
              · exact absurd rfl c63
              · refine f_aload (v := .ref (ad 0)) X hl ⟨_, rfl, dX5_crates_66⟩ rfl ⟨(some (ad 0)), rfl⟩ ?_
                refine lv_iconst (v := 1) X.1 X.2.1 dX5_crates_67 (by decide) ?_
                refine f_callVi (rest := []) X Z hl.1 (c_X5_no l G w tg ad F sd na ro wi y.2.2.2.2.1 hM 1 (by decide)) (cwV 1 X.2.2.2.2 gX5_crates_X5_no rfl rfl rfl (by decide +kernel) ⟨(Nat.le_of_ble_eq_true rfl), (Nat.le_of_ble_eq_true rfl)⟩) rfl rfl dX5_crates_68 ⟨(Nat.le_of_ble_eq_true rfl), (Nat.le_of_ble_eq_true rfl)⟩ rfl (Nat.le_of_ble_eq_true rfl) km0 (fun r68 w3 H locs p68 Z => ?_)
                obtain ⟨hrT, hwT⟩ := p68
                exact f_iret X hr hlk Z (Nat.le_of_ble_eq_true rfl) (Nat.le_of_ble_eq_true rfl) dX5_crates_71 (outM_no hP hM FrM.rf hrT hwT (by unfold sp_crates yat tn; rw [if_pos ⟨⟨c4, ge0' c8⟩, hn12⟩, hjt_j, hya]; exact (if_neg (by simp [isE])).trans (if_neg (by omega))))
            · refine f_aload (v := .ref (ad 0)) X hl ⟨_, rfl, dX5_crates_54⟩ rfl ⟨(some (ad 0)), rfl⟩ ?_
              refine lv_iconst (v := 4) X.1 X.2.1 dX5_crates_55 (by decide) ?_
              refine f_callVi (rest := []) X Z hl.1 (c_X5_no l G w tg ad F sd na ro wi y.2.2.2.2.1 hM 4 (by decide)) (cwV 1 X.2.2.2.2 gX5_crates_X5_no rfl rfl rfl (by decide +kernel) ⟨(Nat.le_of_ble_eq_true rfl), (Nat.le_of_ble_eq_true rfl)⟩) rfl rfl dX5_crates_56 ⟨(Nat.le_of_ble_eq_true rfl), (Nat.le_of_ble_eq_true rfl)⟩ rfl (Nat.le_of_ble_eq_true rfl) km0 (fun r56 w4 H locs p56 Z => ?_)
              obtain ⟨hrT, hwT⟩ := p56
              exact f_iret X hr hlk Z (Nat.le_of_ble_eq_true rfl) (Nat.le_of_ble_eq_true rfl) dX5_crates_59 (outM_no hP hM FrM.rf hrT hwT (by unfold sp_crates yat tn; rw [if_pos ⟨⟨c4, ge0' c8⟩, hn12⟩, hjt_j, hya]; exact (if_neg (by simp [isE])).trans (if_pos (by rw [Int32.le_iff_toInt_le, kc_0] at c51; omega))))
          · exact absurd rfl c30
        · have hr0 : r22 = nI v := by rw [hr22, hq]; rfl
          subst hr0
          have hya : (y.1 j)[k.toNatClampNeg]? = some d := by rw [hP.at, hq]; rfl
          have hp := h1.1 j _ v d hq
          obtain ⟨hv6, hso, hwe, hde, hcr, hbh, hus⟩ := id hp
          have hcl : (nI v).toNatClampNeg = v := nI_clamp (by omega)
          refine f_istore2 X hl dX5_crates_25 (by decide) (fun ls hl => ?_)
          have hl : lV ls _ [some (.ref (ad 0)), some (.int t), some (.int k), some (.int n), some (.int (nI v)), none] := hl
          refine f_iload2 X hl dX5_crates_27 rfl ?_
          refine lv_iconst (v := (-1)) X.1 X.2.1 dX5_crates_29 (by decide) ?_
          refine lv_icmp_eq (tgt := 50) X.1 X.2.1 dX5_crates_30 (by decide) (fun c30 => ?_) (fun c30 => ?_)
          · exact absurd c30 (enc_ne hv6)
          · refine f_aload (v := .ref (ad 0)) X hl ⟨_, rfl, dX5_crates_33⟩ rfl ⟨(some (ad 0)), rfl⟩ ?_
            refine f_get (v := .ref (ad 1)) (k := 0) X Z i5 rfl (by decide) (by decide +kernel) dX5_crates_34 km0 rfl ?_
            refine f_iload2 X hl dX5_crates_37 rfl ?_
            refine f_iald X Z dX5_crates_39 km1 (vp_in_nI hv6 (by decide)) ?_
            rw [hcl]
            rw [hso]
            refine lv_iconst (v := 1) X.1 X.2.1 dX5_crates_40 (by decide) ?_
            refine lv_icmp_ne (tgt := 50) X.1 X.2.1 dX5_crates_41 (by decide) (fun c41 => ?_) (fun c41 => ?_)
            · have hso1 : ¬ d.1.toInt = 1 := fun z => c41 (Int32.toInt_inj.mp z)
              refine f_iload X hl ⟨_, rfl, dX5_crates_50⟩ rfl ?_
              refine lv_if_ge (tgt := 60) X.1 X.2.1 dX5_crates_51 (by decide) (fun c51 => ?_) (fun c51 => ?_)
              · have hn0 : 0 ≤ n.toInt := by rw [Int32.le_iff_toInt_le, kc_0] at c51; exact c51
                refine f_iload2 X hl dX5_crates_60 rfl ?_
                refine lv_iconst (v := (-1)) X.1 X.2.1 dX5_crates_62 (by decide) ?_
                refine lv_icmp_ne (tgt := 72) X.1 X.2.1 dX5_crates_63 (by decide) (fun c63 => ?_) (fun c63 => ?_)
                · refine f_aload (v := .ref (ad 0)) X hl ⟨_, rfl, dX5_crates_72⟩ rfl ⟨(some (ad 0)), rfl⟩ ?_
                  refine f_get (v := .ref (ad 4)) (k := 3) X Z i5 rfl (by decide) (by decide +kernel) dX5_crates_73 km0 rfl ?_
                  refine f_iload2 X hl dX5_crates_76 rfl ?_
                  refine f_iload X hl ⟨_, rfl, dX5_crates_78⟩ rfl ?_
                  refine f_iast X Z dX5_crates_79 km4 (vp_in_nI hv6 (by decide)) (fun H locs w5 e6 Z => ?_)
                  rw [hcl] at e6
                  have e6 : w5 = va_up w (ad 4) (some (aI G 600 (upd (F 4) v n))) := e6
                  have fm19 : FrM w tg w5 := by rw [e6]; exact FrM.put FrM.rf (hM.2.2 4 (by decide))
                  have k7 : w5 (ad 0) = some (cMo (some (ad 1)) (some (ad 2)) (some (ad 3)) (some (ad 4)) (some (ad 5)) (some (ad 6)) (some (ad 7)) (some (ad 8)) sd na (some (ad 9)) ro wi (some (ad 10)) y.2.2.2.2.1 (some (ad 11))) := by rw [e6]; exact lk_ne (adne hM 0 4 (by decide) (by decide) (by decide)) km0
                  have k8 : w5 (ad 1) = some (aI G 600 (F 1)) := by rw [e6]; exact lk_ne (adne hM 1 4 (by decide) (by decide) (by decide)) km1
                  have k9 : w5 (ad 2) = some (aI G 600 (F 2)) := by rw [e6]; exact lk_ne (adne hM 2 4 (by decide) (by decide) (by decide)) km2
                  have k10 : w5 (ad 3) = some (aI G 600 (F 3)) := by rw [e6]; exact lk_ne (adne hM 3 4 (by decide) (by decide) (by decide)) km3
                  have k11 : w5 (ad 5) = some (aI G 7200 (F 5)) := by rw [e6]; exact lk_ne (adne hM 5 4 (by decide) (by decide) (by decide)) km5
                  have k12 : w5 (ad 6) = some (aI G 600 (F 6)) := by rw [e6]; exact lk_ne (adne hM 6 4 (by decide) (by decide) (by decide)) km6
                  have k13 : w5 (ad 7) = some (aZ G 600 (F 7)) := by rw [e6]; exact lk_ne (adne hM 7 4 (by decide) (by decide) (by decide)) km7
                  have k14 : w5 (ad 8) = some (aI G 6 (F 8)) := by rw [e6]; exact lk_ne (adne hM 8 4 (by decide) (by decide) (by decide)) km8
                  have k15 : w5 (ad 9) = some (aI G 12 (F 9)) := by rw [e6]; exact lk_ne (adne hM 9 4 (by decide) (by decide) (by decide)) km9
                  have k16 : w5 (ad 10) = some (aI G 144 (F 10)) := by rw [e6]; exact lk_ne (adne hM 10 4 (by decide) (by decide) (by decide)) km10
                  have k17 : w5 (ad 11) = some (aI G 8 (F 11)) := by rw [e6]; exact lk_ne (adne hM 11 4 (by decide) (by decide) (by decide)) km11
                  have k18 : w5 (ad 4) = some (aI G 600 (upd (F 4) v n)) := by rw [e6]; exact up_eq
                  refine lv_iconst (v := 0) X.1 X.2.1 dX5_crates_80 (by decide) ?_
                  refine f_istore2 X hl dX5_crates_81 (by decide) (fun ls hl => ?_)
                  have hl : lV ls _ [some (.ref (ad 0)), some (.int t), some (.int k), some (.int n), some (.int (nI v)), some (.int 0)] := hl
                  have hloop : ∀ (fu : Nat) (i : Nat) (x5 : Int32) (f : Nat → Int32) (wL : wT), (x5 = nI i) → (∀ q, q < i → f (12 * v + q) = 0) → (∀ q, (q < 12 * v ∨ 12 * v + 12 ≤ q) → f q = F 5 q) → (i ≤ 12) → (12 < i + fu) → wL = va_up w5 (ad 5) (some (aI G 7200 f)) → FrM w tg wL → ∀ (H : Heap) (locs : List Loc) (ls : Array Slot), wZ G wL s H locs → lV ls 6 [some (.ref (ad 0)), some (.int t), some (.int k), some (.int n), some (.int (nI v)), some (.int x5)] → W p l e ({ frames := 2, cells := 0, slots := 0, locals := 42 }) s m [.ref (ad 0), .int t, .int k, .int n].toArray below meth cd H locs 0 0 (MQ below (Qi G (OutM G tg w ad c (sp_crates t k n y))) [.ref (ad 0), .int t, .int k, .int n].toArray s 0 0 (fr G)) (F0 m 83 ls []) := by
                    clear hl Z
                    intro fu
                    induction fu with
                    | zero => intro i x5 f wL hx5 hz ho hle hfu hwL hfL H locs ls Z hl; exact absurd hfu (by omega)
                    | succ fu ih =>
                      intro i x5 f wL hx5 hz ho hle hfu hwL hfL H locs ls Z hl
                      have k20 : wL (ad 0) = some (cMo (some (ad 1)) (some (ad 2)) (some (ad 3)) (some (ad 4)) (some (ad 5)) (some (ad 6)) (some (ad 7)) (some (ad 8)) sd na (some (ad 9)) ro wi (some (ad 10)) y.2.2.2.2.1 (some (ad 11))) := by rw [hwL]; exact lk_ne (adne hM 0 5 (by decide) (by decide) (by decide)) k7
                      have k21 : wL (ad 1) = some (aI G 600 (F 1)) := by rw [hwL]; exact lk_ne (adne hM 1 5 (by decide) (by decide) (by decide)) k8
                      have k22 : wL (ad 2) = some (aI G 600 (F 2)) := by rw [hwL]; exact lk_ne (adne hM 2 5 (by decide) (by decide) (by decide)) k9
                      have k23 : wL (ad 3) = some (aI G 600 (F 3)) := by rw [hwL]; exact lk_ne (adne hM 3 5 (by decide) (by decide) (by decide)) k10
                      have k24 : wL (ad 6) = some (aI G 600 (F 6)) := by rw [hwL]; exact lk_ne (adne hM 6 5 (by decide) (by decide) (by decide)) k12
                      have k25 : wL (ad 7) = some (aZ G 600 (F 7)) := by rw [hwL]; exact lk_ne (adne hM 7 5 (by decide) (by decide) (by decide)) k13
                      have k26 : wL (ad 8) = some (aI G 6 (F 8)) := by rw [hwL]; exact lk_ne (adne hM 8 5 (by decide) (by decide) (by decide)) k14
                      have k27 : wL (ad 9) = some (aI G 12 (F 9)) := by rw [hwL]; exact lk_ne (adne hM 9 5 (by decide) (by decide) (by decide)) k15
                      have k28 : wL (ad 10) = some (aI G 144 (F 10)) := by rw [hwL]; exact lk_ne (adne hM 10 5 (by decide) (by decide) (by decide)) k16
                      have k29 : wL (ad 11) = some (aI G 8 (F 11)) := by rw [hwL]; exact lk_ne (adne hM 11 5 (by decide) (by decide) (by decide)) k17
                      have k30 : wL (ad 4) = some (aI G 600 (upd (F 4) v n)) := by rw [hwL]; exact lk_ne (adne hM 4 5 (by decide) (by decide) (by decide)) k18
                      have k31 : wL (ad 5) = some (aI G 7200 f) := by rw [hwL]; exact up_eq
                      refine f_iload2 X hl dX5_crates_83 rfl ?_
                      refine lv_bipush (v := 12) X.1 X.2.1 dX5_crates_85 (by decide) ?_
                      refine lv_icmp_ge (tgt := 110) X.1 X.2.1 dX5_crates_87 (by decide) (fun c87 => ?_) (fun c87 => ?_)
                      · refine f_iload X hl ⟨_, rfl, dX5_crates_110⟩ rfl ?_
                        exact f_iret X hr hlk Z (Nat.le_of_ble_eq_true rfl) (Nat.le_of_ble_eq_true rfl) dX5_crates_111 (by
                            have hi : 12 ≤ i := (nI_leI (a := 12) (b := i) (by omega) (by omega)).mp (hx5 ▸ c87)
                            exact outM_of (hP.put (F' := (mkF (F 1) (F 2) (F 3) (upd (F 4) v n) f (F 6) (F 7) (F 8) (F 9) (F 10) (F 11))) (d' := (d.1, d.2.1, d.2.2.1, some (n.toNatClampNeg, fun _ => 0))) hj_j hq ⟨hv6, hso, hwe, hde, ⟨upd_at.trans (nI_tn hn0).symm, toNat_le hn12, fun q hq => hz q (by have := toNat_le (n := n) (m := 12) hn12; omega)⟩, hbh, hus⟩ rfl rfl (fun _ _ => rfl) (fun b hb => upd_off hb) (fun b q hb hq => ho _ (by omega)) rfl rfl rfl rfl rfl rfl) (MW.of hM k20 k21 k22 k23 k30 k31 k24 k25 k26 k27 k28 k29) (by omega) hfL (by unfold sp_crates yat tn; rw [if_pos ⟨⟨c4, ge0' c8⟩, hn12⟩, hjt_j, hya]; refine (if_neg (by simp only [isE, decide_eq_true_eq]; exact hso1)).trans ((if_neg (by omega)).trans ?_); unfold yput tn; rw [hjt_j]))
                      · have hlt : i < 12 := by
                          rcases Nat.lt_or_ge i 12 with q | q
                          · exact q
                          · exact absurd (by rw [hx5]; exact nI_le (a := 12) q (by omega)) c87
                        have hix : (12 : Int32) * nI v + x5 = nI (12 * v + i) := by rw [hx5]; exact ix12 hv6 hlt
                        have hixc : ((12 : Int32) * nI v + x5).toNatClampNeg = 12 * v + i := by rw [hix, nI_clamp (by omega)]
                        have hixi : vp_in ((12 : Int32) * nI v + x5) 7200 := by rw [hix]; exact vp_in_nI (by omega) (by decide)
                        refine f_aload (v := .ref (ad 0)) X hl ⟨_, rfl, dX5_crates_90⟩ rfl ⟨(some (ad 0)), rfl⟩ ?_
                        refine f_get (v := .ref (ad 5)) (k := 4) X Z i5 rfl (by decide) (by decide +kernel) dX5_crates_91 k20 rfl ?_
                        refine lv_bipush (v := 12) X.1 X.2.1 dX5_crates_94 (by decide) ?_
                        refine f_iload2 X hl dX5_crates_96 rfl ?_
                        refine lv_imul X.1 X.2.1 dX5_crates_98 ?_
                        refine f_iload2 X hl dX5_crates_99 rfl ?_
                        refine lv_iadd X.1 X.2.1 dX5_crates_101 ?_
                        refine lv_iconst (v := 0) X.1 X.2.1 dX5_crates_102 (by decide) ?_
                        refine f_iast X Z dX5_crates_103 k31 hixi (fun H locs w32 e33 Z => ?_)
                        rw [hixc] at e33
                        have e33 : w32 = va_up wL (ad 5) (some (aI G 7200 (upd f (12 * v + i) 0))) := e33
                        have fm46 : FrM w tg w32 := by rw [e33]; exact FrM.put hfL (hM.2.2 5 (by decide))
                        have k34 : w32 (ad 0) = some (cMo (some (ad 1)) (some (ad 2)) (some (ad 3)) (some (ad 4)) (some (ad 5)) (some (ad 6)) (some (ad 7)) (some (ad 8)) sd na (some (ad 9)) ro wi (some (ad 10)) y.2.2.2.2.1 (some (ad 11))) := by rw [e33]; exact lk_ne (adne hM 0 5 (by decide) (by decide) (by decide)) k20
                        have k35 : w32 (ad 1) = some (aI G 600 (F 1)) := by rw [e33]; exact lk_ne (adne hM 1 5 (by decide) (by decide) (by decide)) k21
                        have k36 : w32 (ad 2) = some (aI G 600 (F 2)) := by rw [e33]; exact lk_ne (adne hM 2 5 (by decide) (by decide) (by decide)) k22
                        have k37 : w32 (ad 3) = some (aI G 600 (F 3)) := by rw [e33]; exact lk_ne (adne hM 3 5 (by decide) (by decide) (by decide)) k23
                        have k38 : w32 (ad 6) = some (aI G 600 (F 6)) := by rw [e33]; exact lk_ne (adne hM 6 5 (by decide) (by decide) (by decide)) k24
                        have k39 : w32 (ad 7) = some (aZ G 600 (F 7)) := by rw [e33]; exact lk_ne (adne hM 7 5 (by decide) (by decide) (by decide)) k25
                        have k40 : w32 (ad 8) = some (aI G 6 (F 8)) := by rw [e33]; exact lk_ne (adne hM 8 5 (by decide) (by decide) (by decide)) k26
                        have k41 : w32 (ad 9) = some (aI G 12 (F 9)) := by rw [e33]; exact lk_ne (adne hM 9 5 (by decide) (by decide) (by decide)) k27
                        have k42 : w32 (ad 10) = some (aI G 144 (F 10)) := by rw [e33]; exact lk_ne (adne hM 10 5 (by decide) (by decide) (by decide)) k28
                        have k43 : w32 (ad 11) = some (aI G 8 (F 11)) := by rw [e33]; exact lk_ne (adne hM 11 5 (by decide) (by decide) (by decide)) k29
                        have k44 : w32 (ad 4) = some (aI G 600 (upd (F 4) v n)) := by rw [e33]; exact lk_ne (adne hM 4 5 (by decide) (by decide) (by decide)) k30
                        have k45 : w32 (ad 5) = some (aI G 7200 (upd f (12 * v + i) 0)) := by rw [e33]; exact up_eq
                        refine f_iinc (v := 1) X hl dX5_crates_104 (by decide) rfl (by decide) (fun ls hl => ?_)
                        have hl : lV ls _ [some (.ref (ad 0)), some (.int t), some (.int k), some (.int n), some (.int (nI v)), some (.int (x5 + 1))] := hl
                        refine lv_goto (tgt := 83) X.1 X.2.1 dX5_crates_107 (by decide) ?_
                        have hwN : w32 = va_up w5 (ad 5) (some (aI G 7200 (upd f (12 * v + i) 0))) := by rw [e33, hwL, va_uu]
                        exact ih (i + 1) _ _ _ (by rw [hx5]; exact nI_1 i) (fun q h => by by_cases hqi : q = i; subst hqi; exact upd_at; exact (upd_off (by omega)).trans (hz q (by omega))) (fun q h => (upd_off (by omega)).trans (ho q h)) (by omega) (by omega) hwN fm46 _ _ _ Z hl
                  exact hloop 13 0 _ _ _ nI_0.symm (fun q h => absurd h (by omega)) (fun _ _ => rfl) (by omega) (by omega) (up_self k11).symm fm19 _ _ _ Z hl
                · exact absurd c63 (enc_ne hv6)
              · refine f_aload (v := .ref (ad 0)) X hl ⟨_, rfl, dX5_crates_54⟩ rfl ⟨(some (ad 0)), rfl⟩ ?_
                refine lv_iconst (v := 4) X.1 X.2.1 dX5_crates_55 (by decide) ?_
                refine f_callVi (rest := []) X Z hl.1 (c_X5_no l G w tg ad F sd na ro wi y.2.2.2.2.1 hM 4 (by decide)) (cwV 1 X.2.2.2.2 gX5_crates_X5_no rfl rfl rfl (by decide +kernel) ⟨(Nat.le_of_ble_eq_true rfl), (Nat.le_of_ble_eq_true rfl)⟩) rfl rfl dX5_crates_56 ⟨(Nat.le_of_ble_eq_true rfl), (Nat.le_of_ble_eq_true rfl)⟩ rfl (Nat.le_of_ble_eq_true rfl) km0 (fun r56 w47 H locs p56 Z => ?_)
                obtain ⟨hrT, hwT⟩ := p56
                exact f_iret X hr hlk Z (Nat.le_of_ble_eq_true rfl) (Nat.le_of_ble_eq_true rfl) dX5_crates_59 (outM_no hP hM FrM.rf hrT hwT (by unfold sp_crates yat tn; rw [if_pos ⟨⟨c4, ge0' c8⟩, hn12⟩, hjt_j, hya]; refine (if_neg (by simp only [isE, decide_eq_true_eq]; exact hso1)).trans (if_pos (by rw [Int32.le_iff_toInt_le, kc_0] at c51; omega))))
            · refine f_aload (v := .ref (ad 0)) X hl ⟨_, rfl, dX5_crates_44⟩ rfl ⟨(some (ad 0)), rfl⟩ ?_
              refine lv_iconst (v := 2) X.1 X.2.1 dX5_crates_45 (by decide) ?_
              refine f_callVi (rest := []) X Z hl.1 (c_X5_no l G w tg ad F sd na ro wi y.2.2.2.2.1 hM 2 (by decide)) (cwV 1 X.2.2.2.2 gX5_crates_X5_no rfl rfl rfl (by decide +kernel) ⟨(Nat.le_of_ble_eq_true rfl), (Nat.le_of_ble_eq_true rfl)⟩) rfl rfl dX5_crates_46 ⟨(Nat.le_of_ble_eq_true rfl), (Nat.le_of_ble_eq_true rfl)⟩ rfl (Nat.le_of_ble_eq_true rfl) km0 (fun r46 w48 H locs p46 Z => ?_)
              obtain ⟨hrT, hwT⟩ := p46
              exact f_iret X hr hlk Z (Nat.le_of_ble_eq_true rfl) (Nat.le_of_ble_eq_true rfl) dX5_crates_49 (outM_no hP hM FrM.rf hrT hwT (by unfold sp_crates yat tn; rw [if_pos ⟨⟨c4, ge0' c8⟩, hn12⟩, hjt_j, hya]; exact if_pos (by simp only [isE, c41, kc_1, decide_true])))
      · refine lv_iconst (v := (-1)) X.1 X.2.1 dX5_crates_17 (by decide) ?_
        exact f_iret X hr hlk Z (Nat.le_of_ble_eq_true rfl) (Nat.le_of_ble_eq_true rfl) dX5_crates_18 (outM_same hR (if_neg (fun h => nle12 c14 h.2)))
