theorem crM_cong {F F' : Nat → Nat → Int32} {v : Nat} {cr : CR} (h : crM F v cr) (e4 : F' 4 = F 4) (e5 : F' 5 = F 5) : crM F' v cr := by
  unfold crM at *
  rw [e4, e5]; exact h
theorem up_self {w : wT} {a : Nat} {x : Option va_E} (h : w a = x) : va_up w a x = w := by
  funext q
  by_cases hq : q = a
  · subst hq; rw [up_eq, h]
  · rw [up_ne hq]
theorem mkF_ne {F : Nat → Nat → Int32} {g : Nat → Int32} (k : Nat) (h1 : 1 ≤ k) (h2 : k ≤ 11) (hk : k ≠ 10) : mkF (F 1) (F 2) (F 3) (F 4) (F 5) (F 6) (F 7) (F 8) (F 9) g (F 11) k = F k := by
  rcases (show k = 1 ∨ k = 2 ∨ k = 3 ∨ k = 4 ∨ k = 5 ∨ k = 6 ∨ k = 7 ∨ k = 8 ∨ k = 9 ∨ k = 11 by omega) with rfl | rfl | rfl | rfl | rfl | rfl | rfl | rfl | rfl | rfl <;> rfl
set_option maxHeartbeats 4000000 in
set_option maxRecDepth 100000 in
theorem c_X5_take (l : Launch) (G : gT) (w : wT) (tg : tT) (ad : Nat → Nat) (c nb : Nat) (y : Yd) (hR : RepM G tg w ad c y) (hY : Yok nb y) (hn : nb ≤ 512) (t : Int32) : Met l yX5_take wsX5_take ({ frames := 2, cells := 0, slots := 0, locals := 42 }) (va_Pc [.ref (ad 0), .int t] (wG G w)) (Qi G (OutM G tg w ad c (sp_take t y))) 0 0 (fr G) := by
  refine f_met (cc := cX5_take) (maxL := 3) (ret := (some .int)) (by decide) rfl rfl (Nat.le_of_ble_eq_true rfl) ?_
  intro p e s m below meth cd X hr hlk hnm Z ls hl
  have X : CallFix p m cd cX5_take 3 s [.ref (ad 0), .int t].toArray wsX5_take RX5 := X
  have hl : lV ls _ [some (.ref (ad 0)), some (.int t), none] := hl
  have i5 : ∀ w ∈ wsX50, w ∈ wsX5_take := by decide +kernel
  obtain ⟨F, sd, na, ro, wi, T, hM, hP⟩ := id hR
  obtain ⟨h1, h2, h3, h4, h5, h6, h7⟩ := id hP
  have km0 := hM.1
  have km1 : w (ad 1) = some (aI G 600 (F 1)) := hM.2.1 1 (by decide) (by decide)
  have km2 : w (ad 2) = some (aI G 600 (F 2)) := hM.2.1 2 (by decide) (by decide)
  have km3 : w (ad 3) = some (aI G 600 (F 3)) := hM.2.1 3 (by decide) (by decide)
  have km4 : w (ad 4) = some (aI G 600 (F 4)) := hM.2.1 4 (by decide) (by decide)
  have km5 : w (ad 5) = some (aI G 7200 (F 5)) := hM.2.1 5 (by decide) (by decide)
  have km6 : w (ad 6) = some (aI G 600 (F 6)) := hM.2.1 6 (by decide) (by decide)
  have km7 : w (ad 7) = some (aZ G 600 (F 7)) := hM.2.1 7 (by decide) (by decide)
  have km8 : w (ad 8) = some (aI G 6 (F 8)) := hM.2.1 8 (by decide) (by decide)
  have km9 : w (ad 9) = some (aI G 12 (F 9)) := hM.2.1 9 (by decide) (by decide)
  have km10 : w (ad 10) = some (aI G 144 (F 10)) := hM.2.1 10 (by decide) (by decide)
  have km11 : w (ad 11) = some (aI G 8 (F 11)) := hM.2.1 11 (by decide) (by decide)
  refine f_iload X hl ⟨_, rfl, dX5_take_0⟩ rfl ?_
  refine f_callSi (rest := []) X Z hl.1 (c_X5_isTrack l G _ _) (va_cwS 1 X.2.2.2.2 gX5_take_X5_isTrack rfl rfl rfl (by decide +kernel) ⟨(Nat.le_of_ble_eq_true rfl), (Nat.le_of_ble_eq_true rfl)⟩) rfl dX5_take_1 ⟨(Nat.le_of_ble_eq_true rfl), (Nat.le_of_ble_eq_true rfl)⟩ rfl (Nat.le_of_ble_eq_true rfl) (fun r1 w1 H locs p1 Z => ?_)
  obtain ⟨w1e, hr1⟩ := p1
  have w1e := w1e.symm
  subst w1e
  refine lv_if_ne (tgt := 9) X.1 X.2.1 dX5_take_4 (by decide) (fun c4 => ?_) (fun c4 => ?_)
  · rw [hr1, bI_0, Classical.not_not] at c4
    obtain ⟨j, hjt_j⟩ : ∃ j, t.toNatClampNeg = j := ⟨_, rfl⟩
    have hj_j : j < 6 := hjt_j ▸ tn_lt c4
    have hin_j : vp_in t 6 := vp_in_iff.mpr c4
    have hch_j : chM F j (T j) := hP.ch hj_j (Nat.le_trans (hP.lenT hY hn hj_j) (by decide))
    refine f_aload (v := .ref (ad 0)) X hl ⟨_, rfl, dX5_take_9⟩ rfl ⟨(some (ad 0)), rfl⟩ ?_
    refine f_get (v := .ref (ad 8)) (k := 7) X Z i5 rfl (by decide) (by decide +kernel) dX5_take_10 km0 rfl ?_
    refine f_iload X hl ⟨_, rfl, dX5_take_13⟩ rfl ?_
    rcases hTj : T j with _ | ⟨⟨v, d⟩, L⟩
    · have hyj : y.1 j = [] := by rw [← h3 j, hTj]; rfl
      have h8j : F 8 j = -1 := by rw [h2 j hj_j, hTj]; rfl
      refine f_iald X Z dX5_take_14 km8 hin_j ?_
      rw [hjt_j]
      rw [h8j]
      refine f_istore X hl ⟨_, rfl, dX5_take_15⟩ (by decide) (fun ls hl => ?_)
      have hl : lV ls _ [some (.ref (ad 0)), some (.int t), some (.int (-1))] := hl
      refine f_iload X hl ⟨_, rfl, dX5_take_16⟩ rfl ?_
      refine lv_iconst (v := (-1)) X.1 X.2.1 dX5_take_17 (by decide) ?_
      refine lv_icmp_ne (tgt := 27) X.1 X.2.1 dX5_take_18 (by decide) (fun c18 => ?_) (fun c18 => ?_)
      · exact absurd rfl c18
      · refine f_aload (v := .ref (ad 0)) X hl ⟨_, rfl, dX5_take_21⟩ rfl ⟨(some (ad 0)), rfl⟩ ?_
        refine lv_iconst (v := 1) X.1 X.2.1 dX5_take_22 (by decide) ?_
        refine f_callVi (rest := []) X Z hl.1 (c_X5_no l G w tg ad F sd na ro wi y.2.2.2.2.1 hM 1 (by decide)) (cwV 1 X.2.2.2.2 gX5_take_X5_no rfl rfl rfl (by decide +kernel) ⟨(Nat.le_of_ble_eq_true rfl), (Nat.le_of_ble_eq_true rfl)⟩) rfl rfl dX5_take_23 ⟨(Nat.le_of_ble_eq_true rfl), (Nat.le_of_ble_eq_true rfl)⟩ rfl (Nat.le_of_ble_eq_true rfl) km0 (fun r23 w2 H locs p23 Z => ?_)
        obtain ⟨hrT, hwT⟩ := p23
        exact f_iret X hr hlk Z (Nat.le_of_ble_eq_true rfl) (Nat.le_of_ble_eq_true rfl) dX5_take_26 (outM_no hP hM FrM.rf hrT hwT (by unfold sp_take tn; rw [if_pos c4, hjt_j, hyj]))
    · have hd1 : (T j)[0]? = some (v, d) := by rw [hTj]; rfl
      have hyj : y.1 j = d :: L.map Prod.snd := by rw [← h3 j, hTj]; rfl
      have h8j : F 8 j = nI v := by rw [h2 j hj_j, hTj]; rfl
      have hp := h1.1 j 0 v d hd1
      obtain ⟨hv6, hso, hwe, hde, hcr, hbh, hus⟩ := id hp
      have hcl : (nI v).toNatClampNeg = v := nI_clamp (by omega)
      refine f_iald X Z dX5_take_14 km8 hin_j ?_
      rw [hjt_j]
      rw [h8j]
      refine f_istore X hl ⟨_, rfl, dX5_take_15⟩ (by decide) (fun ls hl => ?_)
      have hl : lV ls _ [some (.ref (ad 0)), some (.int t), some (.int (nI v))] := hl
      refine f_iload X hl ⟨_, rfl, dX5_take_16⟩ rfl ?_
      refine lv_iconst (v := (-1)) X.1 X.2.1 dX5_take_17 (by decide) ?_
      refine lv_icmp_ne (tgt := 27) X.1 X.2.1 dX5_take_18 (by decide) (fun c18 => ?_) (fun c18 => ?_)
      · refine f_aload (v := .ref (ad 0)) X hl ⟨_, rfl, dX5_take_27⟩ rfl ⟨(some (ad 0)), rfl⟩ ?_
        refine f_get (v := .ref (ad 8)) (k := 7) X Z i5 rfl (by decide) (by decide +kernel) dX5_take_28 km0 rfl ?_
        refine f_iload X hl ⟨_, rfl, dX5_take_31⟩ rfl ?_
        refine f_aload (v := .ref (ad 0)) X hl ⟨_, rfl, dX5_take_32⟩ rfl ⟨(some (ad 0)), rfl⟩ ?_
        refine f_get (v := .ref (ad 6)) (k := 5) X Z i5 rfl (by decide) (by decide +kernel) dX5_take_33 km0 rfl ?_
        refine f_iload X hl ⟨_, rfl, dX5_take_36⟩ rfl ?_
        refine f_iald X Z dX5_take_37 km6 (vp_in_nI hv6 (by decide)) ?_
        rw [hcl]
        refine f_iast X Z dX5_take_38 km8 hin_j (fun H locs w3 e4 Z => ?_)
        rw [hjt_j] at e4
        have e4 : w3 = va_up w (ad 8) (some (aI G 6 (upd (F 8) j ((F 6) v)))) := e4
        have fm17 : FrM w tg w3 := by rw [e4]; exact FrM.put FrM.rf (hM.2.2 8 (by decide))
        have k5 : w3 (ad 0) = some (cMo (some (ad 1)) (some (ad 2)) (some (ad 3)) (some (ad 4)) (some (ad 5)) (some (ad 6)) (some (ad 7)) (some (ad 8)) sd na (some (ad 9)) ro wi (some (ad 10)) y.2.2.2.2.1 (some (ad 11))) := by rw [e4]; exact lk_ne (adne hM 0 8 (by decide) (by decide) (by decide)) km0
        have k6 : w3 (ad 1) = some (aI G 600 (F 1)) := by rw [e4]; exact lk_ne (adne hM 1 8 (by decide) (by decide) (by decide)) km1
        have k7 : w3 (ad 2) = some (aI G 600 (F 2)) := by rw [e4]; exact lk_ne (adne hM 2 8 (by decide) (by decide) (by decide)) km2
        have k8 : w3 (ad 3) = some (aI G 600 (F 3)) := by rw [e4]; exact lk_ne (adne hM 3 8 (by decide) (by decide) (by decide)) km3
        have k9 : w3 (ad 4) = some (aI G 600 (F 4)) := by rw [e4]; exact lk_ne (adne hM 4 8 (by decide) (by decide) (by decide)) km4
        have k10 : w3 (ad 5) = some (aI G 7200 (F 5)) := by rw [e4]; exact lk_ne (adne hM 5 8 (by decide) (by decide) (by decide)) km5
        have k11 : w3 (ad 6) = some (aI G 600 (F 6)) := by rw [e4]; exact lk_ne (adne hM 6 8 (by decide) (by decide) (by decide)) km6
        have k12 : w3 (ad 7) = some (aZ G 600 (F 7)) := by rw [e4]; exact lk_ne (adne hM 7 8 (by decide) (by decide) (by decide)) km7
        have k13 : w3 (ad 9) = some (aI G 12 (F 9)) := by rw [e4]; exact lk_ne (adne hM 9 8 (by decide) (by decide) (by decide)) km9
        have k14 : w3 (ad 10) = some (aI G 144 (F 10)) := by rw [e4]; exact lk_ne (adne hM 10 8 (by decide) (by decide) (by decide)) km10
        have k15 : w3 (ad 11) = some (aI G 8 (F 11)) := by rw [e4]; exact lk_ne (adne hM 11 8 (by decide) (by decide) (by decide)) km11
        have k16 : w3 (ad 8) = some (aI G 6 (upd (F 8) j ((F 6) v))) := by rw [e4]; exact up_eq
        refine f_aload (v := .ref (ad 0)) X hl ⟨_, rfl, dX5_take_39⟩ rfl ⟨(some (ad 0)), rfl⟩ ?_
        refine f_get (v := .ref (ad 7)) (k := 6) X Z i5 rfl (by decide) (by decide +kernel) dX5_take_40 k5 rfl ?_
        refine f_iload X hl ⟨_, rfl, dX5_take_43⟩ rfl ?_
        refine lv_iconst (v := 0) X.1 X.2.1 dX5_take_44 (by decide) ?_
        refine f_zast X Z dX5_take_45 k12 (vp_in_nI hv6 (by decide)) (by decide) (fun H locs w18 e19 Z => ?_)
        rw [hcl] at e19
        have e19 : w18 = va_up w3 (ad 7) (some (aZ G 600 (upd (F 7) v 0))) := e19
        have fm32 : FrM w tg w18 := by rw [e19]; exact FrM.put fm17 (hM.2.2 7 (by decide))
        have k20 : w18 (ad 0) = some (cMo (some (ad 1)) (some (ad 2)) (some (ad 3)) (some (ad 4)) (some (ad 5)) (some (ad 6)) (some (ad 7)) (some (ad 8)) sd na (some (ad 9)) ro wi (some (ad 10)) y.2.2.2.2.1 (some (ad 11))) := by rw [e19]; exact lk_ne (adne hM 0 7 (by decide) (by decide) (by decide)) k5
        have k21 : w18 (ad 1) = some (aI G 600 (F 1)) := by rw [e19]; exact lk_ne (adne hM 1 7 (by decide) (by decide) (by decide)) k6
        have k22 : w18 (ad 2) = some (aI G 600 (F 2)) := by rw [e19]; exact lk_ne (adne hM 2 7 (by decide) (by decide) (by decide)) k7
        have k23 : w18 (ad 3) = some (aI G 600 (F 3)) := by rw [e19]; exact lk_ne (adne hM 3 7 (by decide) (by decide) (by decide)) k8
        have k24 : w18 (ad 4) = some (aI G 600 (F 4)) := by rw [e19]; exact lk_ne (adne hM 4 7 (by decide) (by decide) (by decide)) k9
        have k25 : w18 (ad 5) = some (aI G 7200 (F 5)) := by rw [e19]; exact lk_ne (adne hM 5 7 (by decide) (by decide) (by decide)) k10
        have k26 : w18 (ad 6) = some (aI G 600 (F 6)) := by rw [e19]; exact lk_ne (adne hM 6 7 (by decide) (by decide) (by decide)) k11
        have k27 : w18 (ad 9) = some (aI G 12 (F 9)) := by rw [e19]; exact lk_ne (adne hM 9 7 (by decide) (by decide) (by decide)) k13
        have k28 : w18 (ad 10) = some (aI G 144 (F 10)) := by rw [e19]; exact lk_ne (adne hM 10 7 (by decide) (by decide) (by decide)) k14
        have k29 : w18 (ad 11) = some (aI G 8 (F 11)) := by rw [e19]; exact lk_ne (adne hM 11 7 (by decide) (by decide) (by decide)) k15
        have k30 : w18 (ad 8) = some (aI G 6 (upd (F 8) j ((F 6) v))) := by rw [e19]; exact lk_ne (adne hM 8 7 (by decide) (by decide) (by decide)) k16
        have k31 : w18 (ad 7) = some (aZ G 600 (upd (F 7) v 0)) := by rw [e19]; exact up_eq
        refine f_aload (v := .ref (ad 0)) X hl ⟨_, rfl, dX5_take_46⟩ rfl ⟨(some (ad 0)), rfl⟩ ?_
        refine f_iload X hl ⟨_, rfl, dX5_take_47⟩ rfl ?_
        refine f_callVi (rest := []) X Z hl.1 (c_X5_loadOf l G w18 tg ad (mkF (F 1) (F 2) (F 3) (F 4) (F 5) (F 6) (upd (F 7) v 0) (upd (F 8) j ((F 6) v)) (F 9) (F 10) (F 11)) sd na ro wi y.2.2.2.2.1 (MW.of hM k20 k21 k22 k23 k24 k25 k26 k31 k30 k27 k28 k29) v d hv6 hwe (crM_cong hcr rfl rfl)) (cwV 1 X.2.2.2.2 gX5_take_X5_loadOf rfl rfl rfl (by decide +kernel) ⟨(Nat.le_of_ble_eq_true rfl), (Nat.le_of_ble_eq_true rfl)⟩) rfl rfl dX5_take_48 ⟨(Nat.le_of_ble_eq_true rfl), (Nat.le_of_ble_eq_true rfl)⟩ rfl (Nat.le_of_ble_eq_true rfl) k20 (fun r48 w33 H locs p48 Z => ?_)
        obtain ⟨w33e, hr48⟩ := p48
        have w33e := w33e.symm
        subst w33e
        exact f_iret X hr hlk Z (Nat.le_of_ble_eq_true rfl) (Nat.le_of_ble_eq_true rfl) dX5_take_51 (outM_of (hP.pop (F' := (mkF (F 1) (F 2) (F 3) (F 4) (F 5) (F 6) (upd (F 7) v 0) (upd (F 8) j ((F 6) v)) (F 9) (F 10) (F 11))) hj_j hTj rfl rfl rfl rfl rfl rfl rfl rfl rfl rfl rfl) (MW.of hM k20 k21 k22 k23 k24 k25 k26 k31 k30 k27 k28 k29) (by omega) fm32 (by unfold sp_take tn; rw [if_pos c4, hjt_j, hyj, hr48]))
      · exact absurd c18 (enc_ne hv6)
  · rw [hr1, bI_0] at c4
    refine lv_iconst (v := (-1)) X.1 X.2.1 dX5_take_7 (by decide) ?_
    exact f_iret X hr hlk Z (Nat.le_of_ble_eq_true rfl) (Nat.le_of_ble_eq_true rfl) dX5_take_8 (outM_same hR (if_neg c4))
set_option maxHeartbeats 4000000 in
set_option maxRecDepth 100000 in
theorem c_X5_shunt (l : Launch) (G : gT) (w : wT) (tg : tT) (ad : Nat → Nat) (c nb : Nat) (y : Yd) (hR : RepM G tg w ad c y) (hY : Yok nb y) (hn : nb ≤ 512) (f n t : Int32) : Met l yX5_shunt wsX5_shunt ({ frames := 2, cells := 0, slots := 0, locals := 42 }) (va_Pc [.ref (ad 0), .int f, .int n, .int t] (wG G w)) (Qi G (OutM G tg w ad c (sp_shunt f n t y))) 0 0 (fr G) := by
  refine f_met (cc := cX5_shunt) (maxL := 6) (ret := (some .int)) (by decide) rfl rfl (Nat.le_of_ble_eq_true rfl) ?_
  intro p e s m below meth cd X hr hlk hnm Z ls hl
  have X : CallFix p m cd cX5_shunt 6 s [.ref (ad 0), .int f, .int n, .int t].toArray wsX5_shunt RX5 := X
  have hl : lV ls _ [some (.ref (ad 0)), some (.int f), some (.int n), some (.int t), none, none] := hl
  have i5 : ∀ w ∈ wsX50, w ∈ wsX5_shunt := by decide +kernel
  obtain ⟨F, sd, na, ro, wi, T, hM, hP⟩ := id hR
  obtain ⟨h1, h2, h3, h4, h5, h6, h7⟩ := id hP
  have km0 := hM.1
  have km1 : w (ad 1) = some (aI G 600 (F 1)) := hM.2.1 1 (by decide) (by decide)
  have km2 : w (ad 2) = some (aI G 600 (F 2)) := hM.2.1 2 (by decide) (by decide)
  have km3 : w (ad 3) = some (aI G 600 (F 3)) := hM.2.1 3 (by decide) (by decide)
  have km4 : w (ad 4) = some (aI G 600 (F 4)) := hM.2.1 4 (by decide) (by decide)
  have km5 : w (ad 5) = some (aI G 7200 (F 5)) := hM.2.1 5 (by decide) (by decide)
  have km6 : w (ad 6) = some (aI G 600 (F 6)) := hM.2.1 6 (by decide) (by decide)
  have km7 : w (ad 7) = some (aZ G 600 (F 7)) := hM.2.1 7 (by decide) (by decide)
  have km8 : w (ad 8) = some (aI G 6 (F 8)) := hM.2.1 8 (by decide) (by decide)
  have km9 : w (ad 9) = some (aI G 12 (F 9)) := hM.2.1 9 (by decide) (by decide)
  have km10 : w (ad 10) = some (aI G 144 (F 10)) := hM.2.1 10 (by decide) (by decide)
  have km11 : w (ad 11) = some (aI G 8 (F 11)) := hM.2.1 11 (by decide) (by decide)
  refine f_iload X hl ⟨_, rfl, dX5_shunt_0⟩ rfl ?_
  refine f_callSi (rest := []) X Z hl.1 (c_X5_isTrack l G _ _) (va_cwS 1 X.2.2.2.2 gX5_shunt_X5_isTrack rfl rfl rfl (by decide +kernel) ⟨(Nat.le_of_ble_eq_true rfl), (Nat.le_of_ble_eq_true rfl)⟩) rfl dX5_shunt_1 ⟨(Nat.le_of_ble_eq_true rfl), (Nat.le_of_ble_eq_true rfl)⟩ rfl (Nat.le_of_ble_eq_true rfl) (fun r1 w1 H locs p1 Z => ?_)
  obtain ⟨w1e, hr1⟩ := p1
  have w1e := w1e.symm
  subst w1e
  refine lv_if_eq (tgt := 29) X.1 X.2.1 dX5_shunt_4 (by decide) (fun c4 => ?_) (fun c4 => ?_)
  · rw [hr1, bI_0] at c4
    refine lv_iconst (v := (-1)) X.1 X.2.1 dX5_shunt_29 (by decide) ?_
    exact f_iret X hr hlk Z (Nat.le_of_ble_eq_true rfl) (Nat.le_of_ble_eq_true rfl) dX5_shunt_30 (outM_same hR (if_neg (fun h => c4 h.1.1)))
  · rw [hr1, bI_0, Classical.not_not] at c4
    refine f_iload X hl ⟨_, rfl, dX5_shunt_7⟩ rfl ?_
    refine lv_iconst (v := 1) X.1 X.2.1 dX5_shunt_8 (by decide) ?_
    refine lv_bipush (v := 99) X.1 X.2.1 dX5_shunt_9 (by decide) ?_
    refine f_callSi (rest := []) X Z hl.1 (c_X5_in l G _ _ _ _) (va_cwS 3 X.2.2.2.2 gX5_shunt_X5_in rfl rfl rfl (by decide +kernel) ⟨(Nat.le_of_ble_eq_true rfl), (Nat.le_of_ble_eq_true rfl)⟩) rfl dX5_shunt_11 ⟨(Nat.le_of_ble_eq_true rfl), (Nat.le_of_ble_eq_true rfl)⟩ rfl (Nat.le_of_ble_eq_true rfl) (fun r11 w2 H locs p11 Z => ?_)
    obtain ⟨w2e, hr11⟩ := p11
    have w2e := w2e.symm
    subst w2e
    refine lv_if_eq (tgt := 29) X.1 X.2.1 dX5_shunt_14 (by decide) (fun c14 => ?_) (fun c14 => ?_)
    · rw [hr11, bI_0] at c14
      refine lv_iconst (v := (-1)) X.1 X.2.1 dX5_shunt_29 (by decide) ?_
      exact f_iret X hr hlk Z (Nat.le_of_ble_eq_true rfl) (Nat.le_of_ble_eq_true rfl) dX5_shunt_30 (outM_same hR (if_neg (fun h => c14 h.2)))
    · rw [hr11, bI_0, Classical.not_not] at c14
      refine f_iload X hl ⟨_, rfl, dX5_shunt_17⟩ rfl ?_
      refine f_callSi (rest := []) X Z hl.1 (c_X5_isTrack l G _ _) (va_cwS 1 X.2.2.2.2 gX5_shunt_X5_isTrack rfl rfl rfl (by decide +kernel) ⟨(Nat.le_of_ble_eq_true rfl), (Nat.le_of_ble_eq_true rfl)⟩) rfl dX5_shunt_18 ⟨(Nat.le_of_ble_eq_true rfl), (Nat.le_of_ble_eq_true rfl)⟩ rfl (Nat.le_of_ble_eq_true rfl) (fun r18 w3 H locs p18 Z => ?_)
      obtain ⟨w3e, hr18⟩ := p18
      have w3e := w3e.symm
      subst w3e
      refine lv_if_eq (tgt := 29) X.1 X.2.1 dX5_shunt_21 (by decide) (fun c21 => ?_) (fun c21 => ?_)
      · rw [hr18, bI_0] at c21
        refine lv_iconst (v := (-1)) X.1 X.2.1 dX5_shunt_29 (by decide) ?_
        exact f_iret X hr hlk Z (Nat.le_of_ble_eq_true rfl) (Nat.le_of_ble_eq_true rfl) dX5_shunt_30 (outM_same hR (if_neg (fun h => c21 h.1.2.1)))
      · rw [hr18, bI_0, Classical.not_not] at c21
        refine f_iload X hl ⟨_, rfl, dX5_shunt_24⟩ rfl ?_
        refine f_iload X hl ⟨_, rfl, dX5_shunt_25⟩ rfl ?_
        refine lv_icmp_ne (tgt := 31) X.1 X.2.1 dX5_shunt_26 (by decide) (fun c26 => ?_) (fun c26 => ?_)
        · obtain ⟨j, hjt_j⟩ : ∃ j, f.toNatClampNeg = j := ⟨_, rfl⟩
          have hj_j : j < 6 := hjt_j ▸ tn_lt c4
          have hin_j : vp_in f 6 := vp_in_iff.mpr c4
          have hch_j : chM F j (T j) := hP.ch hj_j (Nat.le_trans (hP.lenT hY hn hj_j) (by decide))
          obtain ⟨u, hjt_u⟩ : ∃ u, t.toNatClampNeg = u := ⟨_, rfl⟩
          have hj_u : u < 6 := hjt_u ▸ tn_lt c21
          have hin_u : vp_in t 6 := vp_in_iff.mpr c21
          have hch_u : chM F u (T u) := hP.ch hj_u (Nat.le_trans (hP.lenT hY hn hj_u) (by decide))
          have hju : j ≠ u := by rw [← hjt_j, ← hjt_u]; exact tn_ne c4.1 c21.1 c26
          obtain ⟨kn, hkn, rfl⟩ := okB_n c14
          refine f_aload (v := .ref (ad 0)) X hl ⟨_, rfl, dX5_shunt_31⟩ rfl ⟨(some (ad 0)), rfl⟩ ?_
          refine f_iload X hl ⟨_, rfl, dX5_shunt_32⟩ rfl ?_
          refine f_iload X hl ⟨_, rfl, dX5_shunt_33⟩ rfl ?_
          refine lv_iconst (v := 1) X.1 X.2.1 dX5_shunt_34 (by decide) ?_
          refine lv_isub X.1 X.2.1 dX5_shunt_35 ?_
          rw [nI_pred]
          refine f_callVi (rest := []) X Z hl.1 (c_X5_at l G w tg ad F sd na ro wi y.2.2.2.2.1 hM f (nI kn) j (T j) hjt_j hin_j hch_j (by rw [nI_toInt (by omega)]; omega)) (cwV 2 X.2.2.2.2 gX5_shunt_X5_at rfl rfl rfl (by decide +kernel) ⟨(Nat.le_of_ble_eq_true rfl), (Nat.le_of_ble_eq_true rfl)⟩) rfl rfl dX5_shunt_36 ⟨(Nat.le_of_ble_eq_true rfl), (Nat.le_of_ble_eq_true rfl)⟩ rfl (Nat.le_of_ble_eq_true rfl) km0 (fun r36 w4 H locs p36 Z => ?_)
          obtain ⟨w4e, hr36⟩ := p36
          have w4e := w4e.symm
          subst w4e
          rw [nI_clamp (by omega)] at hr36
          rcases hq : (T j)[kn]? with _ | ⟨v, d⟩
          · have hr0 : r36 = -1 := by rw [hr36, hq]; rfl
            subst hr0
            have hlen : (T j).length ≤ kn := List.getElem?_eq_none_iff.mp hq
            refine f_istore2 X hl dX5_shunt_39 (by decide) (fun ls hl => ?_)
            have hl : lV ls _ [some (.ref (ad 0)), some (.int f), some (.int (nI (kn + 1))), some (.int t), some (.int (-1)), none] := hl
            refine f_iload2 X hl dX5_shunt_41 rfl ?_
            refine lv_iconst (v := (-1)) X.1 X.2.1 dX5_shunt_43 (by decide) ?_
            refine lv_icmp_ne (tgt := 53) X.1 X.2.1 dX5_shunt_44 (by decide) (fun c44 => ?_) (fun c44 => ?_)
            · exact absurd rfl c44
            · refine f_aload (v := .ref (ad 0)) X hl ⟨_, rfl, dX5_shunt_47⟩ rfl ⟨(some (ad 0)), rfl⟩ ?_
              refine lv_iconst (v := 1) X.1 X.2.1 dX5_shunt_48 (by decide) ?_
              refine f_callVi (rest := []) X Z hl.1 (c_X5_no l G w tg ad F sd na ro wi y.2.2.2.2.1 hM 1 (by decide)) (cwV 1 X.2.2.2.2 gX5_shunt_X5_no rfl rfl rfl (by decide +kernel) ⟨(Nat.le_of_ble_eq_true rfl), (Nat.le_of_ble_eq_true rfl)⟩) rfl rfl dX5_shunt_49 ⟨(Nat.le_of_ble_eq_true rfl), (Nat.le_of_ble_eq_true rfl)⟩ rfl (Nat.le_of_ble_eq_true rfl) km0 (fun r49 w5 H locs p49 Z => ?_)
              obtain ⟨hrT, hwT⟩ := p49
              exact f_iret X hr hlk Z (Nat.le_of_ble_eq_true rfl) (Nat.le_of_ble_eq_true rfl) dX5_shunt_52 (outM_no hP hM FrM.rf hrT hwT (by unfold sp_shunt tn; rw [if_pos ⟨⟨c4, c21, c26⟩, c14⟩, hjt_j, nI_clamp (by omega), if_neg (by rw [← hP.len j]; omega)]))
          · have hr0 : r36 = nI v := by rw [hr36, hq]; rfl
            subst hr0
            have hlt : kn < (T j).length := (List.getElem?_eq_some_iff.mp hq).1
            have hp := h1.1 j _ v d hq
            have hv6 := hp.1
            have hcl : (nI v).toNatClampNeg = v := nI_clamp (by omega)
            refine f_istore2 X hl dX5_shunt_39 (by decide) (fun ls hl => ?_)
            have hl : lV ls _ [some (.ref (ad 0)), some (.int f), some (.int (nI (kn + 1))), some (.int t), some (.int (nI v)), none] := hl
            refine f_iload2 X hl dX5_shunt_41 rfl ?_
            refine lv_iconst (v := (-1)) X.1 X.2.1 dX5_shunt_43 (by decide) ?_
            refine lv_icmp_ne (tgt := 53) X.1 X.2.1 dX5_shunt_44 (by decide) (fun c44 => ?_) (fun c44 => ?_)
            · refine f_aload (v := .ref (ad 0)) X hl ⟨_, rfl, dX5_shunt_53⟩ rfl ⟨(some (ad 0)), rfl⟩ ?_
              refine f_get (v := .ref (ad 8)) (k := 7) X Z i5 rfl (by decide) (by decide +kernel) dX5_shunt_54 km0 rfl ?_
              refine f_iload X hl ⟨_, rfl, dX5_shunt_57⟩ rfl ?_
              refine f_iald X Z dX5_shunt_58 km8 hin_j ?_
              rw [hjt_j]
              refine f_istore2 X hl dX5_shunt_59 (by decide) (fun ls hl => ?_)
              have hl : lV ls _ [some (.ref (ad 0)), some (.int f), some (.int (nI (kn + 1))), some (.int t), some (.int (nI v)), some (.int ((F 8) j))] := hl
              refine f_aload (v := .ref (ad 0)) X hl ⟨_, rfl, dX5_shunt_61⟩ rfl ⟨(some (ad 0)), rfl⟩ ?_
              refine f_get (v := .ref (ad 8)) (k := 7) X Z i5 rfl (by decide) (by decide +kernel) dX5_shunt_62 km0 rfl ?_
              refine f_iload X hl ⟨_, rfl, dX5_shunt_65⟩ rfl ?_
              refine f_aload (v := .ref (ad 0)) X hl ⟨_, rfl, dX5_shunt_66⟩ rfl ⟨(some (ad 0)), rfl⟩ ?_
              refine f_get (v := .ref (ad 6)) (k := 5) X Z i5 rfl (by decide) (by decide +kernel) dX5_shunt_67 km0 rfl ?_
              refine f_iload2 X hl dX5_shunt_70 rfl ?_
              refine f_iald X Z dX5_shunt_72 km6 (vp_in_nI hv6 (by decide)) ?_
              rw [hcl]
              refine f_iast X Z dX5_shunt_73 km8 hin_j (fun H locs w6 e7 Z => ?_)
              rw [hjt_j] at e7
              have e7 : w6 = va_up w (ad 8) (some (aI G 6 (upd (F 8) j ((F 6) v)))) := e7
              have fm20 : FrM w tg w6 := by rw [e7]; exact FrM.put FrM.rf (hM.2.2 8 (by decide))
              have k8 : w6 (ad 0) = some (cMo (some (ad 1)) (some (ad 2)) (some (ad 3)) (some (ad 4)) (some (ad 5)) (some (ad 6)) (some (ad 7)) (some (ad 8)) sd na (some (ad 9)) ro wi (some (ad 10)) y.2.2.2.2.1 (some (ad 11))) := by rw [e7]; exact lk_ne (adne hM 0 8 (by decide) (by decide) (by decide)) km0
              have k9 : w6 (ad 1) = some (aI G 600 (F 1)) := by rw [e7]; exact lk_ne (adne hM 1 8 (by decide) (by decide) (by decide)) km1
              have k10 : w6 (ad 2) = some (aI G 600 (F 2)) := by rw [e7]; exact lk_ne (adne hM 2 8 (by decide) (by decide) (by decide)) km2
              have k11 : w6 (ad 3) = some (aI G 600 (F 3)) := by rw [e7]; exact lk_ne (adne hM 3 8 (by decide) (by decide) (by decide)) km3
              have k12 : w6 (ad 4) = some (aI G 600 (F 4)) := by rw [e7]; exact lk_ne (adne hM 4 8 (by decide) (by decide) (by decide)) km4
              have k13 : w6 (ad 5) = some (aI G 7200 (F 5)) := by rw [e7]; exact lk_ne (adne hM 5 8 (by decide) (by decide) (by decide)) km5
              have k14 : w6 (ad 6) = some (aI G 600 (F 6)) := by rw [e7]; exact lk_ne (adne hM 6 8 (by decide) (by decide) (by decide)) km6
              have k15 : w6 (ad 7) = some (aZ G 600 (F 7)) := by rw [e7]; exact lk_ne (adne hM 7 8 (by decide) (by decide) (by decide)) km7
              have k16 : w6 (ad 9) = some (aI G 12 (F 9)) := by rw [e7]; exact lk_ne (adne hM 9 8 (by decide) (by decide) (by decide)) km9
              have k17 : w6 (ad 10) = some (aI G 144 (F 10)) := by rw [e7]; exact lk_ne (adne hM 10 8 (by decide) (by decide) (by decide)) km10
              have k18 : w6 (ad 11) = some (aI G 8 (F 11)) := by rw [e7]; exact lk_ne (adne hM 11 8 (by decide) (by decide) (by decide)) km11
              have k19 : w6 (ad 8) = some (aI G 6 (upd (F 8) j ((F 6) v))) := by rw [e7]; exact up_eq
              refine f_aload (v := .ref (ad 0)) X hl ⟨_, rfl, dX5_shunt_74⟩ rfl ⟨(some (ad 0)), rfl⟩ ?_
              refine f_get (v := .ref (ad 6)) (k := 5) X Z i5 rfl (by decide) (by decide +kernel) dX5_shunt_75 k8 rfl ?_
              refine f_iload2 X hl dX5_shunt_78 rfl ?_
              refine f_aload (v := .ref (ad 0)) X hl ⟨_, rfl, dX5_shunt_80⟩ rfl ⟨(some (ad 0)), rfl⟩ ?_
              refine f_get (v := .ref (ad 8)) (k := 7) X Z i5 rfl (by decide) (by decide +kernel) dX5_shunt_81 k8 rfl ?_
              refine f_iload X hl ⟨_, rfl, dX5_shunt_84⟩ rfl ?_
              refine f_iald X Z dX5_shunt_85 k19 hin_u ?_
              rw [hjt_u]
              rw [upd_off (Ne.symm hju)]
              refine f_iast X Z dX5_shunt_86 k14 (vp_in_nI hv6 (by decide)) (fun H locs w21 e22 Z => ?_)
              rw [hcl] at e22
              have e22 : w21 = va_up w6 (ad 6) (some (aI G 600 (upd (F 6) v ((F 8) u)))) := e22
              have fm35 : FrM w tg w21 := by rw [e22]; exact FrM.put fm20 (hM.2.2 6 (by decide))
              have k23 : w21 (ad 0) = some (cMo (some (ad 1)) (some (ad 2)) (some (ad 3)) (some (ad 4)) (some (ad 5)) (some (ad 6)) (some (ad 7)) (some (ad 8)) sd na (some (ad 9)) ro wi (some (ad 10)) y.2.2.2.2.1 (some (ad 11))) := by rw [e22]; exact lk_ne (adne hM 0 6 (by decide) (by decide) (by decide)) k8
              have k24 : w21 (ad 1) = some (aI G 600 (F 1)) := by rw [e22]; exact lk_ne (adne hM 1 6 (by decide) (by decide) (by decide)) k9
              have k25 : w21 (ad 2) = some (aI G 600 (F 2)) := by rw [e22]; exact lk_ne (adne hM 2 6 (by decide) (by decide) (by decide)) k10
              have k26 : w21 (ad 3) = some (aI G 600 (F 3)) := by rw [e22]; exact lk_ne (adne hM 3 6 (by decide) (by decide) (by decide)) k11
              have k27 : w21 (ad 4) = some (aI G 600 (F 4)) := by rw [e22]; exact lk_ne (adne hM 4 6 (by decide) (by decide) (by decide)) k12
              have k28 : w21 (ad 5) = some (aI G 7200 (F 5)) := by rw [e22]; exact lk_ne (adne hM 5 6 (by decide) (by decide) (by decide)) k13
              have k29 : w21 (ad 7) = some (aZ G 600 (F 7)) := by rw [e22]; exact lk_ne (adne hM 7 6 (by decide) (by decide) (by decide)) k15
              have k30 : w21 (ad 9) = some (aI G 12 (F 9)) := by rw [e22]; exact lk_ne (adne hM 9 6 (by decide) (by decide) (by decide)) k16
              have k31 : w21 (ad 10) = some (aI G 144 (F 10)) := by rw [e22]; exact lk_ne (adne hM 10 6 (by decide) (by decide) (by decide)) k17
              have k32 : w21 (ad 11) = some (aI G 8 (F 11)) := by rw [e22]; exact lk_ne (adne hM 11 6 (by decide) (by decide) (by decide)) k18
              have k33 : w21 (ad 8) = some (aI G 6 (upd (F 8) j ((F 6) v))) := by rw [e22]; exact lk_ne (adne hM 8 6 (by decide) (by decide) (by decide)) k19
              have k34 : w21 (ad 6) = some (aI G 600 (upd (F 6) v ((F 8) u))) := by rw [e22]; exact up_eq
              refine f_aload (v := .ref (ad 0)) X hl ⟨_, rfl, dX5_shunt_87⟩ rfl ⟨(some (ad 0)), rfl⟩ ?_
              refine f_get (v := .ref (ad 8)) (k := 7) X Z i5 rfl (by decide) (by decide +kernel) dX5_shunt_88 k23 rfl ?_
              refine f_iload X hl ⟨_, rfl, dX5_shunt_91⟩ rfl ?_
              refine f_iload2 X hl dX5_shunt_92 rfl ?_
              refine f_iast X Z dX5_shunt_94 k33 hin_u (fun H locs w36 e37 Z => ?_)
              rw [hjt_u] at e37
              have e37 : w36 = va_up w21 (ad 8) (some (aI G 6 (upd (upd (F 8) j ((F 6) v)) u ((F 8) j)))) := e37
              have fm50 : FrM w tg w36 := by rw [e37]; exact FrM.put fm35 (hM.2.2 8 (by decide))
              have k38 : w36 (ad 0) = some (cMo (some (ad 1)) (some (ad 2)) (some (ad 3)) (some (ad 4)) (some (ad 5)) (some (ad 6)) (some (ad 7)) (some (ad 8)) sd na (some (ad 9)) ro wi (some (ad 10)) y.2.2.2.2.1 (some (ad 11))) := by rw [e37]; exact lk_ne (adne hM 0 8 (by decide) (by decide) (by decide)) k23
              have k39 : w36 (ad 1) = some (aI G 600 (F 1)) := by rw [e37]; exact lk_ne (adne hM 1 8 (by decide) (by decide) (by decide)) k24
              have k40 : w36 (ad 2) = some (aI G 600 (F 2)) := by rw [e37]; exact lk_ne (adne hM 2 8 (by decide) (by decide) (by decide)) k25
              have k41 : w36 (ad 3) = some (aI G 600 (F 3)) := by rw [e37]; exact lk_ne (adne hM 3 8 (by decide) (by decide) (by decide)) k26
              have k42 : w36 (ad 4) = some (aI G 600 (F 4)) := by rw [e37]; exact lk_ne (adne hM 4 8 (by decide) (by decide) (by decide)) k27
              have k43 : w36 (ad 5) = some (aI G 7200 (F 5)) := by rw [e37]; exact lk_ne (adne hM 5 8 (by decide) (by decide) (by decide)) k28
              have k44 : w36 (ad 7) = some (aZ G 600 (F 7)) := by rw [e37]; exact lk_ne (adne hM 7 8 (by decide) (by decide) (by decide)) k29
              have k45 : w36 (ad 9) = some (aI G 12 (F 9)) := by rw [e37]; exact lk_ne (adne hM 9 8 (by decide) (by decide) (by decide)) k30
              have k46 : w36 (ad 10) = some (aI G 144 (F 10)) := by rw [e37]; exact lk_ne (adne hM 10 8 (by decide) (by decide) (by decide)) k31
              have k47 : w36 (ad 11) = some (aI G 8 (F 11)) := by rw [e37]; exact lk_ne (adne hM 11 8 (by decide) (by decide) (by decide)) k32
              have k48 : w36 (ad 6) = some (aI G 600 (upd (F 6) v ((F 8) u))) := by rw [e37]; exact lk_ne (adne hM 6 8 (by decide) (by decide) (by decide)) k34
              have k49 : w36 (ad 8) = some (aI G 6 (upd (upd (F 8) j ((F 6) v)) u ((F 8) j))) := by rw [e37]; exact up_eq
              refine f_iload X hl ⟨_, rfl, dX5_shunt_95⟩ rfl ?_
              exact f_iret X hr hlk Z (Nat.le_of_ble_eq_true rfl) (Nat.le_of_ble_eq_true rfl) dX5_shunt_96 (outM_of (hP.move (F' := (mkF (F 1) (F 2) (F 3) (F 4) (F 5) (upd (F 6) v ((F 8) u)) (F 7) (upd (upd (F 8) j ((F 6) v)) u ((F 8) j)) (F 9) (F 10) (F 11))) hj_j hj_u hju hq rfl rfl rfl rfl rfl rfl rfl rfl rfl rfl rfl) (MW.of hM k38 k39 k40 k41 k42 k43 k48 k44 k49 k45 k46 k47) (by omega) fm50 (by unfold sp_shunt tn; rw [if_pos ⟨⟨c4, c21, c26⟩, c14⟩, hjt_j, hjt_u, nI_clamp (by omega), if_pos (by rw [← hP.len j]; omega)]))
            · exact absurd c44 (enc_ne hv6)
        · refine lv_iconst (v := (-1)) X.1 X.2.1 dX5_shunt_29 (by decide) ?_
          exact f_iret X hr hlk Z (Nat.le_of_ble_eq_true rfl) (Nat.le_of_ble_eq_true rfl) dX5_shunt_30 (outM_same hR (if_neg (fun h => h.1.2.2 c26)))
set_option maxHeartbeats 4000000 in
set_option maxRecDepth 100000 in
theorem c_X5_couple (l : Launch) (G : gT) (w : wT) (tg : tT) (ad : Nat → Nat) (c nb : Nat) (y : Yd) (hR : RepM G tg w ad c y) (hY : Yok nb y) (hn : nb ≤ 512) (t o : Int32) : Met l yX5_couple wsX5_couple ({ frames := 2, cells := 0, slots := 0, locals := 42 }) (va_Pc [.ref (ad 0), .int t, .int o] (wG G w)) (Qi G (OutM G tg w ad c (sp_couple t o y))) 0 0 (fr G) := by
  refine f_met (cc := cX5_couple) (maxL := 4) (ret := (some .int)) (by decide) rfl rfl (Nat.le_of_ble_eq_true rfl) ?_
  intro p e s m below meth cd X hr hlk hnm Z ls hl
  have X : CallFix p m cd cX5_couple 4 s [.ref (ad 0), .int t, .int o].toArray wsX5_couple RX5 := X
  have hl : lV ls _ [some (.ref (ad 0)), some (.int t), some (.int o), none] := hl
  have i5 : ∀ w ∈ wsX50, w ∈ wsX5_couple := by decide +kernel
  obtain ⟨F, sd, na, ro, wi, T, hM, hP⟩ := id hR
  obtain ⟨h1, h2, h3, h4, h5, h6, h7⟩ := id hP
  have km0 := hM.1
  have km1 : w (ad 1) = some (aI G 600 (F 1)) := hM.2.1 1 (by decide) (by decide)
  have km2 : w (ad 2) = some (aI G 600 (F 2)) := hM.2.1 2 (by decide) (by decide)
  have km3 : w (ad 3) = some (aI G 600 (F 3)) := hM.2.1 3 (by decide) (by decide)
  have km4 : w (ad 4) = some (aI G 600 (F 4)) := hM.2.1 4 (by decide) (by decide)
  have km5 : w (ad 5) = some (aI G 7200 (F 5)) := hM.2.1 5 (by decide) (by decide)
  have km6 : w (ad 6) = some (aI G 600 (F 6)) := hM.2.1 6 (by decide) (by decide)
  have km7 : w (ad 7) = some (aZ G 600 (F 7)) := hM.2.1 7 (by decide) (by decide)
  have km8 : w (ad 8) = some (aI G 6 (F 8)) := hM.2.1 8 (by decide) (by decide)
  have km9 : w (ad 9) = some (aI G 12 (F 9)) := hM.2.1 9 (by decide) (by decide)
  have km10 : w (ad 10) = some (aI G 144 (F 10)) := hM.2.1 10 (by decide) (by decide)
  have km11 : w (ad 11) = some (aI G 8 (F 11)) := hM.2.1 11 (by decide) (by decide)
  refine f_iload X hl ⟨_, rfl, dX5_couple_0⟩ rfl ?_
  refine f_callSi (rest := []) X Z hl.1 (c_X5_isTrack l G _ _) (va_cwS 1 X.2.2.2.2 gX5_couple_X5_isTrack rfl rfl rfl (by decide +kernel) ⟨(Nat.le_of_ble_eq_true rfl), (Nat.le_of_ble_eq_true rfl)⟩) rfl dX5_couple_1 ⟨(Nat.le_of_ble_eq_true rfl), (Nat.le_of_ble_eq_true rfl)⟩ rfl (Nat.le_of_ble_eq_true rfl) (fun r1 w1 H locs p1 Z => ?_)
  obtain ⟨w1e, hr1⟩ := p1
  have w1e := w1e.symm
  subst w1e
  refine lv_if_eq (tgt := 19) X.1 X.2.1 dX5_couple_4 (by decide) (fun c4 => ?_) (fun c4 => ?_)
  · rw [hr1, bI_0] at c4
    refine lv_iconst (v := (-1)) X.1 X.2.1 dX5_couple_19 (by decide) ?_
    exact f_iret X hr hlk Z (Nat.le_of_ble_eq_true rfl) (Nat.le_of_ble_eq_true rfl) dX5_couple_20 (outM_same hR (if_neg (fun h => c4 h.1)))
  · rw [hr1, bI_0, Classical.not_not] at c4
    refine f_iload X hl ⟨_, rfl, dX5_couple_7⟩ rfl ?_
    refine f_callSi (rest := []) X Z hl.1 (c_X5_isTrack l G _ _) (va_cwS 1 X.2.2.2.2 gX5_couple_X5_isTrack rfl rfl rfl (by decide +kernel) ⟨(Nat.le_of_ble_eq_true rfl), (Nat.le_of_ble_eq_true rfl)⟩) rfl dX5_couple_8 ⟨(Nat.le_of_ble_eq_true rfl), (Nat.le_of_ble_eq_true rfl)⟩ rfl (Nat.le_of_ble_eq_true rfl) (fun r8 w2 H locs p8 Z => ?_)
    obtain ⟨w2e, hr8⟩ := p8
    have w2e := w2e.symm
    subst w2e
    refine lv_if_eq (tgt := 19) X.1 X.2.1 dX5_couple_11 (by decide) (fun c11 => ?_) (fun c11 => ?_)
    · rw [hr8, bI_0] at c11
      refine lv_iconst (v := (-1)) X.1 X.2.1 dX5_couple_19 (by decide) ?_
      exact f_iret X hr hlk Z (Nat.le_of_ble_eq_true rfl) (Nat.le_of_ble_eq_true rfl) dX5_couple_20 (outM_same hR (if_neg (fun h => c11 h.2.1)))
    · rw [hr8, bI_0, Classical.not_not] at c11
      refine f_iload X hl ⟨_, rfl, dX5_couple_14⟩ rfl ?_
      refine f_iload X hl ⟨_, rfl, dX5_couple_15⟩ rfl ?_
      refine lv_icmp_ne (tgt := 21) X.1 X.2.1 dX5_couple_16 (by decide) (fun c16 => ?_) (fun c16 => ?_)
      · obtain ⟨j, hjt_j⟩ : ∃ j, t.toNatClampNeg = j := ⟨_, rfl⟩
        have hj_j : j < 6 := hjt_j ▸ tn_lt c4
        have hin_j : vp_in t 6 := vp_in_iff.mpr c4
        have hch_j : chM F j (T j) := hP.ch hj_j (Nat.le_trans (hP.lenT hY hn hj_j) (by decide))
        obtain ⟨u, hjt_u⟩ : ∃ u, o.toNatClampNeg = u := ⟨_, rfl⟩
        have hj_u : u < 6 := hjt_u ▸ tn_lt c11
        have hin_u : vp_in o 6 := vp_in_iff.mpr c11
        have hch_u : chM F u (T u) := hP.ch hj_u (Nat.le_trans (hP.lenT hY hn hj_u) (by decide))
        have hju : j ≠ u := by rw [← hjt_j, ← hjt_u]; exact tn_ne c4.1 c11.1 c16
        refine f_aload (v := .ref (ad 0)) X hl ⟨_, rfl, dX5_couple_21⟩ rfl ⟨(some (ad 0)), rfl⟩ ?_
        refine f_iload X hl ⟨_, rfl, dX5_couple_22⟩ rfl ?_
        refine f_callVi (rest := []) X Z hl.1 (c_X5_countOf l G w tg ad F sd na ro wi y.2.2.2.2.1 hM t j (T j) hjt_j hin_j hch_j) (cwV 1 X.2.2.2.2 gX5_couple_X5_countOf rfl rfl rfl (by decide +kernel) ⟨(Nat.le_of_ble_eq_true rfl), (Nat.le_of_ble_eq_true rfl)⟩) rfl rfl dX5_couple_23 ⟨(Nat.le_of_ble_eq_true rfl), (Nat.le_of_ble_eq_true rfl)⟩ rfl (Nat.le_of_ble_eq_true rfl) km0 (fun r23 w3 H locs p23 Z => ?_)
        obtain ⟨w3e, hr23⟩ := p23
        have w3e := w3e.symm
        subst w3e
        subst hr23
        refine f_istore X hl ⟨_, rfl, dX5_couple_26⟩ (by decide) (fun ls hl => ?_)
        have hl : lV ls _ [some (.ref (ad 0)), some (.int t), some (.int o), some (.int (nI (T j).length))] := hl
        refine f_iload X hl ⟨_, rfl, dX5_couple_27⟩ rfl ?_
        refine lv_if_ne (tgt := 37) X.1 X.2.1 dX5_couple_28 (by decide) (fun c28 => ?_) (fun c28 => ?_)
        · obtain ⟨kn, hkl⟩ : ∃ kn, (T j).length = kn + 1 := by
            cases hq : (T j).length with
            | zero => rw [hq] at c28; exact absurd nI_0 c28
            | succ kn => exact ⟨kn, rfl⟩
          have hkb : kn < 512 := by have q := hP.lenT hY hn hj_j; omega
          have hyj : ¬ y.1 j = [] := fun z => by have q := hP.len j; rw [z, hkl] at q; cases q
          refine f_aload (v := .ref (ad 0)) X hl ⟨_, rfl, dX5_couple_37⟩ rfl ⟨(some (ad 0)), rfl⟩ ?_
          refine f_get (v := .ref (ad 6)) (k := 5) X Z i5 rfl (by decide) (by decide +kernel) dX5_couple_38 km0 rfl ?_
          refine f_aload (v := .ref (ad 0)) X hl ⟨_, rfl, dX5_couple_41⟩ rfl ⟨(some (ad 0)), rfl⟩ ?_
          refine f_iload X hl ⟨_, rfl, dX5_couple_42⟩ rfl ?_
          refine f_iload X hl ⟨_, rfl, dX5_couple_43⟩ rfl ?_
          refine lv_iconst (v := 1) X.1 X.2.1 dX5_couple_44 (by decide) ?_
          refine lv_isub X.1 X.2.1 dX5_couple_45 ?_
          rw [hkl, nI_pred]
          refine f_callVi (rest := [.ref (ad 6)]) X Z hl.1 (c_X5_at l G w tg ad F sd na ro wi y.2.2.2.2.1 hM t (nI kn) j (T j) hjt_j hin_j hch_j (by rw [nI_toInt (by omega)]; omega)) (cwV 2 X.2.2.2.2 gX5_couple_X5_at rfl rfl rfl (by decide +kernel) ⟨(Nat.le_of_ble_eq_true rfl), (Nat.le_of_ble_eq_true rfl)⟩) rfl rfl dX5_couple_46 ⟨(Nat.le_of_ble_eq_true rfl), (Nat.le_of_ble_eq_true rfl)⟩ rfl (Nat.le_of_ble_eq_true rfl) km0 (fun r46 w4 H locs p46 Z => ?_)
          obtain ⟨w4e, hr46⟩ := p46
          have w4e := w4e.symm
          subst w4e
          rw [nI_clamp (by omega)] at hr46
          rcases hq : (T j)[kn]? with _ | ⟨v, d⟩
          · exact absurd (List.getElem?_eq_none_iff.mp hq) (by omega)
          · have hr0 : r46 = nI v := by rw [hr46, hq]; rfl
            subst hr0
            have hlt : kn < (T j).length := (List.getElem?_eq_some_iff.mp hq).1
            have hp := h1.1 j _ v d hq
            have hv6 := hp.1
            have hcl : (nI v).toNatClampNeg = v := nI_clamp (by omega)
            refine f_aload (v := .ref (ad 0)) X hl ⟨_, rfl, dX5_couple_49⟩ rfl ⟨(some (ad 0)), rfl⟩ ?_
            refine f_get (v := .ref (ad 8)) (k := 7) X Z i5 rfl (by decide) (by decide +kernel) dX5_couple_50 km0 rfl ?_
            refine f_iload X hl ⟨_, rfl, dX5_couple_53⟩ rfl ?_
            refine f_iald X Z dX5_couple_54 km8 hin_u ?_
            rw [hjt_u]
            refine f_iast X Z dX5_couple_55 km6 (vp_in_nI hv6 (by decide)) (fun H locs w5 e6 Z => ?_)
            rw [hcl] at e6
            have e6 : w5 = va_up w (ad 6) (some (aI G 600 (upd (F 6) v ((F 8) u)))) := e6
            have fm19 : FrM w tg w5 := by rw [e6]; exact FrM.put FrM.rf (hM.2.2 6 (by decide))
            have k7 : w5 (ad 0) = some (cMo (some (ad 1)) (some (ad 2)) (some (ad 3)) (some (ad 4)) (some (ad 5)) (some (ad 6)) (some (ad 7)) (some (ad 8)) sd na (some (ad 9)) ro wi (some (ad 10)) y.2.2.2.2.1 (some (ad 11))) := by rw [e6]; exact lk_ne (adne hM 0 6 (by decide) (by decide) (by decide)) km0
            have k8 : w5 (ad 1) = some (aI G 600 (F 1)) := by rw [e6]; exact lk_ne (adne hM 1 6 (by decide) (by decide) (by decide)) km1
            have k9 : w5 (ad 2) = some (aI G 600 (F 2)) := by rw [e6]; exact lk_ne (adne hM 2 6 (by decide) (by decide) (by decide)) km2
            have k10 : w5 (ad 3) = some (aI G 600 (F 3)) := by rw [e6]; exact lk_ne (adne hM 3 6 (by decide) (by decide) (by decide)) km3
            have k11 : w5 (ad 4) = some (aI G 600 (F 4)) := by rw [e6]; exact lk_ne (adne hM 4 6 (by decide) (by decide) (by decide)) km4
            have k12 : w5 (ad 5) = some (aI G 7200 (F 5)) := by rw [e6]; exact lk_ne (adne hM 5 6 (by decide) (by decide) (by decide)) km5
            have k13 : w5 (ad 7) = some (aZ G 600 (F 7)) := by rw [e6]; exact lk_ne (adne hM 7 6 (by decide) (by decide) (by decide)) km7
            have k14 : w5 (ad 8) = some (aI G 6 (F 8)) := by rw [e6]; exact lk_ne (adne hM 8 6 (by decide) (by decide) (by decide)) km8
            have k15 : w5 (ad 9) = some (aI G 12 (F 9)) := by rw [e6]; exact lk_ne (adne hM 9 6 (by decide) (by decide) (by decide)) km9
            have k16 : w5 (ad 10) = some (aI G 144 (F 10)) := by rw [e6]; exact lk_ne (adne hM 10 6 (by decide) (by decide) (by decide)) km10
            have k17 : w5 (ad 11) = some (aI G 8 (F 11)) := by rw [e6]; exact lk_ne (adne hM 11 6 (by decide) (by decide) (by decide)) km11
            have k18 : w5 (ad 6) = some (aI G 600 (upd (F 6) v ((F 8) u))) := by rw [e6]; exact up_eq
            refine f_aload (v := .ref (ad 0)) X hl ⟨_, rfl, dX5_couple_56⟩ rfl ⟨(some (ad 0)), rfl⟩ ?_
            refine f_get (v := .ref (ad 8)) (k := 7) X Z i5 rfl (by decide) (by decide +kernel) dX5_couple_57 k7 rfl ?_
            refine f_iload X hl ⟨_, rfl, dX5_couple_60⟩ rfl ?_
            refine lv_iconst (v := (-1)) X.1 X.2.1 dX5_couple_61 (by decide) ?_
            refine f_iast X Z dX5_couple_62 k14 hin_u (fun H locs w20 e21 Z => ?_)
            rw [hjt_u] at e21
            have e21 : w20 = va_up w5 (ad 8) (some (aI G 6 (upd (F 8) u (-1)))) := e21
            have fm34 : FrM w tg w20 := by rw [e21]; exact FrM.put fm19 (hM.2.2 8 (by decide))
            have k22 : w20 (ad 0) = some (cMo (some (ad 1)) (some (ad 2)) (some (ad 3)) (some (ad 4)) (some (ad 5)) (some (ad 6)) (some (ad 7)) (some (ad 8)) sd na (some (ad 9)) ro wi (some (ad 10)) y.2.2.2.2.1 (some (ad 11))) := by rw [e21]; exact lk_ne (adne hM 0 8 (by decide) (by decide) (by decide)) k7
            have k23 : w20 (ad 1) = some (aI G 600 (F 1)) := by rw [e21]; exact lk_ne (adne hM 1 8 (by decide) (by decide) (by decide)) k8
            have k24 : w20 (ad 2) = some (aI G 600 (F 2)) := by rw [e21]; exact lk_ne (adne hM 2 8 (by decide) (by decide) (by decide)) k9
            have k25 : w20 (ad 3) = some (aI G 600 (F 3)) := by rw [e21]; exact lk_ne (adne hM 3 8 (by decide) (by decide) (by decide)) k10
            have k26 : w20 (ad 4) = some (aI G 600 (F 4)) := by rw [e21]; exact lk_ne (adne hM 4 8 (by decide) (by decide) (by decide)) k11
            have k27 : w20 (ad 5) = some (aI G 7200 (F 5)) := by rw [e21]; exact lk_ne (adne hM 5 8 (by decide) (by decide) (by decide)) k12
            have k28 : w20 (ad 7) = some (aZ G 600 (F 7)) := by rw [e21]; exact lk_ne (adne hM 7 8 (by decide) (by decide) (by decide)) k13
            have k29 : w20 (ad 9) = some (aI G 12 (F 9)) := by rw [e21]; exact lk_ne (adne hM 9 8 (by decide) (by decide) (by decide)) k15
            have k30 : w20 (ad 10) = some (aI G 144 (F 10)) := by rw [e21]; exact lk_ne (adne hM 10 8 (by decide) (by decide) (by decide)) k16
            have k31 : w20 (ad 11) = some (aI G 8 (F 11)) := by rw [e21]; exact lk_ne (adne hM 11 8 (by decide) (by decide) (by decide)) k17
            have k32 : w20 (ad 6) = some (aI G 600 (upd (F 6) v ((F 8) u))) := by rw [e21]; exact lk_ne (adne hM 6 8 (by decide) (by decide) (by decide)) k18
            have k33 : w20 (ad 8) = some (aI G 6 (upd (F 8) u (-1))) := by rw [e21]; exact up_eq
            refine f_aload (v := .ref (ad 0)) X hl ⟨_, rfl, dX5_couple_63⟩ rfl ⟨(some (ad 0)), rfl⟩ ?_
            refine f_iload X hl ⟨_, rfl, dX5_couple_64⟩ rfl ?_
            have hP2 := hP.append (F' := (mkF (F 1) (F 2) (F 3) (F 4) (F 5) (upd (F 6) v ((F 8) u)) (F 7) (upd (F 8) u (-1)) (F 9) (F 10) (F 11))) hj_j hj_u hju hkl hq rfl rfl rfl rfl rfl rfl rfl rfl rfl rfl rfl
            have hl2 : ((va_up (va_up T j (T j ++ T u)) u []) j).length ≤ 2000 := by rw [hP2.len]; have := hP.lenT hY hn hj_j; have := hP.len j; have := hP.lenT hY hn hj_u; have := hP.len u; simp only [yset, va_up, if_neg hju, if_true, List.length_append]; omega
            refine f_callVi (rest := []) X Z hl.1 (c_X5_countOf l G w20 tg ad (mkF (F 1) (F 2) (F 3) (F 4) (F 5) (upd (F 6) v ((F 8) u)) (F 7) (upd (F 8) u (-1)) (F 9) (F 10) (F 11)) sd na ro wi y.2.2.2.2.1 (MW.of hM k22 k23 k24 k25 k26 k27 k32 k28 k33 k29 k30 k31) t j ((va_up (va_up T j (T j ++ T u)) u []) j) hjt_j hin_j (hP2.ch hj_j hl2)) (cwV 1 X.2.2.2.2 gX5_couple_X5_countOf rfl rfl rfl (by decide +kernel) ⟨(Nat.le_of_ble_eq_true rfl), (Nat.le_of_ble_eq_true rfl)⟩) rfl rfl dX5_couple_65 ⟨(Nat.le_of_ble_eq_true rfl), (Nat.le_of_ble_eq_true rfl)⟩ rfl (Nat.le_of_ble_eq_true rfl) k22 (fun r65 w35 H locs p65 Z => ?_)
            obtain ⟨w35e, hr65⟩ := p65
            have w35e := w35e.symm
            subst w35e
            exact f_iret X hr hlk Z (Nat.le_of_ble_eq_true rfl) (Nat.le_of_ble_eq_true rfl) dX5_couple_68 (outM_of hP2 (MW.of hM k22 k23 k24 k25 k26 k27 k32 k28 k33 k29 k30 k31) (by omega) fm34 (by unfold sp_couple tn; rw [if_pos ⟨c4, c11, c16⟩, hjt_j, hjt_u, if_neg hyj, hr65, up_off hju, up_at, List.length_append, hP.len j, hP.len u]))
        · have hT0 : T j = [] := by
            have q := hP.lenT hY hn hj_j
            have := (nI_eq (a := (T j).length) (b := 0) (by omega) (by omega)).mp (c28.trans nI_0.symm)
            exact List.length_eq_zero_iff.mp this
          have hyj : y.1 j = [] := by rw [← h3 j, hT0]; rfl
          refine f_aload (v := .ref (ad 0)) X hl ⟨_, rfl, dX5_couple_31⟩ rfl ⟨(some (ad 0)), rfl⟩ ?_
          refine lv_iconst (v := 1) X.1 X.2.1 dX5_couple_32 (by decide) ?_
          refine f_callVi (rest := []) X Z hl.1 (c_X5_no l G w tg ad F sd na ro wi y.2.2.2.2.1 hM 1 (by decide)) (cwV 1 X.2.2.2.2 gX5_couple_X5_no rfl rfl rfl (by decide +kernel) ⟨(Nat.le_of_ble_eq_true rfl), (Nat.le_of_ble_eq_true rfl)⟩) rfl rfl dX5_couple_33 ⟨(Nat.le_of_ble_eq_true rfl), (Nat.le_of_ble_eq_true rfl)⟩ rfl (Nat.le_of_ble_eq_true rfl) km0 (fun r33 w36 H locs p33 Z => ?_)
          obtain ⟨hrT, hwT⟩ := p33
          exact f_iret X hr hlk Z (Nat.le_of_ble_eq_true rfl) (Nat.le_of_ble_eq_true rfl) dX5_couple_36 (outM_no hP hM FrM.rf hrT hwT (by unfold sp_couple tn; rw [if_pos ⟨c4, c11, c16⟩, hjt_j, if_pos hyj]))
      · refine lv_iconst (v := (-1)) X.1 X.2.1 dX5_couple_19 (by decide) ?_
        exact f_iret X hr hlk Z (Nat.le_of_ble_eq_true rfl) (Nat.le_of_ble_eq_true rfl) dX5_couple_20 (outM_same hR (if_neg (fun h => h.2.2 c16)))
set_option maxHeartbeats 4000000 in
set_option maxRecDepth 100000 in
theorem c_X5_defect (l : Launch) (G : gT) (w : wT) (tg : tT) (ad : Nat → Nat) (c nb : Nat) (y : Yd) (hR : RepM G tg w ad c y) (hY : Yok nb y) (hn : nb ≤ 512) (t k x : Int32) : Met l yX5_defect wsX5_defect ({ frames := 2, cells := 0, slots := 0, locals := 42 }) (va_Pc [.ref (ad 0), .int t, .int k, .int x] (wG G w)) (Qi G (OutM G tg w ad c (sp_defect t k x y))) 0 0 (fr G) := by
  refine f_met (cc := cX5_defect) (maxL := 5) (ret := (some .int)) (by decide) rfl rfl (Nat.le_of_ble_eq_true rfl) ?_
  intro p e s m below meth cd X hr hlk hnm Z ls hl
  have X : CallFix p m cd cX5_defect 5 s [.ref (ad 0), .int t, .int k, .int x].toArray wsX5_defect RX5 := X
  have hl : lV ls _ [some (.ref (ad 0)), some (.int t), some (.int k), some (.int x), none] := hl
  have i5 : ∀ w ∈ wsX50, w ∈ wsX5_defect := by decide +kernel
  obtain ⟨F, sd, na, ro, wi, T, hM, hP⟩ := id hR
  obtain ⟨h1, h2, h3, h4, h5, h6, h7⟩ := id hP
  have km0 := hM.1
  have km1 : w (ad 1) = some (aI G 600 (F 1)) := hM.2.1 1 (by decide) (by decide)
  have km2 : w (ad 2) = some (aI G 600 (F 2)) := hM.2.1 2 (by decide) (by decide)
  have km3 : w (ad 3) = some (aI G 600 (F 3)) := hM.2.1 3 (by decide) (by decide)
  have km4 : w (ad 4) = some (aI G 600 (F 4)) := hM.2.1 4 (by decide) (by decide)
  have km5 : w (ad 5) = some (aI G 7200 (F 5)) := hM.2.1 5 (by decide) (by decide)
  have km6 : w (ad 6) = some (aI G 600 (F 6)) := hM.2.1 6 (by decide) (by decide)
  have km7 : w (ad 7) = some (aZ G 600 (F 7)) := hM.2.1 7 (by decide) (by decide)
  have km8 : w (ad 8) = some (aI G 6 (F 8)) := hM.2.1 8 (by decide) (by decide)
  have km9 : w (ad 9) = some (aI G 12 (F 9)) := hM.2.1 9 (by decide) (by decide)
  have km10 : w (ad 10) = some (aI G 144 (F 10)) := hM.2.1 10 (by decide) (by decide)
  have km11 : w (ad 11) = some (aI G 8 (F 11)) := hM.2.1 11 (by decide) (by decide)
  refine f_iload X hl ⟨_, rfl, dX5_defect_0⟩ rfl ?_
  refine f_callSi (rest := []) X Z hl.1 (c_X5_isTrack l G _ _) (va_cwS 1 X.2.2.2.2 gX5_defect_X5_isTrack rfl rfl rfl (by decide +kernel) ⟨(Nat.le_of_ble_eq_true rfl), (Nat.le_of_ble_eq_true rfl)⟩) rfl dX5_defect_1 ⟨(Nat.le_of_ble_eq_true rfl), (Nat.le_of_ble_eq_true rfl)⟩ rfl (Nat.le_of_ble_eq_true rfl) (fun r1 w1 H locs p1 Z => ?_)
  obtain ⟨w1e, hr1⟩ := p1
  have w1e := w1e.symm
  subst w1e
  refine lv_if_eq (tgt := 21) X.1 X.2.1 dX5_defect_4 (by decide) (fun c4 => ?_) (fun c4 => ?_)
  · rw [hr1, bI_0] at c4
    refine lv_iconst (v := (-1)) X.1 X.2.1 dX5_defect_21 (by decide) ?_
    exact f_iret X hr hlk Z (Nat.le_of_ble_eq_true rfl) (Nat.le_of_ble_eq_true rfl) dX5_defect_22 (outM_same hR (if_neg (fun h => c4 h.1.1)))
  · rw [hr1, bI_0, Classical.not_not] at c4
    refine f_iload X hl ⟨_, rfl, dX5_defect_7⟩ rfl ?_
    refine lv_if_lt (tgt := 21) X.1 X.2.1 dX5_defect_8 (by decide) (fun c8 => ?_) (fun c8 => ?_)
    · refine lv_iconst (v := (-1)) X.1 X.2.1 dX5_defect_21 (by decide) ?_
      exact f_iret X hr hlk Z (Nat.le_of_ble_eq_true rfl) (Nat.le_of_ble_eq_true rfl) dX5_defect_22 (outM_same hR (if_neg (fun h => nge0' c8 h.1.2)))
    · refine f_iload X hl ⟨_, rfl, dX5_defect_11⟩ rfl ?_
      refine lv_iconst (v := 0) X.1 X.2.1 dX5_defect_12 (by decide) ?_
      refine lv_bipush (v := 99) X.1 X.2.1 dX5_defect_13 (by decide) ?_
      refine f_callSi (rest := []) X Z hl.1 (c_X5_in l G _ _ _ _) (va_cwS 3 X.2.2.2.2 gX5_defect_X5_in rfl rfl rfl (by decide +kernel) ⟨(Nat.le_of_ble_eq_true rfl), (Nat.le_of_ble_eq_true rfl)⟩) rfl dX5_defect_15 ⟨(Nat.le_of_ble_eq_true rfl), (Nat.le_of_ble_eq_true rfl)⟩ rfl (Nat.le_of_ble_eq_true rfl) (fun r15 w2 H locs p15 Z => ?_)
      obtain ⟨w2e, hr15⟩ := p15
      have w2e := w2e.symm
      subst w2e
      refine lv_if_ne (tgt := 23) X.1 X.2.1 dX5_defect_18 (by decide) (fun c18 => ?_) (fun c18 => ?_)
      · rw [hr15, bI_0, Classical.not_not] at c18
        obtain ⟨j, hjt_j⟩ : ∃ j, t.toNatClampNeg = j := ⟨_, rfl⟩
        have hj_j : j < 6 := hjt_j ▸ tn_lt c4
        have hin_j : vp_in t 6 := vp_in_iff.mpr c4
        have hch_j : chM F j (T j) := hP.ch hj_j (Nat.le_trans (hP.lenT hY hn hj_j) (by decide))
        refine f_aload (v := .ref (ad 0)) X hl ⟨_, rfl, dX5_defect_23⟩ rfl ⟨(some (ad 0)), rfl⟩ ?_
        refine f_iload X hl ⟨_, rfl, dX5_defect_24⟩ rfl ?_
        refine f_iload X hl ⟨_, rfl, dX5_defect_25⟩ rfl ?_
        refine f_callVi (rest := []) X Z hl.1 (c_X5_at l G w tg ad F sd na ro wi y.2.2.2.2.1 hM t k j (T j) hjt_j hin_j hch_j (ge0' c8)) (cwV 2 X.2.2.2.2 gX5_defect_X5_at rfl rfl rfl (by decide +kernel) ⟨(Nat.le_of_ble_eq_true rfl), (Nat.le_of_ble_eq_true rfl)⟩) rfl rfl dX5_defect_26 ⟨(Nat.le_of_ble_eq_true rfl), (Nat.le_of_ble_eq_true rfl)⟩ rfl (Nat.le_of_ble_eq_true rfl) km0 (fun r26 w3 H locs p26 Z => ?_)
        obtain ⟨w3e, hr26⟩ := p26
        have w3e := w3e.symm
        subst w3e
        rcases hq : (T j)[k.toNatClampNeg]? with _ | ⟨v, d⟩
        · have hr0 : r26 = -1 := by rw [hr26, hq]; rfl
          subst hr0
          have hya : (y.1 j)[k.toNatClampNeg]? = none := by rw [hP.at, hq]; rfl
          refine f_istore2 X hl dX5_defect_29 (by decide) (fun ls hl => ?_)
          have hl : lV ls _ [some (.ref (ad 0)), some (.int t), some (.int k), some (.int x), some (.int (-1))] := hl
          refine f_iload2 X hl dX5_defect_31 rfl ?_
          refine lv_iconst (v := (-1)) X.1 X.2.1 dX5_defect_33 (by decide) ?_
          refine lv_icmp_ne (tgt := 43) X.1 X.2.1 dX5_defect_34 (by decide) (fun c34 => ?_) (fun c34 => ?_)
          · exact absurd rfl c34
          · refine f_aload (v := .ref (ad 0)) X hl ⟨_, rfl, dX5_defect_37⟩ rfl ⟨(some (ad 0)), rfl⟩ ?_
            refine lv_iconst (v := 1) X.1 X.2.1 dX5_defect_38 (by decide) ?_
            refine f_callVi (rest := []) X Z hl.1 (c_X5_no l G w tg ad F sd na ro wi y.2.2.2.2.1 hM 1 (by decide)) (cwV 1 X.2.2.2.2 gX5_defect_X5_no rfl rfl rfl (by decide +kernel) ⟨(Nat.le_of_ble_eq_true rfl), (Nat.le_of_ble_eq_true rfl)⟩) rfl rfl dX5_defect_39 ⟨(Nat.le_of_ble_eq_true rfl), (Nat.le_of_ble_eq_true rfl)⟩ rfl (Nat.le_of_ble_eq_true rfl) km0 (fun r39 w4 H locs p39 Z => ?_)
            obtain ⟨hrT, hwT⟩ := p39
            exact f_iret X hr hlk Z (Nat.le_of_ble_eq_true rfl) (Nat.le_of_ble_eq_true rfl) dX5_defect_42 (outM_no hP hM FrM.rf hrT hwT (by unfold sp_defect yat tn; rw [if_pos ⟨⟨c4, ge0' c8⟩, c18⟩, hjt_j, hya]))
        · have hr0 : r26 = nI v := by rw [hr26, hq]; rfl
          subst hr0
          have hya : (y.1 j)[k.toNatClampNeg]? = some d := by rw [hP.at, hq]; rfl
          have hp := h1.1 j _ v d hq
          obtain ⟨hv6, hso, hwe, hde, hcr, hbh, hus⟩ := id hp
          have hcl : (nI v).toNatClampNeg = v := nI_clamp (by omega)
          refine f_istore2 X hl dX5_defect_29 (by decide) (fun ls hl => ?_)
          have hl : lV ls _ [some (.ref (ad 0)), some (.int t), some (.int k), some (.int x), some (.int (nI v))] := hl
          refine f_iload2 X hl dX5_defect_31 rfl ?_
          refine lv_iconst (v := (-1)) X.1 X.2.1 dX5_defect_33 (by decide) ?_
          refine lv_icmp_ne (tgt := 43) X.1 X.2.1 dX5_defect_34 (by decide) (fun c34 => ?_) (fun c34 => ?_)
          · refine f_aload (v := .ref (ad 0)) X hl ⟨_, rfl, dX5_defect_43⟩ rfl ⟨(some (ad 0)), rfl⟩ ?_
            refine f_get (v := .ref (ad 3)) (k := 2) X Z i5 rfl (by decide) (by decide +kernel) dX5_defect_44 km0 rfl ?_
            refine f_iload2 X hl dX5_defect_47 rfl ?_
            refine f_iload X hl ⟨_, rfl, dX5_defect_49⟩ rfl ?_
            refine f_iast X Z dX5_defect_50 km3 (vp_in_nI hv6 (by decide)) (fun H locs w5 e6 Z => ?_)
            rw [hcl] at e6
            have e6 : w5 = va_up w (ad 3) (some (aI G 600 (upd (F 3) v x))) := e6
            have fm19 : FrM w tg w5 := by rw [e6]; exact FrM.put FrM.rf (hM.2.2 3 (by decide))
            have k7 : w5 (ad 0) = some (cMo (some (ad 1)) (some (ad 2)) (some (ad 3)) (some (ad 4)) (some (ad 5)) (some (ad 6)) (some (ad 7)) (some (ad 8)) sd na (some (ad 9)) ro wi (some (ad 10)) y.2.2.2.2.1 (some (ad 11))) := by rw [e6]; exact lk_ne (adne hM 0 3 (by decide) (by decide) (by decide)) km0
            have k8 : w5 (ad 1) = some (aI G 600 (F 1)) := by rw [e6]; exact lk_ne (adne hM 1 3 (by decide) (by decide) (by decide)) km1
            have k9 : w5 (ad 2) = some (aI G 600 (F 2)) := by rw [e6]; exact lk_ne (adne hM 2 3 (by decide) (by decide) (by decide)) km2
            have k10 : w5 (ad 4) = some (aI G 600 (F 4)) := by rw [e6]; exact lk_ne (adne hM 4 3 (by decide) (by decide) (by decide)) km4
            have k11 : w5 (ad 5) = some (aI G 7200 (F 5)) := by rw [e6]; exact lk_ne (adne hM 5 3 (by decide) (by decide) (by decide)) km5
            have k12 : w5 (ad 6) = some (aI G 600 (F 6)) := by rw [e6]; exact lk_ne (adne hM 6 3 (by decide) (by decide) (by decide)) km6
            have k13 : w5 (ad 7) = some (aZ G 600 (F 7)) := by rw [e6]; exact lk_ne (adne hM 7 3 (by decide) (by decide) (by decide)) km7
            have k14 : w5 (ad 8) = some (aI G 6 (F 8)) := by rw [e6]; exact lk_ne (adne hM 8 3 (by decide) (by decide) (by decide)) km8
            have k15 : w5 (ad 9) = some (aI G 12 (F 9)) := by rw [e6]; exact lk_ne (adne hM 9 3 (by decide) (by decide) (by decide)) km9
            have k16 : w5 (ad 10) = some (aI G 144 (F 10)) := by rw [e6]; exact lk_ne (adne hM 10 3 (by decide) (by decide) (by decide)) km10
            have k17 : w5 (ad 11) = some (aI G 8 (F 11)) := by rw [e6]; exact lk_ne (adne hM 11 3 (by decide) (by decide) (by decide)) km11
            have k18 : w5 (ad 3) = some (aI G 600 (upd (F 3) v x)) := by rw [e6]; exact up_eq
            refine f_iload X hl ⟨_, rfl, dX5_defect_51⟩ rfl ?_
            exact f_iret X hr hlk Z (Nat.le_of_ble_eq_true rfl) (Nat.le_of_ble_eq_true rfl) dX5_defect_52 (outM_of (hP.put (F' := (mkF (F 1) (F 2) (upd (F 3) v x) (F 4) (F 5) (F 6) (F 7) (F 8) (F 9) (F 10) (F 11))) (d' := (d.1, d.2.1, x, d.2.2.2)) hj_j hq ⟨hv6, hso, hwe, upd_at, crM_cong hcr rfl rfl, hbh, hus⟩ rfl rfl (fun b hb => upd_off hb) (fun _ _ => rfl) (fun _ _ _ _ => rfl) rfl rfl rfl rfl rfl rfl) (MW.of hM k7 k8 k9 k18 k10 k11 k12 k13 k14 k15 k16 k17) (by omega) fm19 (by unfold sp_defect yput yat tn; rw [if_pos ⟨⟨c4, ge0' c8⟩, c18⟩, hjt_j, hya]))
          · exact absurd c34 (enc_ne hv6)
      · rw [hr15, bI_0] at c18
        refine lv_iconst (v := (-1)) X.1 X.2.1 dX5_defect_21 (by decide) ?_
        exact f_iret X hr hlk Z (Nat.le_of_ble_eq_true rfl) (Nat.le_of_ble_eq_true rfl) dX5_defect_22 (outM_same hR (if_neg (fun h => c18 h.2)))
set_option maxHeartbeats 4000000 in
set_option maxRecDepth 100000 in
theorem c_X5_load (l : Launch) (G : gT) (w : wT) (tg : tT) (ad : Nat → Nat) (c nb : Nat) (y : Yd) (hR : RepM G tg w ad c y) (hY : Yok nb y) (hn : nb ≤ 512) (t k i x : Int32) : Met l yX5_load wsX5_load ({ frames := 2, cells := 0, slots := 0, locals := 44 }) (va_Pc [.ref (ad 0), .int t, .int k, .int i, .int x] (wG G w)) (Qi G (OutM G tg w ad c (sp_load t k i x y))) 0 0 (fr G) := by
  refine f_met (cc := cX5_load) (maxL := 7) (ret := (some .int)) (by decide) rfl rfl (Nat.le_of_ble_eq_true rfl) ?_
  intro p e s m below meth cd X hr hlk hnm Z ls hl
  have X : CallFix p m cd cX5_load 7 s [.ref (ad 0), .int t, .int k, .int i, .int x].toArray wsX5_load RX5 := X
  have hl : lV ls _ [some (.ref (ad 0)), some (.int t), some (.int k), some (.int i), some (.int x), none, none] := hl
  have i5 : ∀ w ∈ wsX50, w ∈ wsX5_load := by decide +kernel
  obtain ⟨F, sd, na, ro, wi, T, hM, hP⟩ := id hR
  obtain ⟨h1, h2, h3, h4, h5, h6, h7⟩ := id hP
  have km0 := hM.1
  have km1 : w (ad 1) = some (aI G 600 (F 1)) := hM.2.1 1 (by decide) (by decide)
  have km2 : w (ad 2) = some (aI G 600 (F 2)) := hM.2.1 2 (by decide) (by decide)
  have km3 : w (ad 3) = some (aI G 600 (F 3)) := hM.2.1 3 (by decide) (by decide)
  have km4 : w (ad 4) = some (aI G 600 (F 4)) := hM.2.1 4 (by decide) (by decide)
  have km5 : w (ad 5) = some (aI G 7200 (F 5)) := hM.2.1 5 (by decide) (by decide)
  have km6 : w (ad 6) = some (aI G 600 (F 6)) := hM.2.1 6 (by decide) (by decide)
  have km7 : w (ad 7) = some (aZ G 600 (F 7)) := hM.2.1 7 (by decide) (by decide)
  have km8 : w (ad 8) = some (aI G 6 (F 8)) := hM.2.1 8 (by decide) (by decide)
  have km9 : w (ad 9) = some (aI G 12 (F 9)) := hM.2.1 9 (by decide) (by decide)
  have km10 : w (ad 10) = some (aI G 144 (F 10)) := hM.2.1 10 (by decide) (by decide)
  have km11 : w (ad 11) = some (aI G 8 (F 11)) := hM.2.1 11 (by decide) (by decide)
  refine f_iload X hl ⟨_, rfl, dX5_load_0⟩ rfl ?_
  refine f_callSi (rest := []) X Z hl.1 (c_X5_isTrack l G _ _) (va_cwS 1 X.2.2.2.2 gX5_load_X5_isTrack rfl rfl rfl (by decide +kernel) ⟨(Nat.le_of_ble_eq_true rfl), (Nat.le_of_ble_eq_true rfl)⟩) rfl dX5_load_1 ⟨(Nat.le_of_ble_eq_true rfl), (Nat.le_of_ble_eq_true rfl)⟩ rfl (Nat.le_of_ble_eq_true rfl) (fun r1 w1 H locs p1 Z => ?_)
  obtain ⟨w1e, hr1⟩ := p1
  have w1e := w1e.symm
  subst w1e
  refine lv_if_eq (tgt := 22) X.1 X.2.1 dX5_load_4 (by decide) (fun c4 => ?_) (fun c4 => ?_)
  · rw [hr1, bI_0] at c4
    refine lv_iconst (v := (-1)) X.1 X.2.1 dX5_load_22 (by decide) ?_
    exact f_iret X hr hlk Z (Nat.le_of_ble_eq_true rfl) (Nat.le_of_ble_eq_true rfl) dX5_load_23 (outM_same hR (if_neg (fun h => c4 h.1.1)))
  · rw [hr1, bI_0, Classical.not_not] at c4
    refine f_iload X hl ⟨_, rfl, dX5_load_7⟩ rfl ?_
    refine lv_if_lt (tgt := 22) X.1 X.2.1 dX5_load_8 (by decide) (fun c8 => ?_) (fun c8 => ?_)
    · refine lv_iconst (v := (-1)) X.1 X.2.1 dX5_load_22 (by decide) ?_
      exact f_iret X hr hlk Z (Nat.le_of_ble_eq_true rfl) (Nat.le_of_ble_eq_true rfl) dX5_load_23 (outM_same hR (if_neg (fun h => nge0' c8 h.1.2)))
    · refine f_iload2 X hl dX5_load_11 rfl ?_
      refine lv_iconst (v := 0) X.1 X.2.1 dX5_load_13 (by decide) ?_
      refine lv_bipush (v := 99) X.1 X.2.1 dX5_load_14 (by decide) ?_
      refine f_callSi (rest := []) X Z hl.1 (c_X5_in l G _ _ _ _) (va_cwS 3 X.2.2.2.2 gX5_load_X5_in rfl rfl rfl (by decide +kernel) ⟨(Nat.le_of_ble_eq_true rfl), (Nat.le_of_ble_eq_true rfl)⟩) rfl dX5_load_16 ⟨(Nat.le_of_ble_eq_true rfl), (Nat.le_of_ble_eq_true rfl)⟩ rfl (Nat.le_of_ble_eq_true rfl) (fun r16 w2 H locs p16 Z => ?_)
      obtain ⟨w2e, hr16⟩ := p16
      have w2e := w2e.symm
      subst w2e
      refine lv_if_ne (tgt := 24) X.1 X.2.1 dX5_load_19 (by decide) (fun c19 => ?_) (fun c19 => ?_)
      · rw [hr16, bI_0, Classical.not_not] at c19
        obtain ⟨j, hjt_j⟩ : ∃ j, t.toNatClampNeg = j := ⟨_, rfl⟩
        have hj_j : j < 6 := hjt_j ▸ tn_lt c4
        have hin_j : vp_in t 6 := vp_in_iff.mpr c4
        have hch_j : chM F j (T j) := hP.ch hj_j (Nat.le_trans (hP.lenT hY hn hj_j) (by decide))
        refine f_aload (v := .ref (ad 0)) X hl ⟨_, rfl, dX5_load_24⟩ rfl ⟨(some (ad 0)), rfl⟩ ?_
        refine f_iload X hl ⟨_, rfl, dX5_load_25⟩ rfl ?_
        refine f_iload X hl ⟨_, rfl, dX5_load_26⟩ rfl ?_
        refine f_callVi (rest := []) X Z hl.1 (c_X5_at l G w tg ad F sd na ro wi y.2.2.2.2.1 hM t k j (T j) hjt_j hin_j hch_j (ge0' c8)) (cwV 2 X.2.2.2.2 gX5_load_X5_at rfl rfl rfl (by decide +kernel) ⟨(Nat.le_of_ble_eq_true rfl), (Nat.le_of_ble_eq_true rfl)⟩) rfl rfl dX5_load_27 ⟨(Nat.le_of_ble_eq_true rfl), (Nat.le_of_ble_eq_true rfl)⟩ rfl (Nat.le_of_ble_eq_true rfl) km0 (fun r27 w3 H locs p27 Z => ?_)
        obtain ⟨w3e, hr27⟩ := p27
        have w3e := w3e.symm
        subst w3e
        rcases hq : (T j)[k.toNatClampNeg]? with _ | ⟨v, d⟩
        · have hr0 : r27 = -1 := by rw [hr27, hq]; rfl
          subst hr0
          have hya : (y.1 j)[k.toNatClampNeg]? = none := by rw [hP.at, hq]; rfl
          refine f_istore2 X hl dX5_load_30 (by decide) (fun ls hl => ?_)
          have hl : lV ls _ [some (.ref (ad 0)), some (.int t), some (.int k), some (.int i), some (.int x), some (.int (-1)), none] := hl
          refine f_aload (v := .ref (ad 0)) X hl ⟨_, rfl, dX5_load_32⟩ rfl ⟨(some (ad 0)), rfl⟩ ?_
          refine f_iload2 X hl dX5_load_33 rfl ?_
          refine f_iload X hl ⟨_, rfl, dX5_load_35⟩ rfl ?_
          refine f_callVi (rest := []) X Z hl.1 (c_X5_against l G w tg ad F sd na ro wi y.2.2.2.2.1 hM (-1) i none (Or.inl ⟨rfl, rfl⟩)) (cwV 2 X.2.2.2.2 gX5_load_X5_against rfl rfl rfl (by decide +kernel) ⟨(Nat.le_of_ble_eq_true rfl), (Nat.le_of_ble_eq_true rfl)⟩) rfl rfl dX5_load_36 ⟨(Nat.le_of_ble_eq_true rfl), (Nat.le_of_ble_eq_true rfl)⟩ rfl (Nat.le_of_ble_eq_true rfl) km0 (fun r36 w4 H locs p36 Z => ?_)
          obtain ⟨w4e, hr36⟩ := p36
          have w4e := w4e.symm
          subst w4e
          subst hr36
          refine f_istore2 X hl dX5_load_39 (by decide) (fun ls hl => ?_)
          have hl : lV ls _ [some (.ref (ad 0)), some (.int t), some (.int k), some (.int i), some (.int x), some (.int (-1)), some (.int (nI (whyC none i)))] := hl
          refine f_iload2 X hl dX5_load_41 rfl ?_
          refine lv_if_le (tgt := 53) X.1 X.2.1 dX5_load_43 (by decide) (fun c43 => ?_) (fun c43 => ?_)
          · exact absurd c43 (by show ¬ nI 1 ≤ 0; decide)
          · refine f_aload (v := .ref (ad 0)) X hl ⟨_, rfl, dX5_load_46⟩ rfl ⟨(some (ad 0)), rfl⟩ ?_
            refine f_iload2 X hl dX5_load_47 rfl ?_
            refine f_callVi (rest := []) X Z hl.1 (c_X5_no l G w tg ad F sd na ro wi y.2.2.2.2.1 hM (whyC none i) (whyC_lt _ _)) (cwV 1 X.2.2.2.2 gX5_load_X5_no rfl rfl rfl (by decide +kernel) ⟨(Nat.le_of_ble_eq_true rfl), (Nat.le_of_ble_eq_true rfl)⟩) rfl rfl dX5_load_49 ⟨(Nat.le_of_ble_eq_true rfl), (Nat.le_of_ble_eq_true rfl)⟩ rfl (Nat.le_of_ble_eq_true rfl) km0 (fun r49 w5 H locs p49 Z => ?_)
            obtain ⟨hrT, hwT⟩ := p49
            exact f_iret X hr hlk Z (Nat.le_of_ble_eq_true rfl) (Nat.le_of_ble_eq_true rfl) dX5_load_52 (outM_no hP hM FrM.rf hrT hwT (by unfold sp_load yat tn; rw [if_pos ⟨⟨c4, ge0' c8⟩, c19⟩, hjt_j, hya, if_pos (nI_pos0 (whyC_lt _ _) c43)]))
        · have hr0 : r27 = nI v := by rw [hr27, hq]; rfl
          subst hr0
          have hya : (y.1 j)[k.toNatClampNeg]? = some d := by rw [hP.at, hq]; rfl
          have hp := h1.1 j _ v d hq
          obtain ⟨hv6, hso, hwe, hde, hcr, hbh, hus⟩ := id hp
          have hcl : (nI v).toNatClampNeg = v := nI_clamp (by omega)
          refine f_istore2 X hl dX5_load_30 (by decide) (fun ls hl => ?_)
          have hl : lV ls _ [some (.ref (ad 0)), some (.int t), some (.int k), some (.int i), some (.int x), some (.int (nI v)), none] := hl
          refine f_aload (v := .ref (ad 0)) X hl ⟨_, rfl, dX5_load_32⟩ rfl ⟨(some (ad 0)), rfl⟩ ?_
          refine f_iload2 X hl dX5_load_33 rfl ?_
          refine f_iload X hl ⟨_, rfl, dX5_load_35⟩ rfl ?_
          refine f_callVi (rest := []) X Z hl.1 (c_X5_against l G w tg ad F sd na ro wi y.2.2.2.2.1 hM (nI v) i (some d) (Or.inr ⟨v, d, _, rfl, rfl, hp⟩)) (cwV 2 X.2.2.2.2 gX5_load_X5_against rfl rfl rfl (by decide +kernel) ⟨(Nat.le_of_ble_eq_true rfl), (Nat.le_of_ble_eq_true rfl)⟩) rfl rfl dX5_load_36 ⟨(Nat.le_of_ble_eq_true rfl), (Nat.le_of_ble_eq_true rfl)⟩ rfl (Nat.le_of_ble_eq_true rfl) km0 (fun r36 w6 H locs p36 Z => ?_)
          obtain ⟨w6e, hr36⟩ := p36
          have w6e := w6e.symm
          subst w6e
          subst hr36
          refine f_istore2 X hl dX5_load_39 (by decide) (fun ls hl => ?_)
          have hl : lV ls _ [some (.ref (ad 0)), some (.int t), some (.int k), some (.int i), some (.int x), some (.int (nI v)), some (.int (nI (whyC (some d) i)))] := hl
          refine f_iload2 X hl dX5_load_41 rfl ?_
          refine lv_if_le (tgt := 53) X.1 X.2.1 dX5_load_43 (by decide) (fun c43 => ?_) (fun c43 => ?_)
          · have hz := nI_le0 (whyC_lt _ _) c43
            obtain ⟨so, we, de, nn, f, hod, hi0, hi1⟩ := whyC_0 hz
            cases hod
            obtain ⟨h4n, hn12, hcf⟩ := hcr
            have hin : i.toNatClampNeg < nn := tn_lt ⟨hi0, hi1⟩
            have hix : (12 : Int32) * nI v + i = nI (12 * v + i.toNatClampNeg) := by rw [← ix12 hv6 (by omega), nI_tn hi0]
            have hixc : ((12 : Int32) * nI v + i).toNatClampNeg = 12 * v + i.toNatClampNeg := by rw [hix, nI_clamp (by omega)]
            have hixi : vp_in ((12 : Int32) * nI v + i) 7200 := by rw [hix]; exact vp_in_nI (by omega) (by decide)
            refine f_aload (v := .ref (ad 0)) X hl ⟨_, rfl, dX5_load_53⟩ rfl ⟨(some (ad 0)), rfl⟩ ?_
            refine f_get (v := .ref (ad 5)) (k := 4) X Z i5 rfl (by decide) (by decide +kernel) dX5_load_54 km0 rfl ?_
            refine lv_bipush (v := 12) X.1 X.2.1 dX5_load_57 (by decide) ?_
            refine f_iload2 X hl dX5_load_59 rfl ?_
            refine lv_imul X.1 X.2.1 dX5_load_61 ?_
            refine f_iload X hl ⟨_, rfl, dX5_load_62⟩ rfl ?_
            refine lv_iadd X.1 X.2.1 dX5_load_63 ?_
            refine f_iload2 X hl dX5_load_64 rfl ?_
            refine f_iast X Z dX5_load_66 km5 hixi (fun H locs w7 e8 Z => ?_)
            rw [hixc] at e8
            have e8 : w7 = va_up w (ad 5) (some (aI G 7200 (upd (F 5) (12 * v + i.toNatClampNeg) x))) := e8
            have fm21 : FrM w tg w7 := by rw [e8]; exact FrM.put FrM.rf (hM.2.2 5 (by decide))
            have k9 : w7 (ad 0) = some (cMo (some (ad 1)) (some (ad 2)) (some (ad 3)) (some (ad 4)) (some (ad 5)) (some (ad 6)) (some (ad 7)) (some (ad 8)) sd na (some (ad 9)) ro wi (some (ad 10)) y.2.2.2.2.1 (some (ad 11))) := by rw [e8]; exact lk_ne (adne hM 0 5 (by decide) (by decide) (by decide)) km0
            have k10 : w7 (ad 1) = some (aI G 600 (F 1)) := by rw [e8]; exact lk_ne (adne hM 1 5 (by decide) (by decide) (by decide)) km1
            have k11 : w7 (ad 2) = some (aI G 600 (F 2)) := by rw [e8]; exact lk_ne (adne hM 2 5 (by decide) (by decide) (by decide)) km2
            have k12 : w7 (ad 3) = some (aI G 600 (F 3)) := by rw [e8]; exact lk_ne (adne hM 3 5 (by decide) (by decide) (by decide)) km3
            have k13 : w7 (ad 4) = some (aI G 600 (F 4)) := by rw [e8]; exact lk_ne (adne hM 4 5 (by decide) (by decide) (by decide)) km4
            have k14 : w7 (ad 6) = some (aI G 600 (F 6)) := by rw [e8]; exact lk_ne (adne hM 6 5 (by decide) (by decide) (by decide)) km6
            have k15 : w7 (ad 7) = some (aZ G 600 (F 7)) := by rw [e8]; exact lk_ne (adne hM 7 5 (by decide) (by decide) (by decide)) km7
            have k16 : w7 (ad 8) = some (aI G 6 (F 8)) := by rw [e8]; exact lk_ne (adne hM 8 5 (by decide) (by decide) (by decide)) km8
            have k17 : w7 (ad 9) = some (aI G 12 (F 9)) := by rw [e8]; exact lk_ne (adne hM 9 5 (by decide) (by decide) (by decide)) km9
            have k18 : w7 (ad 10) = some (aI G 144 (F 10)) := by rw [e8]; exact lk_ne (adne hM 10 5 (by decide) (by decide) (by decide)) km10
            have k19 : w7 (ad 11) = some (aI G 8 (F 11)) := by rw [e8]; exact lk_ne (adne hM 11 5 (by decide) (by decide) (by decide)) km11
            have k20 : w7 (ad 5) = some (aI G 7200 (upd (F 5) (12 * v + i.toNatClampNeg) x)) := by rw [e8]; exact up_eq
            refine f_iload2 X hl dX5_load_67 rfl ?_
            exact f_iret X hr hlk Z (Nat.le_of_ble_eq_true rfl) (Nat.le_of_ble_eq_true rfl) dX5_load_69 (outM_of (hP.put (F' := (mkF (F 1) (F 2) (F 3) (F 4) (upd (F 5) (12 * v + i.toNatClampNeg) x) (F 6) (F 7) (F 8) (F 9) (F 10) (F 11))) (d' := (so, we, de, some (nn, upd f i.toNatClampNeg x))) hj_j hq ⟨hv6, hso, hwe, hde, ⟨h4n, hn12, fun q hq => by by_cases hqi : q = i.toNatClampNeg; subst hqi; exact upd_at.trans upd_at.symm; exact (upd_off (by omega)).trans ((hcf q hq).trans (upd_off hqi).symm)⟩, hbh, hus⟩ rfl rfl (fun _ _ => rfl) (fun _ _ => rfl) (fun b q hb hq => upd_off (by omega)) rfl rfl rfl rfl rfl rfl) (MW.of hM k9 k10 k11 k12 k13 k20 k14 k15 k16 k17 k18 k19) (by omega) fm21 (by unfold sp_load yput yat tn; rw [if_pos ⟨⟨c4, ge0' c8⟩, c19⟩, hjt_j, hya, if_neg (fun z => z hz)]))
          · refine f_aload (v := .ref (ad 0)) X hl ⟨_, rfl, dX5_load_46⟩ rfl ⟨(some (ad 0)), rfl⟩ ?_
            refine f_iload2 X hl dX5_load_47 rfl ?_
            refine f_callVi (rest := []) X Z hl.1 (c_X5_no l G w tg ad F sd na ro wi y.2.2.2.2.1 hM (whyC (some d) i) (whyC_lt _ _)) (cwV 1 X.2.2.2.2 gX5_load_X5_no rfl rfl rfl (by decide +kernel) ⟨(Nat.le_of_ble_eq_true rfl), (Nat.le_of_ble_eq_true rfl)⟩) rfl rfl dX5_load_49 ⟨(Nat.le_of_ble_eq_true rfl), (Nat.le_of_ble_eq_true rfl)⟩ rfl (Nat.le_of_ble_eq_true rfl) km0 (fun r49 w22 H locs p49 Z => ?_)
            obtain ⟨hrT, hwT⟩ := p49
            exact f_iret X hr hlk Z (Nat.le_of_ble_eq_true rfl) (Nat.le_of_ble_eq_true rfl) dX5_load_52 (outM_no hP hM FrM.rf hrT hwT (by unfold sp_load yat tn; rw [if_pos ⟨⟨c4, ge0' c8⟩, c19⟩, hjt_j, hya, if_pos (nI_pos0 (whyC_lt _ _) c43)]))
      · rw [hr16, bI_0] at c19
        refine lv_iconst (v := (-1)) X.1 X.2.1 dX5_load_22 (by decide) ?_
        exact f_iret X hr hlk Z (Nat.le_of_ble_eq_true rfl) (Nat.le_of_ble_eq_true rfl) dX5_load_23 (outM_same hR (if_neg (fun h => c19 h.2)))
