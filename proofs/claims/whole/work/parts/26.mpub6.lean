theorem whyP_in {n : Nat} {b p : Int32} : whyP (some (n, b)) p = if 0 ≤ p.toInt ∧ p.toInt < n then 0 else 5 := rfl
set_option maxHeartbeats 4000000 in
set_option maxRecDepth 100000 in
theorem c_X5_fetch (l : Launch) (G : gT) (w : wT) (tg : tT) (ad : Nat → Nat) (c nb : Nat) (y : Yd) (hR : RepM G tg w ad c y) (hY : Yok nb y) (hn : nb ≤ 512) (p0 t : Int32) : Met l yX5_fetch wsX5_fetch ({ frames := 2, cells := 0, slots := 0, locals := 42 }) (va_Pc [.ref (ad 0), .int p0, .int t] (wG G w)) (Qi G (OutM G tg w ad c (sp_fetch p0 t y))) 0 0 (fr G) := by
  refine f_met (cc := cX5_fetch) (maxL := 4) (ret := (some .int)) (by decide) rfl rfl (Nat.le_of_ble_eq_true rfl) ?_
  intro p e s m below meth cd X hr hlk hnm Z ls hl
  have X : CallFix p m cd cX5_fetch 4 s [.ref (ad 0), .int p0, .int t].toArray wsX5_fetch RX5 := X
  have hl : lV ls _ [some (.ref (ad 0)), some (.int p0), some (.int t), none] := hl
  have i5 : ∀ w ∈ wsX50, w ∈ wsX5_fetch := by decide +kernel
  obtain ⟨F, sd, na, ro, wi, T, hM, hP⟩ := id hR
  obtain ⟨h1, h2, h3, h4, h5, h6, h7⟩ := id hP
  have km0 := hM.1
  have km1 : w (ad 1) = some (aI G 600 (F 1)) := hM.2.1 1 (by decide) (by decide)
  have km2 : w (ad 2) = some (aI G 600 (F 2)) := hM.2.1 2 (by decide) (by decide)
  have km3 : w (ad 3) = some (aI G 600 (F 3)) := hM.2.1 3 (by decide) (by decide)
  have km4 : w (ad 4) = some (aI G 600 (F 4)) := hM.2.1 4 (by decide) (by decide)
  have km5 : w (ad 5) = some (aI G 7200 (F 5)) := hM.2.1 5 (by decide) (by decide)
  have km6 : w (ad 6) = some (aI G 600 (F 6)) := hM.2.1 6 (by decide) (by decide)
  have km7 : w (ad 7) = some (aZ G 600 (F 7)) := hM.2.1 7 (by decide) (by decide)
  have km8 : w (ad 8) = some (aI G 6 (F 8)) := hM.2.1 8 (by decide) (by decide)
  have km9 : w (ad 9) = some (aI G 12 (F 9)) := hM.2.1 9 (by decide) (by decide)
  have km10 : w (ad 10) = some (aI G 144 (F 10)) := hM.2.1 10 (by decide) (by decide)
  have km11 : w (ad 11) = some (aI G 8 (F 11)) := hM.2.1 11 (by decide) (by decide)
  refine f_iload X hl ⟨_, rfl, dX5_fetch_0⟩ rfl ?_
  refine f_callSi (rest := []) X Z hl.1 (c_X5_isTrack l G _ _) (va_cwS 1 X.2.2.2.2 gX5_fetch_X5_isTrack rfl rfl rfl (by decide +kernel) ⟨(Nat.le_of_ble_eq_true rfl), (Nat.le_of_ble_eq_true rfl)⟩) rfl dX5_fetch_1 ⟨(Nat.le_of_ble_eq_true rfl), (Nat.le_of_ble_eq_true rfl)⟩ rfl (Nat.le_of_ble_eq_true rfl) (fun r1 w1 H locs p1 Z => ?_)
  obtain ⟨w1e, hr1⟩ := p1
  have w1e := w1e.symm
  subst w1e
  refine lv_if_ne (tgt := 9) X.1 X.2.1 dX5_fetch_4 (by decide) (fun c4 => ?_) (fun c4 => ?_)
  · rw [hr1, bI_0, Classical.not_not] at c4
    obtain ⟨j, hjt_j⟩ : ∃ j, t.toNatClampNeg = j := ⟨_, rfl⟩
    have hj_j : j < 6 := hjt_j ▸ tn_lt c4
    have hin_j : vp_in t 6 := vp_in_iff.mpr c4
    have hch_j : chM F j (T j) := hP.ch hj_j (Nat.le_trans (hP.lenT hY hn hj_j) (by decide))
    refine f_aload (v := .ref (ad 0)) X hl ⟨_, rfl, dX5_fetch_9⟩ rfl ⟨(some (ad 0)), rfl⟩ ?_
    refine f_get (v := .int sd) (k := 8) X Z i5 rfl (by decide) (by decide +kernel) dX5_fetch_10 km0 rfl ?_
    refine lv_iconst (v := (-1)) X.1 X.2.1 dX5_fetch_13 (by decide) ?_
    refine lv_icmp_ne (tgt := 23) X.1 X.2.1 dX5_fetch_14 (by decide) (fun c14 => ?_) (fun c14 => ?_)
    · obtain ⟨sn, sb, hsd, hnb, hos, hs12, hfp⟩ := SMo h5 c14
      refine f_iload X hl ⟨_, rfl, dX5_fetch_23⟩ rfl ?_
      refine lv_iconst (v := 0) X.1 X.2.1 dX5_fetch_24 (by decide) ?_
      refine f_aload (v := .ref (ad 0)) X hl ⟨_, rfl, dX5_fetch_25⟩ rfl ⟨(some (ad 0)), rfl⟩ ?_
      refine f_get (v := .int sd) (k := 8) X Z i5 rfl (by decide) (by decide +kernel) dX5_fetch_26 km0 rfl ?_
      refine lv_iconst (v := 1) X.1 X.2.1 dX5_fetch_29 (by decide) ?_
      refine lv_isub X.1 X.2.1 dX5_fetch_30 ?_
      refine f_callSi (rest := []) X Z hl.1 (c_X5_in l G _ _ _ _) (va_cwS 3 X.2.2.2.2 gX5_fetch_X5_in rfl rfl rfl (by decide +kernel) ⟨(Nat.le_of_ble_eq_true rfl), (Nat.le_of_ble_eq_true rfl)⟩) rfl dX5_fetch_31 ⟨(Nat.le_of_ble_eq_true rfl), (Nat.le_of_ble_eq_true rfl)⟩ rfl (Nat.le_of_ble_eq_true rfl) (fun r31 w2 H locs p31 Z => ?_)
      obtain ⟨w2e, hr31⟩ := p31
      have w2e := w2e.symm
      subst w2e
      refine lv_if_ne (tgt := 43) X.1 X.2.1 dX5_fetch_34 (by decide) (fun c34 => ?_) (fun c34 => ?_)
      · rw [hr31, bI_0, Classical.not_not] at c34
        rw [hsd, n1_toInt hs12, kc_0] at c34
        obtain ⟨pn, hpn31, rfl⟩ := nI_of (x := p0) (by rw [Int32.lt_iff_toInt_lt, kc_0]; omega)
        rw [nI_toInt hpn31] at c34
        have hpn : pn < sn := by omega
        have hp12 : pn < 12 := by omega
        have hpc : (nI pn).toNatClampNeg = pn := nI_clamp hpn31
        have hwhy : whyP y.2.1 (nI pn) = 0 := by rw [hos, whyP_in, if_pos (by rw [nI_toInt hpn31]; omega)]
        refine f_aload (v := .ref (ad 0)) X hl ⟨_, rfl, dX5_fetch_43⟩ rfl ⟨(some (ad 0)), rfl⟩ ?_
        refine f_get (v := .ref (ad 9)) (k := 10) X Z i5 rfl (by decide) (by decide +kernel) dX5_fetch_44 km0 rfl ?_
        refine f_iload X hl ⟨_, rfl, dX5_fetch_47⟩ rfl ?_
        rcases hTp : T (6 + pn) with _ | ⟨⟨v, d⟩, L⟩
        · have hyp : y.1 (6 + pn) = [] := by rw [← h3, hTp]; rfl
          have h9p : F 9 pn = -1 := by rw [hfp pn hpn, hTp]; rfl
          refine f_iald X Z dX5_fetch_48 km9 (vp_in_nI hp12 (by decide)) ?_
          rw [hpc]
          rw [h9p]
          refine f_istore X hl ⟨_, rfl, dX5_fetch_49⟩ (by decide) (fun ls hl => ?_)
          have hl : lV ls _ [some (.ref (ad 0)), some (.int (nI pn)), some (.int t), some (.int (-1))] := hl
          refine f_iload X hl ⟨_, rfl, dX5_fetch_50⟩ rfl ?_
          refine lv_iconst (v := (-1)) X.1 X.2.1 dX5_fetch_51 (by decide) ?_
          refine lv_icmp_ne (tgt := 61) X.1 X.2.1 dX5_fetch_52 (by decide) (fun c52 => ?_) (fun c52 => ?_)
          · exact absurd rfl c52
          · refine f_aload (v := .ref (ad 0)) X hl ⟨_, rfl, dX5_fetch_55⟩ rfl ⟨(some (ad 0)), rfl⟩ ?_
            refine lv_iconst (v := 1) X.1 X.2.1 dX5_fetch_56 (by decide) ?_
            refine f_callVi (rest := []) X Z hl.1 (c_X5_no l G w tg ad F sd na ro wi y.2.2.2.2.1 hM 1 (by decide)) (cwV 1 X.2.2.2.2 gX5_fetch_X5_no rfl rfl rfl (by decide +kernel) ⟨(Nat.le_of_ble_eq_true rfl), (Nat.le_of_ble_eq_true rfl)⟩) rfl rfl dX5_fetch_57 ⟨(Nat.le_of_ble_eq_true rfl), (Nat.le_of_ble_eq_true rfl)⟩ rfl (Nat.le_of_ble_eq_true rfl) km0 (fun r57 w3 H locs p57 Z => ?_)
            obtain ⟨hrT, hwT⟩ := p57
            exact f_iret X hr hlk Z (Nat.le_of_ble_eq_true rfl) (Nat.le_of_ble_eq_true rfl) dX5_fetch_60 (outM_no hP hM FrM.rf hrT hwT (by unfold sp_fetch; rw [if_pos c4]; rw [if_neg (fun z => z hwhy)]; unfold tn; rw [hpc, hyp]))
        · have hyp : y.1 (6 + pn) = d :: L.map Prod.snd := by rw [← h3, hTp]; rfl
          have h9p : F 9 pn = nI v := by rw [hfp pn hpn, hTp]; rfl
          have hp := h1.1 (6 + pn) 0 v d (by rw [hTp]; rfl)
          have hv6 := hp.1
          have hcl : (nI v).toNatClampNeg = v := nI_clamp (by omega)
          refine f_iald X Z dX5_fetch_48 km9 (vp_in_nI hp12 (by decide)) ?_
          rw [hpc]
          rw [h9p]
          refine f_istore X hl ⟨_, rfl, dX5_fetch_49⟩ (by decide) (fun ls hl => ?_)
          have hl : lV ls _ [some (.ref (ad 0)), some (.int (nI pn)), some (.int t), some (.int (nI v))] := hl
          refine f_iload X hl ⟨_, rfl, dX5_fetch_50⟩ rfl ?_
          refine lv_iconst (v := (-1)) X.1 X.2.1 dX5_fetch_51 (by decide) ?_
          refine lv_icmp_ne (tgt := 61) X.1 X.2.1 dX5_fetch_52 (by decide) (fun c52 => ?_) (fun c52 => ?_)
          · refine f_aload (v := .ref (ad 0)) X hl ⟨_, rfl, dX5_fetch_61⟩ rfl ⟨(some (ad 0)), rfl⟩ ?_
            refine f_get (v := .ref (ad 9)) (k := 10) X Z i5 rfl (by decide) (by decide +kernel) dX5_fetch_62 km0 rfl ?_
            refine f_iload X hl ⟨_, rfl, dX5_fetch_65⟩ rfl ?_
            refine lv_iconst (v := (-1)) X.1 X.2.1 dX5_fetch_66 (by decide) ?_
            refine f_iast X Z dX5_fetch_67 km9 (vp_in_nI hp12 (by decide)) (fun H locs w4 e5 Z => ?_)
            rw [hpc] at e5
            have e5 : w4 = va_up w (ad 9) (some (aI G 12 (upd (F 9) pn (-1)))) := e5
            have fm18 : FrM w tg w4 := by rw [e5]; exact FrM.put FrM.rf (hM.2.2 9 (by decide))
            have k6 : w4 (ad 0) = some (cMo (some (ad 1)) (some (ad 2)) (some (ad 3)) (some (ad 4)) (some (ad 5)) (some (ad 6)) (some (ad 7)) (some (ad 8)) sd na (some (ad 9)) ro wi (some (ad 10)) y.2.2.2.2.1 (some (ad 11))) := by rw [e5]; exact lk_ne (adne hM 0 9 (by decide) (by decide) (by decide)) km0
            have k7 : w4 (ad 1) = some (aI G 600 (F 1)) := by rw [e5]; exact lk_ne (adne hM 1 9 (by decide) (by decide) (by decide)) km1
            have k8 : w4 (ad 2) = some (aI G 600 (F 2)) := by rw [e5]; exact lk_ne (adne hM 2 9 (by decide) (by decide) (by decide)) km2
            have k9 : w4 (ad 3) = some (aI G 600 (F 3)) := by rw [e5]; exact lk_ne (adne hM 3 9 (by decide) (by decide) (by decide)) km3
            have k10 : w4 (ad 4) = some (aI G 600 (F 4)) := by rw [e5]; exact lk_ne (adne hM 4 9 (by decide) (by decide) (by decide)) km4
            have k11 : w4 (ad 5) = some (aI G 7200 (F 5)) := by rw [e5]; exact lk_ne (adne hM 5 9 (by decide) (by decide) (by decide)) km5
            have k12 : w4 (ad 6) = some (aI G 600 (F 6)) := by rw [e5]; exact lk_ne (adne hM 6 9 (by decide) (by decide) (by decide)) km6
            have k13 : w4 (ad 7) = some (aZ G 600 (F 7)) := by rw [e5]; exact lk_ne (adne hM 7 9 (by decide) (by decide) (by decide)) km7
            have k14 : w4 (ad 8) = some (aI G 6 (F 8)) := by rw [e5]; exact lk_ne (adne hM 8 9 (by decide) (by decide) (by decide)) km8
            have k15 : w4 (ad 10) = some (aI G 144 (F 10)) := by rw [e5]; exact lk_ne (adne hM 10 9 (by decide) (by decide) (by decide)) km10
            have k16 : w4 (ad 11) = some (aI G 8 (F 11)) := by rw [e5]; exact lk_ne (adne hM 11 9 (by decide) (by decide) (by decide)) km11
            have k17 : w4 (ad 9) = some (aI G 12 (upd (F 9) pn (-1))) := by rw [e5]; exact up_eq
            refine f_aload (v := .ref (ad 0)) X hl ⟨_, rfl, dX5_fetch_68⟩ rfl ⟨(some (ad 0)), rfl⟩ ?_
            refine f_get (v := .ref (ad 6)) (k := 5) X Z i5 rfl (by decide) (by decide +kernel) dX5_fetch_69 k6 rfl ?_
            refine f_iload X hl ⟨_, rfl, dX5_fetch_72⟩ rfl ?_
            refine f_aload (v := .ref (ad 0)) X hl ⟨_, rfl, dX5_fetch_73⟩ rfl ⟨(some (ad 0)), rfl⟩ ?_
            refine f_get (v := .ref (ad 8)) (k := 7) X Z i5 rfl (by decide) (by decide +kernel) dX5_fetch_74 k6 rfl ?_
            refine f_iload X hl ⟨_, rfl, dX5_fetch_77⟩ rfl ?_
            refine f_iald X Z dX5_fetch_78 k14 hin_j ?_
            rw [hjt_j]
            refine f_iast X Z dX5_fetch_79 k12 (vp_in_nI hv6 (by decide)) (fun H locs w19 e20 Z => ?_)
            rw [hcl] at e20
            have e20 : w19 = va_up w4 (ad 6) (some (aI G 600 (upd (F 6) v ((F 8) j)))) := e20
            have fm33 : FrM w tg w19 := by rw [e20]; exact FrM.put fm18 (hM.2.2 6 (by decide))
            have k21 : w19 (ad 0) = some (cMo (some (ad 1)) (some (ad 2)) (some (ad 3)) (some (ad 4)) (some (ad 5)) (some (ad 6)) (some (ad 7)) (some (ad 8)) sd na (some (ad 9)) ro wi (some (ad 10)) y.2.2.2.2.1 (some (ad 11))) := by rw [e20]; exact lk_ne (adne hM 0 6 (by decide) (by decide) (by decide)) k6
            have k22 : w19 (ad 1) = some (aI G 600 (F 1)) := by rw [e20]; exact lk_ne (adne hM 1 6 (by decide) (by decide) (by decide)) k7
            have k23 : w19 (ad 2) = some (aI G 600 (F 2)) := by rw [e20]; exact lk_ne (adne hM 2 6 (by decide) (by decide) (by decide)) k8
            have k24 : w19 (ad 3) = some (aI G 600 (F 3)) := by rw [e20]; exact lk_ne (adne hM 3 6 (by decide) (by decide) (by decide)) k9
            have k25 : w19 (ad 4) = some (aI G 600 (F 4)) := by rw [e20]; exact lk_ne (adne hM 4 6 (by decide) (by decide) (by decide)) k10
            have k26 : w19 (ad 5) = some (aI G 7200 (F 5)) := by rw [e20]; exact lk_ne (adne hM 5 6 (by decide) (by decide) (by decide)) k11
            have k27 : w19 (ad 7) = some (aZ G 600 (F 7)) := by rw [e20]; exact lk_ne (adne hM 7 6 (by decide) (by decide) (by decide)) k13
            have k28 : w19 (ad 8) = some (aI G 6 (F 8)) := by rw [e20]; exact lk_ne (adne hM 8 6 (by decide) (by decide) (by decide)) k14
            have k29 : w19 (ad 10) = some (aI G 144 (F 10)) := by rw [e20]; exact lk_ne (adne hM 10 6 (by decide) (by decide) (by decide)) k15
            have k30 : w19 (ad 11) = some (aI G 8 (F 11)) := by rw [e20]; exact lk_ne (adne hM 11 6 (by decide) (by decide) (by decide)) k16
            have k31 : w19 (ad 9) = some (aI G 12 (upd (F 9) pn (-1))) := by rw [e20]; exact lk_ne (adne hM 9 6 (by decide) (by decide) (by decide)) k17
            have k32 : w19 (ad 6) = some (aI G 600 (upd (F 6) v ((F 8) j))) := by rw [e20]; exact up_eq
            refine f_aload (v := .ref (ad 0)) X hl ⟨_, rfl, dX5_fetch_80⟩ rfl ⟨(some (ad 0)), rfl⟩ ?_
            refine f_get (v := .ref (ad 8)) (k := 7) X Z i5 rfl (by decide) (by decide +kernel) dX5_fetch_81 k21 rfl ?_
            refine f_iload X hl ⟨_, rfl, dX5_fetch_84⟩ rfl ?_
            refine f_iload X hl ⟨_, rfl, dX5_fetch_85⟩ rfl ?_
            refine f_iast X Z dX5_fetch_86 k28 hin_j (fun H locs w34 e35 Z => ?_)
            rw [hjt_j] at e35
            have e35 : w34 = va_up w19 (ad 8) (some (aI G 6 (upd (F 8) j (nI v)))) := e35
            have fm48 : FrM w tg w34 := by rw [e35]; exact FrM.put fm33 (hM.2.2 8 (by decide))
            have k36 : w34 (ad 0) = some (cMo (some (ad 1)) (some (ad 2)) (some (ad 3)) (some (ad 4)) (some (ad 5)) (some (ad 6)) (some (ad 7)) (some (ad 8)) sd na (some (ad 9)) ro wi (some (ad 10)) y.2.2.2.2.1 (some (ad 11))) := by rw [e35]; exact lk_ne (adne hM 0 8 (by decide) (by decide) (by decide)) k21
            have k37 : w34 (ad 1) = some (aI G 600 (F 1)) := by rw [e35]; exact lk_ne (adne hM 1 8 (by decide) (by decide) (by decide)) k22
            have k38 : w34 (ad 2) = some (aI G 600 (F 2)) := by rw [e35]; exact lk_ne (adne hM 2 8 (by decide) (by decide) (by decide)) k23
            have k39 : w34 (ad 3) = some (aI G 600 (F 3)) := by rw [e35]; exact lk_ne (adne hM 3 8 (by decide) (by decide) (by decide)) k24
            have k40 : w34 (ad 4) = some (aI G 600 (F 4)) := by rw [e35]; exact lk_ne (adne hM 4 8 (by decide) (by decide) (by decide)) k25
            have k41 : w34 (ad 5) = some (aI G 7200 (F 5)) := by rw [e35]; exact lk_ne (adne hM 5 8 (by decide) (by decide) (by decide)) k26
            have k42 : w34 (ad 7) = some (aZ G 600 (F 7)) := by rw [e35]; exact lk_ne (adne hM 7 8 (by decide) (by decide) (by decide)) k27
            have k43 : w34 (ad 10) = some (aI G 144 (F 10)) := by rw [e35]; exact lk_ne (adne hM 10 8 (by decide) (by decide) (by decide)) k29
            have k44 : w34 (ad 11) = some (aI G 8 (F 11)) := by rw [e35]; exact lk_ne (adne hM 11 8 (by decide) (by decide) (by decide)) k30
            have k45 : w34 (ad 9) = some (aI G 12 (upd (F 9) pn (-1))) := by rw [e35]; exact lk_ne (adne hM 9 8 (by decide) (by decide) (by decide)) k31
            have k46 : w34 (ad 6) = some (aI G 600 (upd (F 6) v ((F 8) j))) := by rw [e35]; exact lk_ne (adne hM 6 8 (by decide) (by decide) (by decide)) k32
            have k47 : w34 (ad 8) = some (aI G 6 (upd (F 8) j (nI v))) := by rw [e35]; exact up_eq
            refine f_aload (v := .ref (ad 0)) X hl ⟨_, rfl, dX5_fetch_87⟩ rfl ⟨(some (ad 0)), rfl⟩ ?_
            refine f_iload X hl ⟨_, rfl, dX5_fetch_88⟩ rfl ?_
            have hP2 := hP.fetch (F' := (mkF (F 1) (F 2) (F 3) (F 4) (F 5) (upd (F 6) v ((F 8) j)) (F 7) (upd (F 8) j (nI v)) (upd (F 9) pn (-1)) (F 10) (F 11))) hj_j hTp hos hpn rfl rfl rfl rfl rfl rfl rfl rfl rfl rfl rfl
            have hl2 : ((va_up (va_up T (6 + pn) []) j ((v, d) :: T j)) j).length ≤ 2000 := by rw [hP2.len]; have := hP.lenT hY hn hj_j; have := hP.len j; simp only [yset, va_up, if_true, List.length_cons]; omega
            refine f_callVi (rest := []) X Z hl.1 (c_X5_countOf l G w34 tg ad (mkF (F 1) (F 2) (F 3) (F 4) (F 5) (upd (F 6) v ((F 8) j)) (F 7) (upd (F 8) j (nI v)) (upd (F 9) pn (-1)) (F 10) (F 11)) sd na ro wi y.2.2.2.2.1 (MW.of hM k36 k37 k38 k39 k40 k41 k46 k42 k47 k45 k43 k44) t j ((va_up (va_up T (6 + pn) []) j ((v, d) :: T j)) j) hjt_j hin_j (hP2.ch hj_j hl2)) (cwV 1 X.2.2.2.2 gX5_fetch_X5_countOf rfl rfl rfl (by decide +kernel) ⟨(Nat.le_of_ble_eq_true rfl), (Nat.le_of_ble_eq_true rfl)⟩) rfl rfl dX5_fetch_89 ⟨(Nat.le_of_ble_eq_true rfl), (Nat.le_of_ble_eq_true rfl)⟩ rfl (Nat.le_of_ble_eq_true rfl) k36 (fun r89 w49 H locs p89 Z => ?_)
            obtain ⟨w49e, hr89⟩ := p89
            have w49e := w49e.symm
            subst w49e
            exact f_iret X hr hlk Z (Nat.le_of_ble_eq_true rfl) (Nat.le_of_ble_eq_true rfl) dX5_fetch_92 (outM_of hP2 (MW.of hM k36 k37 k38 k39 k40 k41 k46 k42 k47 k45 k43 k44) (by omega) fm48 (by unfold sp_fetch; rw [if_pos c4]; rw [if_neg (fun z => z hwhy)]; unfold tn; rw [hpc, hyp, hjt_j, hr89, up_at, List.length_cons, hP.len j]))
          · exact absurd c52 (enc_ne hv6)
      · rw [hr31, bI_0] at c34
        rw [hsd, n1_toInt hs12, kc_0] at c34
        have hwhy : whyP y.2.1 p0 = 5 := by rw [hos, whyP_in, if_neg (by omega)]
        refine f_aload (v := .ref (ad 0)) X hl ⟨_, rfl, dX5_fetch_37⟩ rfl ⟨(some (ad 0)), rfl⟩ ?_
        refine lv_iconst (v := 5) X.1 X.2.1 dX5_fetch_38 (by decide) ?_
        refine f_callVi (rest := []) X Z hl.1 (c_X5_no l G w tg ad F sd na ro wi y.2.2.2.2.1 hM 5 (by decide)) (cwV 1 X.2.2.2.2 gX5_fetch_X5_no rfl rfl rfl (by decide +kernel) ⟨(Nat.le_of_ble_eq_true rfl), (Nat.le_of_ble_eq_true rfl)⟩) rfl rfl dX5_fetch_39 ⟨(Nat.le_of_ble_eq_true rfl), (Nat.le_of_ble_eq_true rfl)⟩ rfl (Nat.le_of_ble_eq_true rfl) km0 (fun r39 w50 H locs p39 Z => ?_)
        obtain ⟨hrT, hwT⟩ := p39
        exact f_iret X hr hlk Z (Nat.le_of_ble_eq_true rfl) (Nat.le_of_ble_eq_true rfl) dX5_fetch_42 (outM_no hP hM FrM.rf hrT hwT (by unfold sp_fetch; rw [if_pos c4]; rw [hwhy]; rfl))
    · have hos := SMn h5 c14
      refine f_aload (v := .ref (ad 0)) X hl ⟨_, rfl, dX5_fetch_17⟩ rfl ⟨(some (ad 0)), rfl⟩ ?_
      refine lv_iconst (v := 1) X.1 X.2.1 dX5_fetch_18 (by decide) ?_
      refine f_callVi (rest := []) X Z hl.1 (c_X5_no l G w tg ad F sd na ro wi y.2.2.2.2.1 hM 1 (by decide)) (cwV 1 X.2.2.2.2 gX5_fetch_X5_no rfl rfl rfl (by decide +kernel) ⟨(Nat.le_of_ble_eq_true rfl), (Nat.le_of_ble_eq_true rfl)⟩) rfl rfl dX5_fetch_19 ⟨(Nat.le_of_ble_eq_true rfl), (Nat.le_of_ble_eq_true rfl)⟩ rfl (Nat.le_of_ble_eq_true rfl) km0 (fun r19 w51 H locs p19 Z => ?_)
      obtain ⟨hrT, hwT⟩ := p19
      exact f_iret X hr hlk Z (Nat.le_of_ble_eq_true rfl) (Nat.le_of_ble_eq_true rfl) dX5_fetch_22 (outM_no hP hM FrM.rf hrT hwT (by unfold sp_fetch; rw [if_pos c4]; rw [hos]; rfl))
  · rw [hr1, bI_0] at c4
    refine lv_iconst (v := (-1)) X.1 X.2.1 dX5_fetch_7 (by decide) ?_
    exact f_iret X hr hlk Z (Nat.le_of_ble_eq_true rfl) (Nat.le_of_ble_eq_true rfl) dX5_fetch_8 (outM_same hR (if_neg c4))
set_option maxHeartbeats 4000000 in
set_option maxRecDepth 100000 in
theorem c_X5_stow (l : Launch) (G : gT) (w : wT) (tg : tT) (ad : Nat → Nat) (c nb : Nat) (y : Yd) (hR : RepM G tg w ad c y) (hY : Yok nb y) (hn : nb ≤ 512) (p0 t : Int32) : Met l yX5_stow wsX5_stow ({ frames := 2, cells := 0, slots := 0, locals := 42 }) (va_Pc [.ref (ad 0), .int p0, .int t] (wG G w)) (Qi G (OutM G tg w ad c (sp_stow p0 t y))) 0 0 (fr G) := by
  refine f_met (cc := cX5_stow) (maxL := 4) (ret := (some .int)) (by decide) rfl rfl (Nat.le_of_ble_eq_true rfl) ?_
  intro p e s m below meth cd X hr hlk hnm Z ls hl
  have X : CallFix p m cd cX5_stow 4 s [.ref (ad 0), .int p0, .int t].toArray wsX5_stow RX5 := X
  have hl : lV ls _ [some (.ref (ad 0)), some (.int p0), some (.int t), none] := hl
  have i5 : ∀ w ∈ wsX50, w ∈ wsX5_stow := by decide +kernel
  obtain ⟨F, sd, na, ro, wi, T, hM, hP⟩ := id hR
  obtain ⟨h1, h2, h3, h4, h5, h6, h7⟩ := id hP
  have km0 := hM.1
  have km1 : w (ad 1) = some (aI G 600 (F 1)) := hM.2.1 1 (by decide) (by decide)
  have km2 : w (ad 2) = some (aI G 600 (F 2)) := hM.2.1 2 (by decide) (by decide)
  have km3 : w (ad 3) = some (aI G 600 (F 3)) := hM.2.1 3 (by decide) (by decide)
  have km4 : w (ad 4) = some (aI G 600 (F 4)) := hM.2.1 4 (by decide) (by decide)
  have km5 : w (ad 5) = some (aI G 7200 (F 5)) := hM.2.1 5 (by decide) (by decide)
  have km6 : w (ad 6) = some (aI G 600 (F 6)) := hM.2.1 6 (by decide) (by decide)
  have km7 : w (ad 7) = some (aZ G 600 (F 7)) := hM.2.1 7 (by decide) (by decide)
  have km8 : w (ad 8) = some (aI G 6 (F 8)) := hM.2.1 8 (by decide) (by decide)
  have km9 : w (ad 9) = some (aI G 12 (F 9)) := hM.2.1 9 (by decide) (by decide)
  have km10 : w (ad 10) = some (aI G 144 (F 10)) := hM.2.1 10 (by decide) (by decide)
  have km11 : w (ad 11) = some (aI G 8 (F 11)) := hM.2.1 11 (by decide) (by decide)
  refine f_iload X hl ⟨_, rfl, dX5_stow_0⟩ rfl ?_
  refine f_callSi (rest := []) X Z hl.1 (c_X5_isTrack l G _ _) (va_cwS 1 X.2.2.2.2 gX5_stow_X5_isTrack rfl rfl rfl (by decide +kernel) ⟨(Nat.le_of_ble_eq_true rfl), (Nat.le_of_ble_eq_true rfl)⟩) rfl dX5_stow_1 ⟨(Nat.le_of_ble_eq_true rfl), (Nat.le_of_ble_eq_true rfl)⟩ rfl (Nat.le_of_ble_eq_true rfl) (fun r1 w1 H locs p1 Z => ?_)
  obtain ⟨w1e, hr1⟩ := p1
  have w1e := w1e.symm
  subst w1e
  refine lv_if_ne (tgt := 9) X.1 X.2.1 dX5_stow_4 (by decide) (fun c4 => ?_) (fun c4 => ?_)
  · rw [hr1, bI_0, Classical.not_not] at c4
    obtain ⟨j, hjt_j⟩ : ∃ j, t.toNatClampNeg = j := ⟨_, rfl⟩
    have hj_j : j < 6 := hjt_j ▸ tn_lt c4
    have hin_j : vp_in t 6 := vp_in_iff.mpr c4
    have hch_j : chM F j (T j) := hP.ch hj_j (Nat.le_trans (hP.lenT hY hn hj_j) (by decide))
    refine f_aload (v := .ref (ad 0)) X hl ⟨_, rfl, dX5_stow_9⟩ rfl ⟨(some (ad 0)), rfl⟩ ?_
    refine f_get (v := .ref (ad 8)) (k := 7) X Z i5 rfl (by decide) (by decide +kernel) dX5_stow_10 km0 rfl ?_
    refine f_iload X hl ⟨_, rfl, dX5_stow_13⟩ rfl ?_
    rcases hTj : T j with _ | ⟨⟨v, d⟩, L⟩
    · have hyj : y.1 j = [] := by rw [← h3 j, hTj]; rfl
      have h8j : F 8 j = -1 := by rw [h2 j hj_j, hTj]; rfl
      refine f_iald X Z dX5_stow_14 km8 hin_j ?_
      rw [hjt_j]
      rw [h8j]
      refine f_istore X hl ⟨_, rfl, dX5_stow_15⟩ (by decide) (fun ls hl => ?_)
      have hl : lV ls _ [some (.ref (ad 0)), some (.int p0), some (.int t), some (.int (-1))] := hl
      refine f_iload X hl ⟨_, rfl, dX5_stow_16⟩ rfl ?_
      refine lv_iconst (v := (-1)) X.1 X.2.1 dX5_stow_17 (by decide) ?_
      refine lv_icmp_eq (tgt := 37) X.1 X.2.1 dX5_stow_18 (by decide) (fun c18 => ?_) (fun c18 => ?_)
      · refine f_aload (v := .ref (ad 0)) X hl ⟨_, rfl, dX5_stow_37⟩ rfl ⟨(some (ad 0)), rfl⟩ ?_
        refine f_get (v := .int sd) (k := 8) X Z i5 rfl (by decide) (by decide +kernel) dX5_stow_38 km0 rfl ?_
        refine lv_iconst (v := (-1)) X.1 X.2.1 dX5_stow_41 (by decide) ?_
        refine lv_icmp_ne (tgt := 51) X.1 X.2.1 dX5_stow_42 (by decide) (fun c42 => ?_) (fun c42 => ?_)
        · obtain ⟨sn, sb, hsd, hnb, hos, hs12, hfp⟩ := SMo h5 c42
          refine f_iload X hl ⟨_, rfl, dX5_stow_51⟩ rfl ?_
          refine lv_iconst (v := 0) X.1 X.2.1 dX5_stow_52 (by decide) ?_
          refine f_aload (v := .ref (ad 0)) X hl ⟨_, rfl, dX5_stow_53⟩ rfl ⟨(some (ad 0)), rfl⟩ ?_
          refine f_get (v := .int sd) (k := 8) X Z i5 rfl (by decide) (by decide +kernel) dX5_stow_54 km0 rfl ?_
          refine lv_iconst (v := 1) X.1 X.2.1 dX5_stow_57 (by decide) ?_
          refine lv_isub X.1 X.2.1 dX5_stow_58 ?_
          refine f_callSi (rest := []) X Z hl.1 (c_X5_in l G _ _ _ _) (va_cwS 3 X.2.2.2.2 gX5_stow_X5_in rfl rfl rfl (by decide +kernel) ⟨(Nat.le_of_ble_eq_true rfl), (Nat.le_of_ble_eq_true rfl)⟩) rfl dX5_stow_59 ⟨(Nat.le_of_ble_eq_true rfl), (Nat.le_of_ble_eq_true rfl)⟩ rfl (Nat.le_of_ble_eq_true rfl) (fun r59 w2 H locs p59 Z => ?_)
          obtain ⟨w2e, hr59⟩ := p59
          have w2e := w2e.symm
          subst w2e
          refine lv_if_ne (tgt := 71) X.1 X.2.1 dX5_stow_62 (by decide) (fun c62 => ?_) (fun c62 => ?_)
          · rw [hr59, bI_0, Classical.not_not] at c62
            rw [hsd, n1_toInt hs12, kc_0] at c62
            obtain ⟨pn, hpn31, rfl⟩ := nI_of (x := p0) (by rw [Int32.lt_iff_toInt_lt, kc_0]; omega)
            rw [nI_toInt hpn31] at c62
            have hpn : pn < sn := by omega
            have hp12 : pn < 12 := by omega
            have hpc : (nI pn).toNatClampNeg = pn := nI_clamp hpn31
            have hwhy : whyP y.2.1 (nI pn) = 0 := by rw [hos, whyP_in, if_pos (by rw [nI_toInt hpn31]; omega)]
            refine f_aload (v := .ref (ad 0)) X hl ⟨_, rfl, dX5_stow_71⟩ rfl ⟨(some (ad 0)), rfl⟩ ?_
            refine f_get (v := .int na) (k := 9) X Z i5 rfl (by decide) (by decide +kernel) dX5_stow_72 km0 rfl ?_
            refine lv_if_eq (tgt := 99) X.1 X.2.1 dX5_stow_75 (by decide) (fun c75 => ?_) (fun c75 => ?_)
            · refine f_aload (v := .ref (ad 0)) X hl ⟨_, rfl, dX5_stow_99⟩ rfl ⟨(some (ad 0)), rfl⟩ ?_
              refine f_iload X hl ⟨_, rfl, dX5_stow_100⟩ rfl ?_
              refine f_callVv (rest := []) X Z hl.1 (c_X5_empty l G w tg ad F sd na ro wi y.2.2.2.2.1 hM pn hp12 (hd (T (6 + pn))) (hfp pn hpn) (fun v1 hz => by obtain ⟨d1, hd1⟩ := hd_at hz; exact (h1.1 _ _ v1 d1 hd1).1)) (cwV 1 X.2.2.2.2 gX5_stow_X5_empty rfl rfl rfl (by decide +kernel) ⟨(Nat.le_of_ble_eq_true rfl), (Nat.le_of_ble_eq_true rfl)⟩) rfl rfl dX5_stow_101 ⟨(Nat.le_of_ble_eq_true rfl), (Nat.le_of_ble_eq_true rfl)⟩ rfl (Nat.le_of_ble_eq_true rfl) km0 (fun w3 H locs p101 Z => ?_)
              obtain ⟨F1, hM1, hf1, e9, e7, ek⟩ := p101
              have u40 := hM1.1
              have u4_1 : w3 (ad 1) = some (aI G 600 (F1 1)) := hM1.2.1 1 (by decide) (by decide)
              have u4_2 : w3 (ad 2) = some (aI G 600 (F1 2)) := hM1.2.1 2 (by decide) (by decide)
              have u4_3 : w3 (ad 3) = some (aI G 600 (F1 3)) := hM1.2.1 3 (by decide) (by decide)
              have u4_4 : w3 (ad 4) = some (aI G 600 (F1 4)) := hM1.2.1 4 (by decide) (by decide)
              have u4_5 : w3 (ad 5) = some (aI G 7200 (F1 5)) := hM1.2.1 5 (by decide) (by decide)
              have u4_6 : w3 (ad 6) = some (aI G 600 (F1 6)) := hM1.2.1 6 (by decide) (by decide)
              have u4_7 : w3 (ad 7) = some (aZ G 600 (F1 7)) := hM1.2.1 7 (by decide) (by decide)
              have u4_8 : w3 (ad 8) = some (aI G 6 (F1 8)) := hM1.2.1 8 (by decide) (by decide)
              have u4_9 : w3 (ad 9) = some (aI G 12 (F1 9)) := hM1.2.1 9 (by decide) (by decide)
              have u4_10 : w3 (ad 10) = some (aI G 144 (F1 10)) := hM1.2.1 10 (by decide) (by decide)
              have u4_11 : w3 (ad 11) = some (aI G 8 (F1 11)) := hM1.2.1 11 (by decide) (by decide)
              have hP1 := hP.empty (F' := F1) hos hpn (ek 1 (by decide) (by decide) (by decide) (by decide)) (ek 2 (by decide) (by decide) (by decide) (by decide)) (ek 3 (by decide) (by decide) (by decide) (by decide)) (ek 4 (by decide) (by decide) (by decide) (by decide)) (ek 5 (by decide) (by decide) (by decide) (by decide)) (ek 6 (by decide) (by decide) (by decide) (by decide)) e7 (ek 8 (by decide) (by decide) (by decide) (by decide)) e9 (ek 10 (by decide) (by decide) (by decide) (by decide)) (ek 11 (by decide) (by decide) (by decide) (by decide))
              have hT1 : va_up T (6 + pn) [] j = T j := up_off (by omega)
              refine f_iload X hl ⟨_, rfl, dX5_stow_104⟩ rfl ?_
              refine lv_iconst (v := (-1)) X.1 X.2.1 dX5_stow_105 (by decide) ?_
              refine lv_icmp_ne (tgt := 115) X.1 X.2.1 dX5_stow_106 (by decide) (fun c106 => ?_) (fun c106 => ?_)
              · exact absurd rfl c106
              · refine f_aload (v := .ref (ad 0)) X hl ⟨_, rfl, dX5_stow_109⟩ rfl ⟨(some (ad 0)), rfl⟩ ?_
                refine lv_iconst (v := 1) X.1 X.2.1 dX5_stow_110 (by decide) ?_
                refine f_callVi (rest := []) X Z hl.1 (c_X5_no l G w3 tg ad F1 sd na ro wi y.2.2.2.2.1 hM1 1 (by decide)) (cwV 1 X.2.2.2.2 gX5_stow_X5_no rfl rfl rfl (by decide +kernel) ⟨(Nat.le_of_ble_eq_true rfl), (Nat.le_of_ble_eq_true rfl)⟩) rfl rfl dX5_stow_111 ⟨(Nat.le_of_ble_eq_true rfl), (Nat.le_of_ble_eq_true rfl)⟩ rfl (Nat.le_of_ble_eq_true rfl) u40 (fun r111 w5 H locs p111 Z => ?_)
                obtain ⟨hrT, hwT⟩ := p111
                exact f_iret X hr hlk Z (Nat.le_of_ble_eq_true rfl) (Nat.le_of_ble_eq_true rfl) dX5_stow_114 (outM_no hP1 hM1 hf1 hrT hwT (by unfold sp_stow; rw [if_pos c4]; unfold tn; rw [hjt_j, hyj]; refine (if_neg (by simp [isE])).trans ?_; rw [if_neg (fun z => z hwhy), hpc]))
            · refine f_iload X hl ⟨_, rfl, dX5_stow_78⟩ rfl ?_
              refine lv_iconst (v := (-1)) X.1 X.2.1 dX5_stow_79 (by decide) ?_
              refine lv_icmp_eq (tgt := 99) X.1 X.2.1 dX5_stow_80 (by decide) (fun c80 => ?_) (fun c80 => ?_)
              · refine f_aload (v := .ref (ad 0)) X hl ⟨_, rfl, dX5_stow_99⟩ rfl ⟨(some (ad 0)), rfl⟩ ?_
                refine f_iload X hl ⟨_, rfl, dX5_stow_100⟩ rfl ?_
                refine f_callVv (rest := []) X Z hl.1 (c_X5_empty l G w tg ad F sd na ro wi y.2.2.2.2.1 hM pn hp12 (hd (T (6 + pn))) (hfp pn hpn) (fun v1 hz => by obtain ⟨d1, hd1⟩ := hd_at hz; exact (h1.1 _ _ v1 d1 hd1).1)) (cwV 1 X.2.2.2.2 gX5_stow_X5_empty rfl rfl rfl (by decide +kernel) ⟨(Nat.le_of_ble_eq_true rfl), (Nat.le_of_ble_eq_true rfl)⟩) rfl rfl dX5_stow_101 ⟨(Nat.le_of_ble_eq_true rfl), (Nat.le_of_ble_eq_true rfl)⟩ rfl (Nat.le_of_ble_eq_true rfl) km0 (fun w6 H locs p101 Z => ?_)
                obtain ⟨F1, hM1, hf1, e9, e7, ek⟩ := p101
                have u70 := hM1.1
                have u7_1 : w6 (ad 1) = some (aI G 600 (F1 1)) := hM1.2.1 1 (by decide) (by decide)
                have u7_2 : w6 (ad 2) = some (aI G 600 (F1 2)) := hM1.2.1 2 (by decide) (by decide)
                have u7_3 : w6 (ad 3) = some (aI G 600 (F1 3)) := hM1.2.1 3 (by decide) (by decide)
                have u7_4 : w6 (ad 4) = some (aI G 600 (F1 4)) := hM1.2.1 4 (by decide) (by decide)
                have u7_5 : w6 (ad 5) = some (aI G 7200 (F1 5)) := hM1.2.1 5 (by decide) (by decide)
                have u7_6 : w6 (ad 6) = some (aI G 600 (F1 6)) := hM1.2.1 6 (by decide) (by decide)
                have u7_7 : w6 (ad 7) = some (aZ G 600 (F1 7)) := hM1.2.1 7 (by decide) (by decide)
                have u7_8 : w6 (ad 8) = some (aI G 6 (F1 8)) := hM1.2.1 8 (by decide) (by decide)
                have u7_9 : w6 (ad 9) = some (aI G 12 (F1 9)) := hM1.2.1 9 (by decide) (by decide)
                have u7_10 : w6 (ad 10) = some (aI G 144 (F1 10)) := hM1.2.1 10 (by decide) (by decide)
                have u7_11 : w6 (ad 11) = some (aI G 8 (F1 11)) := hM1.2.1 11 (by decide) (by decide)
                have hP1 := hP.empty (F' := F1) hos hpn (ek 1 (by decide) (by decide) (by decide) (by decide)) (ek 2 (by decide) (by decide) (by decide) (by decide)) (ek 3 (by decide) (by decide) (by decide) (by decide)) (ek 4 (by decide) (by decide) (by decide) (by decide)) (ek 5 (by decide) (by decide) (by decide) (by decide)) (ek 6 (by decide) (by decide) (by decide) (by decide)) e7 (ek 8 (by decide) (by decide) (by decide) (by decide)) e9 (ek 10 (by decide) (by decide) (by decide) (by decide)) (ek 11 (by decide) (by decide) (by decide) (by decide))
                have hT1 : va_up T (6 + pn) [] j = T j := up_off (by omega)
                refine f_iload X hl ⟨_, rfl, dX5_stow_104⟩ rfl ?_
                refine lv_iconst (v := (-1)) X.1 X.2.1 dX5_stow_105 (by decide) ?_
                refine lv_icmp_ne (tgt := 115) X.1 X.2.1 dX5_stow_106 (by decide) (fun c106 => ?_) (fun c106 => ?_)
                · exact absurd rfl c106
                · refine f_aload (v := .ref (ad 0)) X hl ⟨_, rfl, dX5_stow_109⟩ rfl ⟨(some (ad 0)), rfl⟩ ?_
                  refine lv_iconst (v := 1) X.1 X.2.1 dX5_stow_110 (by decide) ?_
                  refine f_callVi (rest := []) X Z hl.1 (c_X5_no l G w6 tg ad F1 sd na ro wi y.2.2.2.2.1 hM1 1 (by decide)) (cwV 1 X.2.2.2.2 gX5_stow_X5_no rfl rfl rfl (by decide +kernel) ⟨(Nat.le_of_ble_eq_true rfl), (Nat.le_of_ble_eq_true rfl)⟩) rfl rfl dX5_stow_111 ⟨(Nat.le_of_ble_eq_true rfl), (Nat.le_of_ble_eq_true rfl)⟩ rfl (Nat.le_of_ble_eq_true rfl) u70 (fun r111 w8 H locs p111 Z => ?_)
                  obtain ⟨hrT, hwT⟩ := p111
                  exact f_iret X hr hlk Z (Nat.le_of_ble_eq_true rfl) (Nat.le_of_ble_eq_true rfl) dX5_stow_114 (outM_no hP1 hM1 hf1 hrT hwT (by unfold sp_stow; rw [if_pos c4]; unfold tn; rw [hjt_j, hyj]; refine (if_neg (by simp [isE])).trans ?_; rw [if_neg (fun z => z hwhy), hpc]))
              · exact absurd rfl c80
          · rw [hr59, bI_0] at c62
            rw [hsd, n1_toInt hs12, kc_0] at c62
            have hwhy : whyP y.2.1 p0 = 5 := by rw [hos, whyP_in, if_neg (by omega)]
            refine f_aload (v := .ref (ad 0)) X hl ⟨_, rfl, dX5_stow_65⟩ rfl ⟨(some (ad 0)), rfl⟩ ?_
            refine lv_iconst (v := 5) X.1 X.2.1 dX5_stow_66 (by decide) ?_
            refine f_callVi (rest := []) X Z hl.1 (c_X5_no l G w tg ad F sd na ro wi y.2.2.2.2.1 hM 5 (by decide)) (cwV 1 X.2.2.2.2 gX5_stow_X5_no rfl rfl rfl (by decide +kernel) ⟨(Nat.le_of_ble_eq_true rfl), (Nat.le_of_ble_eq_true rfl)⟩) rfl rfl dX5_stow_67 ⟨(Nat.le_of_ble_eq_true rfl), (Nat.le_of_ble_eq_true rfl)⟩ rfl (Nat.le_of_ble_eq_true rfl) km0 (fun r67 w9 H locs p67 Z => ?_)
            obtain ⟨hrT, hwT⟩ := p67
            exact f_iret X hr hlk Z (Nat.le_of_ble_eq_true rfl) (Nat.le_of_ble_eq_true rfl) dX5_stow_70 (outM_no hP hM FrM.rf hrT hwT (by unfold sp_stow; rw [if_pos c4]; unfold tn; rw [hjt_j, hyj]; refine (if_neg (by simp [isE])).trans ?_; rw [hwhy]; rfl))
        · have hos := SMn h5 c42
          refine f_aload (v := .ref (ad 0)) X hl ⟨_, rfl, dX5_stow_45⟩ rfl ⟨(some (ad 0)), rfl⟩ ?_
          refine lv_iconst (v := 1) X.1 X.2.1 dX5_stow_46 (by decide) ?_
          refine f_callVi (rest := []) X Z hl.1 (c_X5_no l G w tg ad F sd na ro wi y.2.2.2.2.1 hM 1 (by decide)) (cwV 1 X.2.2.2.2 gX5_stow_X5_no rfl rfl rfl (by decide +kernel) ⟨(Nat.le_of_ble_eq_true rfl), (Nat.le_of_ble_eq_true rfl)⟩) rfl rfl dX5_stow_47 ⟨(Nat.le_of_ble_eq_true rfl), (Nat.le_of_ble_eq_true rfl)⟩ rfl (Nat.le_of_ble_eq_true rfl) km0 (fun r47 w10 H locs p47 Z => ?_)
          obtain ⟨hrT, hwT⟩ := p47
          exact f_iret X hr hlk Z (Nat.le_of_ble_eq_true rfl) (Nat.le_of_ble_eq_true rfl) dX5_stow_50 (outM_no hP hM FrM.rf hrT hwT (by unfold sp_stow; rw [if_pos c4]; unfold tn; rw [hjt_j, hyj]; refine (if_neg (by simp [isE])).trans ?_; rw [hos]; rfl))
      · exact absurd rfl c18
    · have hd1 : (T j)[0]? = some (v, d) := by rw [hTj]; rfl
      have hyj : y.1 j = d :: L.map Prod.snd := by rw [← h3 j, hTj]; rfl
      have h8j : F 8 j = nI v := by rw [h2 j hj_j, hTj]; rfl
      have hp := h1.1 j 0 v d hd1
      obtain ⟨hv6, hso, hwe, hde, hcr, hbh, hus⟩ := id hp
      have hcl : (nI v).toNatClampNeg = v := nI_clamp (by omega)
      refine f_iald X Z dX5_stow_14 km8 hin_j ?_
      rw [hjt_j]
      rw [h8j]
      refine f_istore X hl ⟨_, rfl, dX5_stow_15⟩ (by decide) (fun ls hl => ?_)
      have hl : lV ls _ [some (.ref (ad 0)), some (.int p0), some (.int t), some (.int (nI v))] := hl
      refine f_iload X hl ⟨_, rfl, dX5_stow_16⟩ rfl ?_
      refine lv_iconst (v := (-1)) X.1 X.2.1 dX5_stow_17 (by decide) ?_
      refine lv_icmp_eq (tgt := 37) X.1 X.2.1 dX5_stow_18 (by decide) (fun c18 => ?_) (fun c18 => ?_)
      · exact absurd c18 (enc_ne hv6)
      · refine f_aload (v := .ref (ad 0)) X hl ⟨_, rfl, dX5_stow_21⟩ rfl ⟨(some (ad 0)), rfl⟩ ?_
        refine f_get (v := .ref (ad 1)) (k := 0) X Z i5 rfl (by decide) (by decide +kernel) dX5_stow_22 km0 rfl ?_
        refine f_iload X hl ⟨_, rfl, dX5_stow_25⟩ rfl ?_
        refine f_iald X Z dX5_stow_26 km1 (vp_in_nI hv6 (by decide)) ?_
        rw [hcl]
        rw [hso]
        refine lv_iconst (v := 1) X.1 X.2.1 dX5_stow_27 (by decide) ?_
        refine lv_icmp_ne (tgt := 37) X.1 X.2.1 dX5_stow_28 (by decide) (fun c28 => ?_) (fun c28 => ?_)
        · have hso1 : ¬ d.1.toInt = 1 := fun z => c28 (Int32.toInt_inj.mp z)
          refine f_aload (v := .ref (ad 0)) X hl ⟨_, rfl, dX5_stow_37⟩ rfl ⟨(some (ad 0)), rfl⟩ ?_
          refine f_get (v := .int sd) (k := 8) X Z i5 rfl (by decide) (by decide +kernel) dX5_stow_38 km0 rfl ?_
          refine lv_iconst (v := (-1)) X.1 X.2.1 dX5_stow_41 (by decide) ?_
          refine lv_icmp_ne (tgt := 51) X.1 X.2.1 dX5_stow_42 (by decide) (fun c42 => ?_) (fun c42 => ?_)
          · obtain ⟨sn, sb, hsd, hnb, hos, hs12, hfp⟩ := SMo h5 c42
            refine f_iload X hl ⟨_, rfl, dX5_stow_51⟩ rfl ?_
            refine lv_iconst (v := 0) X.1 X.2.1 dX5_stow_52 (by decide) ?_
            refine f_aload (v := .ref (ad 0)) X hl ⟨_, rfl, dX5_stow_53⟩ rfl ⟨(some (ad 0)), rfl⟩ ?_
            refine f_get (v := .int sd) (k := 8) X Z i5 rfl (by decide) (by decide +kernel) dX5_stow_54 km0 rfl ?_
            refine lv_iconst (v := 1) X.1 X.2.1 dX5_stow_57 (by decide) ?_
            refine lv_isub X.1 X.2.1 dX5_stow_58 ?_
            refine f_callSi (rest := []) X Z hl.1 (c_X5_in l G _ _ _ _) (va_cwS 3 X.2.2.2.2 gX5_stow_X5_in rfl rfl rfl (by decide +kernel) ⟨(Nat.le_of_ble_eq_true rfl), (Nat.le_of_ble_eq_true rfl)⟩) rfl dX5_stow_59 ⟨(Nat.le_of_ble_eq_true rfl), (Nat.le_of_ble_eq_true rfl)⟩ rfl (Nat.le_of_ble_eq_true rfl) (fun r59 w11 H locs p59 Z => ?_)
            obtain ⟨w11e, hr59⟩ := p59
            have w11e := w11e.symm
            subst w11e
            refine lv_if_ne (tgt := 71) X.1 X.2.1 dX5_stow_62 (by decide) (fun c62 => ?_) (fun c62 => ?_)
            · rw [hr59, bI_0, Classical.not_not] at c62
              rw [hsd, n1_toInt hs12, kc_0] at c62
              obtain ⟨pn, hpn31, rfl⟩ := nI_of (x := p0) (by rw [Int32.lt_iff_toInt_lt, kc_0]; omega)
              rw [nI_toInt hpn31] at c62
              have hpn : pn < sn := by omega
              have hp12 : pn < 12 := by omega
              have hpc : (nI pn).toNatClampNeg = pn := nI_clamp hpn31
              have hwhy : whyP y.2.1 (nI pn) = 0 := by rw [hos, whyP_in, if_pos (by rw [nI_toInt hpn31]; omega)]
              refine f_aload (v := .ref (ad 0)) X hl ⟨_, rfl, dX5_stow_71⟩ rfl ⟨(some (ad 0)), rfl⟩ ?_
              refine f_get (v := .int na) (k := 9) X Z i5 rfl (by decide) (by decide +kernel) dX5_stow_72 km0 rfl ?_
              refine lv_if_eq (tgt := 99) X.1 X.2.1 dX5_stow_75 (by decide) (fun c75 => ?_) (fun c75 => ?_)
              · refine f_aload (v := .ref (ad 0)) X hl ⟨_, rfl, dX5_stow_99⟩ rfl ⟨(some (ad 0)), rfl⟩ ?_
                refine f_iload X hl ⟨_, rfl, dX5_stow_100⟩ rfl ?_
                refine f_callVv (rest := []) X Z hl.1 (c_X5_empty l G w tg ad F sd na ro wi y.2.2.2.2.1 hM pn hp12 (hd (T (6 + pn))) (hfp pn hpn) (fun v1 hz => by obtain ⟨d1, hd1⟩ := hd_at hz; exact (h1.1 _ _ v1 d1 hd1).1)) (cwV 1 X.2.2.2.2 gX5_stow_X5_empty rfl rfl rfl (by decide +kernel) ⟨(Nat.le_of_ble_eq_true rfl), (Nat.le_of_ble_eq_true rfl)⟩) rfl rfl dX5_stow_101 ⟨(Nat.le_of_ble_eq_true rfl), (Nat.le_of_ble_eq_true rfl)⟩ rfl (Nat.le_of_ble_eq_true rfl) km0 (fun w12 H locs p101 Z => ?_)
                obtain ⟨F1, hM1, hf1, e9, e7, ek⟩ := p101
                have u130 := hM1.1
                have u13_1 : w12 (ad 1) = some (aI G 600 (F1 1)) := hM1.2.1 1 (by decide) (by decide)
                have u13_2 : w12 (ad 2) = some (aI G 600 (F1 2)) := hM1.2.1 2 (by decide) (by decide)
                have u13_3 : w12 (ad 3) = some (aI G 600 (F1 3)) := hM1.2.1 3 (by decide) (by decide)
                have u13_4 : w12 (ad 4) = some (aI G 600 (F1 4)) := hM1.2.1 4 (by decide) (by decide)
                have u13_5 : w12 (ad 5) = some (aI G 7200 (F1 5)) := hM1.2.1 5 (by decide) (by decide)
                have u13_6 : w12 (ad 6) = some (aI G 600 (F1 6)) := hM1.2.1 6 (by decide) (by decide)
                have u13_7 : w12 (ad 7) = some (aZ G 600 (F1 7)) := hM1.2.1 7 (by decide) (by decide)
                have u13_8 : w12 (ad 8) = some (aI G 6 (F1 8)) := hM1.2.1 8 (by decide) (by decide)
                have u13_9 : w12 (ad 9) = some (aI G 12 (F1 9)) := hM1.2.1 9 (by decide) (by decide)
                have u13_10 : w12 (ad 10) = some (aI G 144 (F1 10)) := hM1.2.1 10 (by decide) (by decide)
                have u13_11 : w12 (ad 11) = some (aI G 8 (F1 11)) := hM1.2.1 11 (by decide) (by decide)
                have hP1 := hP.empty (F' := F1) hos hpn (ek 1 (by decide) (by decide) (by decide) (by decide)) (ek 2 (by decide) (by decide) (by decide) (by decide)) (ek 3 (by decide) (by decide) (by decide) (by decide)) (ek 4 (by decide) (by decide) (by decide) (by decide)) (ek 5 (by decide) (by decide) (by decide) (by decide)) (ek 6 (by decide) (by decide) (by decide) (by decide)) e7 (ek 8 (by decide) (by decide) (by decide) (by decide)) e9 (ek 10 (by decide) (by decide) (by decide) (by decide)) (ek 11 (by decide) (by decide) (by decide) (by decide))
                have hT1 : va_up T (6 + pn) [] j = T j := up_off (by omega)
                refine f_iload X hl ⟨_, rfl, dX5_stow_104⟩ rfl ?_
                refine lv_iconst (v := (-1)) X.1 X.2.1 dX5_stow_105 (by decide) ?_
                refine lv_icmp_ne (tgt := 115) X.1 X.2.1 dX5_stow_106 (by decide) (fun c106 => ?_) (fun c106 => ?_)
                · refine f_aload (v := .ref (ad 0)) X hl ⟨_, rfl, dX5_stow_115⟩ rfl ⟨(some (ad 0)), rfl⟩ ?_
                  refine f_get (v := .ref (ad 8)) (k := 7) X Z i5 rfl (by decide) (by decide +kernel) dX5_stow_116 u130 rfl ?_
                  refine f_iload X hl ⟨_, rfl, dX5_stow_119⟩ rfl ?_
                  refine f_aload (v := .ref (ad 0)) X hl ⟨_, rfl, dX5_stow_120⟩ rfl ⟨(some (ad 0)), rfl⟩ ?_
                  refine f_get (v := .ref (ad 6)) (k := 5) X Z i5 rfl (by decide) (by decide +kernel) dX5_stow_121 u130 rfl ?_
                  refine f_iload X hl ⟨_, rfl, dX5_stow_124⟩ rfl ?_
                  refine f_iald X Z dX5_stow_125 u13_6 (vp_in_nI hv6 (by decide)) ?_
                  rw [hcl]
                  refine f_iast X Z dX5_stow_126 u13_8 hin_j (fun H locs w14 e15 Z => ?_)
                  rw [hjt_j] at e15
                  have e15 : w14 = va_up w12 (ad 8) (some (aI G 6 (upd (F1 8) j ((F1 6) v)))) := e15
                  have fm28 : FrM w tg w14 := by rw [e15]; exact FrM.put hf1 (hM.2.2 8 (by decide))
                  have k16 : w14 (ad 0) = some (cMo (some (ad 1)) (some (ad 2)) (some (ad 3)) (some (ad 4)) (some (ad 5)) (some (ad 6)) (some (ad 7)) (some (ad 8)) sd na (some (ad 9)) ro wi (some (ad 10)) y.2.2.2.2.1 (some (ad 11))) := by rw [e15]; exact lk_ne (adne hM 0 8 (by decide) (by decide) (by decide)) u130
                  have k17 : w14 (ad 1) = some (aI G 600 (F1 1)) := by rw [e15]; exact lk_ne (adne hM 1 8 (by decide) (by decide) (by decide)) u13_1
                  have k18 : w14 (ad 2) = some (aI G 600 (F1 2)) := by rw [e15]; exact lk_ne (adne hM 2 8 (by decide) (by decide) (by decide)) u13_2
                  have k19 : w14 (ad 3) = some (aI G 600 (F1 3)) := by rw [e15]; exact lk_ne (adne hM 3 8 (by decide) (by decide) (by decide)) u13_3
                  have k20 : w14 (ad 4) = some (aI G 600 (F1 4)) := by rw [e15]; exact lk_ne (adne hM 4 8 (by decide) (by decide) (by decide)) u13_4
                  have k21 : w14 (ad 5) = some (aI G 7200 (F1 5)) := by rw [e15]; exact lk_ne (adne hM 5 8 (by decide) (by decide) (by decide)) u13_5
                  have k22 : w14 (ad 6) = some (aI G 600 (F1 6)) := by rw [e15]; exact lk_ne (adne hM 6 8 (by decide) (by decide) (by decide)) u13_6
                  have k23 : w14 (ad 7) = some (aZ G 600 (F1 7)) := by rw [e15]; exact lk_ne (adne hM 7 8 (by decide) (by decide) (by decide)) u13_7
                  have k24 : w14 (ad 9) = some (aI G 12 (F1 9)) := by rw [e15]; exact lk_ne (adne hM 9 8 (by decide) (by decide) (by decide)) u13_9
                  have k25 : w14 (ad 10) = some (aI G 144 (F1 10)) := by rw [e15]; exact lk_ne (adne hM 10 8 (by decide) (by decide) (by decide)) u13_10
                  have k26 : w14 (ad 11) = some (aI G 8 (F1 11)) := by rw [e15]; exact lk_ne (adne hM 11 8 (by decide) (by decide) (by decide)) u13_11
                  have k27 : w14 (ad 8) = some (aI G 6 (upd (F1 8) j ((F1 6) v))) := by rw [e15]; exact up_eq
                  refine f_aload (v := .ref (ad 0)) X hl ⟨_, rfl, dX5_stow_127⟩ rfl ⟨(some (ad 0)), rfl⟩ ?_
                  refine f_get (v := .ref (ad 6)) (k := 5) X Z i5 rfl (by decide) (by decide +kernel) dX5_stow_128 k16 rfl ?_
                  refine f_iload X hl ⟨_, rfl, dX5_stow_131⟩ rfl ?_
                  refine lv_iconst (v := (-1)) X.1 X.2.1 dX5_stow_132 (by decide) ?_
                  refine f_iast X Z dX5_stow_133 k22 (vp_in_nI hv6 (by decide)) (fun H locs w29 e30 Z => ?_)
                  rw [hcl] at e30
                  have e30 : w29 = va_up w14 (ad 6) (some (aI G 600 (upd (F1 6) v (-1)))) := e30
                  have fm43 : FrM w tg w29 := by rw [e30]; exact FrM.put fm28 (hM.2.2 6 (by decide))
                  have k31 : w29 (ad 0) = some (cMo (some (ad 1)) (some (ad 2)) (some (ad 3)) (some (ad 4)) (some (ad 5)) (some (ad 6)) (some (ad 7)) (some (ad 8)) sd na (some (ad 9)) ro wi (some (ad 10)) y.2.2.2.2.1 (some (ad 11))) := by rw [e30]; exact lk_ne (adne hM 0 6 (by decide) (by decide) (by decide)) k16
                  have k32 : w29 (ad 1) = some (aI G 600 (F1 1)) := by rw [e30]; exact lk_ne (adne hM 1 6 (by decide) (by decide) (by decide)) k17
                  have k33 : w29 (ad 2) = some (aI G 600 (F1 2)) := by rw [e30]; exact lk_ne (adne hM 2 6 (by decide) (by decide) (by decide)) k18
                  have k34 : w29 (ad 3) = some (aI G 600 (F1 3)) := by rw [e30]; exact lk_ne (adne hM 3 6 (by decide) (by decide) (by decide)) k19
                  have k35 : w29 (ad 4) = some (aI G 600 (F1 4)) := by rw [e30]; exact lk_ne (adne hM 4 6 (by decide) (by decide) (by decide)) k20
                  have k36 : w29 (ad 5) = some (aI G 7200 (F1 5)) := by rw [e30]; exact lk_ne (adne hM 5 6 (by decide) (by decide) (by decide)) k21
                  have k37 : w29 (ad 7) = some (aZ G 600 (F1 7)) := by rw [e30]; exact lk_ne (adne hM 7 6 (by decide) (by decide) (by decide)) k23
                  have k38 : w29 (ad 9) = some (aI G 12 (F1 9)) := by rw [e30]; exact lk_ne (adne hM 9 6 (by decide) (by decide) (by decide)) k24
                  have k39 : w29 (ad 10) = some (aI G 144 (F1 10)) := by rw [e30]; exact lk_ne (adne hM 10 6 (by decide) (by decide) (by decide)) k25
                  have k40 : w29 (ad 11) = some (aI G 8 (F1 11)) := by rw [e30]; exact lk_ne (adne hM 11 6 (by decide) (by decide) (by decide)) k26
                  have k41 : w29 (ad 8) = some (aI G 6 (upd (F1 8) j ((F1 6) v))) := by rw [e30]; exact lk_ne (adne hM 8 6 (by decide) (by decide) (by decide)) k27
                  have k42 : w29 (ad 6) = some (aI G 600 (upd (F1 6) v (-1))) := by rw [e30]; exact up_eq
                  refine f_aload (v := .ref (ad 0)) X hl ⟨_, rfl, dX5_stow_134⟩ rfl ⟨(some (ad 0)), rfl⟩ ?_
                  refine f_get (v := .ref (ad 9)) (k := 10) X Z i5 rfl (by decide) (by decide +kernel) dX5_stow_135 k31 rfl ?_
                  refine f_iload X hl ⟨_, rfl, dX5_stow_138⟩ rfl ?_
                  refine f_iload X hl ⟨_, rfl, dX5_stow_139⟩ rfl ?_
                  refine f_iast X Z dX5_stow_140 k38 (vp_in_nI hp12 (by decide)) (fun H locs w44 e45 Z => ?_)
                  rw [hpc] at e45
                  have e45 : w44 = va_up w29 (ad 9) (some (aI G 12 (upd (F1 9) pn (nI v)))) := e45
                  have fm58 : FrM w tg w44 := by rw [e45]; exact FrM.put fm43 (hM.2.2 9 (by decide))
                  have k46 : w44 (ad 0) = some (cMo (some (ad 1)) (some (ad 2)) (some (ad 3)) (some (ad 4)) (some (ad 5)) (some (ad 6)) (some (ad 7)) (some (ad 8)) sd na (some (ad 9)) ro wi (some (ad 10)) y.2.2.2.2.1 (some (ad 11))) := by rw [e45]; exact lk_ne (adne hM 0 9 (by decide) (by decide) (by decide)) k31
                  have k47 : w44 (ad 1) = some (aI G 600 (F1 1)) := by rw [e45]; exact lk_ne (adne hM 1 9 (by decide) (by decide) (by decide)) k32
                  have k48 : w44 (ad 2) = some (aI G 600 (F1 2)) := by rw [e45]; exact lk_ne (adne hM 2 9 (by decide) (by decide) (by decide)) k33
                  have k49 : w44 (ad 3) = some (aI G 600 (F1 3)) := by rw [e45]; exact lk_ne (adne hM 3 9 (by decide) (by decide) (by decide)) k34
                  have k50 : w44 (ad 4) = some (aI G 600 (F1 4)) := by rw [e45]; exact lk_ne (adne hM 4 9 (by decide) (by decide) (by decide)) k35
                  have k51 : w44 (ad 5) = some (aI G 7200 (F1 5)) := by rw [e45]; exact lk_ne (adne hM 5 9 (by decide) (by decide) (by decide)) k36
                  have k52 : w44 (ad 7) = some (aZ G 600 (F1 7)) := by rw [e45]; exact lk_ne (adne hM 7 9 (by decide) (by decide) (by decide)) k37
                  have k53 : w44 (ad 10) = some (aI G 144 (F1 10)) := by rw [e45]; exact lk_ne (adne hM 10 9 (by decide) (by decide) (by decide)) k39
                  have k54 : w44 (ad 11) = some (aI G 8 (F1 11)) := by rw [e45]; exact lk_ne (adne hM 11 9 (by decide) (by decide) (by decide)) k40
                  have k55 : w44 (ad 8) = some (aI G 6 (upd (F1 8) j ((F1 6) v))) := by rw [e45]; exact lk_ne (adne hM 8 9 (by decide) (by decide) (by decide)) k41
                  have k56 : w44 (ad 6) = some (aI G 600 (upd (F1 6) v (-1))) := by rw [e45]; exact lk_ne (adne hM 6 9 (by decide) (by decide) (by decide)) k42
                  have k57 : w44 (ad 9) = some (aI G 12 (upd (F1 9) pn (nI v))) := by rw [e45]; exact up_eq
                  refine f_aload (v := .ref (ad 0)) X hl ⟨_, rfl, dX5_stow_141⟩ rfl ⟨(some (ad 0)), rfl⟩ ?_
                  refine f_iload X hl ⟨_, rfl, dX5_stow_142⟩ rfl ?_
                  have hP2 := hP1.stowB (F' := (mkF (F1 1) (F1 2) (F1 3) (F1 4) (F1 5) (upd (F1 6) v (-1)) (F1 7) (upd (F1 8) j ((F1 6) v)) (upd (F1 9) pn (nI v)) (F1 10) (F1 11))) hj_j (hT1.trans hTj) up_at hos hpn rfl rfl rfl rfl rfl rfl rfl rfl rfl rfl rfl
                  have hl2 : ((va_up (va_up (va_up T (6 + pn) []) j L) (6 + pn) [(v, d)]) j).length ≤ 2000 := by rw [hP2.len]; have := hP.lenT hY hn hj_j; have := hP.len j; have q := hP.lenT hY hn hj_j; rw [hTj] at q; simp at q; simp only [yset, va_up, if_true, List.length_map, if_neg (show j ≠ 6 + pn by omega)]; omega
                  refine f_callVi (rest := []) X Z hl.1 (c_X5_countOf l G w44 tg ad (mkF (F1 1) (F1 2) (F1 3) (F1 4) (F1 5) (upd (F1 6) v (-1)) (F1 7) (upd (F1 8) j ((F1 6) v)) (upd (F1 9) pn (nI v)) (F1 10) (F1 11)) sd na ro wi y.2.2.2.2.1 (MW.of hM k46 k47 k48 k49 k50 k51 k56 k52 k55 k57 k53 k54) t j ((va_up (va_up (va_up T (6 + pn) []) j L) (6 + pn) [(v, d)]) j) hjt_j hin_j (hP2.ch hj_j hl2)) (cwV 1 X.2.2.2.2 gX5_stow_X5_countOf rfl rfl rfl (by decide +kernel) ⟨(Nat.le_of_ble_eq_true rfl), (Nat.le_of_ble_eq_true rfl)⟩) rfl rfl dX5_stow_143 ⟨(Nat.le_of_ble_eq_true rfl), (Nat.le_of_ble_eq_true rfl)⟩ rfl (Nat.le_of_ble_eq_true rfl) k46 (fun r143 w59 H locs p143 Z => ?_)
                  obtain ⟨w59e, hr143⟩ := p143
                  have w59e := w59e.symm
                  subst w59e
                  exact f_iret X hr hlk Z (Nat.le_of_ble_eq_true rfl) (Nat.le_of_ble_eq_true rfl) dX5_stow_146 (outM_of hP2 (MW.of hM k46 k47 k48 k49 k50 k51 k56 k52 k55 k57 k53 k54) (by omega) fm58 (by unfold sp_stow; rw [if_pos c4]; unfold tn; rw [hjt_j, hyj]; refine (if_neg (by simp only [List.getElem?_cons_zero, isE, decide_eq_true_eq]; exact hso1)).trans ?_; rw [if_neg (fun z => z hwhy), hos, hpc]; refine (if_pos (Or.inl (hnb ▸ c75))).trans ?_; rw [hr143, up_off (show j ≠ 6 + pn by omega), up_at, List.length_map, yset3 (show 6 + pn ≠ j by omega)]))
                · exact absurd c106 (enc_ne hv6)
              · refine f_iload X hl ⟨_, rfl, dX5_stow_78⟩ rfl ?_
                refine lv_iconst (v := (-1)) X.1 X.2.1 dX5_stow_79 (by decide) ?_
                refine lv_icmp_eq (tgt := 99) X.1 X.2.1 dX5_stow_80 (by decide) (fun c80 => ?_) (fun c80 => ?_)
                · exact absurd c80 (enc_ne hv6)
                · refine f_aload (v := .ref (ad 0)) X hl ⟨_, rfl, dX5_stow_83⟩ rfl ⟨(some (ad 0)), rfl⟩ ?_
                  refine f_get (v := .ref (ad 1)) (k := 0) X Z i5 rfl (by decide) (by decide +kernel) dX5_stow_84 km0 rfl ?_
                  refine f_iload X hl ⟨_, rfl, dX5_stow_87⟩ rfl ?_
                  refine f_iald X Z dX5_stow_88 km1 (vp_in_nI hv6 (by decide)) ?_
                  rw [hcl]
                  rw [hso]
                  refine lv_iconst (v := 2) X.1 X.2.1 dX5_stow_89 (by decide) ?_
                  refine lv_icmp_ne (tgt := 99) X.1 X.2.1 dX5_stow_90 (by decide) (fun c90 => ?_) (fun c90 => ?_)
                  · refine f_aload (v := .ref (ad 0)) X hl ⟨_, rfl, dX5_stow_99⟩ rfl ⟨(some (ad 0)), rfl⟩ ?_
                    refine f_iload X hl ⟨_, rfl, dX5_stow_100⟩ rfl ?_
                    refine f_callVv (rest := []) X Z hl.1 (c_X5_empty l G w tg ad F sd na ro wi y.2.2.2.2.1 hM pn hp12 (hd (T (6 + pn))) (hfp pn hpn) (fun v1 hz => by obtain ⟨d1, hd1⟩ := hd_at hz; exact (h1.1 _ _ v1 d1 hd1).1)) (cwV 1 X.2.2.2.2 gX5_stow_X5_empty rfl rfl rfl (by decide +kernel) ⟨(Nat.le_of_ble_eq_true rfl), (Nat.le_of_ble_eq_true rfl)⟩) rfl rfl dX5_stow_101 ⟨(Nat.le_of_ble_eq_true rfl), (Nat.le_of_ble_eq_true rfl)⟩ rfl (Nat.le_of_ble_eq_true rfl) km0 (fun w60 H locs p101 Z => ?_)
                    obtain ⟨F1, hM1, hf1, e9, e7, ek⟩ := p101
                    have u610 := hM1.1
                    have u61_1 : w60 (ad 1) = some (aI G 600 (F1 1)) := hM1.2.1 1 (by decide) (by decide)
                    have u61_2 : w60 (ad 2) = some (aI G 600 (F1 2)) := hM1.2.1 2 (by decide) (by decide)
                    have u61_3 : w60 (ad 3) = some (aI G 600 (F1 3)) := hM1.2.1 3 (by decide) (by decide)
                    have u61_4 : w60 (ad 4) = some (aI G 600 (F1 4)) := hM1.2.1 4 (by decide) (by decide)
                    have u61_5 : w60 (ad 5) = some (aI G 7200 (F1 5)) := hM1.2.1 5 (by decide) (by decide)
                    have u61_6 : w60 (ad 6) = some (aI G 600 (F1 6)) := hM1.2.1 6 (by decide) (by decide)
                    have u61_7 : w60 (ad 7) = some (aZ G 600 (F1 7)) := hM1.2.1 7 (by decide) (by decide)
                    have u61_8 : w60 (ad 8) = some (aI G 6 (F1 8)) := hM1.2.1 8 (by decide) (by decide)
                    have u61_9 : w60 (ad 9) = some (aI G 12 (F1 9)) := hM1.2.1 9 (by decide) (by decide)
                    have u61_10 : w60 (ad 10) = some (aI G 144 (F1 10)) := hM1.2.1 10 (by decide) (by decide)
                    have u61_11 : w60 (ad 11) = some (aI G 8 (F1 11)) := hM1.2.1 11 (by decide) (by decide)
                    have hP1 := hP.empty (F' := F1) hos hpn (ek 1 (by decide) (by decide) (by decide) (by decide)) (ek 2 (by decide) (by decide) (by decide) (by decide)) (ek 3 (by decide) (by decide) (by decide) (by decide)) (ek 4 (by decide) (by decide) (by decide) (by decide)) (ek 5 (by decide) (by decide) (by decide) (by decide)) (ek 6 (by decide) (by decide) (by decide) (by decide)) e7 (ek 8 (by decide) (by decide) (by decide) (by decide)) e9 (ek 10 (by decide) (by decide) (by decide) (by decide)) (ek 11 (by decide) (by decide) (by decide) (by decide))
                    have hT1 : va_up T (6 + pn) [] j = T j := up_off (by omega)
                    refine f_iload X hl ⟨_, rfl, dX5_stow_104⟩ rfl ?_
                    refine lv_iconst (v := (-1)) X.1 X.2.1 dX5_stow_105 (by decide) ?_
                    refine lv_icmp_ne (tgt := 115) X.1 X.2.1 dX5_stow_106 (by decide) (fun c106 => ?_) (fun c106 => ?_)
                    · refine f_aload (v := .ref (ad 0)) X hl ⟨_, rfl, dX5_stow_115⟩ rfl ⟨(some (ad 0)), rfl⟩ ?_
                      refine f_get (v := .ref (ad 8)) (k := 7) X Z i5 rfl (by decide) (by decide +kernel) dX5_stow_116 u610 rfl ?_
                      refine f_iload X hl ⟨_, rfl, dX5_stow_119⟩ rfl ?_
                      refine f_aload (v := .ref (ad 0)) X hl ⟨_, rfl, dX5_stow_120⟩ rfl ⟨(some (ad 0)), rfl⟩ ?_
                      refine f_get (v := .ref (ad 6)) (k := 5) X Z i5 rfl (by decide) (by decide +kernel) dX5_stow_121 u610 rfl ?_
                      refine f_iload X hl ⟨_, rfl, dX5_stow_124⟩ rfl ?_
                      refine f_iald X Z dX5_stow_125 u61_6 (vp_in_nI hv6 (by decide)) ?_
                      rw [hcl]
                      refine f_iast X Z dX5_stow_126 u61_8 hin_j (fun H locs w62 e63 Z => ?_)
                      rw [hjt_j] at e63
                      have e63 : w62 = va_up w60 (ad 8) (some (aI G 6 (upd (F1 8) j ((F1 6) v)))) := e63
                      have fm76 : FrM w tg w62 := by rw [e63]; exact FrM.put hf1 (hM.2.2 8 (by decide))
                      have k64 : w62 (ad 0) = some (cMo (some (ad 1)) (some (ad 2)) (some (ad 3)) (some (ad 4)) (some (ad 5)) (some (ad 6)) (some (ad 7)) (some (ad 8)) sd na (some (ad 9)) ro wi (some (ad 10)) y.2.2.2.2.1 (some (ad 11))) := by rw [e63]; exact lk_ne (adne hM 0 8 (by decide) (by decide) (by decide)) u610
                      have k65 : w62 (ad 1) = some (aI G 600 (F1 1)) := by rw [e63]; exact lk_ne (adne hM 1 8 (by decide) (by decide) (by decide)) u61_1
                      have k66 : w62 (ad 2) = some (aI G 600 (F1 2)) := by rw [e63]; exact lk_ne (adne hM 2 8 (by decide) (by decide) (by decide)) u61_2
                      have k67 : w62 (ad 3) = some (aI G 600 (F1 3)) := by rw [e63]; exact lk_ne (adne hM 3 8 (by decide) (by decide) (by decide)) u61_3
                      have k68 : w62 (ad 4) = some (aI G 600 (F1 4)) := by rw [e63]; exact lk_ne (adne hM 4 8 (by decide) (by decide) (by decide)) u61_4
                      have k69 : w62 (ad 5) = some (aI G 7200 (F1 5)) := by rw [e63]; exact lk_ne (adne hM 5 8 (by decide) (by decide) (by decide)) u61_5
                      have k70 : w62 (ad 6) = some (aI G 600 (F1 6)) := by rw [e63]; exact lk_ne (adne hM 6 8 (by decide) (by decide) (by decide)) u61_6
                      have k71 : w62 (ad 7) = some (aZ G 600 (F1 7)) := by rw [e63]; exact lk_ne (adne hM 7 8 (by decide) (by decide) (by decide)) u61_7
                      have k72 : w62 (ad 9) = some (aI G 12 (F1 9)) := by rw [e63]; exact lk_ne (adne hM 9 8 (by decide) (by decide) (by decide)) u61_9
                      have k73 : w62 (ad 10) = some (aI G 144 (F1 10)) := by rw [e63]; exact lk_ne (adne hM 10 8 (by decide) (by decide) (by decide)) u61_10
                      have k74 : w62 (ad 11) = some (aI G 8 (F1 11)) := by rw [e63]; exact lk_ne (adne hM 11 8 (by decide) (by decide) (by decide)) u61_11
                      have k75 : w62 (ad 8) = some (aI G 6 (upd (F1 8) j ((F1 6) v))) := by rw [e63]; exact up_eq
                      refine f_aload (v := .ref (ad 0)) X hl ⟨_, rfl, dX5_stow_127⟩ rfl ⟨(some (ad 0)), rfl⟩ ?_
                      refine f_get (v := .ref (ad 6)) (k := 5) X Z i5 rfl (by decide) (by decide +kernel) dX5_stow_128 k64 rfl ?_
                      refine f_iload X hl ⟨_, rfl, dX5_stow_131⟩ rfl ?_
                      refine lv_iconst (v := (-1)) X.1 X.2.1 dX5_stow_132 (by decide) ?_
                      refine f_iast X Z dX5_stow_133 k70 (vp_in_nI hv6 (by decide)) (fun H locs w77 e78 Z => ?_)
                      rw [hcl] at e78
                      have e78 : w77 = va_up w62 (ad 6) (some (aI G 600 (upd (F1 6) v (-1)))) := e78
                      have fm91 : FrM w tg w77 := by rw [e78]; exact FrM.put fm76 (hM.2.2 6 (by decide))
                      have k79 : w77 (ad 0) = some (cMo (some (ad 1)) (some (ad 2)) (some (ad 3)) (some (ad 4)) (some (ad 5)) (some (ad 6)) (some (ad 7)) (some (ad 8)) sd na (some (ad 9)) ro wi (some (ad 10)) y.2.2.2.2.1 (some (ad 11))) := by rw [e78]; exact lk_ne (adne hM 0 6 (by decide) (by decide) (by decide)) k64
                      have k80 : w77 (ad 1) = some (aI G 600 (F1 1)) := by rw [e78]; exact lk_ne (adne hM 1 6 (by decide) (by decide) (by decide)) k65
                      have k81 : w77 (ad 2) = some (aI G 600 (F1 2)) := by rw [e78]; exact lk_ne (adne hM 2 6 (by decide) (by decide) (by decide)) k66
                      have k82 : w77 (ad 3) = some (aI G 600 (F1 3)) := by rw [e78]; exact lk_ne (adne hM 3 6 (by decide) (by decide) (by decide)) k67
                      have k83 : w77 (ad 4) = some (aI G 600 (F1 4)) := by rw [e78]; exact lk_ne (adne hM 4 6 (by decide) (by decide) (by decide)) k68
                      have k84 : w77 (ad 5) = some (aI G 7200 (F1 5)) := by rw [e78]; exact lk_ne (adne hM 5 6 (by decide) (by decide) (by decide)) k69
                      have k85 : w77 (ad 7) = some (aZ G 600 (F1 7)) := by rw [e78]; exact lk_ne (adne hM 7 6 (by decide) (by decide) (by decide)) k71
                      have k86 : w77 (ad 9) = some (aI G 12 (F1 9)) := by rw [e78]; exact lk_ne (adne hM 9 6 (by decide) (by decide) (by decide)) k72
                      have k87 : w77 (ad 10) = some (aI G 144 (F1 10)) := by rw [e78]; exact lk_ne (adne hM 10 6 (by decide) (by decide) (by decide)) k73
                      have k88 : w77 (ad 11) = some (aI G 8 (F1 11)) := by rw [e78]; exact lk_ne (adne hM 11 6 (by decide) (by decide) (by decide)) k74
                      have k89 : w77 (ad 8) = some (aI G 6 (upd (F1 8) j ((F1 6) v))) := by rw [e78]; exact lk_ne (adne hM 8 6 (by decide) (by decide) (by decide)) k75
                      have k90 : w77 (ad 6) = some (aI G 600 (upd (F1 6) v (-1))) := by rw [e78]; exact up_eq
                      refine f_aload (v := .ref (ad 0)) X hl ⟨_, rfl, dX5_stow_134⟩ rfl ⟨(some (ad 0)), rfl⟩ ?_
                      refine f_get (v := .ref (ad 9)) (k := 10) X Z i5 rfl (by decide) (by decide +kernel) dX5_stow_135 k79 rfl ?_
                      refine f_iload X hl ⟨_, rfl, dX5_stow_138⟩ rfl ?_
                      refine f_iload X hl ⟨_, rfl, dX5_stow_139⟩ rfl ?_
                      refine f_iast X Z dX5_stow_140 k86 (vp_in_nI hp12 (by decide)) (fun H locs w92 e93 Z => ?_)
                      rw [hpc] at e93
                      have e93 : w92 = va_up w77 (ad 9) (some (aI G 12 (upd (F1 9) pn (nI v)))) := e93
                      have fm106 : FrM w tg w92 := by rw [e93]; exact FrM.put fm91 (hM.2.2 9 (by decide))
                      have k94 : w92 (ad 0) = some (cMo (some (ad 1)) (some (ad 2)) (some (ad 3)) (some (ad 4)) (some (ad 5)) (some (ad 6)) (some (ad 7)) (some (ad 8)) sd na (some (ad 9)) ro wi (some (ad 10)) y.2.2.2.2.1 (some (ad 11))) := by rw [e93]; exact lk_ne (adne hM 0 9 (by decide) (by decide) (by decide)) k79
                      have k95 : w92 (ad 1) = some (aI G 600 (F1 1)) := by rw [e93]; exact lk_ne (adne hM 1 9 (by decide) (by decide) (by decide)) k80
                      have k96 : w92 (ad 2) = some (aI G 600 (F1 2)) := by rw [e93]; exact lk_ne (adne hM 2 9 (by decide) (by decide) (by decide)) k81
                      have k97 : w92 (ad 3) = some (aI G 600 (F1 3)) := by rw [e93]; exact lk_ne (adne hM 3 9 (by decide) (by decide) (by decide)) k82
                      have k98 : w92 (ad 4) = some (aI G 600 (F1 4)) := by rw [e93]; exact lk_ne (adne hM 4 9 (by decide) (by decide) (by decide)) k83
                      have k99 : w92 (ad 5) = some (aI G 7200 (F1 5)) := by rw [e93]; exact lk_ne (adne hM 5 9 (by decide) (by decide) (by decide)) k84
                      have k100 : w92 (ad 7) = some (aZ G 600 (F1 7)) := by rw [e93]; exact lk_ne (adne hM 7 9 (by decide) (by decide) (by decide)) k85
                      have k101 : w92 (ad 10) = some (aI G 144 (F1 10)) := by rw [e93]; exact lk_ne (adne hM 10 9 (by decide) (by decide) (by decide)) k87
                      have k102 : w92 (ad 11) = some (aI G 8 (F1 11)) := by rw [e93]; exact lk_ne (adne hM 11 9 (by decide) (by decide) (by decide)) k88
                      have k103 : w92 (ad 8) = some (aI G 6 (upd (F1 8) j ((F1 6) v))) := by rw [e93]; exact lk_ne (adne hM 8 9 (by decide) (by decide) (by decide)) k89
                      have k104 : w92 (ad 6) = some (aI G 600 (upd (F1 6) v (-1))) := by rw [e93]; exact lk_ne (adne hM 6 9 (by decide) (by decide) (by decide)) k90
                      have k105 : w92 (ad 9) = some (aI G 12 (upd (F1 9) pn (nI v))) := by rw [e93]; exact up_eq
                      refine f_aload (v := .ref (ad 0)) X hl ⟨_, rfl, dX5_stow_141⟩ rfl ⟨(some (ad 0)), rfl⟩ ?_
                      refine f_iload X hl ⟨_, rfl, dX5_stow_142⟩ rfl ?_
                      have hP2 := hP1.stowB (F' := (mkF (F1 1) (F1 2) (F1 3) (F1 4) (F1 5) (upd (F1 6) v (-1)) (F1 7) (upd (F1 8) j ((F1 6) v)) (upd (F1 9) pn (nI v)) (F1 10) (F1 11))) hj_j (hT1.trans hTj) up_at hos hpn rfl rfl rfl rfl rfl rfl rfl rfl rfl rfl rfl
                      have hl2 : ((va_up (va_up (va_up T (6 + pn) []) j L) (6 + pn) [(v, d)]) j).length ≤ 2000 := by rw [hP2.len]; have := hP.lenT hY hn hj_j; have := hP.len j; have q := hP.lenT hY hn hj_j; rw [hTj] at q; simp at q; simp only [yset, va_up, if_true, List.length_map, if_neg (show j ≠ 6 + pn by omega)]; omega
                      refine f_callVi (rest := []) X Z hl.1 (c_X5_countOf l G w92 tg ad (mkF (F1 1) (F1 2) (F1 3) (F1 4) (F1 5) (upd (F1 6) v (-1)) (F1 7) (upd (F1 8) j ((F1 6) v)) (upd (F1 9) pn (nI v)) (F1 10) (F1 11)) sd na ro wi y.2.2.2.2.1 (MW.of hM k94 k95 k96 k97 k98 k99 k104 k100 k103 k105 k101 k102) t j ((va_up (va_up (va_up T (6 + pn) []) j L) (6 + pn) [(v, d)]) j) hjt_j hin_j (hP2.ch hj_j hl2)) (cwV 1 X.2.2.2.2 gX5_stow_X5_countOf rfl rfl rfl (by decide +kernel) ⟨(Nat.le_of_ble_eq_true rfl), (Nat.le_of_ble_eq_true rfl)⟩) rfl rfl dX5_stow_143 ⟨(Nat.le_of_ble_eq_true rfl), (Nat.le_of_ble_eq_true rfl)⟩ rfl (Nat.le_of_ble_eq_true rfl) k94 (fun r143 w107 H locs p143 Z => ?_)
                      obtain ⟨w107e, hr143⟩ := p143
                      have w107e := w107e.symm
                      subst w107e
                      exact f_iret X hr hlk Z (Nat.le_of_ble_eq_true rfl) (Nat.le_of_ble_eq_true rfl) dX5_stow_146 (outM_of hP2 (MW.of hM k94 k95 k96 k97 k98 k99 k104 k100 k103 k105 k101 k102) (by omega) fm106 (by unfold sp_stow; rw [if_pos c4]; unfold tn; rw [hjt_j, hyj]; refine (if_neg (by simp only [List.getElem?_cons_zero, isE, decide_eq_true_eq]; exact hso1)).trans ?_; rw [if_neg (fun z => z hwhy), hos, hpc]; refine (if_pos (Or.inr (by have q := (hY.2.1 j d (by rw [hyj]; exact List.mem_cons_self)).1; refine Int32.toInt_inj.mp ?_; have z2 : ¬ d.1.toInt = 2 := fun z => c90 (Int32.toInt_inj.mp z); obtain ⟨q1, q2⟩ := q; rw [kc_1] at q1; rw [kc_3] at q2 ⊢; have z1 := hso1; omega))).trans ?_; rw [hr143, up_off (show j ≠ 6 + pn by omega), up_at, List.length_map, yset3 (show 6 + pn ≠ j by omega)]))
                    · exact absurd c106 (enc_ne hv6)
                  · refine f_aload (v := .ref (ad 0)) X hl ⟨_, rfl, dX5_stow_93⟩ rfl ⟨(some (ad 0)), rfl⟩ ?_
                    refine lv_iconst (v := 3) X.1 X.2.1 dX5_stow_94 (by decide) ?_
                    refine f_callVi (rest := []) X Z hl.1 (c_X5_no l G w tg ad F sd na ro wi y.2.2.2.2.1 hM 3 (by decide)) (cwV 1 X.2.2.2.2 gX5_stow_X5_no rfl rfl rfl (by decide +kernel) ⟨(Nat.le_of_ble_eq_true rfl), (Nat.le_of_ble_eq_true rfl)⟩) rfl rfl dX5_stow_95 ⟨(Nat.le_of_ble_eq_true rfl), (Nat.le_of_ble_eq_true rfl)⟩ rfl (Nat.le_of_ble_eq_true rfl) km0 (fun r95 w108 H locs p95 Z => ?_)
                    obtain ⟨hrT, hwT⟩ := p95
                    exact f_iret X hr hlk Z (Nat.le_of_ble_eq_true rfl) (Nat.le_of_ble_eq_true rfl) dX5_stow_98 (outM_no hP hM FrM.rf hrT hwT (by unfold sp_stow; rw [if_pos c4]; unfold tn; rw [hjt_j, hyj]; refine (if_neg (by simp only [List.getElem?_cons_zero, isE, decide_eq_true_eq]; exact hso1)).trans ?_; rw [if_neg (fun z => z hwhy), hos]; exact if_neg (by rw [c90]; rintro (z | z); exact c75 (hnb.trans z); exact absurd z (by decide))))
            · rw [hr59, bI_0] at c62
              rw [hsd, n1_toInt hs12, kc_0] at c62
              have hwhy : whyP y.2.1 p0 = 5 := by rw [hos, whyP_in, if_neg (by omega)]
              refine f_aload (v := .ref (ad 0)) X hl ⟨_, rfl, dX5_stow_65⟩ rfl ⟨(some (ad 0)), rfl⟩ ?_
              refine lv_iconst (v := 5) X.1 X.2.1 dX5_stow_66 (by decide) ?_
              refine f_callVi (rest := []) X Z hl.1 (c_X5_no l G w tg ad F sd na ro wi y.2.2.2.2.1 hM 5 (by decide)) (cwV 1 X.2.2.2.2 gX5_stow_X5_no rfl rfl rfl (by decide +kernel) ⟨(Nat.le_of_ble_eq_true rfl), (Nat.le_of_ble_eq_true rfl)⟩) rfl rfl dX5_stow_67 ⟨(Nat.le_of_ble_eq_true rfl), (Nat.le_of_ble_eq_true rfl)⟩ rfl (Nat.le_of_ble_eq_true rfl) km0 (fun r67 w109 H locs p67 Z => ?_)
              obtain ⟨hrT, hwT⟩ := p67
              exact f_iret X hr hlk Z (Nat.le_of_ble_eq_true rfl) (Nat.le_of_ble_eq_true rfl) dX5_stow_70 (outM_no hP hM FrM.rf hrT hwT (by unfold sp_stow; rw [if_pos c4]; unfold tn; rw [hjt_j, hyj]; refine (if_neg (by simp only [List.getElem?_cons_zero, isE, decide_eq_true_eq]; exact hso1)).trans ?_; rw [hwhy]; rfl))
          · have hos := SMn h5 c42
            refine f_aload (v := .ref (ad 0)) X hl ⟨_, rfl, dX5_stow_45⟩ rfl ⟨(some (ad 0)), rfl⟩ ?_
            refine lv_iconst (v := 1) X.1 X.2.1 dX5_stow_46 (by decide) ?_
            refine f_callVi (rest := []) X Z hl.1 (c_X5_no l G w tg ad F sd na ro wi y.2.2.2.2.1 hM 1 (by decide)) (cwV 1 X.2.2.2.2 gX5_stow_X5_no rfl rfl rfl (by decide +kernel) ⟨(Nat.le_of_ble_eq_true rfl), (Nat.le_of_ble_eq_true rfl)⟩) rfl rfl dX5_stow_47 ⟨(Nat.le_of_ble_eq_true rfl), (Nat.le_of_ble_eq_true rfl)⟩ rfl (Nat.le_of_ble_eq_true rfl) km0 (fun r47 w110 H locs p47 Z => ?_)
            obtain ⟨hrT, hwT⟩ := p47
            exact f_iret X hr hlk Z (Nat.le_of_ble_eq_true rfl) (Nat.le_of_ble_eq_true rfl) dX5_stow_50 (outM_no hP hM FrM.rf hrT hwT (by unfold sp_stow; rw [if_pos c4]; unfold tn; rw [hjt_j, hyj]; refine (if_neg (by simp only [List.getElem?_cons_zero, isE, decide_eq_true_eq]; exact hso1)).trans ?_; rw [hos]; rfl))
        · refine f_aload (v := .ref (ad 0)) X hl ⟨_, rfl, dX5_stow_31⟩ rfl ⟨(some (ad 0)), rfl⟩ ?_
          refine lv_iconst (v := 2) X.1 X.2.1 dX5_stow_32 (by decide) ?_
          refine f_callVi (rest := []) X Z hl.1 (c_X5_no l G w tg ad F sd na ro wi y.2.2.2.2.1 hM 2 (by decide)) (cwV 1 X.2.2.2.2 gX5_stow_X5_no rfl rfl rfl (by decide +kernel) ⟨(Nat.le_of_ble_eq_true rfl), (Nat.le_of_ble_eq_true rfl)⟩) rfl rfl dX5_stow_33 ⟨(Nat.le_of_ble_eq_true rfl), (Nat.le_of_ble_eq_true rfl)⟩ rfl (Nat.le_of_ble_eq_true rfl) km0 (fun r33 w111 H locs p33 Z => ?_)
          obtain ⟨hrT, hwT⟩ := p33
          exact f_iret X hr hlk Z (Nat.le_of_ble_eq_true rfl) (Nat.le_of_ble_eq_true rfl) dX5_stow_36 (outM_no hP hM FrM.rf hrT hwT (by unfold sp_stow; rw [if_pos c4]; unfold tn; rw [hjt_j, hyj]; exact if_pos (by simp only [List.getElem?_cons_zero, isE, c28, kc_1, decide_true])))
  · rw [hr1, bI_0] at c4
    refine lv_iconst (v := (-1)) X.1 X.2.1 dX5_stow_7 (by decide) ?_
    exact f_iret X hr hlk Z (Nat.le_of_ble_eq_true rfl) (Nat.le_of_ble_eq_true rfl) dX5_stow_8 (outM_same hR (if_neg c4))
