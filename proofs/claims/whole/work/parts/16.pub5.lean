theorem okB03 {x : Int32} (h : okB x 0 3) : x = 0 ∨ x = 1 ∨ x = 2 ∨ x = 3 := by
  obtain ⟨h1, h2⟩ := h
  rw [kc_0] at h1
  rw [kc_3] at h2
  rcases (show x.toInt = 0 ∨ x.toInt = 1 ∨ x.toInt = 2 ∨ x.toInt = 3 by omega) with z | z | z | z
  · exact Or.inl (Int32.toInt_inj.mp z)
  · exact Or.inr (Or.inl (Int32.toInt_inj.mp z))
  · exact Or.inr (Or.inr (Or.inl (Int32.toInt_inj.mp z)))
  · exact Or.inr (Or.inr (Or.inr (Int32.toInt_inj.mp z)))
def y0 : Yd := (fun _ => [], none, none, fun _ _ => 0, 0, fun _ => 0)
set_option maxHeartbeats 4000000 in
set_option maxRecDepth 100000 in
theorem c_X4_about (l : Launch) (G : gT) (w : wT) (tg : tT) (h0 c nb : Nat) (y : Yd) (hR : RepC G tg w h0 c y) (hY : Yok nb y) (hn : nb ≤ 512) (t k x : Int32) : Met l yX4_about wsX4_about ({ frames := 2, cells := 0, slots := 0, locals := 41 }) (va_Pc [.ref h0, .int t, .int k, .int x] (wG G w)) (Qi G (OutC G tg w h0 c (sp_about t k x y))) 0 0 (fr G) := by
  refine f_met (cc := cX4_about) (maxL := 5) (ret := (some .int)) (by decide) rfl rfl (Nat.le_of_ble_eq_true rfl) ?_
  intro p e s m below meth cd X hr hlk hnm Z ls hl
  have X : CallFix p m cd cX4_about 5 s [.ref h0, .int t, .int k, .int x].toArray wsX4_about RX4 := X
  have hl : lV ls _ [some (.ref h0), some (.int t), some (.int k), some (.int x), none] := hl
  have i3 : ∀ w ∈ wsX30, w ∈ wsX4_about := by decide +kernel
  have i4 : ∀ w ∈ wsX40, w ∈ wsX4_about := by decide +kernel
  obtain ⟨ta, to, tf, tk, sd, pl, T, hx⟩ := id hR
  obtain ⟨h1, h2, h3, h4, h5, h6, h7, h8, h9⟩ := id hx
  refine f_iload X hl ⟨_, rfl, dX4_about_0⟩ rfl ?_
  refine f_iload X hl ⟨_, rfl, dX4_about_1⟩ rfl ?_
  refine f_callSi (rest := []) X Z hl.1 (c_X4_isPosition l G _ _ _) (va_cwS 2 X.2.2.2.2 gX4_about_X4_isPosition rfl rfl rfl (by decide +kernel) ⟨(Nat.le_of_ble_eq_true rfl), (Nat.le_of_ble_eq_true rfl)⟩) rfl dX4_about_2 ⟨(Nat.le_of_ble_eq_true rfl), (Nat.le_of_ble_eq_true rfl)⟩ rfl (Nat.le_of_ble_eq_true rfl) (fun r2 w1 H locs p2 Z => ?_)
  obtain ⟨w1e, hr2⟩ := p2
  have w1e := w1e.symm
  subst w1e
  refine lv_if_eq (tgt := 17) X.1 X.2.1 dX4_about_5 (by decide) (fun c5 => ?_) (fun c5 => ?_)
  · rw [hr2, bI_0] at c5
    refine lv_iconst (v := (-1)) X.1 X.2.1 dX4_about_17 (by decide) ?_
    exact f_iret X hr hlk Z (Nat.le_of_ble_eq_true rfl) (Nat.le_of_ble_eq_true rfl) dX4_about_18 (out_same hR (if_neg (fun h => c5 h.1)))
  · rw [hr2, bI_0, Classical.not_not] at c5
    refine f_iload X hl ⟨_, rfl, dX4_about_8⟩ rfl ?_
    refine lv_iconst (v := 0) X.1 X.2.1 dX4_about_9 (by decide) ?_
    refine lv_iconst (v := 3) X.1 X.2.1 dX4_about_10 (by decide) ?_
    refine f_callSi (rest := []) X Z hl.1 (c_X4_isWithin l G _ _ _ _) (va_cwS 3 X.2.2.2.2 gX4_about_X4_isWithin rfl rfl rfl (by decide +kernel) ⟨(Nat.le_of_ble_eq_true rfl), (Nat.le_of_ble_eq_true rfl)⟩) rfl dX4_about_11 ⟨(Nat.le_of_ble_eq_true rfl), (Nat.le_of_ble_eq_true rfl)⟩ rfl (Nat.le_of_ble_eq_true rfl) (fun r11 w2 H locs p11 Z => ?_)
    obtain ⟨w2e, hr11⟩ := p11
    have w2e := w2e.symm
    subst w2e
    refine lv_if_ne (tgt := 19) X.1 X.2.1 dX4_about_14 (by decide) (fun c14 => ?_) (fun c14 => ?_)
    · rw [hr11, bI_0, Classical.not_not] at c14
      obtain ⟨j, hjt_j⟩ : ∃ j, t.toNatClampNeg = j := ⟨_, rfl⟩
      have hj_j : j < 6 := hjt_j ▸ tn_lt c5.1
      have hin_j : vp_in t 6 := vp_in_iff.mpr c5.1
      refine f_aload (v := .ref h0) X hl ⟨_, rfl, dX4_about_19⟩ rfl ⟨(some h0), rfl⟩ ?_
      refine f_get (v := .ref ta) (k := 0) X Z i4 rfl (by decide) (by decide +kernel) dX4_about_20 h1.1 rfl ?_
      refine f_iload X hl ⟨_, rfl, dX4_about_23⟩ rfl ?_
      refine f_tald X Z dX4_about_24 h2.1 hin_j ?_
      rw [hjt_j, h3 j hj_j]
      refine f_iload X hl ⟨_, rfl, dX4_about_25⟩ rfl ?_
      refine f_callVq (rest := []) X Z hl.1 (c_X2_vehicleAt l G w (tk j) (T j) k (hx.trk hY hn hj_j)) (cwV 1 X.2.2.2.2 gX4_about_X2_vehicleAt rfl rfl rfl (by decide +kernel) ⟨(Nat.le_of_ble_eq_true rfl), (Nat.le_of_ble_eq_true rfl)⟩) rfl rfl dX4_about_26 ⟨(Nat.le_of_ble_eq_true rfl), (Nat.le_of_ble_eq_true rfl)⟩ rfl (Nat.le_of_ble_eq_true rfl) (h5 j hj_j).1 (fun r26 w3 H locs p26 Z => ?_)
      obtain ⟨w3e, hr26⟩ := p26
      have w3e := w3e.symm
      subst w3e
      rw [vix_pos c5.2] at hr26
      have hv : vopt G w r26 ((y.1 j)[k.toNatClampNeg]?) := by rw [hr26]; exact hx.vopt j _
      refine f_astore2 X hl dX4_about_29 (by decide) ⟨r26, rfl⟩ (fun ls hl => ?_)
      have hl : lV ls _ [some (.ref h0), some (.int t), some (.int k), some (.int x), some (va_rf r26)] := hl
      refine f_aload2 (v := va_rf r26) X hl dX4_about_31 rfl ⟨r26, rfl⟩ ?_
      refine f_ifnonnull (tgt := 38) X dX4_about_33 (by decide) (fun a33 c33 => ?_) (fun c33 => ?_)
      · subst c33
        obtain ⟨d, hd1⟩ := mf hr26
        obtain ⟨gA, ro, hcA, hro, hrt⟩ := h6.1 j _ a33 d hd1
        have hya : (y.1 j)[k.toNatClampNeg]? = some d := by rw [hx.at]; exact map_snd hd1
        refine f_iload X hl ⟨_, rfl, dX4_about_38⟩ rfl ?_
        rcases okB03 c14 with rfl | rfl | rfl | rfl
        · refine lv_tableIn (tgt := 64) X.1 X.2.1 dX4_about_39 (by decide) (by decide) rfl (by decide) ?_
          refine f_aload2 (v := .ref a33) X hl dX4_about_64 rfl ⟨(some a33), rfl⟩ ?_
          refine f_get (v := .int d.1) (k := 0) X Z i3 rfl (by decide) (by decide +kernel) dX4_about_66 hcA rfl ?_
          exact f_iret X hr hlk Z (Nat.le_of_ble_eq_true rfl) (Nat.le_of_ble_eq_true rfl) dX4_about_69 (out_same hR (by unfold sp_about yat tn; rw [if_pos ⟨c5, c14⟩, hjt_j, hya]; rfl))
        · refine lv_tableIn (tgt := 70) X.1 X.2.1 dX4_about_39 (by decide) (by decide) rfl (by decide) ?_
          refine f_aload2 (v := .ref a33) X hl dX4_about_70 rfl ⟨(some a33), rfl⟩ ?_
          refine f_get (v := .int d.2.1) (k := 1) X Z i3 rfl (by decide) (by decide +kernel) dX4_about_72 hcA rfl ?_
          exact f_iret X hr hlk Z (Nat.le_of_ble_eq_true rfl) (Nat.le_of_ble_eq_true rfl) dX4_about_75 (out_same hR (by unfold sp_about yat tn; rw [if_pos ⟨c5, c14⟩, hjt_j, hya]; rfl))
        · refine lv_tableIn (tgt := 76) X.1 X.2.1 dX4_about_39 (by decide) (by decide) rfl (by decide) ?_
          refine f_aload2 (v := .ref a33) X hl dX4_about_76 rfl ⟨(some a33), rfl⟩ ?_
          refine f_get (v := .int d.2.2.1) (k := 2) X Z i3 rfl (by decide) (by decide +kernel) dX4_about_78 hcA rfl ?_
          exact f_iret X hr hlk Z (Nat.le_of_ble_eq_true rfl) (Nat.le_of_ble_eq_true rfl) dX4_about_81 (out_same hR (by unfold sp_about yat tn; rw [if_pos ⟨c5, c14⟩, hjt_j, hya]; rfl))
        · refine lv_tableOut (tgt := 82) X.1 X.2.1 dX4_about_39 (Or.inr (by decide)) (by decide) ?_
          refine f_aload2 (v := .ref a33) X hl dX4_about_82 rfl ⟨(some a33), rfl⟩ ?_
          refine f_get (v := va_rf ro) (k := 3) X Z i3 rfl (by decide) (by decide +kernel) dX4_about_84 hcA rfl ?_
          refine f_ifnonnull (tgt := 94) X dX4_about_87 (by decide) (fun a87 c87 => ?_) (fun c87 => ?_)
          · subst c87
            obtain ⟨rn, rf, hcr, hr12, hcR⟩ := rowAt_some hro
            refine f_aload2 (v := .ref a33) X hl dX4_about_94 rfl ⟨(some a33), rfl⟩ ?_
            refine f_get (v := .ref a87) (k := 3) X Z i3 rfl (by decide) (by decide +kernel) dX4_about_96 hcA rfl ?_
            refine f_alenI X Z dX4_about_99 hcR ?_
            exact f_iret X hr hlk Z (Nat.le_of_ble_eq_true rfl) (Nat.le_of_ble_eq_true rfl) dX4_about_100 (out_same hR (by unfold sp_about yat tn; rw [if_pos ⟨c5, c14⟩, hjt_j, hya]; simp only [hcr]; rfl))
          · subst c87
            have hcr := rowAt_none hro
            refine lv_iconst (v := 0) X.1 X.2.1 dX4_about_90 (by decide) ?_
            refine lv_goto (tgt := 100) X.1 X.2.1 dX4_about_91 (by decide) ?_
            exact f_iret X hr hlk Z (Nat.le_of_ble_eq_true rfl) (Nat.le_of_ble_eq_true rfl) dX4_about_100 (out_same hR (by unfold sp_about yat tn; rw [if_pos ⟨c5, c14⟩, hjt_j, hya]; simp only [hcr]; rfl))
      · subst c33
        have hya : (y.1 j)[k.toNatClampNeg]? = none := vopt_none hv
        refine lv_iconst (v := 0) X.1 X.2.1 dX4_about_36 (by decide) ?_
        exact f_iret X hr hlk Z (Nat.le_of_ble_eq_true rfl) (Nat.le_of_ble_eq_true rfl) dX4_about_37 (out_same hR (by unfold sp_about yat tn; rw [if_pos ⟨c5, c14⟩, hjt_j, hya]))
    · rw [hr11, bI_0] at c14
      refine lv_iconst (v := (-1)) X.1 X.2.1 dX4_about_17 (by decide) ?_
      exact f_iret X hr hlk Z (Nat.le_of_ble_eq_true rfl) (Nat.le_of_ble_eq_true rfl) dX4_about_18 (out_same hR (if_neg (fun h => c14 h.2)))
set_option maxHeartbeats 4000000 in
set_option maxRecDepth 100000 in
theorem c_X4_fetch (l : Launch) (G : gT) (w : wT) (tg : tT) (h0 c nb : Nat) (y : Yd) (hR : RepC G tg w h0 c y) (hY : Yok nb y) (hn : nb ≤ 512) (p0 t : Int32) : Met l yX4_fetch wsX4_fetch ({ frames := 1, cells := 0, slots := 0, locals := 21 }) (va_Pc [.ref h0, .int p0, .int t] (wG G w)) (Qi G (OutC G tg w h0 c (sp_fetch p0 t y))) 0 0 (fr G) := by
  refine f_met (cc := cX4_fetch) (maxL := 5) (ret := (some .int)) (by decide) rfl rfl (Nat.le_of_ble_eq_true rfl) ?_
  intro p e s m below meth cd X hr hlk hnm Z ls hl
  have X : CallFix p m cd cX4_fetch 5 s [.ref h0, .int p0, .int t].toArray wsX4_fetch RX4 := X
  have hl : lV ls _ [some (.ref h0), some (.int p0), some (.int t), none, none] := hl
  have i1 : ∀ w ∈ wsX10, w ∈ wsX4_fetch := by decide +kernel
  have i2 : ∀ w ∈ wsX20, w ∈ wsX4_fetch := by decide +kernel
  have i4 : ∀ w ∈ wsX40, w ∈ wsX4_fetch := by decide +kernel
  obtain ⟨ta, to, tf, tk, sd, pl, T, hx⟩ := id hR
  obtain ⟨h1, h2, h3, h4, h5, h6, h7, h8, h9⟩ := id hx
  refine f_iload X hl ⟨_, rfl, dX4_fetch_0⟩ rfl ?_
  refine f_callSi (rest := []) X Z hl.1 (c_X4_isTrack l G _ _) (va_cwS 1 X.2.2.2.2 gX4_fetch_X4_isTrack rfl rfl rfl (by decide +kernel) ⟨(Nat.le_of_ble_eq_true rfl), (Nat.le_of_ble_eq_true rfl)⟩) rfl dX4_fetch_1 ⟨(Nat.le_of_ble_eq_true rfl), (Nat.le_of_ble_eq_true rfl)⟩ rfl (Nat.le_of_ble_eq_true rfl) (fun r1 w1 H locs p1 Z => ?_)
  obtain ⟨w1e, hr1⟩ := p1
  have w1e := w1e.symm
  subst w1e
  refine lv_if_ne (tgt := 9) X.1 X.2.1 dX4_fetch_4 (by decide) (fun c4 => ?_) (fun c4 => ?_)
  · rw [hr1, bI_0, Classical.not_not] at c4
    obtain ⟨j, hjt_j⟩ : ∃ j, t.toNatClampNeg = j := ⟨_, rfl⟩
    have hj_j : j < 6 := hjt_j ▸ tn_lt c4
    have hin_j : vp_in t 6 := vp_in_iff.mpr c4
    refine f_aload (v := .ref h0) X hl ⟨_, rfl, dX4_fetch_9⟩ rfl ⟨(some h0), rfl⟩ ?_
    refine f_iload X hl ⟨_, rfl, dX4_fetch_10⟩ rfl ?_
    refine f_callVi (rest := []) X Z hl.1 (c_X4_whyNoPlace l G w h0 ta to sd pl y.2.2.2.2.1 (nI c) h1.1 y.2.1 p0 h8.opt) (cwV 1 X.2.2.2.2 gX4_fetch_X4_whyNoPlace rfl rfl rfl (by decide +kernel) ⟨(Nat.le_of_ble_eq_true rfl), (Nat.le_of_ble_eq_true rfl)⟩) rfl rfl dX4_fetch_11 ⟨(Nat.le_of_ble_eq_true rfl), (Nat.le_of_ble_eq_true rfl)⟩ rfl (Nat.le_of_ble_eq_true rfl) h1.1 (fun r11 w2 H locs p11 Z => ?_)
    obtain ⟨w2e, hr11⟩ := p11
    have w2e := w2e.symm
    subst w2e
    subst hr11
    refine f_istore X hl ⟨_, rfl, dX4_fetch_14⟩ (by decide) (fun ls hl => ?_)
    have hl : lV ls _ [some (.ref h0), some (.int p0), some (.int t), some (.int (nI (whyP y.2.1 p0))), none] := hl
    refine f_iload X hl ⟨_, rfl, dX4_fetch_15⟩ rfl ?_
    refine lv_if_eq (tgt := 25) X.1 X.2.1 dX4_fetch_16 (by decide) (fun c16 => ?_) (fun c16 => ?_)
    · have hz := (nI_z (whyP_lt _ _)).mp c16
      obtain ⟨sn, sb, hos, hp0, hp1⟩ := whyP_0 hz
      obtain ⟨sa, pa, sf, hsd, hcS, hcF, hs12, hfp⟩ := h8.some hos
      subst hsd
      obtain ⟨pn, hpt⟩ : ∃ pn, p0.toNatClampNeg = pn := ⟨_, rfl⟩
      have hpn : pn < sn := hpt ▸ tn_lt ⟨hp0, hp1⟩
      refine f_aload (v := .ref h0) X hl ⟨_, rfl, dX4_fetch_25⟩ rfl ⟨(some h0), rfl⟩ ?_
      refine f_get (v := .ref sa) (k := 2) X Z i4 rfl (by decide) (by decide +kernel) dX4_fetch_26 h1.1 rfl ?_
      refine f_get (v := .ref pa) (k := 0) X Z i1 rfl (by decide) (by decide +kernel) dX4_fetch_29 hcS rfl ?_
      refine f_iload X hl ⟨_, rfl, dX4_fetch_32⟩ rfl ?_
      refine f_vald X Z dX4_fetch_33 hcF.1 (vp_in_iff.mpr ⟨hp0, hp1⟩) ?_
      rw [hpt, hfp pn hpn]
      rcases hTp : T (6 + pn) with _ | ⟨⟨a, d⟩, L⟩
      · have hyp : y.1 (6 + pn) = [] := by rw [← h7, hTp]; rfl
        refine f_astore2 X hl dX4_fetch_34 (by decide) ⟨none, rfl⟩ (fun ls hl => ?_)
        have hl : lV ls _ [some (.ref h0), some (.int p0), some (.int t), some (.int (nI (whyP y.2.1 p0))), some (.null)] := hl
        refine f_aload2 (v := .null) X hl dX4_fetch_36 rfl ⟨none, rfl⟩ ?_
        refine lv_ifnonnullN X.1 X.2.1 dX4_fetch_38 ?_
        refine f_aload (v := .ref h0) X hl ⟨_, rfl, dX4_fetch_41⟩ rfl ⟨(some h0), rfl⟩ ?_
        refine lv_iconst (v := 1) X.1 X.2.1 dX4_fetch_42 (by decide) ?_
        refine f_callVi (rest := []) X Z hl.1 (c_X4_tell l G w h0 ta to (some sa) pl y.2.2.2.2.1 (nI c) h1.1 y.2.2.2.2.2 1 (by decide) h4.1) (cwV 1 X.2.2.2.2 gX4_fetch_X4_tell rfl rfl rfl (by decide +kernel) ⟨(Nat.le_of_ble_eq_true rfl), (Nat.le_of_ble_eq_true rfl)⟩) rfl rfl dX4_fetch_43 ⟨(Nat.le_of_ble_eq_true rfl), (Nat.le_of_ble_eq_true rfl)⟩ rfl (Nat.le_of_ble_eq_true rfl) h1.1 (fun r43 w3 H locs p43 Z => ?_)
        obtain ⟨hrT, hwT⟩ := p43
        exact f_iret X hr hlk Z (Nat.le_of_ble_eq_true rfl) (Nat.le_of_ble_eq_true rfl) dX4_fetch_46 (out_tell hx Fr.rf hrT hwT (by unfold sp_fetch tn; rw [if_pos c4, if_neg (fun z => z hz), hpt, hyp]))
      · have hd1 : (T (6 + pn))[0]? = some (a, d) := by rw [hTp]; rfl
        have hyp : y.1 (6 + pn) = d :: L.map Prod.snd := by rw [← h7, hTp]; rfl
        obtain ⟨gA, ro, hcA, hro, hrt⟩ := h6.1 (6 + pn) _ a d hd1
        refine f_astore2 X hl dX4_fetch_34 (by decide) ⟨(some a), rfl⟩ (fun ls hl => ?_)
        have hl : lV ls _ [some (.ref h0), some (.int p0), some (.int t), some (.int (nI (whyP y.2.1 p0))), some (.ref a)] := hl
        refine f_aload2 (v := .ref a) X hl dX4_fetch_36 rfl ⟨(some a), rfl⟩ ?_
        refine lv_ifnonnull (tgt := 47) X.1 X.2.1 dX4_fetch_38 (by decide) ?_
        refine f_aload (v := .ref h0) X hl ⟨_, rfl, dX4_fetch_47⟩ rfl ⟨(some h0), rfl⟩ ?_
        refine f_get (v := .ref sa) (k := 2) X Z i4 rfl (by decide) (by decide +kernel) dX4_fetch_48 h1.1 rfl ?_
        refine f_get (v := .ref pa) (k := 0) X Z i1 rfl (by decide) (by decide +kernel) dX4_fetch_51 hcS rfl ?_
        refine f_iload X hl ⟨_, rfl, dX4_fetch_54⟩ rfl ?_
        refine lv_null X.1 X.2.1 dX4_fetch_55 ?_
        refine f_aastN (ti := 3) X Z rfl dX4_fetch_56 hcF.1 (vp_in_iff.mpr ⟨hp0, hp1⟩) (fun H locs w4 e5 Z => ?_)
        have e5 : w4 = va_up w pa (some (aV G sn (va_up sf p0.toNatClampNeg none))) := e5
        have k6 : w4 h0 = some (cTs (some ta) (some to) (some sa) pl y.2.2.2.2.1 (nI c)) := by rw [e5]; exact lk_ne (ad_ne h1.1 hcF.1 dx_oi) h1.1
        have k7 : w4 ta = some (aT G 6 tf) := by rw [e5]; exact lk_ne (tgne h2.2 hcF.2 (by simp)) h2.1
        have k8 : w4 to = some (aI G 8 y.2.2.2.2.2) := by rw [e5]; exact lk_ne (ad_ne h4.1 hcF.1 dx_ir) h4.1
        have k9 : w4 (tk j) = some (cTrk (hd (T j)) (nI (T j).length)) := by rw [e5]; exact lk_ne (ad_ne (h5 j hj_j).1 hcF.1 dx_oi) (h5 j hj_j).1
        have k10 : w4 sa = some (cSid (some pa) sb) := by rw [e5]; exact lk_ne (ad_ne hcS hcF.1 dx_oi) hcS
        have k11 : w4 a = some (cVeh d.1 d.2.1 d.2.2.1 ro (nx (T (6 + pn)) 0)) := by rw [e5]; exact lk_ne (ad_ne hcA hcF.1 dx_oi) hcA
        have k12 : w4 pa = some (aV G sn (va_up sf p0.toNatClampNeg none)) := by rw [e5]; exact up_eq
        refine f_aload (v := .ref h0) X hl ⟨_, rfl, dX4_fetch_57⟩ rfl ⟨(some h0), rfl⟩ ?_
        refine f_get (v := .ref ta) (k := 0) X Z i4 rfl (by decide) (by decide +kernel) dX4_fetch_58 k6 rfl ?_
        refine f_iload X hl ⟨_, rfl, dX4_fetch_61⟩ rfl ?_
        refine f_tald X Z dX4_fetch_62 k7 hin_j ?_
        rw [hjt_j, h3 j hj_j]
        refine f_aload2 (v := .ref a) X hl dX4_fetch_63 rfl ⟨(some a), rfl⟩ ?_
        refine f_callVv (rest := []) X Z hl.1 (c_X2_putAhead l G w4 (tk j) a (hd (T j)) (nI (T j).length) d.1 d.2.1 d.2.2.1 ro (nx (T (6 + pn)) 0) k9 k11) (cwV 1 X.2.2.2.2 gX4_fetch_X2_putAhead rfl rfl rfl (by decide +kernel) ⟨(Nat.le_of_ble_eq_true rfl), (Nat.le_of_ble_eq_true rfl)⟩) rfl rfl dX4_fetch_65 ⟨(Nat.le_of_ble_eq_true rfl), (Nat.le_of_ble_eq_true rfl)⟩ rfl (Nat.le_of_ble_eq_true rfl) k9 (fun w13 H locs p65 Z => ?_)
        have hwP := p65
        have k14 : w13 h0 = some (cTs (some ta) (some to) (some sa) pl y.2.2.2.2.1 (nI c)) := by rw [hwP, up_ne (ad_ne k6 k9 (dx_oo (by decide))), up_ne (ad_ne k6 k11 (dx_oo (by decide)))]; exact k6
        have k15 : w13 ta = some (aT G 6 tf) := by rw [hwP, up_ne (ad_ne k7 k9 dx_io), up_ne (ad_ne k7 k11 dx_io)]; exact k7
        have k16 : w13 to = some (aI G 8 y.2.2.2.2.2) := by rw [hwP, up_ne (ad_ne k8 k9 dx_io), up_ne (ad_ne k8 k11 dx_io)]; exact k8
        have k17 : w13 sa = some (cSid (some pa) sb) := by rw [hwP, up_ne (ad_ne k10 k9 (dx_oo (by decide))), up_ne (ad_ne k10 k11 (dx_oo (by decide)))]; exact k10
        have k18 : w13 pa = some (aV G sn (va_up sf p0.toNatClampNeg none)) := by rw [hwP, up_ne (ad_ne k12 k9 dx_io), up_ne (ad_ne k12 k11 dx_io)]; exact k12
        have k19 : w13 (tk j) = some (cTrk (some a) (nI (T j).length + 1)) := by rw [hwP]; exact up_eq
        have k20 : w13 a = some (cVeh d.1 d.2.1 d.2.2.1 ro (hd (T j))) := by rw [hwP, up_ne (ad_ne k11 k9 (dx_oo (by decide)))]; exact up_eq
        refine f_aload (v := .ref h0) X hl ⟨_, rfl, dX4_fetch_68⟩ rfl ⟨(some h0), rfl⟩ ?_
        refine f_get (v := .ref ta) (k := 0) X Z i4 rfl (by decide) (by decide +kernel) dX4_fetch_69 k14 rfl ?_
        refine f_iload X hl ⟨_, rfl, dX4_fetch_72⟩ rfl ?_
        refine f_tald X Z dX4_fetch_73 k15 hin_j ?_
        rw [hjt_j, h3 j hj_j]
        refine f_get (v := .int (nI (T j).length + 1)) (k := 1) X Z i2 rfl (by decide) (by decide +kernel) dX4_fetch_74 k19 rfl ?_
        exact f_iret X hr hlk Z (Nat.le_of_ble_eq_true rfl) (Nat.le_of_ble_eq_true rfl) dX4_fetch_77 (out_of (hx.fetch hj_j hTp hos rfl hcS hcF.1 hpn (fun ro1 bh1 z => by rw [← (cVeh_inj (hcA.symm.trans z)).1]; exact k20) k19 (by rw [← hpt]; exact k18) (fun b n1 n2 n3 => by rw [hwP, e5, up_ne n2, up_ne n1, up_ne n3])) (by rw [hwP, e5]; exact ((Fr.rf.put hcF.2 (by decide)).put gA (by decide)).put (h5 j hj_j).2 (by simp)) (by omega) (by unfold sp_fetch tn; rw [if_pos c4, if_neg (fun z => z hz), hpt, hyp, hjt_j, nI_1, hx.len j]))
    · refine f_aload (v := .ref h0) X hl ⟨_, rfl, dX4_fetch_19⟩ rfl ⟨(some h0), rfl⟩ ?_
      refine f_iload X hl ⟨_, rfl, dX4_fetch_20⟩ rfl ?_
      refine f_callVi (rest := []) X Z hl.1 (c_X4_tell l G w h0 ta to sd pl y.2.2.2.2.1 (nI c) h1.1 y.2.2.2.2.2 (whyP y.2.1 p0) (whyP_lt _ _) h4.1) (cwV 1 X.2.2.2.2 gX4_fetch_X4_tell rfl rfl rfl (by decide +kernel) ⟨(Nat.le_of_ble_eq_true rfl), (Nat.le_of_ble_eq_true rfl)⟩) rfl rfl dX4_fetch_21 ⟨(Nat.le_of_ble_eq_true rfl), (Nat.le_of_ble_eq_true rfl)⟩ rfl (Nat.le_of_ble_eq_true rfl) h1.1 (fun r21 w21 H locs p21 Z => ?_)
      obtain ⟨hrT, hwT⟩ := p21
      exact f_iret X hr hlk Z (Nat.le_of_ble_eq_true rfl) (Nat.le_of_ble_eq_true rfl) dX4_fetch_24 (out_tell hx Fr.rf hrT hwT (by unfold sp_fetch; rw [if_pos c4, if_pos (fun z => c16 (by rw [z]; rfl))]))
  · rw [hr1, bI_0] at c4
    refine lv_iconst (v := (-1)) X.1 X.2.1 dX4_fetch_7 (by decide) ?_
    exact f_iret X hr hlk Z (Nat.le_of_ble_eq_true rfl) (Nat.le_of_ble_eq_true rfl) dX4_fetch_8 (out_same hR (if_neg c4))
set_option maxHeartbeats 4000000 in
set_option maxRecDepth 100000 in
theorem c_X4_stow (l : Launch) (G : gT) (w : wT) (tg : tT) (h0 c nb : Nat) (y : Yd) (hR : RepC G tg w h0 c y) (hY : Yok nb y) (hn : nb ≤ 512) (p0 t : Int32) : Met l yX4_stow wsX4_stow ({ frames := 1, cells := 0, slots := 0, locals := 21 }) (va_Pc [.ref h0, .int p0, .int t] (wG G w)) (Qi G (OutC G tg w h0 c (sp_stow p0 t y))) 0 0 (fr G) := by
  refine f_met (cc := cX4_stow) (maxL := 5) (ret := (some .int)) (by decide) rfl rfl (Nat.le_of_ble_eq_true rfl) ?_
  intro p e s m below meth cd X hr hlk hnm Z ls hl
  have X : CallFix p m cd cX4_stow 5 s [.ref h0, .int p0, .int t].toArray wsX4_stow RX4 := X
  have hl : lV ls _ [some (.ref h0), some (.int p0), some (.int t), none, none] := hl
  have i1 : ∀ w ∈ wsX10, w ∈ wsX4_stow := by decide +kernel
  have i2 : ∀ w ∈ wsX20, w ∈ wsX4_stow := by decide +kernel
  have i4 : ∀ w ∈ wsX40, w ∈ wsX4_stow := by decide +kernel
  obtain ⟨ta, to, tf, tk, sd, pl, T, hx⟩ := id hR
  obtain ⟨h1, h2, h3, h4, h5, h6, h7, h8, h9⟩ := id hx
  refine f_iload X hl ⟨_, rfl, dX4_stow_0⟩ rfl ?_
  refine f_callSi (rest := []) X Z hl.1 (c_X4_isTrack l G _ _) (va_cwS 1 X.2.2.2.2 gX4_stow_X4_isTrack rfl rfl rfl (by decide +kernel) ⟨(Nat.le_of_ble_eq_true rfl), (Nat.le_of_ble_eq_true rfl)⟩) rfl dX4_stow_1 ⟨(Nat.le_of_ble_eq_true rfl), (Nat.le_of_ble_eq_true rfl)⟩ rfl (Nat.le_of_ble_eq_true rfl) (fun r1 w1 H locs p1 Z => ?_)
  obtain ⟨w1e, hr1⟩ := p1
  have w1e := w1e.symm
  subst w1e
  refine lv_if_ne (tgt := 9) X.1 X.2.1 dX4_stow_4 (by decide) (fun c4 => ?_) (fun c4 => ?_)
  · rw [hr1, bI_0, Classical.not_not] at c4
    obtain ⟨j, hjt_j⟩ : ∃ j, t.toNatClampNeg = j := ⟨_, rfl⟩
    have hj_j : j < 6 := hjt_j ▸ tn_lt c4
    have hin_j : vp_in t 6 := vp_in_iff.mpr c4
    refine f_aload (v := .ref h0) X hl ⟨_, rfl, dX4_stow_9⟩ rfl ⟨(some h0), rfl⟩ ?_
    refine f_get (v := .ref ta) (k := 0) X Z i4 rfl (by decide) (by decide +kernel) dX4_stow_10 h1.1 rfl ?_
    refine f_iload X hl ⟨_, rfl, dX4_stow_13⟩ rfl ?_
    refine f_tald X Z dX4_stow_14 h2.1 hin_j ?_
    rw [hjt_j, h3 j hj_j]
    rcases hTj : T j with _ | ⟨⟨a, d⟩, L⟩
    · have hcl : w (tk j) = some (cTrk none (nI 0)) := by have q := (h5 j hj_j).1; rw [hTj] at q; exact q
      have hyj : y.1 j = [] := by rw [← h7 j, hTj]; rfl
      refine f_get (v := .null) (k := 0) X Z i2 rfl (by decide) (by decide +kernel) dX4_stow_15 hcl rfl ?_
      refine f_astore X hl ⟨_, rfl, dX4_stow_18⟩ (by decide) ⟨none, rfl⟩ (fun ls hl => ?_)
      have hl : lV ls _ [some (.ref h0), some (.int p0), some (.int t), some (.null), none] := hl
      refine f_aload (v := .null) X hl ⟨_, rfl, dX4_stow_19⟩ rfl ⟨none, rfl⟩ ?_
      refine f_callSi (rest := []) X Z hl.1 (c_X4_isEngine2 l G w none none (Or.inl ⟨rfl, rfl⟩)) (va_cwS 1 X.2.2.2.2 gX4_stow_X4_isEngine rfl rfl rfl (by decide +kernel) ⟨(Nat.le_of_ble_eq_true rfl), (Nat.le_of_ble_eq_true rfl)⟩) rfl dX4_stow_20 ⟨(Nat.le_of_ble_eq_true rfl), (Nat.le_of_ble_eq_true rfl)⟩ rfl (Nat.le_of_ble_eq_true rfl) (fun r20 w2 H locs p20 Z => ?_)
      obtain ⟨w2e, hr20⟩ := p20
      have w2e := w2e.symm
      subst w2e
      refine lv_if_eq (tgt := 32) X.1 X.2.1 dX4_stow_23 (by decide) (fun c23 => ?_) (fun c23 => ?_)
      · rw [hr20, bI_0] at c23
        refine f_aload (v := .ref h0) X hl ⟨_, rfl, dX4_stow_32⟩ rfl ⟨(some h0), rfl⟩ ?_
        refine f_iload X hl ⟨_, rfl, dX4_stow_33⟩ rfl ?_
        refine f_callVi (rest := []) X Z hl.1 (c_X4_whyNoPlace l G w h0 ta to sd pl y.2.2.2.2.1 (nI c) h1.1 y.2.1 p0 h8.opt) (cwV 1 X.2.2.2.2 gX4_stow_X4_whyNoPlace rfl rfl rfl (by decide +kernel) ⟨(Nat.le_of_ble_eq_true rfl), (Nat.le_of_ble_eq_true rfl)⟩) rfl rfl dX4_stow_34 ⟨(Nat.le_of_ble_eq_true rfl), (Nat.le_of_ble_eq_true rfl)⟩ rfl (Nat.le_of_ble_eq_true rfl) h1.1 (fun r34 w3 H locs p34 Z => ?_)
        obtain ⟨w3e, hr34⟩ := p34
        have w3e := w3e.symm
        subst w3e
        subst hr34
        refine f_istore2 X hl dX4_stow_37 (by decide) (fun ls hl => ?_)
        have hl : lV ls _ [some (.ref h0), some (.int p0), some (.int t), some (.null), some (.int (nI (whyP y.2.1 p0)))] := hl
        refine f_iload2 X hl dX4_stow_39 rfl ?_
        refine lv_if_eq (tgt := 51) X.1 X.2.1 dX4_stow_41 (by decide) (fun c41 => ?_) (fun c41 => ?_)
        · have hz := (nI_z (whyP_lt _ _)).mp c41
          obtain ⟨sn, sb, hos, hp0, hp1⟩ := whyP_0 hz
          obtain ⟨sa, pa, sf, hsd, hcS, hcF, hs12, hfp⟩ := h8.some hos
          subst hsd
          obtain ⟨pn, hpt⟩ : ∃ pn, p0.toNatClampNeg = pn := ⟨_, rfl⟩
          have hpn : pn < sn := hpt ▸ tn_lt ⟨hp0, hp1⟩
          refine f_aload (v := .null) X hl ⟨_, rfl, dX4_stow_51⟩ rfl ⟨none, rfl⟩ ?_
          refine lv_ifnullN (tgt := 72) X.1 X.2.1 dX4_stow_52 (by decide) ?_
          refine f_aload (v := .ref h0) X hl ⟨_, rfl, dX4_stow_72⟩ rfl ⟨(some h0), rfl⟩ ?_
          refine f_get (v := .ref sa) (k := 2) X Z i4 rfl (by decide) (by decide +kernel) dX4_stow_73 h1.1 rfl ?_
          refine f_get (v := .ref pa) (k := 0) X Z i1 rfl (by decide) (by decide +kernel) dX4_stow_76 hcS rfl ?_
          refine f_iload X hl ⟨_, rfl, dX4_stow_79⟩ rfl ?_
          refine f_aload (v := .ref h0) X hl ⟨_, rfl, dX4_stow_80⟩ rfl ⟨(some h0), rfl⟩ ?_
          refine f_get (v := .ref ta) (k := 0) X Z i4 rfl (by decide) (by decide +kernel) dX4_stow_81 h1.1 rfl ?_
          refine f_iload X hl ⟨_, rfl, dX4_stow_84⟩ rfl ?_
          refine f_tald X Z dX4_stow_85 h2.1 hin_j ?_
          rw [hjt_j, h3 j hj_j]
          refine f_callVq (rest := [.int p0, .ref pa]) X Z hl.1 (c_X2_removeFront l G w (tk j) none (nI 0) 0 0 0 none none hcl (fun a h => by cases h)) (cwV 0 X.2.2.2.2 gX4_stow_X2_removeFront rfl rfl rfl (by decide +kernel) ⟨(Nat.le_of_ble_eq_true rfl), (Nat.le_of_ble_eq_true rfl)⟩) rfl rfl dX4_stow_86 ⟨(Nat.le_of_ble_eq_true rfl), (Nat.le_of_ble_eq_true rfl)⟩ rfl (Nat.le_of_ble_eq_true rfl) hcl (fun r86 w4 H locs p86 Z => ?_)
          obtain ⟨hr, hw0, -⟩ := p86
          have hw0 := (hw0 rfl).symm
          subst hw0
          subst hr
          refine f_aastN (ti := 3) X Z rfl dX4_stow_89 hcF.1 (vp_in_iff.mpr ⟨hp0, hp1⟩) (fun H locs w5 e6 Z => ?_)
          have e6 : w5 = va_up w pa (some (aV G sn (va_up sf p0.toNatClampNeg none))) := e6
          have k7 : w5 h0 = some (cTs (some ta) (some to) (some sa) pl y.2.2.2.2.1 (nI c)) := by rw [e6]; exact lk_ne (ad_ne h1.1 hcF.1 dx_oi) h1.1
          have k8 : w5 ta = some (aT G 6 tf) := by rw [e6]; exact lk_ne (tgne h2.2 hcF.2 (by simp)) h2.1
          have k9 : w5 to = some (aI G 8 y.2.2.2.2.2) := by rw [e6]; exact lk_ne (ad_ne h4.1 hcF.1 dx_ir) h4.1
          have k10 : w5 (tk j) = some (cTrk none (nI 0)) := by rw [e6]; exact lk_ne (ad_ne hcl hcF.1 dx_oi) hcl
          have k11 : w5 sa = some (cSid (some pa) sb) := by rw [e6]; exact lk_ne (ad_ne hcS hcF.1 dx_oi) hcS
          have k12 : w5 pa = some (aV G sn (va_up sf p0.toNatClampNeg none)) := by rw [e6]; exact up_eq
          refine f_aload (v := .null) X hl ⟨_, rfl, dX4_stow_90⟩ rfl ⟨none, rfl⟩ ?_
          refine lv_ifnonnullN X.1 X.2.1 dX4_stow_91 ?_
          refine f_aload (v := .ref h0) X hl ⟨_, rfl, dX4_stow_94⟩ rfl ⟨(some h0), rfl⟩ ?_
          refine lv_iconst (v := 1) X.1 X.2.1 dX4_stow_95 (by decide) ?_
          refine f_callVi (rest := []) X Z hl.1 (c_X4_tell l G w5 h0 ta to (some sa) pl y.2.2.2.2.1 (nI c) k7 y.2.2.2.2.2 1 (by decide) k9) (cwV 1 X.2.2.2.2 gX4_stow_X4_tell rfl rfl rfl (by decide +kernel) ⟨(Nat.le_of_ble_eq_true rfl), (Nat.le_of_ble_eq_true rfl)⟩) rfl rfl dX4_stow_96 ⟨(Nat.le_of_ble_eq_true rfl), (Nat.le_of_ble_eq_true rfl)⟩ rfl (Nat.le_of_ble_eq_true rfl) k7 (fun r96 w13 H locs p96 Z => ?_)
          obtain ⟨hrT, hwT⟩ := p96
          refine lv_goto (tgt := 111) X.1 X.2.1 dX4_stow_99 (by decide) ?_
          exact f_iret X hr hlk Z (Nat.le_of_ble_eq_true rfl) (Nat.le_of_ble_eq_true rfl) dX4_stow_111 (out_tell (hx.stowN hos rfl hcS hcF.1 hpn (by rw [e6, hpt])) (by rw [e6]; exact Fr.rf.put hcF.2 (by decide)) hrT hwT (by unfold sp_stow tn; rw [if_pos c4, hjt_j, hyj]; refine (if_neg c23).trans ?_; rw [if_neg (fun z => z hz), hpt]))
        · refine f_aload (v := .ref h0) X hl ⟨_, rfl, dX4_stow_44⟩ rfl ⟨(some h0), rfl⟩ ?_
          refine f_iload2 X hl dX4_stow_45 rfl ?_
          refine f_callVi (rest := []) X Z hl.1 (c_X4_tell l G w h0 ta to sd pl y.2.2.2.2.1 (nI c) h1.1 y.2.2.2.2.2 (whyP y.2.1 p0) (whyP_lt _ _) h4.1) (cwV 1 X.2.2.2.2 gX4_stow_X4_tell rfl rfl rfl (by decide +kernel) ⟨(Nat.le_of_ble_eq_true rfl), (Nat.le_of_ble_eq_true rfl)⟩) rfl rfl dX4_stow_47 ⟨(Nat.le_of_ble_eq_true rfl), (Nat.le_of_ble_eq_true rfl)⟩ rfl (Nat.le_of_ble_eq_true rfl) h1.1 (fun r47 w14 H locs p47 Z => ?_)
          obtain ⟨hrT, hwT⟩ := p47
          exact f_iret X hr hlk Z (Nat.le_of_ble_eq_true rfl) (Nat.le_of_ble_eq_true rfl) dX4_stow_50 (out_tell hx Fr.rf hrT hwT (by unfold sp_stow tn; rw [if_pos c4, hjt_j, hyj]; refine (if_neg c23).trans ?_; rw [if_pos (fun z => c41 (by rw [z]; rfl))]))
      · rw [hr20, bI_0, Classical.not_not] at c23
        refine f_aload (v := .ref h0) X hl ⟨_, rfl, dX4_stow_26⟩ rfl ⟨(some h0), rfl⟩ ?_
        refine lv_iconst (v := 2) X.1 X.2.1 dX4_stow_27 (by decide) ?_
        refine f_callVi (rest := []) X Z hl.1 (c_X4_tell l G w h0 ta to sd pl y.2.2.2.2.1 (nI c) h1.1 y.2.2.2.2.2 2 (by decide) h4.1) (cwV 1 X.2.2.2.2 gX4_stow_X4_tell rfl rfl rfl (by decide +kernel) ⟨(Nat.le_of_ble_eq_true rfl), (Nat.le_of_ble_eq_true rfl)⟩) rfl rfl dX4_stow_28 ⟨(Nat.le_of_ble_eq_true rfl), (Nat.le_of_ble_eq_true rfl)⟩ rfl (Nat.le_of_ble_eq_true rfl) h1.1 (fun r28 w15 H locs p28 Z => ?_)
        obtain ⟨hrT, hwT⟩ := p28
        exact f_iret X hr hlk Z (Nat.le_of_ble_eq_true rfl) (Nat.le_of_ble_eq_true rfl) dX4_stow_31 (out_tell hx Fr.rf hrT hwT (by unfold sp_stow tn; rw [if_pos c4, hjt_j, hyj]; exact if_pos c23))
    · have hd1 : (T j)[0]? = some (a, d) := by rw [hTj]; rfl
      have hcl : w (tk j) = some (cTrk (some a) (nI (L.length + 1))) := by have q := (h5 j hj_j).1; rw [hTj] at q; exact q
      have hyj : y.1 j = d :: L.map Prod.snd := by rw [← h7 j, hTj]; rfl
      obtain ⟨gA, ro, hcA, hro, hrt⟩ := h6.1 j _ a d hd1
      have hnx : nx (T j) 0 = hd L := by rw [hTj]; rfl
      rw [hnx] at hcA
      refine f_get (v := .ref a) (k := 0) X Z i2 rfl (by decide) (by decide +kernel) dX4_stow_15 hcl rfl ?_
      refine f_astore X hl ⟨_, rfl, dX4_stow_18⟩ (by decide) ⟨(some a), rfl⟩ (fun ls hl => ?_)
      have hl : lV ls _ [some (.ref h0), some (.int p0), some (.int t), some (.ref a), none] := hl
      refine f_aload (v := .ref a) X hl ⟨_, rfl, dX4_stow_19⟩ rfl ⟨(some a), rfl⟩ ?_
      refine f_callSi (rest := []) X Z hl.1 (c_X4_isEngine2 l G w (some a) (some d) (Or.inr ⟨a, d, _, rfl, rfl, ro, hcA, hro⟩)) (va_cwS 1 X.2.2.2.2 gX4_stow_X4_isEngine rfl rfl rfl (by decide +kernel) ⟨(Nat.le_of_ble_eq_true rfl), (Nat.le_of_ble_eq_true rfl)⟩) rfl dX4_stow_20 ⟨(Nat.le_of_ble_eq_true rfl), (Nat.le_of_ble_eq_true rfl)⟩ rfl (Nat.le_of_ble_eq_true rfl) (fun r20 w16 H locs p20 Z => ?_)
      obtain ⟨w16e, hr20⟩ := p20
      have w16e := w16e.symm
      subst w16e
      refine lv_if_eq (tgt := 32) X.1 X.2.1 dX4_stow_23 (by decide) (fun c23 => ?_) (fun c23 => ?_)
      · rw [hr20, bI_0] at c23
        refine f_aload (v := .ref h0) X hl ⟨_, rfl, dX4_stow_32⟩ rfl ⟨(some h0), rfl⟩ ?_
        refine f_iload X hl ⟨_, rfl, dX4_stow_33⟩ rfl ?_
        refine f_callVi (rest := []) X Z hl.1 (c_X4_whyNoPlace l G w h0 ta to sd pl y.2.2.2.2.1 (nI c) h1.1 y.2.1 p0 h8.opt) (cwV 1 X.2.2.2.2 gX4_stow_X4_whyNoPlace rfl rfl rfl (by decide +kernel) ⟨(Nat.le_of_ble_eq_true rfl), (Nat.le_of_ble_eq_true rfl)⟩) rfl rfl dX4_stow_34 ⟨(Nat.le_of_ble_eq_true rfl), (Nat.le_of_ble_eq_true rfl)⟩ rfl (Nat.le_of_ble_eq_true rfl) h1.1 (fun r34 w17 H locs p34 Z => ?_)
        obtain ⟨w17e, hr34⟩ := p34
        have w17e := w17e.symm
        subst w17e
        subst hr34
        refine f_istore2 X hl dX4_stow_37 (by decide) (fun ls hl => ?_)
        have hl : lV ls _ [some (.ref h0), some (.int p0), some (.int t), some (.ref a), some (.int (nI (whyP y.2.1 p0)))] := hl
        refine f_iload2 X hl dX4_stow_39 rfl ?_
        refine lv_if_eq (tgt := 51) X.1 X.2.1 dX4_stow_41 (by decide) (fun c41 => ?_) (fun c41 => ?_)
        · have hz := (nI_z (whyP_lt _ _)).mp c41
          obtain ⟨sn, sb, hos, hp0, hp1⟩ := whyP_0 hz
          obtain ⟨sa, pa, sf, hsd, hcS, hcF, hs12, hfp⟩ := h8.some hos
          subst hsd
          obtain ⟨pn, hpt⟩ : ∃ pn, p0.toNatClampNeg = pn := ⟨_, rfl⟩
          have hpn : pn < sn := hpt ▸ tn_lt ⟨hp0, hp1⟩
          refine f_aload (v := .ref a) X hl ⟨_, rfl, dX4_stow_51⟩ rfl ⟨(some a), rfl⟩ ?_
          refine lv_ifnull X.1 X.2.1 dX4_stow_52 ?_
          refine f_aload (v := .ref h0) X hl ⟨_, rfl, dX4_stow_55⟩ rfl ⟨(some h0), rfl⟩ ?_
          refine f_get (v := .ref sa) (k := 2) X Z i4 rfl (by decide) (by decide +kernel) dX4_stow_56 h1.1 rfl ?_
          refine f_aload (v := .ref a) X hl ⟨_, rfl, dX4_stow_59⟩ rfl ⟨(some a), rfl⟩ ?_
          refine f_callVi (rest := []) X Z hl.1 (c_X1_accepts l G w sa a (some pa) sb d.1 d.2.1 d.2.2.1 ro (hd L) hcS hcA) (cwV 1 X.2.2.2.2 gX4_stow_X1_accepts rfl rfl rfl (by decide +kernel) ⟨(Nat.le_of_ble_eq_true rfl), (Nat.le_of_ble_eq_true rfl)⟩) rfl rfl dX4_stow_60 ⟨(Nat.le_of_ble_eq_true rfl), (Nat.le_of_ble_eq_true rfl)⟩ rfl (Nat.le_of_ble_eq_true rfl) hcS (fun r60 w18 H locs p60 Z => ?_)
          obtain ⟨w18e, hr60⟩ := p60
          have w18e := w18e.symm
          subst w18e
          refine lv_if_ne (tgt := 72) X.1 X.2.1 dX4_stow_63 (by decide) (fun c63 => ?_) (fun c63 => ?_)
          · rw [hr60, bI_0, Classical.not_not] at c63
            refine f_aload (v := .ref h0) X hl ⟨_, rfl, dX4_stow_72⟩ rfl ⟨(some h0), rfl⟩ ?_
            refine f_get (v := .ref sa) (k := 2) X Z i4 rfl (by decide) (by decide +kernel) dX4_stow_73 h1.1 rfl ?_
            refine f_get (v := .ref pa) (k := 0) X Z i1 rfl (by decide) (by decide +kernel) dX4_stow_76 hcS rfl ?_
            refine f_iload X hl ⟨_, rfl, dX4_stow_79⟩ rfl ?_
            refine f_aload (v := .ref h0) X hl ⟨_, rfl, dX4_stow_80⟩ rfl ⟨(some h0), rfl⟩ ?_
            refine f_get (v := .ref ta) (k := 0) X Z i4 rfl (by decide) (by decide +kernel) dX4_stow_81 h1.1 rfl ?_
            refine f_iload X hl ⟨_, rfl, dX4_stow_84⟩ rfl ?_
            refine f_tald X Z dX4_stow_85 h2.1 hin_j ?_
            rw [hjt_j, h3 j hj_j]
            refine f_callVq (rest := [.int p0, .ref pa]) X Z hl.1 (c_X2_removeFront l G w (tk j) (some a) (nI (L.length + 1)) d.1 d.2.1 d.2.2.1 ro (hd L) hcl (fun a1 h => by cases h; exact hcA)) (cwV 0 X.2.2.2.2 gX4_stow_X2_removeFront rfl rfl rfl (by decide +kernel) ⟨(Nat.le_of_ble_eq_true rfl), (Nat.le_of_ble_eq_true rfl)⟩) rfl rfl dX4_stow_86 ⟨(Nat.le_of_ble_eq_true rfl), (Nat.le_of_ble_eq_true rfl)⟩ rfl (Nat.le_of_ble_eq_true rfl) hcl (fun r86 w19 H locs p86 Z => ?_)
            obtain ⟨hr, -, hw1⟩ := p86
            have hw1 := hw1 a rfl
            subst hr
            rw [nI_pred] at hw1
            have k20 : w19 h0 = some (cTs (some ta) (some to) (some sa) pl y.2.2.2.2.1 (nI c)) := by rw [hw1, up_ne (ad_ne h1.1 hcl (dx_oo (by decide))), up_ne (ad_ne h1.1 hcA (dx_oo (by decide)))]; exact h1.1
            have k21 : w19 ta = some (aT G 6 tf) := by rw [hw1, up_ne (ad_ne h2.1 hcl dx_io), up_ne (ad_ne h2.1 hcA dx_io)]; exact h2.1
            have k22 : w19 to = some (aI G 8 y.2.2.2.2.2) := by rw [hw1, up_ne (ad_ne h4.1 hcl dx_io), up_ne (ad_ne h4.1 hcA dx_io)]; exact h4.1
            have k23 : w19 sa = some (cSid (some pa) sb) := by rw [hw1, up_ne (ad_ne hcS hcl (dx_oo (by decide))), up_ne (ad_ne hcS hcA (dx_oo (by decide)))]; exact hcS
            have k24 : w19 pa = some (aV G sn sf) := by rw [hw1, up_ne (ad_ne hcF.1 hcl dx_io), up_ne (ad_ne hcF.1 hcA dx_io)]; exact hcF.1
            have k25 : w19 (tk j) = some (cTrk (hd L) (nI L.length)) := by rw [hw1]; exact up_eq
            have k26 : w19 a = some (cVeh d.1 d.2.1 d.2.2.1 ro none) := by rw [hw1, up_ne (ad_ne hcA hcl (dx_oo (by decide)))]; exact up_eq
            have hU : Up (fun b => b = a ∨ b = tk j) w tg w19 tg := Up.by (fun b e _ hS => by rw [hw1, up_ne (fun z => hS (Or.inr z)), up_ne (fun z => hS (Or.inl z))]) (by rintro _ (rfl | rfl); exact ⟨_, k26⟩; exact ⟨_, k25⟩) (fun _ _ _ => rfl)
            have hve : vehAt G w19 a d none := ⟨ro, k26, (hro.up hrt hU (by rintro _ (rfl | rfl); rw [gA]; simp; rw [(h5 j hj_j).2]; simp)).1⟩
            have hF : Fr w tg w19 tg := by rw [hw1]; exact (Fr.rf.put gA (by decide)).put (h5 j hj_j).2 (by simp)
            refine f_aast (ti := 3) (ci := 3) X Z rfl rfl dX4_stow_89 k24 k26 (vp_in_iff.mpr ⟨hp0, hp1⟩) (fun H locs w27 e28 Z => ?_)
            have e28 : w27 = va_up w19 pa (some (aV G sn (va_up sf p0.toNatClampNeg (some a)))) := e28
            have k29 : w27 h0 = some (cTs (some ta) (some to) (some sa) pl y.2.2.2.2.1 (nI c)) := by rw [e28]; exact lk_ne (ad_ne k20 k24 dx_oi) k20
            have k30 : w27 ta = some (aT G 6 tf) := by rw [e28]; exact lk_ne (tgne h2.2 hcF.2 (by simp)) k21
            have k31 : w27 to = some (aI G 8 y.2.2.2.2.2) := by rw [e28]; exact lk_ne (ad_ne k22 k24 dx_ir) k22
            have k32 : w27 sa = some (cSid (some pa) sb) := by rw [e28]; exact lk_ne (ad_ne k23 k24 dx_oi) k23
            have k33 : w27 (tk j) = some (cTrk (hd L) (nI L.length)) := by rw [e28]; exact lk_ne (ad_ne k25 k24 dx_oi) k25
            have k34 : w27 a = some (cVeh d.1 d.2.1 d.2.2.1 ro none) := by rw [e28]; exact lk_ne (ad_ne k26 k24 dx_oi) k26
            have k35 : w27 pa = some (aV G sn (va_up sf p0.toNatClampNeg (some a))) := by rw [e28]; exact up_eq
            refine f_aload (v := .ref a) X hl ⟨_, rfl, dX4_stow_90⟩ rfl ⟨(some a), rfl⟩ ?_
            refine lv_ifnonnull (tgt := 102) X.1 X.2.1 dX4_stow_91 (by decide) ?_
            refine f_aload (v := .ref h0) X hl ⟨_, rfl, dX4_stow_102⟩ rfl ⟨(some h0), rfl⟩ ?_
            refine f_get (v := .ref ta) (k := 0) X Z i4 rfl (by decide) (by decide +kernel) dX4_stow_103 k29 rfl ?_
            refine f_iload X hl ⟨_, rfl, dX4_stow_106⟩ rfl ?_
            refine f_tald X Z dX4_stow_107 k30 hin_j ?_
            rw [hjt_j, h3 j hj_j]
            refine f_get (v := .int (nI L.length)) (k := 1) X Z i2 rfl (by decide) (by decide +kernel) dX4_stow_108 k33 rfl ?_
            exact f_iret X hr hlk Z (Nat.le_of_ble_eq_true rfl) (Nat.le_of_ble_eq_true rfl) dX4_stow_111 (out_of (hx.stow hj_j hTj hos rfl hcS hcF.1 hpn (fun ro1 bh1 z => by rw [← (cVeh_inj (hcA.symm.trans z)).1]; exact k34) k33 (by rw [← hpt]; exact k35) (fun b n1 n2 n3 => by rw [e28, up_ne n3, hw1, up_ne n2, up_ne n1])) (by rw [e28]; exact hF.put hcF.2 (by decide)) (by omega) (by unfold sp_stow tn; rw [if_pos c4, hjt_j, hyj]; refine (if_neg c23).trans ?_; rw [if_neg (fun z => z hz), hos, hpt]; refine (if_pos c63).trans ?_; rw [List.length_map]))
          · rw [hr60, bI_0] at c63
            refine f_aload (v := .ref h0) X hl ⟨_, rfl, dX4_stow_66⟩ rfl ⟨(some h0), rfl⟩ ?_
            refine lv_iconst (v := 3) X.1 X.2.1 dX4_stow_67 (by decide) ?_
            refine f_callVi (rest := []) X Z hl.1 (c_X4_tell l G w h0 ta to (some sa) pl y.2.2.2.2.1 (nI c) h1.1 y.2.2.2.2.2 3 (by decide) h4.1) (cwV 1 X.2.2.2.2 gX4_stow_X4_tell rfl rfl rfl (by decide +kernel) ⟨(Nat.le_of_ble_eq_true rfl), (Nat.le_of_ble_eq_true rfl)⟩) rfl rfl dX4_stow_68 ⟨(Nat.le_of_ble_eq_true rfl), (Nat.le_of_ble_eq_true rfl)⟩ rfl (Nat.le_of_ble_eq_true rfl) h1.1 (fun r68 w36 H locs p68 Z => ?_)
            obtain ⟨hrT, hwT⟩ := p68
            exact f_iret X hr hlk Z (Nat.le_of_ble_eq_true rfl) (Nat.le_of_ble_eq_true rfl) dX4_stow_71 (out_tell hx Fr.rf hrT hwT (by unfold sp_stow tn; rw [if_pos c4, hjt_j, hyj]; refine (if_neg c23).trans ?_; rw [if_neg (fun z => z hz), hos]; exact if_neg c63))
        · refine f_aload (v := .ref h0) X hl ⟨_, rfl, dX4_stow_44⟩ rfl ⟨(some h0), rfl⟩ ?_
          refine f_iload2 X hl dX4_stow_45 rfl ?_
          refine f_callVi (rest := []) X Z hl.1 (c_X4_tell l G w h0 ta to sd pl y.2.2.2.2.1 (nI c) h1.1 y.2.2.2.2.2 (whyP y.2.1 p0) (whyP_lt _ _) h4.1) (cwV 1 X.2.2.2.2 gX4_stow_X4_tell rfl rfl rfl (by decide +kernel) ⟨(Nat.le_of_ble_eq_true rfl), (Nat.le_of_ble_eq_true rfl)⟩) rfl rfl dX4_stow_47 ⟨(Nat.le_of_ble_eq_true rfl), (Nat.le_of_ble_eq_true rfl)⟩ rfl (Nat.le_of_ble_eq_true rfl) h1.1 (fun r47 w37 H locs p47 Z => ?_)
          obtain ⟨hrT, hwT⟩ := p47
          exact f_iret X hr hlk Z (Nat.le_of_ble_eq_true rfl) (Nat.le_of_ble_eq_true rfl) dX4_stow_50 (out_tell hx Fr.rf hrT hwT (by unfold sp_stow tn; rw [if_pos c4, hjt_j, hyj]; refine (if_neg c23).trans ?_; rw [if_pos (fun z => c41 (by rw [z]; rfl))]))
      · rw [hr20, bI_0, Classical.not_not] at c23
        refine f_aload (v := .ref h0) X hl ⟨_, rfl, dX4_stow_26⟩ rfl ⟨(some h0), rfl⟩ ?_
        refine lv_iconst (v := 2) X.1 X.2.1 dX4_stow_27 (by decide) ?_
        refine f_callVi (rest := []) X Z hl.1 (c_X4_tell l G w h0 ta to sd pl y.2.2.2.2.1 (nI c) h1.1 y.2.2.2.2.2 2 (by decide) h4.1) (cwV 1 X.2.2.2.2 gX4_stow_X4_tell rfl rfl rfl (by decide +kernel) ⟨(Nat.le_of_ble_eq_true rfl), (Nat.le_of_ble_eq_true rfl)⟩) rfl rfl dX4_stow_28 ⟨(Nat.le_of_ble_eq_true rfl), (Nat.le_of_ble_eq_true rfl)⟩ rfl (Nat.le_of_ble_eq_true rfl) h1.1 (fun r28 w38 H locs p28 Z => ?_)
        obtain ⟨hrT, hwT⟩ := p28
        exact f_iret X hr hlk Z (Nat.le_of_ble_eq_true rfl) (Nat.le_of_ble_eq_true rfl) dX4_stow_31 (out_tell hx Fr.rf hrT hwT (by unfold sp_stow tn; rw [if_pos c4, hjt_j, hyj]; exact if_pos c23))
  · rw [hr1, bI_0] at c4
    refine lv_iconst (v := (-1)) X.1 X.2.1 dX4_stow_7 (by decide) ?_
    exact f_iret X hr hlk Z (Nat.le_of_ble_eq_true rfl) (Nat.le_of_ble_eq_true rfl) dX4_stow_8 (out_same hR (if_neg c4))
set_option maxHeartbeats 4000000 in
set_option maxRecDepth 100000 in
theorem c_X4_place (l : Launch) (G : gT) (w : wT) (tg : tT) (h0 c nb : Nat) (y : Yd) (hR : RepC G tg w h0 c y) (hY : Yok nb y) (hn : nb ≤ 512) (hc : c < 512) (t so we : Int32) : Met l yX4_place wsX4_place ({ frames := 2, cells := 1, slots := 5, locals := 38 }) (va_Pc [.ref h0, .int t, .int so, .int we] (wG G w)) (Qi G (OutC G tg w h0 c (sp_place t so we y))) 1 5 (fr G) := by
  refine f_met (cc := cX4_place) (maxL := 5) (ret := (some .int)) (by decide) rfl rfl (Nat.le_of_ble_eq_true rfl) ?_
  intro p e s m below meth cd X hr hlk hnm Z ls hl
  have X : CallFix p m cd cX4_place 5 s [.ref h0, .int t, .int so, .int we].toArray wsX4_place RX4 := X
  have hl : lV ls _ [some (.ref h0), some (.int t), some (.int so), some (.int we), none] := hl
  have i2 : ∀ w ∈ wsX20, w ∈ wsX4_place := by decide +kernel
  have i3 : ∀ w ∈ wsX30, w ∈ wsX4_place := by decide +kernel
  have i4 : ∀ w ∈ wsX40, w ∈ wsX4_place := by decide +kernel
  obtain ⟨ta, to, tf, tk, sd, pl, T, hx⟩ := id hR
  obtain ⟨h1, h2, h3, h4, h5, h6, h7, h8, h9⟩ := id hx
  refine f_iload X hl ⟨_, rfl, dX4_place_0⟩ rfl ?_
  refine f_callSi (rest := []) X Z hl.1 (c_X4_isTrack l G _ _) (va_cwS 1 X.2.2.2.2 gX4_place_X4_isTrack rfl rfl rfl (by decide +kernel) ⟨(Nat.le_of_ble_eq_true rfl), (Nat.le_of_ble_eq_true rfl)⟩) rfl dX4_place_1 ⟨(Nat.le_of_ble_eq_true rfl), (Nat.le_of_ble_eq_true rfl)⟩ rfl (Nat.le_of_ble_eq_true rfl) (fun r1 w1 H locs p1 Z => ?_)
  obtain ⟨w1e, hr1⟩ := p1
  have w1e := w1e.symm
  subst w1e
  refine lv_if_eq (tgt := 31) X.1 X.2.1 dX4_place_4 (by decide) (fun c4 => ?_) (fun c4 => ?_)
  · rw [hr1, bI_0] at c4
    refine lv_iconst (v := 0) X.1 X.2.1 dX4_place_31 (by decide) ?_
    refine f_istore2 X hl dX4_place_32 (by decide) (fun ls hl => ?_)
    have hl : lV ls _ [some (.ref h0), some (.int t), some (.int so), some (.int we), some (.int 0)] := hl
    refine f_iload2 X hl dX4_place_34 rfl ?_
    refine lv_if_eq (tgt := 49) X.1 X.2.1 dX4_place_36 (by decide) (fun c36 => ?_) (fun c36 => ?_)
    · refine lv_iconst (v := (-1)) X.1 X.2.1 dX4_place_49 (by decide) ?_
      exact f_iret X hr hlk Z (Nat.le_of_ble_eq_true rfl) (Nat.le_of_ble_eq_true rfl) dX4_place_50 (out_same hR (if_neg (fun h => c4 h.1)))
    · exact absurd rfl c36
  · rw [hr1, bI_0, Classical.not_not] at c4
    refine f_iload X hl ⟨_, rfl, dX4_place_7⟩ rfl ?_
    refine lv_iconst (v := 1) X.1 X.2.1 dX4_place_8 (by decide) ?_
    refine lv_iconst (v := 3) X.1 X.2.1 dX4_place_9 (by decide) ?_
    refine f_callSi (rest := []) X Z hl.1 (c_X4_isWithin l G _ _ _ _) (va_cwS 3 X.2.2.2.2 gX4_place_X4_isWithin rfl rfl rfl (by decide +kernel) ⟨(Nat.le_of_ble_eq_true rfl), (Nat.le_of_ble_eq_true rfl)⟩) rfl dX4_place_10 ⟨(Nat.le_of_ble_eq_true rfl), (Nat.le_of_ble_eq_true rfl)⟩ rfl (Nat.le_of_ble_eq_true rfl) (fun r10 w2 H locs p10 Z => ?_)
    obtain ⟨w2e, hr10⟩ := p10
    have w2e := w2e.symm
    subst w2e
    refine lv_if_eq (tgt := 31) X.1 X.2.1 dX4_place_13 (by decide) (fun c13 => ?_) (fun c13 => ?_)
    · rw [hr10, bI_0] at c13
      refine lv_iconst (v := 0) X.1 X.2.1 dX4_place_31 (by decide) ?_
      refine f_istore2 X hl dX4_place_32 (by decide) (fun ls hl => ?_)
      have hl : lV ls _ [some (.ref h0), some (.int t), some (.int so), some (.int we), some (.int 0)] := hl
      refine f_iload2 X hl dX4_place_34 rfl ?_
      refine lv_if_eq (tgt := 49) X.1 X.2.1 dX4_place_36 (by decide) (fun c36 => ?_) (fun c36 => ?_)
      · refine lv_iconst (v := (-1)) X.1 X.2.1 dX4_place_49 (by decide) ?_
        exact f_iret X hr hlk Z (Nat.le_of_ble_eq_true rfl) (Nat.le_of_ble_eq_true rfl) dX4_place_50 (out_same hR (if_neg (fun h => c13 h.2.1)))
      · exact absurd rfl c36
    · rw [hr10, bI_0, Classical.not_not] at c13
      refine f_iload X hl ⟨_, rfl, dX4_place_16⟩ rfl ?_
      refine lv_iconst (v := 1) X.1 X.2.1 dX4_place_17 (by decide) ?_
      refine lv_sipush (v := 1000) X.1 X.2.1 dX4_place_18 (by decide) ?_
      refine f_callSi (rest := []) X Z hl.1 (c_X4_isWithin l G _ _ _ _) (va_cwS 3 X.2.2.2.2 gX4_place_X4_isWithin rfl rfl rfl (by decide +kernel) ⟨(Nat.le_of_ble_eq_true rfl), (Nat.le_of_ble_eq_true rfl)⟩) rfl dX4_place_21 ⟨(Nat.le_of_ble_eq_true rfl), (Nat.le_of_ble_eq_true rfl)⟩ rfl (Nat.le_of_ble_eq_true rfl) (fun r21 w3 H locs p21 Z => ?_)
      obtain ⟨w3e, hr21⟩ := p21
      have w3e := w3e.symm
      subst w3e
      refine lv_if_eq (tgt := 31) X.1 X.2.1 dX4_place_24 (by decide) (fun c24 => ?_) (fun c24 => ?_)
      · rw [hr21, bI_0] at c24
        refine lv_iconst (v := 0) X.1 X.2.1 dX4_place_31 (by decide) ?_
        refine f_istore2 X hl dX4_place_32 (by decide) (fun ls hl => ?_)
        have hl : lV ls _ [some (.ref h0), some (.int t), some (.int so), some (.int we), some (.int 0)] := hl
        refine f_iload2 X hl dX4_place_34 rfl ?_
        refine lv_if_eq (tgt := 49) X.1 X.2.1 dX4_place_36 (by decide) (fun c36 => ?_) (fun c36 => ?_)
        · refine lv_iconst (v := (-1)) X.1 X.2.1 dX4_place_49 (by decide) ?_
          exact f_iret X hr hlk Z (Nat.le_of_ble_eq_true rfl) (Nat.le_of_ble_eq_true rfl) dX4_place_50 (out_same hR (if_neg (fun h => c24 h.2.2)))
        · exact absurd rfl c36
      · rw [hr21, bI_0, Classical.not_not] at c24
        obtain ⟨j, hjt_j⟩ : ∃ j, t.toNatClampNeg = j := ⟨_, rfl⟩
        have hj_j : j < 6 := hjt_j ▸ tn_lt c4
        have hin_j : vp_in t 6 := vp_in_iff.mpr c4
        refine lv_iconst (v := 1) X.1 X.2.1 dX4_place_27 (by decide) ?_
        refine lv_goto (tgt := 32) X.1 X.2.1 dX4_place_28 (by decide) ?_
        refine f_istore2 X hl dX4_place_32 (by decide) (fun ls hl => ?_)
        have hl : lV ls _ [some (.ref h0), some (.int t), some (.int so), some (.int we), some (.int 1)] := hl
        refine f_iload2 X hl dX4_place_34 rfl ?_
        refine lv_if_eq (tgt := 49) X.1 X.2.1 dX4_place_36 (by decide) (fun c36 => ?_) (fun c36 => ?_)
        · exact absurd c36 (by decide)
        · refine f_aload (v := .ref h0) X hl ⟨_, rfl, dX4_place_39⟩ rfl ⟨(some h0), rfl⟩ ?_
          refine f_get (v := .int (nI c)) (k := 5) X Z i4 rfl (by decide) (by decide +kernel) dX4_place_40 h1.1 rfl ?_
          refine lv_sipush (v := 512) X.1 X.2.1 dX4_place_43 (by decide) ?_
          refine lv_icmp_lt (tgt := 51) X.1 X.2.1 dX4_place_46 (by decide) (fun c46 => ?_) (fun c46 => ?_)
          · refine f_aload (v := .ref h0) X hl ⟨_, rfl, dX4_place_51⟩ rfl ⟨(some h0), rfl⟩ ?_
            refine lv_dup X.1 X.2.1 dX4_place_52 rfl ?_
            refine f_get (v := .int (nI c)) (k := 5) X Z i4 rfl (by decide) (by decide +kernel) dX4_place_53 h1.1 rfl ?_
            refine lv_iconst (v := 1) X.1 X.2.1 dX4_place_56 (by decide) ?_
            refine lv_iadd X.1 X.2.1 dX4_place_57 ?_
            refine f_put (v := .int ((nI c) + 1)) (ty0 := tyX4) (k := 5) X Z i4 tyX4_ok nmX4 rfl (by decide) (by decide +kernel) rfl dX4_place_58 h1.1 rfl rfl (Nat.le_of_ble_eq_true rfl) (fun H locs w4 e5 Z => ?_)
            have e5 : w4 = va_up w h0 (some (cTs (some ta) (some to) sd pl y.2.2.2.2.1 ((nI c) + 1))) := e5
            have k6 : w4 ta = some (aT G 6 tf) := by rw [e5]; exact lk_ne (ad_ne h2.1 h1.1 dx_io) h2.1
            have k7 : w4 to = some (aI G 8 y.2.2.2.2.2) := by rw [e5]; exact lk_ne (ad_ne h4.1 h1.1 dx_io) h4.1
            have k8 : w4 (tk j) = some (cTrk (hd (T j)) (nI (T j).length)) := by rw [e5]; exact lk_ne (ad_ne (h5 j hj_j).1 h1.1 (dx_oo (by decide))) (h5 j hj_j).1
            have k9 : w4 h0 = some (cTs (some ta) (some to) sd pl y.2.2.2.2.1 ((nI c) + 1)) := by rw [e5]; exact up_eq
            refine f_aload (v := .ref h0) X hl ⟨_, rfl, dX4_place_61⟩ rfl ⟨(some h0), rfl⟩ ?_
            refine f_get (v := .ref ta) (k := 0) X Z i4 rfl (by decide) (by decide +kernel) dX4_place_62 k9 rfl ?_
            refine f_iload X hl ⟨_, rfl, dX4_place_65⟩ rfl ?_
            refine f_tald X Z dX4_place_66 k6 hin_j ?_
            rw [hjt_j, h3 j hj_j]
            refine f_new (ci := 3) (ty := tyX3) (fs := [.int 0, .int 0, .int 0, .null, .null]) X Z i3 tyX3_ok rfl (by decide +kernel) (by decide +kernel) (by decide +kernel) (fun j hj => by rcases (show j = 0 ∨ j = 1 ∨ j = 2 ∨ j = 3 ∨ j = 4 by omega) with rfl | rfl | rfl | rfl | rfl <;> rfl) dX4_place_67 (Nat.le_of_ble_eq_true rfl) (Nat.le_of_ble_eq_true rfl) (fun q67 H w10 hq67 e11 Z => ?_)
            have e11 : w10 = va_up w4 q67 (some (cVeh 0 0 0 none none)) := e11
            have k12 : w10 ta = some (aT G 6 tf) := by rw [e11]; exact lk_ne (ad_new k6 hq67) k6
            have k13 : w10 to = some (aI G 8 y.2.2.2.2.2) := by rw [e11]; exact lk_ne (ad_new k7 hq67) k7
            have k14 : w10 (tk j) = some (cTrk (hd (T j)) (nI (T j).length)) := by rw [e11]; exact lk_ne (ad_new k8 hq67) k8
            have k15 : w10 h0 = some (cTs (some ta) (some to) sd pl y.2.2.2.2.1 ((nI c) + 1)) := by rw [e11]; exact lk_ne (ad_new k9 hq67) k9
            have k16 : w10 q67 = some (cVeh 0 0 0 none none) := by rw [e11]; exact up_eq
            refine lv_dup X.1 X.2.1 dX4_place_70 rfl ?_
            refine f_iload X hl ⟨_, rfl, dX4_place_71⟩ rfl ?_
            refine f_iload X hl ⟨_, rfl, dX4_place_72⟩ rfl ?_
            refine f_callIv (rest := [.ref q67, .ref (tk j)]) X Z hl.1 (c_X3_init l G w10 q67 so we k16) (cwI 2 X.2.2.2.2 gX4_place_X3_init rfl rfl rfl (X.2.2.2.2 (.initialized RX3) (by decide +kernel)) (X.2.2.2.2 (.methodLink RX4 34 yX3_init) (by decide +kernel)) (X.2.2.2.2 (.instanceMethod yX3_init) (by decide +kernel)) rfl (by decide +kernel) ⟨(Nat.le_of_ble_eq_true rfl), (Nat.le_of_ble_eq_true rfl)⟩) rfl dX4_place_73 ⟨(Nat.le_of_ble_eq_true rfl), (Nat.le_of_ble_eq_true rfl)⟩ rfl (Nat.le_of_ble_eq_true rfl) (fun w17 H locs p73 Z => ?_)
            have hwV := p73
            have k18 : w17 ta = some (aT G 6 tf) := by rw [hwV, up_ne (ad_ne k12 k16 dx_io)]; exact k12
            have k19 : w17 to = some (aI G 8 y.2.2.2.2.2) := by rw [hwV, up_ne (ad_ne k13 k16 dx_io)]; exact k13
            have k20 : w17 (tk j) = some (cTrk (hd (T j)) (nI (T j).length)) := by rw [hwV, up_ne (ad_ne k14 k16 (dx_oo (by decide)))]; exact k14
            have k21 : w17 h0 = some (cTs (some ta) (some to) sd pl y.2.2.2.2.1 ((nI c) + 1)) := by rw [hwV, up_ne (ad_ne k15 k16 (dx_oo (by decide)))]; exact k15
            have k22 : w17 q67 = some (cVeh so we 0 none none) := by rw [hwV]; exact up_eq
            refine f_callVv (rest := []) X Z hl.1 (c_X2_putAhead l G w17 (tk j) q67 (hd (T j)) (nI (T j).length) so we 0 none none k20 k22) (cwV 1 X.2.2.2.2 gX4_place_X2_putAhead rfl rfl rfl (by decide +kernel) ⟨(Nat.le_of_ble_eq_true rfl), (Nat.le_of_ble_eq_true rfl)⟩) rfl rfl dX4_place_76 ⟨(Nat.le_of_ble_eq_true rfl), (Nat.le_of_ble_eq_true rfl)⟩ rfl (Nat.le_of_ble_eq_true rfl) k20 (fun w23 H locs p76 Z => ?_)
            have hwP := p76
            have k24 : w23 ta = some (aT G 6 tf) := by rw [hwP, up_ne (ad_ne k18 k20 dx_io), up_ne (ad_ne k18 k22 dx_io)]; exact k18
            have k25 : w23 to = some (aI G 8 y.2.2.2.2.2) := by rw [hwP, up_ne (ad_ne k19 k20 dx_io), up_ne (ad_ne k19 k22 dx_io)]; exact k19
            have k26 : w23 h0 = some (cTs (some ta) (some to) sd pl y.2.2.2.2.1 ((nI c) + 1)) := by rw [hwP, up_ne (ad_ne k21 k20 (dx_oo (by decide))), up_ne (ad_ne k21 k22 (dx_oo (by decide)))]; exact k21
            have k27 : w23 (tk j) = some (cTrk (some q67) (nI (T j).length + 1)) := by rw [hwP]; exact up_eq
            have k28 : w23 q67 = some (cVeh so we 0 none (hd (T j))) := by rw [hwP, up_ne (ad_ne k22 k20 (dx_oo (by decide)))]; exact up_eq
            refine f_aload (v := .ref h0) X hl ⟨_, rfl, dX4_place_79⟩ rfl ⟨(some h0), rfl⟩ ?_
            refine f_get (v := .ref ta) (k := 0) X Z i4 rfl (by decide) (by decide +kernel) dX4_place_80 k26 rfl ?_
            refine f_iload X hl ⟨_, rfl, dX4_place_83⟩ rfl ?_
            refine f_tald X Z dX4_place_84 k24 hin_j ?_
            rw [hjt_j, h3 j hj_j]
            refine f_get (v := .int (nI (T j).length + 1)) (k := 1) X Z i2 rfl (by decide) (by decide +kernel) dX4_place_85 k27 rfl ?_
            exact f_iret X hr hlk Z (Nat.le_of_ble_eq_true rfl) (Nat.le_of_ble_eq_true rfl) dX4_place_88 (by
                have hqh : q67 ≠ h0 := fun z => by rw [z, e5, up_eq] at hq67; cases hq67
                have hwq : w q67 = none := by rw [e5, up_ne hqh] at hq67; exact hq67
                exact out_of (hx.push (c' := c + 1) (d := (so, we, 0, none)) hj_j hwq rfl (by rw [← nI_1]; exact k26) k28 k27 (fun b n1 n2 n3 => by rw [hwP, hwV, e11, e5, up_ne n3, up_ne n2, up_ne n2, up_ne n2, up_ne n1])) (by rw [hwP, hwV, e11, e5]; exact ((((Fr.rf.put h1.2 (by decide)).new hwq).put (τ := (4, 0)) up_at (by decide)).put (τ := (4, 0)) up_at (by decide)).put (τ := (3, j)) (by rw [up_off (ad_new (h5 j hj_j).1 hwq)]; exact (h5 j hj_j).2) (by simp)) (by omega) (by unfold sp_place tn; rw [if_pos ⟨c4, c13, c24⟩, hjt_j, nI_1, hx.len j]))
          · exact absurd (by rw [Int32.lt_iff_toInt_lt, kc_512, nI_toInt (by omega)]; omega) c46
