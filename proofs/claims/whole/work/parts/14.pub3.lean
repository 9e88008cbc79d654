theorem tgne {tg : tT} {a b : Nat} {τ σ : Nat × Nat} (h1 : tg a = τ) (h2 : tg b = σ) (h : τ ≠ σ) : a ≠ b := fun e => h (by rw [← h1, ← h2, e])
theorem nonneg {n : Int32} (h : ¬ n < 0) : 0 ≤ n.toInt := by
  rw [Int32.lt_iff_toInt_lt, kc_0] at h; omega
theorem toNat_le {n : Int32} {m : Nat} (h : n.toInt ≤ m) : n.toNatClampNeg ≤ m := by
  have : n.toNatClampNeg = n.toInt.toNat := rfl
  omega
theorem le12 {n : Int32} (h : n ≤ 12) : n.toInt ≤ 12 := by rw [Int32.le_iff_toInt_le, kc_12] at h; exact h
theorem nle12 {n : Int32} (h : ¬ n ≤ 12) : ¬ n.toInt ≤ 12 := by rw [Int32.le_iff_toInt_le, kc_12] at h; exact h
theorem isneg {n : Int32} (h : n < 0) : n.toInt < 0 := by rw [Int32.lt_iff_toInt_lt, kc_0] at h; exact h
theorem nI_tn {n : Int32} (h : 0 ≤ n.toInt) : nI n.toNatClampNeg = n := by
  obtain ⟨j, hj, rfl⟩ := nI_of (x := n) (by rw [Int32.lt_iff_toInt_lt, kc_0]; omega)
  rw [nI_clamp hj]
theorem Up.one {w : wT} {tg : tT} {a : Nat} {e : va_E} : Up (fun b => b = a) w tg (va_up w a (some e)) tg := Up.by (fun b e _ hb => up_ne hb) (by rintro _ rfl; exact ⟨_, up_eq⟩) (fun _ _ _ => rfl)
set_option maxHeartbeats 4000000 in
set_option maxRecDepth 100000 in
theorem c_X4_crates (l : Launch) (G : gT) (w : wT) (tg : tT) (h0 c nb : Nat) (y : Yd) (hR : RepC G tg w h0 c y) (hY : Yok nb y) (hn : nb ≤ 512) (t k n : Int32) : Met l yX4_crates wsX4_crates ({ frames := 2, cells := 1, slots := 12, locals := 41 }) (va_Pc [.ref h0, .int t, .int k, .int n] (wG G w)) (Qi G (OutC G tg w h0 c (sp_crates t k n y))) 1 12 (fr G) := by
  refine f_met (cc := cX4_crates) (maxL := 5) (ret := (some .int)) (by decide) rfl rfl (Nat.le_of_ble_eq_true rfl) ?_
  intro p e s m below meth cd X hr hlk hnm Z ls hl
  have X : CallFix p m cd cX4_crates 5 s [.ref h0, .int t, .int k, .int n].toArray wsX4_crates RX4 := X
  have hl : lV ls _ [some (.ref h0), some (.int t), some (.int k), some (.int n), none] := hl
  have i3 : ∀ w ∈ wsX30, w ∈ wsX4_crates := by decide +kernel
  have i4 : ∀ w ∈ wsX40, w ∈ wsX4_crates := by decide +kernel
  obtain ⟨ta, to, tf, tk, sd, pl, T, hx⟩ := id hR
  obtain ⟨h1, h2, h3, h4, h5, h6, h7, h8, h9⟩ := id hx
  refine f_iload X hl ⟨_, rfl, dX4_crates_0⟩ rfl ?_
  refine f_iload X hl ⟨_, rfl, dX4_crates_1⟩ rfl ?_
  refine f_callSi (rest := []) X Z hl.1 (c_X4_isPosition l G _ _ _) (va_cwS 2 X.2.2.2.2 gX4_crates_X4_isPosition rfl rfl rfl (by decide +kernel) ⟨(Nat.le_of_ble_eq_true rfl), (Nat.le_of_ble_eq_true rfl)⟩) rfl dX4_crates_2 ⟨(Nat.le_of_ble_eq_true rfl), (Nat.le_of_ble_eq_true rfl)⟩ rfl (Nat.le_of_ble_eq_true rfl) (fun r2 w1 H locs p2 Z => ?_)
  obtain ⟨w1e, hr2⟩ := p2
  have w1e := w1e.symm
  subst w1e
  refine lv_if_eq (tgt := 14) X.1 X.2.1 dX4_crates_5 (by decide) (fun c5 => ?_) (fun c5 => ?_)
  · rw [hr2, bI_0] at c5
    refine lv_iconst (v := (-1)) X.1 X.2.1 dX4_crates_14 (by decide) ?_
    exact f_iret X hr hlk Z (Nat.le_of_ble_eq_true rfl) (Nat.le_of_ble_eq_true rfl) dX4_crates_15 (out_same hR (if_neg (fun h => c5 h.1)))
  · rw [hr2, bI_0, Classical.not_not] at c5
    refine f_iload X hl ⟨_, rfl, dX4_crates_8⟩ rfl ?_
    refine lv_bipush (v := 12) X.1 X.2.1 dX4_crates_9 (by decide) ?_
    refine lv_icmp_le (tgt := 16) X.1 X.2.1 dX4_crates_11 (by decide) (fun c11 => ?_) (fun c11 => ?_)
    · obtain ⟨j, hjt_j⟩ : ∃ j, t.toNatClampNeg = j := ⟨_, rfl⟩
      have hj_j : j < 6 := hjt_j ▸ tn_lt c5.1
      have hin_j : vp_in t 6 := vp_in_iff.mpr c5.1
      have hn12 := le12 c11
      refine f_aload (v := .ref h0) X hl ⟨_, rfl, dX4_crates_16⟩ rfl ⟨(some h0), rfl⟩ ?_
      refine f_get (v := .ref ta) (k := 0) X Z i4 rfl (by decide) (by decide +kernel) dX4_crates_17 h1.1 rfl ?_
      refine f_iload X hl ⟨_, rfl, dX4_crates_20⟩ rfl ?_
      refine f_tald X Z dX4_crates_21 h2.1 hin_j ?_
      rw [hjt_j, h3 j hj_j]
      refine f_iload X hl ⟨_, rfl, dX4_crates_22⟩ rfl ?_
      refine f_callVq (rest := []) X Z hl.1 (c_X2_vehicleAt l G w (tk j) (T j) k (hx.trk hY hn hj_j)) (cwV 1 X.2.2.2.2 gX4_crates_X2_vehicleAt rfl rfl rfl (by decide +kernel) ⟨(Nat.le_of_ble_eq_true rfl), (Nat.le_of_ble_eq_true rfl)⟩) rfl rfl dX4_crates_23 ⟨(Nat.le_of_ble_eq_true rfl), (Nat.le_of_ble_eq_true rfl)⟩ rfl (Nat.le_of_ble_eq_true rfl) (h5 j hj_j).1 (fun r23 w2 H locs p23 Z => ?_)
      obtain ⟨w2e, hr23⟩ := p23
      have w2e := w2e.symm
      subst w2e
      rw [vix_pos c5.2] at hr23
      have hv : vopt G w r23 ((y.1 j)[k.toNatClampNeg]?) := by rw [hr23]; exact hx.vopt j _
      refine f_astore2 X hl dX4_crates_26 (by decide) ⟨r23, rfl⟩ (fun ls hl => ?_)
      have hl : lV ls _ [some (.ref h0), some (.int t), some (.int k), some (.int n), some (va_rf r23)] := hl
      refine f_aload2 (v := va_rf r23) X hl dX4_crates_28 rfl ⟨r23, rfl⟩ ?_
      refine f_callSi (rest := []) X Z hl.1 (c_X4_isEngine2 l G w _ _ hv) (va_cwS 1 X.2.2.2.2 gX4_crates_X4_isEngine rfl rfl rfl (by decide +kernel) ⟨(Nat.le_of_ble_eq_true rfl), (Nat.le_of_ble_eq_true rfl)⟩) rfl dX4_crates_30 ⟨(Nat.le_of_ble_eq_true rfl), (Nat.le_of_ble_eq_true rfl)⟩ rfl (Nat.le_of_ble_eq_true rfl) (fun r30 w3 H locs p30 Z => ?_)
      obtain ⟨w3e, hr30⟩ := p30
      have w3e := w3e.symm
      subst w3e
      refine lv_if_eq (tgt := 42) X.1 X.2.1 dX4_crates_33 (by decide) (fun c33 => ?_) (fun c33 => ?_)
      · rw [hr30, bI_0] at c33
        refine f_iload X hl ⟨_, rfl, dX4_crates_42⟩ rfl ?_
        refine lv_if_ge (tgt := 52) X.1 X.2.1 dX4_crates_43 (by decide) (fun c43 => ?_) (fun c43 => ?_)
        · have c43 : ¬ n < 0 := fun h => by rw [Int32.lt_iff_toInt_lt, kc_0] at h; rw [Int32.le_iff_toInt_le, kc_0] at c43; omega
          refine f_aload2 (v := va_rf r23) X hl dX4_crates_52 rfl ⟨r23, rfl⟩ ?_
          refine f_ifnonnull (tgt := 63) X dX4_crates_54 (by decide) (fun a54 c54 => ?_) (fun c54 => ?_)
          · subst c54
            obtain ⟨d, hd1⟩ := mf hr23
            obtain ⟨gA, ro, hcA, hro, hrt⟩ := h6.1 j _ a54 d hd1
            have hya : (y.1 j)[k.toNatClampNeg]? = some d := by rw [hx.at]; exact map_snd hd1
            have hnn : n.toNatClampNeg ≤ 12 := toNat_le hn12
            refine f_aload2 (v := .ref a54) X hl dX4_crates_63 rfl ⟨(some a54), rfl⟩ ?_
            refine f_iload X hl ⟨_, rfl, dX4_crates_65⟩ rfl ?_
            refine f_newa (ti := 0) X Z rfl (by decide +kernel) rfl (fun _ h => by cases h) rfl c43 rfl (show n.toNatClampNeg * 4 ≤ 536870912 by omega) (Nat.le_of_ble_eq_true rfl) (show 0 + n.toNatClampNeg ≤ 12 by omega) dX4_crates_66 (fun q66 H w4 hq66 e5 Z => ?_)
            have e5 : w4 = va_up w q66 (some (aI G n.toNatClampNeg (fun _ => 0))) := e5
            have k6 : w4 h0 = some (cTs (some ta) (some to) sd pl y.2.2.2.2.1 (nI c)) := by rw [e5]; exact lk_ne (ad_new h1.1 hq66) h1.1
            have k7 : w4 ta = some (aT G 6 tf) := by rw [e5]; exact lk_ne (ad_new h2.1 hq66) h2.1
            have k8 : w4 to = some (aI G 8 y.2.2.2.2.2) := by rw [e5]; exact lk_ne (ad_new h4.1 hq66) h4.1
            have k9 : w4 (tk j) = some (cTrk (hd (T j)) (nI (T j).length)) := by rw [e5]; exact lk_ne (ad_new (h5 j hj_j).1 hq66) (h5 j hj_j).1
            have k10 : w4 a54 = some (cVeh d.1 d.2.1 d.2.2.1 ro (nx (T j) k.toNatClampNeg)) := by rw [e5]; exact lk_ne (ad_new hcA hq66) hcA
            have k11 : w4 q66 = some (aI G n.toNatClampNeg (fun _ => 0)) := by rw [e5]; exact up_eq
            refine f_put (v := .ref q66) (ty0 := tyX3) (k := 3) X Z i3 tyX3_ok nmX3 rfl (by decide) (by decide +kernel) rfl dX4_crates_68 k10 (nr_a _ (some q66)) (ft_a _ (some q66)) (Nat.le_of_ble_eq_true rfl) (fun H locs w12 e13 Z => ?_)
            have e13 : w12 = va_up w4 a54 (some (cVeh d.1 d.2.1 d.2.2.1 (some q66) (nx (T j) k.toNatClampNeg))) := e13
            have k14 : w12 h0 = some (cTs (some ta) (some to) sd pl y.2.2.2.2.1 (nI c)) := by rw [e13]; exact lk_ne (ad_ne k6 k10 (dx_oo (by decide))) k6
            have k15 : w12 ta = some (aT G 6 tf) := by rw [e13]; exact lk_ne (ad_ne k7 k10 dx_io) k7
            have k16 : w12 to = some (aI G 8 y.2.2.2.2.2) := by rw [e13]; exact lk_ne (ad_ne k8 k10 dx_io) k8
            have k17 : w12 (tk j) = some (cTrk (hd (T j)) (nI (T j).length)) := by rw [e13]; exact lk_ne (ad_ne k9 k10 (dx_oo (by decide))) k9
            have k18 : w12 q66 = some (aI G n.toNatClampNeg (fun _ => 0)) := by rw [e13]; exact lk_ne (ad_ne k11 k10 dx_io) k11
            have k19 : w12 a54 = some (cVeh d.1 d.2.1 d.2.2.1 (some q66) (nx (T j) k.toNatClampNeg)) := by rw [e13]; exact up_eq
            refine f_iload X hl ⟨_, rfl, dX4_crates_71⟩ rfl ?_
            exact f_iret X hr hlk Z (Nat.le_of_ble_eq_true rfl) (show 0 + n.toNatClampNeg ≤ 12 by omega) dX4_crates_72 (out_of (hx.put (S := fun b => b = a54) (tg' := va_up tg q66 (5, a54)) (d' := (d.1, d.2.1, d.2.2.1, some (n.toNatClampNeg, fun _ => 0))) hj_j hd1 (Up.by (fun b e hb hS => by rw [e13, e5, up_ne hS, up_ne (ad_new hb hq66)]) (by rintro _ rfl; exact ⟨_, k19⟩) (fun b e hb => up_off (ad_new hb hq66))) (fun b hb => Or.inl hb) ⟨by rw [up_off (ad_new hcA hq66)]; exact gA, some q66, k19, ⟨hnn, q66, rfl, k18⟩, fun r z => by cases z; exact up_at⟩) (by rw [e13, e5]; exact (Fr.rf.new hq66).put (τ := (4, 0)) (by rw [up_off (ad_new hcA hq66)]; exact gA) (by decide)) (by omega) (by unfold sp_crates yput yat tn; rw [if_pos ⟨c5, hn12⟩, hjt_j, if_neg c33, if_neg (by have := nonneg c43; omega), hya]))
          · subst c54
            have hya : (y.1 j)[k.toNatClampNeg]? = none := vopt_none hv
            refine f_aload (v := .ref h0) X hl ⟨_, rfl, dX4_crates_57⟩ rfl ⟨(some h0), rfl⟩ ?_
            refine lv_iconst (v := 1) X.1 X.2.1 dX4_crates_58 (by decide) ?_
            refine f_callVi (rest := []) X Z hl.1 (c_X4_tell l G w h0 ta to sd pl y.2.2.2.2.1 (nI c) h1.1 y.2.2.2.2.2 1 (by decide) h4.1) (cwV 1 X.2.2.2.2 gX4_crates_X4_tell rfl rfl rfl (by decide +kernel) ⟨(Nat.le_of_ble_eq_true rfl), (Nat.le_of_ble_eq_true rfl)⟩) rfl rfl dX4_crates_59 ⟨(Nat.le_of_ble_eq_true rfl), (Nat.le_of_ble_eq_true rfl)⟩ rfl (Nat.le_of_ble_eq_true rfl) h1.1 (fun r59 w20 H locs p59 Z => ?_)
            obtain ⟨hrT, hwT⟩ := p59
            exact f_iret X hr hlk Z (Nat.le_of_ble_eq_true rfl) (Nat.le_of_ble_eq_true rfl) dX4_crates_62 (out_tell hx Fr.rf hrT hwT (by unfold sp_crates yat tn; rw [if_pos ⟨c5, hn12⟩, hjt_j, if_neg c33, if_neg (by have := nonneg c43; omega), hya]))
        · refine f_aload (v := .ref h0) X hl ⟨_, rfl, dX4_crates_46⟩ rfl ⟨(some h0), rfl⟩ ?_
          refine lv_iconst (v := 4) X.1 X.2.1 dX4_crates_47 (by decide) ?_
          refine f_callVi (rest := []) X Z hl.1 (c_X4_tell l G w h0 ta to sd pl y.2.2.2.2.1 (nI c) h1.1 y.2.2.2.2.2 4 (by decide) h4.1) (cwV 1 X.2.2.2.2 gX4_crates_X4_tell rfl rfl rfl (by decide +kernel) ⟨(Nat.le_of_ble_eq_true rfl), (Nat.le_of_ble_eq_true rfl)⟩) rfl rfl dX4_crates_48 ⟨(Nat.le_of_ble_eq_true rfl), (Nat.le_of_ble_eq_true rfl)⟩ rfl (Nat.le_of_ble_eq_true rfl) h1.1 (fun r48 w21 H locs p48 Z => ?_)
          obtain ⟨hrT, hwT⟩ := p48
          exact f_iret X hr hlk Z (Nat.le_of_ble_eq_true rfl) (Nat.le_of_ble_eq_true rfl) dX4_crates_51 (out_tell hx Fr.rf hrT hwT (by unfold sp_crates yat tn; rw [if_pos ⟨c5, hn12⟩, hjt_j, if_neg c33, if_pos (isneg (by rw [Int32.lt_iff_toInt_lt, kc_0]; rw [Int32.le_iff_toInt_le, kc_0] at c43; omega))]))
      · rw [hr30, bI_0, Classical.not_not] at c33
        refine f_aload (v := .ref h0) X hl ⟨_, rfl, dX4_crates_36⟩ rfl ⟨(some h0), rfl⟩ ?_
        refine lv_iconst (v := 2) X.1 X.2.1 dX4_crates_37 (by decide) ?_
        refine f_callVi (rest := []) X Z hl.1 (c_X4_tell l G w h0 ta to sd pl y.2.2.2.2.1 (nI c) h1.1 y.2.2.2.2.2 2 (by decide) h4.1) (cwV 1 X.2.2.2.2 gX4_crates_X4_tell rfl rfl rfl (by decide +kernel) ⟨(Nat.le_of_ble_eq_true rfl), (Nat.le_of_ble_eq_true rfl)⟩) rfl rfl dX4_crates_38 ⟨(Nat.le_of_ble_eq_true rfl), (Nat.le_of_ble_eq_true rfl)⟩ rfl (Nat.le_of_ble_eq_true rfl) h1.1 (fun r38 w22 H locs p38 Z => ?_)
        obtain ⟨hrT, hwT⟩ := p38
        exact f_iret X hr hlk Z (Nat.le_of_ble_eq_true rfl) (Nat.le_of_ble_eq_true rfl) dX4_crates_41 (out_tell hx Fr.rf hrT hwT (by unfold sp_crates yat tn; rw [if_pos ⟨c5, hn12⟩, hjt_j, if_pos c33]))
    · refine lv_iconst (v := (-1)) X.1 X.2.1 dX4_crates_14 (by decide) ?_
      exact f_iret X hr hlk Z (Nat.le_of_ble_eq_true rfl) (Nat.le_of_ble_eq_true rfl) dX4_crates_15 (out_same hR (if_neg (fun h => nle12 c11 h.2)))
set_option maxHeartbeats 4000000 in
set_option maxRecDepth 100000 in
theorem c_X4_load (l : Launch) (G : gT) (w : wT) (tg : tT) (h0 c nb : Nat) (y : Yd) (hR : RepC G tg w h0 c y) (hY : Yok nb y) (hn : nb ≤ 512) (t k i x : Int32) : Met l yX4_load wsX4_load ({ frames := 3, cells := 0, slots := 0, locals := 62 }) (va_Pc [.ref h0, .int t, .int k, .int i, .int x] (wG G w)) (Qi G (OutC G tg w h0 c (sp_load t k i x y))) 0 0 (fr G) := by
  refine f_met (cc := cX4_load) (maxL := 7) (ret := (some .int)) (by decide) rfl rfl (Nat.le_of_ble_eq_true rfl) ?_
  intro p e s m below meth cd X hr hlk hnm Z ls hl
  have X : CallFix p m cd cX4_load 7 s [.ref h0, .int t, .int k, .int i, .int x].toArray wsX4_load RX4 := X
  have hl : lV ls _ [some (.ref h0), some (.int t), some (.int k), some (.int i), some (.int x), none, none] := hl
  have i3 : ∀ w ∈ wsX30, w ∈ wsX4_load := by decide +kernel
  have i4 : ∀ w ∈ wsX40, w ∈ wsX4_load := by decide +kernel
  obtain ⟨ta, to, tf, tk, sd, pl, T, hx⟩ := id hR
  obtain ⟨h1, h2, h3, h4, h5, h6, h7, h8, h9⟩ := id hx
  refine f_iload X hl ⟨_, rfl, dX4_load_0⟩ rfl ?_
  refine f_iload X hl ⟨_, rfl, dX4_load_1⟩ rfl ?_
  refine f_callSi (rest := []) X Z hl.1 (c_X4_isPosition l G _ _ _) (va_cwS 2 X.2.2.2.2 gX4_load_X4_isPosition rfl rfl rfl (by decide +kernel) ⟨(Nat.le_of_ble_eq_true rfl), (Nat.le_of_ble_eq_true rfl)⟩) rfl dX4_load_2 ⟨(Nat.le_of_ble_eq_true rfl), (Nat.le_of_ble_eq_true rfl)⟩ rfl (Nat.le_of_ble_eq_true rfl) (fun r2 w1 H locs p2 Z => ?_)
  obtain ⟨w1e, hr2⟩ := p2
  have w1e := w1e.symm
  subst w1e
  refine lv_if_eq (tgt := 19) X.1 X.2.1 dX4_load_5 (by decide) (fun c5 => ?_) (fun c5 => ?_)
  · rw [hr2, bI_0] at c5
    refine lv_iconst (v := (-1)) X.1 X.2.1 dX4_load_19 (by decide) ?_
    exact f_iret X hr hlk Z (Nat.le_of_ble_eq_true rfl) (Nat.le_of_ble_eq_true rfl) dX4_load_20 (out_same hR (if_neg (fun h => c5 h.1)))
  · rw [hr2, bI_0, Classical.not_not] at c5
    refine f_iload2 X hl dX4_load_8 rfl ?_
    refine lv_iconst (v := 0) X.1 X.2.1 dX4_load_10 (by decide) ?_
    refine lv_bipush (v := 99) X.1 X.2.1 dX4_load_11 (by decide) ?_
    refine f_callSi (rest := []) X Z hl.1 (c_X4_isWithin l G _ _ _ _) (va_cwS 3 X.2.2.2.2 gX4_load_X4_isWithin rfl rfl rfl (by decide +kernel) ⟨(Nat.le_of_ble_eq_true rfl), (Nat.le_of_ble_eq_true rfl)⟩) rfl dX4_load_13 ⟨(Nat.le_of_ble_eq_true rfl), (Nat.le_of_ble_eq_true rfl)⟩ rfl (Nat.le_of_ble_eq_true rfl) (fun r13 w2 H locs p13 Z => ?_)
    obtain ⟨w2e, hr13⟩ := p13
    have w2e := w2e.symm
    subst w2e
    refine lv_if_ne (tgt := 21) X.1 X.2.1 dX4_load_16 (by decide) (fun c16 => ?_) (fun c16 => ?_)
    · rw [hr13, bI_0, Classical.not_not] at c16
      obtain ⟨j, hjt_j⟩ : ∃ j, t.toNatClampNeg = j := ⟨_, rfl⟩
      have hj_j : j < 6 := hjt_j ▸ tn_lt c5.1
      have hin_j : vp_in t 6 := vp_in_iff.mpr c5.1
      refine f_aload (v := .ref h0) X hl ⟨_, rfl, dX4_load_21⟩ rfl ⟨(some h0), rfl⟩ ?_
      refine f_get (v := .ref ta) (k := 0) X Z i4 rfl (by decide) (by decide +kernel) dX4_load_22 h1.1 rfl ?_
      refine f_iload X hl ⟨_, rfl, dX4_load_25⟩ rfl ?_
      refine f_tald X Z dX4_load_26 h2.1 hin_j ?_
      rw [hjt_j, h3 j hj_j]
      refine f_iload X hl ⟨_, rfl, dX4_load_27⟩ rfl ?_
      refine f_callVq (rest := []) X Z hl.1 (c_X2_vehicleAt l G w (tk j) (T j) k (hx.trk hY hn hj_j)) (cwV 1 X.2.2.2.2 gX4_load_X2_vehicleAt rfl rfl rfl (by decide +kernel) ⟨(Nat.le_of_ble_eq_true rfl), (Nat.le_of_ble_eq_true rfl)⟩) rfl rfl dX4_load_28 ⟨(Nat.le_of_ble_eq_true rfl), (Nat.le_of_ble_eq_true rfl)⟩ rfl (Nat.le_of_ble_eq_true rfl) (h5 j hj_j).1 (fun r28 w3 H locs p28 Z => ?_)
      obtain ⟨w3e, hr28⟩ := p28
      have w3e := w3e.symm
      subst w3e
      rw [vix_pos c5.2] at hr28
      have hv : vopt G w r28 ((y.1 j)[k.toNatClampNeg]?) := by rw [hr28]; exact hx.vopt j _
      refine f_astore2 X hl dX4_load_31 (by decide) ⟨r28, rfl⟩ (fun ls hl => ?_)
      have hl : lV ls _ [some (.ref h0), some (.int t), some (.int k), some (.int i), some (.int x), some (va_rf r28), none] := hl
      refine f_aload2 (v := va_rf r28) X hl dX4_load_33 rfl ⟨r28, rfl⟩ ?_
      refine f_iload X hl ⟨_, rfl, dX4_load_35⟩ rfl ?_
      refine f_callSi (rest := []) X Z hl.1 (c_X4_whyNoCrate l G w _ _ i hv) (va_cwS 2 X.2.2.2.2 gX4_load_X4_whyNoCrate rfl rfl rfl (by decide +kernel) ⟨(Nat.le_of_ble_eq_true rfl), (Nat.le_of_ble_eq_true rfl)⟩) rfl dX4_load_36 ⟨(Nat.le_of_ble_eq_true rfl), (Nat.le_of_ble_eq_true rfl)⟩ rfl (Nat.le_of_ble_eq_true rfl) (fun r36 w4 H locs p36 Z => ?_)
      obtain ⟨w4e, hr36⟩ := p36
      have w4e := w4e.symm
      subst w4e
      subst hr36
      refine f_istore2 X hl dX4_load_39 (by decide) (fun ls hl => ?_)
      have hl : lV ls _ [some (.ref h0), some (.int t), some (.int k), some (.int i), some (.int x), some (va_rf r28), some (.int (nI (whyC ((y.1 j)[k.toNatClampNeg]?) i)))] := hl
      refine f_iload2 X hl dX4_load_41 rfl ?_
      refine lv_if_eq (tgt := 53) X.1 X.2.1 dX4_load_43 (by decide) (fun c43 => ?_) (fun c43 => ?_)
      · have hz := (nI_z (whyC_lt _ _)).mp c43
        obtain ⟨so, we, de, nn, f, hod, hi0, hi1⟩ := whyC_0 hz
        obtain ⟨a, hd1⟩ : ∃ a, (T j)[k.toNatClampNeg]? = some (a, so, we, de, some (nn, f)) := snd_at (by rw [← hx.at]; exact hod)
        have hra : r28 = some a := by rw [hr28, hd1]; rfl
        subst hra
        obtain ⟨gA, ro, hcA, ⟨hn12, rr, rfl, hcR⟩, hrt⟩ := h6.1 j _ a _ hd1
        rw [hod] at hz
        refine f_aload2 (v := .ref a) X hl dX4_load_53 rfl ⟨(some a), rfl⟩ ?_
        refine f_get (v := .ref rr) (k := 3) X Z i3 rfl (by decide) (by decide +kernel) dX4_load_55 hcA rfl ?_
        refine f_iload X hl ⟨_, rfl, dX4_load_58⟩ rfl ?_
        refine f_iload2 X hl dX4_load_59 rfl ?_
        refine f_iast X Z dX4_load_61 hcR (vp_in_iff.mpr ⟨hi0, hi1⟩) (fun H locs w5 e6 Z => ?_)
        have e6 : w5 = va_up w rr (some (aI G nn (upd f i.toNatClampNeg x))) := e6
        have k7 : w5 h0 = some (cTs (some ta) (some to) sd pl y.2.2.2.2.1 (nI c)) := by rw [e6]; exact lk_ne (ad_ne h1.1 hcR dx_oi) h1.1
        have k8 : w5 ta = some (aT G 6 tf) := by rw [e6]; exact lk_ne (ad_ne h2.1 hcR dx_ri) h2.1
        have k9 : w5 to = some (aI G 8 y.2.2.2.2.2) := by rw [e6]; exact lk_ne (tgne h4.2 (hrt _ rfl) (by simp)) h4.1
        have k10 : w5 (tk j) = some (cTrk (hd (T j)) (nI (T j).length)) := by rw [e6]; exact lk_ne (ad_ne (h5 j hj_j).1 hcR dx_oi) (h5 j hj_j).1
        have k11 : w5 a = some (cVeh so we de (some rr) (nx (T j) k.toNatClampNeg)) := by rw [e6]; exact lk_ne (ad_ne hcA hcR dx_oi) hcA
        have k12 : w5 rr = some (aI G nn (upd f i.toNatClampNeg x)) := by rw [e6]; exact up_eq
        refine f_iload2 X hl dX4_load_62 rfl ?_
        exact f_iret X hr hlk Z (Nat.le_of_ble_eq_true rfl) (Nat.le_of_ble_eq_true rfl) dX4_load_64 (out_of (hx.put (S := fun b => b = rr) (tg' := tg) (d' := (so, we, de, some (nn, upd f i.toNatClampNeg x))) hj_j hd1 (by rw [e6]; exact Up.one) (fun b hb => Or.inr (by rw [hb]; exact hrt _ rfl)) ⟨gA, some rr, k11, ⟨hn12, rr, rfl, k12⟩, hrt⟩) (by rw [e6]; exact Fr.rf.put (hrt _ rfl) (by simp)) (by omega) (by unfold sp_load yput yat tn; rw [if_pos ⟨c5, c16⟩, hjt_j, hod, if_neg (fun z => z hz)]))
      · refine f_aload (v := .ref h0) X hl ⟨_, rfl, dX4_load_46⟩ rfl ⟨(some h0), rfl⟩ ?_
        refine f_iload2 X hl dX4_load_47 rfl ?_
        refine f_callVi (rest := []) X Z hl.1 (c_X4_tell l G w h0 ta to sd pl y.2.2.2.2.1 (nI c) h1.1 y.2.2.2.2.2 (whyC ((y.1 j)[k.toNatClampNeg]?) i) (whyC_lt _ _) h4.1) (cwV 1 X.2.2.2.2 gX4_load_X4_tell rfl rfl rfl (by decide +kernel) ⟨(Nat.le_of_ble_eq_true rfl), (Nat.le_of_ble_eq_true rfl)⟩) rfl rfl dX4_load_49 ⟨(Nat.le_of_ble_eq_true rfl), (Nat.le_of_ble_eq_true rfl)⟩ rfl (Nat.le_of_ble_eq_true rfl) h1.1 (fun r49 w13 H locs p49 Z => ?_)
        obtain ⟨hrT, hwT⟩ := p49
        exact f_iret X hr hlk Z (Nat.le_of_ble_eq_true rfl) (Nat.le_of_ble_eq_true rfl) dX4_load_52 (out_tell hx Fr.rf hrT hwT (by unfold sp_load yat tn; rw [if_pos ⟨c5, c16⟩, hjt_j, if_pos (fun z => c43 (by rw [z]; rfl))]))
    · rw [hr13, bI_0] at c16
      refine lv_iconst (v := (-1)) X.1 X.2.1 dX4_load_19 (by decide) ?_
      exact f_iret X hr hlk Z (Nat.le_of_ble_eq_true rfl) (Nat.le_of_ble_eq_true rfl) dX4_load_20 (out_same hR (if_neg (fun h => c16 h.2)))
set_option maxHeartbeats 4000000 in
set_option maxRecDepth 100000 in
theorem c_X4_crate (l : Launch) (G : gT) (w : wT) (tg : tT) (h0 c nb : Nat) (y : Yd) (hR : RepC G tg w h0 c y) (hY : Yok nb y) (hn : nb ≤ 512) (t k i : Int32) : Met l yX4_crate wsX4_crate ({ frames := 3, cells := 0, slots := 0, locals := 62 }) (va_Pc [.ref h0, .int t, .int k, .int i] (wG G w)) (Qi G (OutC G tg w h0 c (sp_crate t k i y))) 0 0 (fr G) := by
  refine f_met (cc := cX4_crate) (maxL := 6) (ret := (some .int)) (by decide) rfl rfl (Nat.le_of_ble_eq_true rfl) ?_
  intro p e s m below meth cd X hr hlk hnm Z ls hl
  have X : CallFix p m cd cX4_crate 6 s [.ref h0, .int t, .int k, .int i].toArray wsX4_crate RX4 := X
  have hl : lV ls _ [some (.ref h0), some (.int t), some (.int k), some (.int i), none, none] := hl
  have i3 : ∀ w ∈ wsX30, w ∈ wsX4_crate := by decide +kernel
  have i4 : ∀ w ∈ wsX40, w ∈ wsX4_crate := by decide +kernel
  obtain ⟨ta, to, tf, tk, sd, pl, T, hx⟩ := id hR
  obtain ⟨h1, h2, h3, h4, h5, h6, h7, h8, h9⟩ := id hx
  refine f_iload X hl ⟨_, rfl, dX4_crate_0⟩ rfl ?_
  refine f_iload X hl ⟨_, rfl, dX4_crate_1⟩ rfl ?_
  refine f_callSi (rest := []) X Z hl.1 (c_X4_isPosition l G _ _ _) (va_cwS 2 X.2.2.2.2 gX4_crate_X4_isPosition rfl rfl rfl (by decide +kernel) ⟨(Nat.le_of_ble_eq_true rfl), (Nat.le_of_ble_eq_true rfl)⟩) rfl dX4_crate_2 ⟨(Nat.le_of_ble_eq_true rfl), (Nat.le_of_ble_eq_true rfl)⟩ rfl (Nat.le_of_ble_eq_true rfl) (fun r2 w1 H locs p2 Z => ?_)
  obtain ⟨w1e, hr2⟩ := p2
  have w1e := w1e.symm
  subst w1e
  refine lv_if_ne (tgt := 10) X.1 X.2.1 dX4_crate_5 (by decide) (fun c5 => ?_) (fun c5 => ?_)
  · rw [hr2, bI_0, Classical.not_not] at c5
    obtain ⟨j, hjt_j⟩ : ∃ j, t.toNatClampNeg = j := ⟨_, rfl⟩
    have hj_j : j < 6 := hjt_j ▸ tn_lt c5.1
    have hin_j : vp_in t 6 := vp_in_iff.mpr c5.1
    refine f_aload (v := .ref h0) X hl ⟨_, rfl, dX4_crate_10⟩ rfl ⟨(some h0), rfl⟩ ?_
    refine f_get (v := .ref ta) (k := 0) X Z i4 rfl (by decide) (by decide +kernel) dX4_crate_11 h1.1 rfl ?_
    refine f_iload X hl ⟨_, rfl, dX4_crate_14⟩ rfl ?_
    refine f_tald X Z dX4_crate_15 h2.1 hin_j ?_
    rw [hjt_j, h3 j hj_j]
    refine f_iload X hl ⟨_, rfl, dX4_crate_16⟩ rfl ?_
    refine f_callVq (rest := []) X Z hl.1 (c_X2_vehicleAt l G w (tk j) (T j) k (hx.trk hY hn hj_j)) (cwV 1 X.2.2.2.2 gX4_crate_X2_vehicleAt rfl rfl rfl (by decide +kernel) ⟨(Nat.le_of_ble_eq_true rfl), (Nat.le_of_ble_eq_true rfl)⟩) rfl rfl dX4_crate_17 ⟨(Nat.le_of_ble_eq_true rfl), (Nat.le_of_ble_eq_true rfl)⟩ rfl (Nat.le_of_ble_eq_true rfl) (h5 j hj_j).1 (fun r17 w2 H locs p17 Z => ?_)
    obtain ⟨w2e, hr17⟩ := p17
    have w2e := w2e.symm
    subst w2e
    rw [vix_pos c5.2] at hr17
    have hv : vopt G w r17 ((y.1 j)[k.toNatClampNeg]?) := by rw [hr17]; exact hx.vopt j _
    refine f_astore2 X hl dX4_crate_20 (by decide) ⟨r17, rfl⟩ (fun ls hl => ?_)
    have hl : lV ls _ [some (.ref h0), some (.int t), some (.int k), some (.int i), some (va_rf r17), none] := hl
    refine f_aload2 (v := va_rf r17) X hl dX4_crate_22 rfl ⟨r17, rfl⟩ ?_
    refine f_iload X hl ⟨_, rfl, dX4_crate_24⟩ rfl ?_
    refine f_callSi (rest := []) X Z hl.1 (c_X4_whyNoCrate l G w _ _ i hv) (va_cwS 2 X.2.2.2.2 gX4_crate_X4_whyNoCrate rfl rfl rfl (by decide +kernel) ⟨(Nat.le_of_ble_eq_true rfl), (Nat.le_of_ble_eq_true rfl)⟩) rfl dX4_crate_25 ⟨(Nat.le_of_ble_eq_true rfl), (Nat.le_of_ble_eq_true rfl)⟩ rfl (Nat.le_of_ble_eq_true rfl) (fun r25 w3 H locs p25 Z => ?_)
    obtain ⟨w3e, hr25⟩ := p25
    have w3e := w3e.symm
    subst w3e
    subst hr25
    refine f_istore2 X hl dX4_crate_28 (by decide) (fun ls hl => ?_)
    have hl : lV ls _ [some (.ref h0), some (.int t), some (.int k), some (.int i), some (va_rf r17), some (.int (nI (whyC ((y.1 j)[k.toNatClampNeg]?) i)))] := hl
    refine f_iload2 X hl dX4_crate_30 rfl ?_
    refine lv_if_eq (tgt := 44) X.1 X.2.1 dX4_crate_32 (by decide) (fun c32 => ?_) (fun c32 => ?_)
    · have hz := (nI_z (whyC_lt _ _)).mp c32
      obtain ⟨so, we, de, nn, f, hod, hi0, hi1⟩ := whyC_0 hz
      obtain ⟨a, hd1⟩ : ∃ a, (T j)[k.toNatClampNeg]? = some (a, so, we, de, some (nn, f)) := snd_at (by rw [← hx.at]; exact hod)
      have hra : r17 = some a := by rw [hr17, hd1]; rfl
      subst hra
      obtain ⟨gA, ro, hcA, ⟨hn12, rr, rfl, hcR⟩, hrt⟩ := h6.1 j _ a _ hd1
      rw [hod] at hz
      refine f_aload2 (v := .ref a) X hl dX4_crate_44 rfl ⟨(some a), rfl⟩ ?_
      refine f_get (v := .ref rr) (k := 3) X Z i3 rfl (by decide) (by decide +kernel) dX4_crate_46 hcA rfl ?_
      refine f_iload X hl ⟨_, rfl, dX4_crate_49⟩ rfl ?_
      refine f_iald X Z dX4_crate_50 hcR (vp_in_iff.mpr ⟨hi0, hi1⟩) ?_
      exact f_iret X hr hlk Z (Nat.le_of_ble_eq_true rfl) (Nat.le_of_ble_eq_true rfl) dX4_crate_51 (out_same hR (by unfold sp_crate yat tn; rw [if_pos c5, hjt_j, hod, if_neg (fun z => z hz)]))
    · refine f_aload (v := .ref h0) X hl ⟨_, rfl, dX4_crate_35⟩ rfl ⟨(some h0), rfl⟩ ?_
      refine f_iload2 X hl dX4_crate_36 rfl ?_
      refine f_callVi (rest := []) X Z hl.1 (c_X4_tell l G w h0 ta to sd pl y.2.2.2.2.1 (nI c) h1.1 y.2.2.2.2.2 (whyC ((y.1 j)[k.toNatClampNeg]?) i) (whyC_lt _ _) h4.1) (cwV 1 X.2.2.2.2 gX4_crate_X4_tell rfl rfl rfl (by decide +kernel) ⟨(Nat.le_of_ble_eq_true rfl), (Nat.le_of_ble_eq_true rfl)⟩) rfl rfl dX4_crate_38 ⟨(Nat.le_of_ble_eq_true rfl), (Nat.le_of_ble_eq_true rfl)⟩ rfl (Nat.le_of_ble_eq_true rfl) h1.1 (fun r38 w4 H locs p38 Z => ?_)
      obtain ⟨hrT, hwT⟩ := p38
      refine lv_goto (tgt := 51) X.1 X.2.1 dX4_crate_41 (by decide) ?_
      exact f_iret X hr hlk Z (Nat.le_of_ble_eq_true rfl) (Nat.le_of_ble_eq_true rfl) dX4_crate_51 (out_tell hx Fr.rf hrT hwT (by unfold sp_crate yat tn; rw [if_pos c5, hjt_j, if_pos (fun z => c32 (by rw [z]; rfl))]))
  · rw [hr2, bI_0] at c5
    refine lv_iconst (v := (-1)) X.1 X.2.1 dX4_crate_8 (by decide) ?_
    exact f_iret X hr hlk Z (Nat.le_of_ble_eq_true rfl) (Nat.le_of_ble_eq_true rfl) dX4_crate_9 (out_same hR (if_neg c5))
set_option maxHeartbeats 4000000 in
set_option maxRecDepth 100000 in
theorem c_X4_length (l : Launch) (G : gT) (w : wT) (tg : tT) (h0 c nb : Nat) (y : Yd) (hR : RepC G tg w h0 c y) (hY : Yok nb y) (hn : nb ≤ 512) (t k : Int32) : Met l yX4_length wsX4_length ({ frames := 2, cells := 0, slots := 0, locals := 41 }) (va_Pc [.ref h0, .int t, .int k] (wG G w)) (Qi G (OutC G tg w h0 c (sp_length t k y))) 0 0 (fr G) := by
  refine f_met (cc := cX4_length) (maxL := 5) (ret := (some .int)) (by decide) rfl rfl (Nat.le_of_ble_eq_true rfl) ?_
  intro p e s m below meth cd X hr hlk hnm Z ls hl
  have X : CallFix p m cd cX4_length 5 s [.ref h0, .int t, .int k].toArray wsX4_length RX4 := X
  have hl : lV ls _ [some (.ref h0), some (.int t), some (.int k), none, none] := hl
  have i3 : ∀ w ∈ wsX30, w ∈ wsX4_length := by decide +kernel
  have i4 : ∀ w ∈ wsX40, w ∈ wsX4_length := by decide +kernel
  obtain ⟨ta, to, tf, tk, sd, pl, T, hx⟩ := id hR
  obtain ⟨h1, h2, h3, h4, h5, h6, h7, h8, h9⟩ := id hx
  refine f_iload X hl ⟨_, rfl, dX4_length_0⟩ rfl ?_
  refine f_iload X hl ⟨_, rfl, dX4_length_1⟩ rfl ?_
  refine f_callSi (rest := []) X Z hl.1 (c_X4_isPosition l G _ _ _) (va_cwS 2 X.2.2.2.2 gX4_length_X4_isPosition rfl rfl rfl (by decide +kernel) ⟨(Nat.le_of_ble_eq_true rfl), (Nat.le_of_ble_eq_true rfl)⟩) rfl dX4_length_2 ⟨(Nat.le_of_ble_eq_true rfl), (Nat.le_of_ble_eq_true rfl)⟩ rfl (Nat.le_of_ble_eq_true rfl) (fun r2 w1 H locs p2 Z => ?_)
  obtain ⟨w1e, hr2⟩ := p2
  have w1e := w1e.symm
  subst w1e
  refine lv_if_ne (tgt := 10) X.1 X.2.1 dX4_length_5 (by decide) (fun c5 => ?_) (fun c5 => ?_)
  · rw [hr2, bI_0, Classical.not_not] at c5
    obtain ⟨j, hjt_j⟩ : ∃ j, t.toNatClampNeg = j := ⟨_, rfl⟩
    have hj_j : j < 6 := hjt_j ▸ tn_lt c5.1
    have hin_j : vp_in t 6 := vp_in_iff.mpr c5.1
    refine f_aload (v := .ref h0) X hl ⟨_, rfl, dX4_length_10⟩ rfl ⟨(some h0), rfl⟩ ?_
    refine f_get (v := .ref ta) (k := 0) X Z i4 rfl (by decide) (by decide +kernel) dX4_length_11 h1.1 rfl ?_
    refine f_iload X hl ⟨_, rfl, dX4_length_14⟩ rfl ?_
    refine f_tald X Z dX4_length_15 h2.1 hin_j ?_
    rw [hjt_j, h3 j hj_j]
    refine f_iload X hl ⟨_, rfl, dX4_length_16⟩ rfl ?_
    refine f_callVq (rest := []) X Z hl.1 (c_X2_vehicleAt l G w (tk j) (T j) k (hx.trk hY hn hj_j)) (cwV 1 X.2.2.2.2 gX4_length_X2_vehicleAt rfl rfl rfl (by decide +kernel) ⟨(Nat.le_of_ble_eq_true rfl), (Nat.le_of_ble_eq_true rfl)⟩) rfl rfl dX4_length_17 ⟨(Nat.le_of_ble_eq_true rfl), (Nat.le_of_ble_eq_true rfl)⟩ rfl (Nat.le_of_ble_eq_true rfl) (h5 j hj_j).1 (fun r17 w2 H locs p17 Z => ?_)
    obtain ⟨w2e, hr17⟩ := p17
    have w2e := w2e.symm
    subst w2e
    rw [vix_pos c5.2] at hr17
    have hv : vopt G w r17 ((y.1 j)[k.toNatClampNeg]?) := by rw [hr17]; exact hx.vopt j _
    refine f_astore X hl ⟨_, rfl, dX4_length_20⟩ (by decide) ⟨r17, rfl⟩ (fun ls hl => ?_)
    have hl : lV ls _ [some (.ref h0), some (.int t), some (.int k), some (va_rf r17), none] := hl
    refine f_aload (v := va_rf r17) X hl ⟨_, rfl, dX4_length_21⟩ rfl ⟨r17, rfl⟩ ?_
    refine f_callSi (rest := []) X Z hl.1 (c_X4_whyNoRow l G w _ _ hv) (va_cwS 1 X.2.2.2.2 gX4_length_X4_whyNoRow rfl rfl rfl (by decide +kernel) ⟨(Nat.le_of_ble_eq_true rfl), (Nat.le_of_ble_eq_true rfl)⟩) rfl dX4_length_22 ⟨(Nat.le_of_ble_eq_true rfl), (Nat.le_of_ble_eq_true rfl)⟩ rfl (Nat.le_of_ble_eq_true rfl) (fun r22 w3 H locs p22 Z => ?_)
    obtain ⟨w3e, hr22⟩ := p22
    have w3e := w3e.symm
    subst w3e
    subst hr22
    refine f_istore2 X hl dX4_length_25 (by decide) (fun ls hl => ?_)
    have hl : lV ls _ [some (.ref h0), some (.int t), some (.int k), some (va_rf r17), some (.int (nI (whyR ((y.1 j)[k.toNatClampNeg]?))))] := hl
    refine f_iload2 X hl dX4_length_27 rfl ?_
    refine lv_if_eq (tgt := 41) X.1 X.2.1 dX4_length_29 (by decide) (fun c29 => ?_) (fun c29 => ?_)
    · have hz := (nI_z (whyR_lt _)).mp c29
      obtain ⟨so, we, de, nn, f, hod⟩ := whyR_0 hz
      obtain ⟨a, hd1⟩ : ∃ a, (T j)[k.toNatClampNeg]? = some (a, so, we, de, some (nn, f)) := snd_at (by rw [← hx.at]; exact hod)
      have hra : r17 = some a := by rw [hr17, hd1]; rfl
      subst hra
      obtain ⟨gA, ro, hcA, ⟨hn12, rr, rfl, hcR⟩, hrt⟩ := h6.1 j _ a _ hd1
      rw [hod] at hz
      refine f_aload (v := .ref a) X hl ⟨_, rfl, dX4_length_41⟩ rfl ⟨(some a), rfl⟩ ?_
      refine f_get (v := .ref rr) (k := 3) X Z i3 rfl (by decide) (by decide +kernel) dX4_length_42 hcA rfl ?_
      refine f_alenI X Z dX4_length_45 hcR ?_
      exact f_iret X hr hlk Z (Nat.le_of_ble_eq_true rfl) (Nat.le_of_ble_eq_true rfl) dX4_length_46 (out_same hR (by unfold sp_length yat tn; rw [if_pos c5, hjt_j, hod, if_neg (fun z => z hz)]))
    · refine f_aload (v := .ref h0) X hl ⟨_, rfl, dX4_length_32⟩ rfl ⟨(some h0), rfl⟩ ?_
      refine f_iload2 X hl dX4_length_33 rfl ?_
      refine f_callVi (rest := []) X Z hl.1 (c_X4_tell l G w h0 ta to sd pl y.2.2.2.2.1 (nI c) h1.1 y.2.2.2.2.2 (whyR ((y.1 j)[k.toNatClampNeg]?)) (whyR_lt _) h4.1) (cwV 1 X.2.2.2.2 gX4_length_X4_tell rfl rfl rfl (by decide +kernel) ⟨(Nat.le_of_ble_eq_true rfl), (Nat.le_of_ble_eq_true rfl)⟩) rfl rfl dX4_length_35 ⟨(Nat.le_of_ble_eq_true rfl), (Nat.le_of_ble_eq_true rfl)⟩ rfl (Nat.le_of_ble_eq_true rfl) h1.1 (fun r35 w4 H locs p35 Z => ?_)
      obtain ⟨hrT, hwT⟩ := p35
      refine lv_goto (tgt := 46) X.1 X.2.1 dX4_length_38 (by decide) ?_
      exact f_iret X hr hlk Z (Nat.le_of_ble_eq_true rfl) (Nat.le_of_ble_eq_true rfl) dX4_length_46 (out_tell hx Fr.rf hrT hwT (by unfold sp_length yat tn; rw [if_pos c5, hjt_j, if_pos (fun z => c29 (by rw [z]; rfl))]))
  · rw [hr2, bI_0] at c5
    refine lv_iconst (v := (-1)) X.1 X.2.1 dX4_length_8 (by decide) ?_
    exact f_iret X hr hlk Z (Nat.le_of_ble_eq_true rfl) (Nat.le_of_ble_eq_true rfl) dX4_length_9 (out_same hR (if_neg c5))
set_option maxHeartbeats 4000000 in
set_option maxRecDepth 100000 in
theorem c_X4_defect (l : Launch) (G : gT) (w : wT) (tg : tT) (h0 c nb : Nat) (y : Yd) (hR : RepC G tg w h0 c y) (hY : Yok nb y) (hn : nb ≤ 512) (t k x : Int32) : Met l yX4_defect wsX4_defect ({ frames := 2, cells := 0, slots := 0, locals := 41 }) (va_Pc [.ref h0, .int t, .int k, .int x] (wG G w)) (Qi G (OutC G tg w h0 c (sp_defect t k x y))) 0 0 (fr G) := by
  refine f_met (cc := cX4_defect) (maxL := 5) (ret := (some .int)) (by decide) rfl rfl (Nat.le_of_ble_eq_true rfl) ?_
  intro p e s m below meth cd X hr hlk hnm Z ls hl
  have X : CallFix p m cd cX4_defect 5 s [.ref h0, .int t, .int k, .int x].toArray wsX4_defect RX4 := X
  have hl : lV ls _ [some (.ref h0), some (.int t), some (.int k), some (.int x), none] := hl
  have i3 : ∀ w ∈ wsX30, w ∈ wsX4_defect := by decide +kernel
  have i4 : ∀ w ∈ wsX40, w ∈ wsX4_defect := by decide +kernel
  obtain ⟨ta, to, tf, tk, sd, pl, T, hx⟩ := id hR
  obtain ⟨h1, h2, h3, h4, h5, h6, h7, h8, h9⟩ := id hx
  refine f_iload X hl ⟨_, rfl, dX4_defect_0⟩ rfl ?_
  refine f_iload X hl ⟨_, rfl, dX4_defect_1⟩ rfl ?_
  refine f_callSi (rest := []) X Z hl.1 (c_X4_isPosition l G _ _ _) (va_cwS 2 X.2.2.2.2 gX4_defect_X4_isPosition rfl rfl rfl (by decide +kernel) ⟨(Nat.le_of_ble_eq_true rfl), (Nat.le_of_ble_eq_true rfl)⟩) rfl dX4_defect_2 ⟨(Nat.le_of_ble_eq_true rfl), (Nat.le_of_ble_eq_true rfl)⟩ rfl (Nat.le_of_ble_eq_true rfl) (fun r2 w1 H locs p2 Z => ?_)
  obtain ⟨w1e, hr2⟩ := p2
  have w1e := w1e.symm
  subst w1e
  refine lv_if_eq (tgt := 18) X.1 X.2.1 dX4_defect_5 (by decide) (fun c5 => ?_) (fun c5 => ?_)
  · rw [hr2, bI_0] at c5
    refine lv_iconst (v := (-1)) X.1 X.2.1 dX4_defect_18 (by decide) ?_
    exact f_iret X hr hlk Z (Nat.le_of_ble_eq_true rfl) (Nat.le_of_ble_eq_true rfl) dX4_defect_19 (out_same hR (if_neg (fun h => c5 h.1)))
  · rw [hr2, bI_0, Classical.not_not] at c5
    refine f_iload X hl ⟨_, rfl, dX4_defect_8⟩ rfl ?_
    refine lv_iconst (v := 0) X.1 X.2.1 dX4_defect_9 (by decide) ?_
    refine lv_bipush (v := 99) X.1 X.2.1 dX4_defect_10 (by decide) ?_
    refine f_callSi (rest := []) X Z hl.1 (c_X4_isWithin l G _ _ _ _) (va_cwS 3 X.2.2.2.2 gX4_defect_X4_isWithin rfl rfl rfl (by decide +kernel) ⟨(Nat.le_of_ble_eq_true rfl), (Nat.le_of_ble_eq_true rfl)⟩) rfl dX4_defect_12 ⟨(Nat.le_of_ble_eq_true rfl), (Nat.le_of_ble_eq_true rfl)⟩ rfl (Nat.le_of_ble_eq_true rfl) (fun r12 w2 H locs p12 Z => ?_)
    obtain ⟨w2e, hr12⟩ := p12
    have w2e := w2e.symm
    subst w2e
    refine lv_if_ne (tgt := 20) X.1 X.2.1 dX4_defect_15 (by decide) (fun c15 => ?_) (fun c15 => ?_)
    · rw [hr12, bI_0, Classical.not_not] at c15
      obtain ⟨j, hjt_j⟩ : ∃ j, t.toNatClampNeg = j := ⟨_, rfl⟩
      have hj_j : j < 6 := hjt_j ▸ tn_lt c5.1
      have hin_j : vp_in t 6 := vp_in_iff.mpr c5.1
      refine f_aload (v := .ref h0) X hl ⟨_, rfl, dX4_defect_20⟩ rfl ⟨(some h0), rfl⟩ ?_
      refine f_get (v := .ref ta) (k := 0) X Z i4 rfl (by decide) (by decide +kernel) dX4_defect_21 h1.1 rfl ?_
      refine f_iload X hl ⟨_, rfl, dX4_defect_24⟩ rfl ?_
      refine f_tald X Z dX4_defect_25 h2.1 hin_j ?_
      rw [hjt_j, h3 j hj_j]
      refine f_iload X hl ⟨_, rfl, dX4_defect_26⟩ rfl ?_
      refine f_callVq (rest := []) X Z hl.1 (c_X2_vehicleAt l G w (tk j) (T j) k (hx.trk hY hn hj_j)) (cwV 1 X.2.2.2.2 gX4_defect_X2_vehicleAt rfl rfl rfl (by decide +kernel) ⟨(Nat.le_of_ble_eq_true rfl), (Nat.le_of_ble_eq_true rfl)⟩) rfl rfl dX4_defect_27 ⟨(Nat.le_of_ble_eq_true rfl), (Nat.le_of_ble_eq_true rfl)⟩ rfl (Nat.le_of_ble_eq_true rfl) (h5 j hj_j).1 (fun r27 w3 H locs p27 Z => ?_)
      obtain ⟨w3e, hr27⟩ := p27
      have w3e := w3e.symm
      subst w3e
      rw [vix_pos c5.2] at hr27
      have hv : vopt G w r27 ((y.1 j)[k.toNatClampNeg]?) := by rw [hr27]; exact hx.vopt j _
      refine f_astore2 X hl dX4_defect_30 (by decide) ⟨r27, rfl⟩ (fun ls hl => ?_)
      have hl : lV ls _ [some (.ref h0), some (.int t), some (.int k), some (.int x), some (va_rf r27)] := hl
      refine f_aload2 (v := va_rf r27) X hl dX4_defect_32 rfl ⟨r27, rfl⟩ ?_
      refine f_ifnonnull (tgt := 43) X dX4_defect_34 (by decide) (fun a34 c34 => ?_) (fun c34 => ?_)
      · subst c34
        obtain ⟨d, hd1⟩ := mf hr27
        obtain ⟨gA, ro, hcA, hro, hrt⟩ := h6.1 j _ a34 d hd1
        have hya : (y.1 j)[k.toNatClampNeg]? = some d := by rw [hx.at]; exact map_snd hd1
        refine f_aload2 (v := .ref a34) X hl dX4_defect_43 rfl ⟨(some a34), rfl⟩ ?_
        refine f_iload X hl ⟨_, rfl, dX4_defect_45⟩ rfl ?_
        refine f_put (v := .int x) (ty0 := tyX3) (k := 2) X Z i3 tyX3_ok nmX3 rfl (by decide) (by decide +kernel) rfl dX4_defect_46 hcA rfl rfl (Nat.le_of_ble_eq_true rfl) (fun H locs w4 e5 Z => ?_)
        have e5 : w4 = va_up w a34 (some (cVeh d.1 d.2.1 x ro (nx (T j) k.toNatClampNeg))) := e5
        have k6 : w4 h0 = some (cTs (some ta) (some to) sd pl y.2.2.2.2.1 (nI c)) := by rw [e5]; exact lk_ne (ad_ne h1.1 hcA (dx_oo (by decide))) h1.1
        have k7 : w4 ta = some (aT G 6 tf) := by rw [e5]; exact lk_ne (ad_ne h2.1 hcA dx_io) h2.1
        have k8 : w4 to = some (aI G 8 y.2.2.2.2.2) := by rw [e5]; exact lk_ne (ad_ne h4.1 hcA dx_io) h4.1
        have k9 : w4 (tk j) = some (cTrk (hd (T j)) (nI (T j).length)) := by rw [e5]; exact lk_ne (ad_ne (h5 j hj_j).1 hcA (dx_oo (by decide))) (h5 j hj_j).1
        have k10 : w4 a34 = some (cVeh d.1 d.2.1 x ro (nx (T j) k.toNatClampNeg)) := by rw [e5]; exact up_eq
        refine f_iload X hl ⟨_, rfl, dX4_defect_49⟩ rfl ?_
        exact f_iret X hr hlk Z (Nat.le_of_ble_eq_true rfl) (Nat.le_of_ble_eq_true rfl) dX4_defect_50 (out_of (hx.put (S := fun b => b = a34) (tg' := tg) (d' := (d.1, d.2.1, x, d.2.2.2)) hj_j hd1 (by rw [e5]; exact Up.one) (fun b hb => Or.inl hb) ⟨gA, ro, k10, hro.up hrt (by rw [e5]; exact Up.one) (by rintro _ rfl; rw [gA]; simp)⟩) (by rw [e5]; exact Fr.rf.put gA (by decide)) (by omega) (by unfold sp_defect yput yat tn; rw [if_pos ⟨c5, c15⟩, hjt_j, hya]))
      · subst c34
        have hya : (y.1 j)[k.toNatClampNeg]? = none := vopt_none hv
        refine f_aload (v := .ref h0) X hl ⟨_, rfl, dX4_defect_37⟩ rfl ⟨(some h0), rfl⟩ ?_
        refine lv_iconst (v := 1) X.1 X.2.1 dX4_defect_38 (by decide) ?_
        refine f_callVi (rest := []) X Z hl.1 (c_X4_tell l G w h0 ta to sd pl y.2.2.2.2.1 (nI c) h1.1 y.2.2.2.2.2 1 (by decide) h4.1) (cwV 1 X.2.2.2.2 gX4_defect_X4_tell rfl rfl rfl (by decide +kernel) ⟨(Nat.le_of_ble_eq_true rfl), (Nat.le_of_ble_eq_true rfl)⟩) rfl rfl dX4_defect_39 ⟨(Nat.le_of_ble_eq_true rfl), (Nat.le_of_ble_eq_true rfl)⟩ rfl (Nat.le_of_ble_eq_true rfl) h1.1 (fun r39 w11 H locs p39 Z => ?_)
        obtain ⟨hrT, hwT⟩ := p39
        exact f_iret X hr hlk Z (Nat.le_of_ble_eq_true rfl) (Nat.le_of_ble_eq_true rfl) dX4_defect_42 (out_tell hx Fr.rf hrT hwT (by unfold sp_defect yat tn; rw [if_pos ⟨c5, c15⟩, hjt_j, hya]))
    · rw [hr12, bI_0] at c15
      refine lv_iconst (v := (-1)) X.1 X.2.1 dX4_defect_18 (by decide) ?_
      exact f_iret X hr hlk Z (Nat.le_of_ble_eq_true rfl) (Nat.le_of_ble_eq_true rfl) dX4_defect_19 (out_same hR (if_neg (fun h => c15 h.2)))
set_option maxHeartbeats 4000000 in
set_option maxRecDepth 100000 in
theorem c_X4_report (l : Launch) (G : gT) (w : wT) (tg : tT) (h0 c nb : Nat) (y : Yd) (hR : RepC G tg w h0 c y) (hY : Yok nb y) (hn : nb ≤ 512) (t k : Int32) : Met l yX4_report wsX4_report ({ frames := 2, cells := 0, slots := 0, locals := 43 }) (va_Pc [.ref h0, .int t, .int k] (wG G w)) (Qi G (OutC G tg w h0 c (sp_report t k y))) 0 0 (fr G) := by
  refine f_met (cc := cX4_report) (maxL := 4) (ret := (some .int)) (by decide) rfl rfl (Nat.le_of_ble_eq_true rfl) ?_
  intro p e s m below meth cd X hr hlk hnm Z ls hl
  have X : CallFix p m cd cX4_report 4 s [.ref h0, .int t, .int k].toArray wsX4_report RX4 := X
  have hl : lV ls _ [some (.ref h0), some (.int t), some (.int k), none] := hl
  have i3 : ∀ w ∈ wsX30, w ∈ wsX4_report := by decide +kernel
  have i4 : ∀ w ∈ wsX40, w ∈ wsX4_report := by decide +kernel
  obtain ⟨ta, to, tf, tk, sd, pl, T, hx⟩ := id hR
  obtain ⟨h1, h2, h3, h4, h5, h6, h7, h8, h9⟩ := id hx
  refine f_iload X hl ⟨_, rfl, dX4_report_0⟩ rfl ?_
  refine f_iload X hl ⟨_, rfl, dX4_report_1⟩ rfl ?_
  refine f_callSi (rest := []) X Z hl.1 (c_X4_isPosition l G _ _ _) (va_cwS 2 X.2.2.2.2 gX4_report_X4_isPosition rfl rfl rfl (by decide +kernel) ⟨(Nat.le_of_ble_eq_true rfl), (Nat.le_of_ble_eq_true rfl)⟩) rfl dX4_report_2 ⟨(Nat.le_of_ble_eq_true rfl), (Nat.le_of_ble_eq_true rfl)⟩ rfl (Nat.le_of_ble_eq_true rfl) (fun r2 w1 H locs p2 Z => ?_)
  obtain ⟨w1e, hr2⟩ := p2
  have w1e := w1e.symm
  subst w1e
  refine lv_if_ne (tgt := 10) X.1 X.2.1 dX4_report_5 (by decide) (fun c5 => ?_) (fun c5 => ?_)
  · rw [hr2, bI_0, Classical.not_not] at c5
    obtain ⟨j, hjt_j⟩ : ∃ j, t.toNatClampNeg = j := ⟨_, rfl⟩
    have hj_j : j < 6 := hjt_j ▸ tn_lt c5.1
    have hin_j : vp_in t 6 := vp_in_iff.mpr c5.1
    refine f_aload (v := .ref h0) X hl ⟨_, rfl, dX4_report_10⟩ rfl ⟨(some h0), rfl⟩ ?_
    refine f_get (v := .ref ta) (k := 0) X Z i4 rfl (by decide) (by decide +kernel) dX4_report_11 h1.1 rfl ?_
    refine f_iload X hl ⟨_, rfl, dX4_report_14⟩ rfl ?_
    refine f_tald X Z dX4_report_15 h2.1 hin_j ?_
    rw [hjt_j, h3 j hj_j]
    refine f_iload X hl ⟨_, rfl, dX4_report_16⟩ rfl ?_
    refine f_callVq (rest := []) X Z hl.1 (c_X2_vehicleAt l G w (tk j) (T j) k (hx.trk hY hn hj_j)) (cwV 1 X.2.2.2.2 gX4_report_X2_vehicleAt rfl rfl rfl (by decide +kernel) ⟨(Nat.le_of_ble_eq_true rfl), (Nat.le_of_ble_eq_true rfl)⟩) rfl rfl dX4_report_17 ⟨(Nat.le_of_ble_eq_true rfl), (Nat.le_of_ble_eq_true rfl)⟩ rfl (Nat.le_of_ble_eq_true rfl) (h5 j hj_j).1 (fun r17 w2 H locs p17 Z => ?_)
    obtain ⟨w2e, hr17⟩ := p17
    have w2e := w2e.symm
    subst w2e
    rw [vix_pos c5.2] at hr17
    have hv : vopt G w r17 ((y.1 j)[k.toNatClampNeg]?) := by rw [hr17]; exact hx.vopt j _
    refine f_astore X hl ⟨_, rfl, dX4_report_20⟩ (by decide) ⟨r17, rfl⟩ (fun ls hl => ?_)
    have hl : lV ls _ [some (.ref h0), some (.int t), some (.int k), some (va_rf r17)] := hl
    refine f_aload (v := va_rf r17) X hl ⟨_, rfl, dX4_report_21⟩ rfl ⟨r17, rfl⟩ ?_
    refine f_ifnull (tgt := 32) X dX4_report_22 (by decide) (fun c22 => ?_) (fun a22 c22 => ?_)
    · subst c22
      have hya : (y.1 j)[k.toNatClampNeg]? = none := vopt_none hv
      refine f_aload (v := .ref h0) X hl ⟨_, rfl, dX4_report_32⟩ rfl ⟨(some h0), rfl⟩ ?_
      refine lv_iconst (v := 1) X.1 X.2.1 dX4_report_33 (by decide) ?_
      refine f_callVi (rest := []) X Z hl.1 (c_X4_tell l G w h0 ta to sd pl y.2.2.2.2.1 (nI c) h1.1 y.2.2.2.2.2 1 (by decide) h4.1) (cwV 1 X.2.2.2.2 gX4_report_X4_tell rfl rfl rfl (by decide +kernel) ⟨(Nat.le_of_ble_eq_true rfl), (Nat.le_of_ble_eq_true rfl)⟩) rfl rfl dX4_report_34 ⟨(Nat.le_of_ble_eq_true rfl), (Nat.le_of_ble_eq_true rfl)⟩ rfl (Nat.le_of_ble_eq_true rfl) h1.1 (fun r34 w3 H locs p34 Z => ?_)
      obtain ⟨hrT, hwT⟩ := p34
      exact f_iret X hr hlk Z (Nat.le_of_ble_eq_true rfl) (Nat.le_of_ble_eq_true rfl) dX4_report_37 (out_tell hx Fr.rf hrT hwT (by unfold sp_report yat tn; rw [if_pos c5, hjt_j, hya]))
    · subst c22
      obtain ⟨d, hd1⟩ := mf hr17
      obtain ⟨gA, ro, hcA, hro, hrt⟩ := h6.1 j _ a22 d hd1
      have hya : (y.1 j)[k.toNatClampNeg]? = some d := by rw [hx.at]; exact map_snd hd1
      refine f_aload (v := .ref a22) X hl ⟨_, rfl, dX4_report_25⟩ rfl ⟨(some a22), rfl⟩ ?_
      refine f_get (v := .int d.2.2.1) (k := 2) X Z i3 rfl (by decide) (by decide +kernel) dX4_report_26 hcA rfl ?_
      refine lv_if_ne (tgt := 38) X.1 X.2.1 dX4_report_29 (by decide) (fun c29 => ?_) (fun c29 => ?_)
      · refine f_aload (v := .ref h0) X hl ⟨_, rfl, dX4_report_38⟩ rfl ⟨(some h0), rfl⟩ ?_
        refine lv_bipush (v := 7) X.1 X.2.1 dX4_report_39 (by decide) ?_
        refine f_aload (v := .ref a22) X hl ⟨_, rfl, dX4_report_41⟩ rfl ⟨(some a22), rfl⟩ ?_
        refine f_get (v := .int d.2.2.1) (k := 2) X Z i3 rfl (by decide) (by decide +kernel) dX4_report_42 hcA rfl ?_
        refine f_callVi (rest := []) X Z hl.1 (c_X4_tellLevel l G w h0 ta to sd pl y.2.2.2.2.1 (nI c) h1.1 y.2.2.2.2.2 7 d.2.2.1 (by decide) h4.1) (cwV 2 X.2.2.2.2 gX4_report_X4_tellLevel rfl rfl rfl (by decide +kernel) ⟨(Nat.le_of_ble_eq_true rfl), (Nat.le_of_ble_eq_true rfl)⟩) rfl rfl dX4_report_45 ⟨(Nat.le_of_ble_eq_true rfl), (Nat.le_of_ble_eq_true rfl)⟩ rfl (Nat.le_of_ble_eq_true rfl) h1.1 (fun r45 w4 H locs p45 Z => ?_)
        obtain ⟨hrT, hwT⟩ := p45
        exact f_iret X hr hlk Z (Nat.le_of_ble_eq_true rfl) (Nat.le_of_ble_eq_true rfl) dX4_report_48 (out_lev hx hrT hwT (by unfold sp_report yat tn; rw [if_pos c5, hjt_j, hya]; exact if_neg c29))
      · refine f_aload (v := .ref h0) X hl ⟨_, rfl, dX4_report_32⟩ rfl ⟨(some h0), rfl⟩ ?_
        refine lv_iconst (v := 1) X.1 X.2.1 dX4_report_33 (by decide) ?_
        refine f_callVi (rest := []) X Z hl.1 (c_X4_tell l G w h0 ta to sd pl y.2.2.2.2.1 (nI c) h1.1 y.2.2.2.2.2 1 (by decide) h4.1) (cwV 1 X.2.2.2.2 gX4_report_X4_tell rfl rfl rfl (by decide +kernel) ⟨(Nat.le_of_ble_eq_true rfl), (Nat.le_of_ble_eq_true rfl)⟩) rfl rfl dX4_report_34 ⟨(Nat.le_of_ble_eq_true rfl), (Nat.le_of_ble_eq_true rfl)⟩ rfl (Nat.le_of_ble_eq_true rfl) h1.1 (fun r34 w5 H locs p34 Z => ?_)
        obtain ⟨hrT, hwT⟩ := p34
        exact f_iret X hr hlk Z (Nat.le_of_ble_eq_true rfl) (Nat.le_of_ble_eq_true rfl) dX4_report_37 (out_tell hx Fr.rf hrT hwT (by unfold sp_report yat tn; rw [if_pos c5, hjt_j, hya]; exact if_pos c29))
  · rw [hr2, bI_0] at c5
    refine lv_iconst (v := (-1)) X.1 X.2.1 dX4_report_8 (by decide) ?_
    exact f_iret X hr hlk Z (Nat.le_of_ble_eq_true rfl) (Nat.le_of_ble_eq_true rfl) dX4_report_9 (out_same hR (if_neg c5))
set_option maxHeartbeats 4000000 in
set_option maxRecDepth 100000 in
theorem c_X4_room (l : Launch) (G : gT) (w : wT) (tg : tT) (h0 c nb : Nat) (y : Yd) (hR : RepC G tg w h0 c y) (hY : Yok nb y) (hn : nb ≤ 512)  : Met l yX4_room wsX4_room ({ frames := 1, cells := 0, slots := 0, locals := 21 }) (va_Pc [.ref h0] (wG G w)) (Qi G (OutC G tg w h0 c (sp_room y))) 0 0 (fr G) := by
  refine f_met (cc := cX4_room) (maxL := 1) (ret := (some .int)) (by decide) rfl rfl (Nat.le_of_ble_eq_true rfl) ?_
  intro p e s m below meth cd X hr hlk hnm Z ls hl
  have X : CallFix p m cd cX4_room 1 s [.ref h0].toArray wsX4_room RX4 := X
  have hl : lV ls _ [some (.ref h0)] := hl
  have i1 : ∀ w ∈ wsX10, w ∈ wsX4_room := by decide +kernel
  have i4 : ∀ w ∈ wsX40, w ∈ wsX4_room := by decide +kernel
  obtain ⟨ta, to, tf, tk, sd, pl, T, hx⟩ := id hR
  obtain ⟨h1, h2, h3, h4, h5, h6, h7, h8, h9⟩ := id hx
  refine f_aload (v := .ref h0) X hl ⟨_, rfl, dX4_room_0⟩ rfl ⟨(some h0), rfl⟩ ?_
  refine f_get (v := va_rf sd) (k := 2) X Z i4 rfl (by decide) (by decide +kernel) dX4_room_1 h1.1 rfl ?_
  refine f_ifnonnull (tgt := 15) X dX4_room_4 (by decide) (fun a4 c4 => ?_) (fun c4 => ?_)
  · subst c4
    obtain ⟨pa, sn, sb, sf, hcS, hcF, hos, hs12⟩ := sopt_some h8.opt
    refine f_aload (v := .ref h0) X hl ⟨_, rfl, dX4_room_15⟩ rfl ⟨(some h0), rfl⟩ ?_
    refine f_get (v := .ref a4) (k := 2) X Z i4 rfl (by decide) (by decide +kernel) dX4_room_16 h1.1 rfl ?_
    refine f_get (v := .ref pa) (k := 0) X Z i1 rfl (by decide) (by decide +kernel) dX4_room_19 hcS rfl ?_
    refine f_alenV X Z dX4_room_22 hcF ?_
    exact f_iret X hr hlk Z (Nat.le_of_ble_eq_true rfl) (Nat.le_of_ble_eq_true rfl) dX4_room_23 (out_same hR (by unfold sp_room; rw [hos]))
  · subst c4
    have hos := sopt_none h8.opt
    refine f_aload (v := .ref h0) X hl ⟨_, rfl, dX4_room_7⟩ rfl ⟨(some h0), rfl⟩ ?_
    refine lv_iconst (v := 1) X.1 X.2.1 dX4_room_8 (by decide) ?_
    refine f_callVi (rest := []) X Z hl.1 (c_X4_tell l G w h0 ta to none pl y.2.2.2.2.1 (nI c) h1.1 y.2.2.2.2.2 1 (by decide) h4.1) (cwV 1 X.2.2.2.2 gX4_room_X4_tell rfl rfl rfl (by decide +kernel) ⟨(Nat.le_of_ble_eq_true rfl), (Nat.le_of_ble_eq_true rfl)⟩) rfl rfl dX4_room_9 ⟨(Nat.le_of_ble_eq_true rfl), (Nat.le_of_ble_eq_true rfl)⟩ rfl (Nat.le_of_ble_eq_true rfl) h1.1 (fun r9 w1 H locs p9 Z => ?_)
    obtain ⟨hrT, hwT⟩ := p9
    refine lv_goto (tgt := 23) X.1 X.2.1 dX4_room_12 (by decide) ?_
    exact f_iret X hr hlk Z (Nat.le_of_ble_eq_true rfl) (Nat.le_of_ble_eq_true rfl) dX4_room_23 (out_tell hx Fr.rf hrT hwT (by unfold sp_room; rw [hos]))
