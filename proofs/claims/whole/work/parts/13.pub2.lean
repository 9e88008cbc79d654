theorem va_rf_inj {a b : Option Nat} (h : va_rf a = va_rf b) : a = b := by
  cases a <;> cases b <;> simp [va_rf] at h ⊢
  exact h
theorem cVeh_inj {a b c a' b' c' : Int32} {r h r' h' : Option Nat} (e : some (cVeh a b c r h) = some (cVeh a' b' c' r' h')) : r = r' ∧ h = h' := by
  have e := Option.some.inj e
  simp only [Sum.inr.injEq, Prod.mk.injEq, List.cons.injEq, true_and, and_true] at e
  exact ⟨va_rf_inj e.2.2.2.1, va_rf_inj e.2.2.2.2⟩
theorem tn_ne {f t : Int32} (h1 : 0 ≤ f.toInt) (h2 : 0 ≤ t.toInt) (h : f ≠ t) : f.toNatClampNeg ≠ t.toNatClampNeg := by
  intro e
  refine h (Int32.toInt_inj.mp ?_)
  have e1 : f.toNatClampNeg = f.toInt.toNat := rfl
  have e2 : t.toNatClampNeg = t.toInt.toNat := rfl
  omega
theorem okB_n {n : Int32} (h : okB n 1 99) : ∃ kn, kn < 99 ∧ n = nI (kn + 1) := by
  obtain ⟨h1, h2⟩ := h
  rw [kc_1] at h1
  rw [kc_99] at h2
  refine ⟨n.toInt.toNat - 1, by omega, Int32.toInt_inj.mp ?_⟩
  rw [nI_toInt (by omega)]
  omega
theorem snd_at {L : LV} {i : Nat} {d : VR} (h : (L[i]?).map Prod.snd = some d) : ∃ a, L[i]? = some (a, d) := by
  cases hq : L[i]? with
  | none => rw [hq] at h; cases h
  | some q => rw [hq] at h; obtain ⟨a, e⟩ := q; cases h; exact ⟨a, rfl⟩
theorem whyC_0 {od : Option VR} {i : Int32} (h : whyC od i = 0) : ∃ so we de n f, od = some (so, we, de, some (n, f)) ∧ 0 ≤ i.toInt ∧ i.toInt < (n : Nat) := by
  unfold whyC at h
  split at h
  · cases h
  · rename_i d
    split at h
    · cases h
    · split at h
      · cases h
      · rename_i q hq
        split at h
        · rename_i hi
          obtain ⟨so, we, de, cr⟩ := d
          obtain ⟨n, f⟩ := q
          cases hq
          exact ⟨so, we, de, n, f, rfl, hi.1, hi.2⟩
        · cases h
theorem whyR_0 {od : Option VR} (h : whyR od = 0) : ∃ so we de n f, od = some (so, we, de, some (n, f)) := by
  unfold whyR at h
  split at h
  · cases h
  · rename_i d
    split at h
    · cases h
    · split at h
      · cases h
      · rename_i q hq
        obtain ⟨so, we, de, cr⟩ := d
        obtain ⟨n, f⟩ := q
        cases hq
        exact ⟨so, we, de, n, f, rfl⟩
set_option maxHeartbeats 4000000 in
set_option maxRecDepth 100000 in
theorem c_X4_take (l : Launch) (G : gT) (w : wT) (tg : tT) (h0 c nb : Nat) (y : Yd) (hR : RepC G tg w h0 c y) (hY : Yok nb y) (hn : nb ≤ 512) (t : Int32) : Met l yX4_take wsX4_take ({ frames := 1, cells := 0, slots := 0, locals := 25 }) (va_Pc [.ref h0, .int t] (wG G w)) (Qi G (OutC G tg w h0 c (sp_take t y))) 0 0 (fr G) := by
  refine f_met (cc := cX4_take) (maxL := 3) (ret := (some .int)) (by decide) rfl rfl (Nat.le_of_ble_eq_true rfl) ?_
  intro p e s m below meth cd X hr hlk hnm Z ls hl
  have X : CallFix p m cd cX4_take 3 s [.ref h0, .int t].toArray wsX4_take RX4 := X
  have hl : lV ls _ [some (.ref h0), some (.int t), none] := hl
  have i4 : ∀ w ∈ wsX40, w ∈ wsX4_take := by decide +kernel
  obtain ⟨ta, to, tf, tk, sd, pl, T, hx⟩ := id hR
  obtain ⟨h1, h2, h3, h4, h5, h6, h7, h8, h9⟩ := id hx
  refine f_iload X hl ⟨_, rfl, dX4_take_0⟩ rfl ?_
  refine f_callSi (rest := []) X Z hl.1 (c_X4_isTrack l G _ _) (va_cwS 1 X.2.2.2.2 gX4_take_X4_isTrack rfl rfl rfl (by decide +kernel) ⟨(Nat.le_of_ble_eq_true rfl), (Nat.le_of_ble_eq_true rfl)⟩) rfl dX4_take_1 ⟨(Nat.le_of_ble_eq_true rfl), (Nat.le_of_ble_eq_true rfl)⟩ rfl (Nat.le_of_ble_eq_true rfl) (fun r1 w1 H locs p1 Z => ?_)
  obtain ⟨w1e, hr1⟩ := p1
  have w1e := w1e.symm
  subst w1e
  refine lv_if_ne (tgt := 9) X.1 X.2.1 dX4_take_4 (by decide) (fun c4 => ?_) (fun c4 => ?_)
  · rw [hr1, bI_0, Classical.not_not] at c4
    obtain ⟨j, hjt_j⟩ : ∃ j, t.toNatClampNeg = j := ⟨_, rfl⟩
    have hj_j : j < 6 := hjt_j ▸ tn_lt c4
    have hin_j : vp_in t 6 := vp_in_iff.mpr c4
    refine f_aload (v := .ref h0) X hl ⟨_, rfl, dX4_take_9⟩ rfl ⟨(some h0), rfl⟩ ?_
    refine f_get (v := .ref ta) (k := 0) X Z i4 rfl (by decide) (by decide +kernel) dX4_take_10 h1.1 rfl ?_
    refine f_iload X hl ⟨_, rfl, dX4_take_13⟩ rfl ?_
    refine f_tald X Z dX4_take_14 h2.1 hin_j ?_
    rw [hjt_j, h3 j hj_j]
    rcases hTj : T j with _ | ⟨⟨a, d⟩, L⟩
    · have hcl : w (tk j) = some (cTrk none (nI 0)) := by have q := (h5 j hj_j).1; rw [hTj] at q; exact q
      have hyj : y.1 j = [] := by rw [← h7 j, hTj]; rfl
      refine f_callVq (rest := []) X Z hl.1 (c_X2_removeFront l G w (tk j) none (nI 0) 0 0 0 none none hcl (fun a h => by cases h)) (cwV 0 X.2.2.2.2 gX4_take_X2_removeFront rfl rfl rfl (by decide +kernel) ⟨(Nat.le_of_ble_eq_true rfl), (Nat.le_of_ble_eq_true rfl)⟩) rfl rfl dX4_take_15 ⟨(Nat.le_of_ble_eq_true rfl), (Nat.le_of_ble_eq_true rfl)⟩ rfl (Nat.le_of_ble_eq_true rfl) hcl (fun r15 w2 H locs p15 Z => ?_)
      obtain ⟨hr, hw0, -⟩ := p15
      have hw0 := (hw0 rfl).symm
      subst hw0
      subst hr
      refine f_astore X hl ⟨_, rfl, dX4_take_18⟩ (by decide) ⟨none, rfl⟩ (fun ls hl => ?_)
      have hl : lV ls _ [some (.ref h0), some (.int t), some (.null)] := hl
      refine f_aload (v := .null) X hl ⟨_, rfl, dX4_take_19⟩ rfl ⟨none, rfl⟩ ?_
      refine lv_ifnonnullN X.1 X.2.1 dX4_take_20 ?_
      refine f_aload (v := .ref h0) X hl ⟨_, rfl, dX4_take_23⟩ rfl ⟨(some h0), rfl⟩ ?_
      refine lv_iconst (v := 1) X.1 X.2.1 dX4_take_24 (by decide) ?_
      refine f_callVi (rest := []) X Z hl.1 (c_X4_tell l G w h0 ta to sd pl y.2.2.2.2.1 (nI c) h1.1 y.2.2.2.2.2 1 (by decide) h4.1) (cwV 1 X.2.2.2.2 gX4_take_X4_tell rfl rfl rfl (by decide +kernel) ⟨(Nat.le_of_ble_eq_true rfl), (Nat.le_of_ble_eq_true rfl)⟩) rfl rfl dX4_take_25 ⟨(Nat.le_of_ble_eq_true rfl), (Nat.le_of_ble_eq_true rfl)⟩ rfl (Nat.le_of_ble_eq_true rfl) h1.1 (fun r25 w3 H locs p25 Z => ?_)
      obtain ⟨hrT, hwT⟩ := p25
      refine lv_goto (tgt := 35) X.1 X.2.1 dX4_take_28 (by decide) ?_
      exact f_iret X hr hlk Z (Nat.le_of_ble_eq_true rfl) (Nat.le_of_ble_eq_true rfl) dX4_take_35 (out_tell hx Fr.rf hrT hwT (by simp only [sp_take, if_pos c4, tn, hjt_j, hyj]))
    · have hd1 : (T j)[0]? = some (a, d) := by rw [hTj]; rfl
      have hcl : w (tk j) = some (cTrk (some a) (nI (L.length + 1))) := by have q := (h5 j hj_j).1; rw [hTj] at q; exact q
      have hyj : y.1 j = d :: L.map Prod.snd := by rw [← h7 j, hTj]; rfl
      obtain ⟨gA, ro, hcA, hro, hrt⟩ := h6.1 j _ a d hd1
      have hnx : nx (T j) 0 = hd L := by rw [hTj]; rfl
      rw [hnx] at hcA
      refine f_callVq (rest := []) X Z hl.1 (c_X2_removeFront l G w (tk j) (some a) (nI (L.length + 1)) d.1 d.2.1 d.2.2.1 ro (hd L) hcl (fun a1 h => by cases h; exact hcA)) (cwV 0 X.2.2.2.2 gX4_take_X2_removeFront rfl rfl rfl (by decide +kernel) ⟨(Nat.le_of_ble_eq_true rfl), (Nat.le_of_ble_eq_true rfl)⟩) rfl rfl dX4_take_15 ⟨(Nat.le_of_ble_eq_true rfl), (Nat.le_of_ble_eq_true rfl)⟩ rfl (Nat.le_of_ble_eq_true rfl) hcl (fun r15 w4 H locs p15 Z => ?_)
      obtain ⟨hr, -, hw1⟩ := p15
      have hw1 := hw1 a rfl
      subst hr
      rw [nI_pred] at hw1
      have k5 : w4 h0 = some (cTs (some ta) (some to) sd pl y.2.2.2.2.1 (nI c)) := by rw [hw1, up_ne (ad_ne h1.1 hcl (dx_oo (by decide))), up_ne (ad_ne h1.1 hcA (dx_oo (by decide)))]; exact h1.1
      have k6 : w4 ta = some (aT G 6 tf) := by rw [hw1, up_ne (ad_ne h2.1 hcl dx_io), up_ne (ad_ne h2.1 hcA dx_io)]; exact h2.1
      have k7 : w4 to = some (aI G 8 y.2.2.2.2.2) := by rw [hw1, up_ne (ad_ne h4.1 hcl dx_io), up_ne (ad_ne h4.1 hcA dx_io)]; exact h4.1
      have k8 : w4 (tk j) = some (cTrk (hd L) (nI L.length)) := by rw [hw1]; exact up_eq
      have k9 : w4 a = some (cVeh d.1 d.2.1 d.2.2.1 ro none) := by rw [hw1, up_ne (ad_ne hcA hcl (dx_oo (by decide)))]; exact up_eq
      have hU : Up (fun b => b = a ∨ b = tk j) w tg w4 tg := Up.by (fun b e _ hS => by rw [hw1, up_ne (fun z => hS (Or.inr z)), up_ne (fun z => hS (Or.inl z))]) (by rintro _ (rfl | rfl); exact ⟨_, k9⟩; exact ⟨_, k8⟩) (fun _ _ _ => rfl)
      have hve : vehAt G w4 a d none := ⟨ro, k9, (hro.up hrt hU (by rintro _ (rfl | rfl); rw [gA]; simp; rw [(h5 j hj_j).2]; simp)).1⟩
      have hF : Fr w tg w4 tg := by rw [hw1]; exact (Fr.rf.put gA (by decide)).put (h5 j hj_j).2 (by simp)
      refine f_astore X hl ⟨_, rfl, dX4_take_18⟩ (by decide) ⟨(some a), rfl⟩ (fun ls hl => ?_)
      have hl : lV ls _ [some (.ref h0), some (.int t), some (.ref a)] := hl
      refine f_aload (v := .ref a) X hl ⟨_, rfl, dX4_take_19⟩ rfl ⟨(some a), rfl⟩ ?_
      refine lv_ifnonnull (tgt := 31) X.1 X.2.1 dX4_take_20 (by decide) ?_
      refine f_aload (v := .ref a) X hl ⟨_, rfl, dX4_take_31⟩ rfl ⟨(some a), rfl⟩ ?_
      refine f_callVi (rest := []) X Z hl.1 (c_X3_fullWeight l G w4 a d none hve) (cwV 0 X.2.2.2.2 gX4_take_X3_fullWeight rfl rfl rfl (by decide +kernel) ⟨(Nat.le_of_ble_eq_true rfl), (Nat.le_of_ble_eq_true rfl)⟩) rfl rfl dX4_take_32 ⟨(Nat.le_of_ble_eq_true rfl), (Nat.le_of_ble_eq_true rfl)⟩ rfl (Nat.le_of_ble_eq_true rfl) k9 (fun r32 w10 H locs p32 Z => ?_)
      obtain ⟨w10e, hr32⟩ := p32
      have w10e := w10e.symm
      subst w10e
      exact f_iret X hr hlk Z (Nat.le_of_ble_eq_true rfl) (Nat.le_of_ble_eq_true rfl) dX4_take_35 (out_of (hx.pop hj_j hTj k9 k8 (fun b n1 n2 => by rw [hw1, up_ne n2, up_ne n1])) hF (by omega) (by simp only [sp_take, if_pos c4, tn, hjt_j, hyj, hr32]))
  · rw [hr1, bI_0] at c4
    refine lv_iconst (v := (-1)) X.1 X.2.1 dX4_take_7 (by decide) ?_
    exact f_iret X hr hlk Z (Nat.le_of_ble_eq_true rfl) (Nat.le_of_ble_eq_true rfl) dX4_take_8 (out_same hR (if_neg c4))
set_option maxHeartbeats 4000000 in
set_option maxRecDepth 100000 in
theorem c_X4_shunt (l : Launch) (G : gT) (w : wT) (tg : tT) (h0 c nb : Nat) (y : Yd) (hR : RepC G tg w h0 c y) (hY : Yok nb y) (hn : nb ≤ 512) (f n t : Int32) : Met l yX4_shunt wsX4_shunt ({ frames := 2, cells := 0, slots := 0, locals := 47 }) (va_Pc [.ref h0, .int f, .int n, .int t] (wG G w)) (Qi G (OutC G tg w h0 c (sp_shunt f n t y))) 0 0 (fr G) := by
  refine f_met (cc := cX4_shunt) (maxL := 4) (ret := (some .int)) (by decide) rfl rfl (Nat.le_of_ble_eq_true rfl) ?_
  intro p e s m below meth cd X hr hlk hnm Z ls hl
  have X : CallFix p m cd cX4_shunt 4 s [.ref h0, .int f, .int n, .int t].toArray wsX4_shunt RX4 := X
  have hl : lV ls _ [some (.ref h0), some (.int f), some (.int n), some (.int t)] := hl
  have i4 : ∀ w ∈ wsX40, w ∈ wsX4_shunt := by decide +kernel
  obtain ⟨ta, to, tf, tk, sd, pl, T, hx⟩ := id hR
  obtain ⟨h1, h2, h3, h4, h5, h6, h7, h8, h9⟩ := id hx
  refine f_iload X hl ⟨_, rfl, dX4_shunt_0⟩ rfl ?_
  refine f_iload X hl ⟨_, rfl, dX4_shunt_1⟩ rfl ?_
  refine f_callSi (rest := []) X Z hl.1 (c_X4_areTwoTracks l G _ _ _) (va_cwS 2 X.2.2.2.2 gX4_shunt_X4_areTwoTracks rfl rfl rfl (by decide +kernel) ⟨(Nat.le_of_ble_eq_true rfl), (Nat.le_of_ble_eq_true rfl)⟩) rfl dX4_shunt_2 ⟨(Nat.le_of_ble_eq_true rfl), (Nat.le_of_ble_eq_true rfl)⟩ rfl (Nat.le_of_ble_eq_true rfl) (fun r2 w1 H locs p2 Z => ?_)
  obtain ⟨w1e, hr2⟩ := p2
  have w1e := w1e.symm
  subst w1e
  refine lv_if_eq (tgt := 18) X.1 X.2.1 dX4_shunt_5 (by decide) (fun c5 => ?_) (fun c5 => ?_)
  · rw [hr2, bI_0] at c5
    refine lv_iconst (v := (-1)) X.1 X.2.1 dX4_shunt_18 (by decide) ?_
    exact f_iret X hr hlk Z (Nat.le_of_ble_eq_true rfl) (Nat.le_of_ble_eq_true rfl) dX4_shunt_19 (out_same hR (if_neg (fun h => c5 h.1)))
  · rw [hr2, bI_0, Classical.not_not] at c5
    refine f_iload X hl ⟨_, rfl, dX4_shunt_8⟩ rfl ?_
    refine lv_iconst (v := 1) X.1 X.2.1 dX4_shunt_9 (by decide) ?_
    refine lv_bipush (v := 99) X.1 X.2.1 dX4_shunt_10 (by decide) ?_
    refine f_callSi (rest := []) X Z hl.1 (c_X4_isWithin l G _ _ _ _) (va_cwS 3 X.2.2.2.2 gX4_shunt_X4_isWithin rfl rfl rfl (by decide +kernel) ⟨(Nat.le_of_ble_eq_true rfl), (Nat.le_of_ble_eq_true rfl)⟩) rfl dX4_shunt_12 ⟨(Nat.le_of_ble_eq_true rfl), (Nat.le_of_ble_eq_true rfl)⟩ rfl (Nat.le_of_ble_eq_true rfl) (fun r12 w2 H locs p12 Z => ?_)
    obtain ⟨w2e, hr12⟩ := p12
    have w2e := w2e.symm
    subst w2e
    refine lv_if_ne (tgt := 20) X.1 X.2.1 dX4_shunt_15 (by decide) (fun c15 => ?_) (fun c15 => ?_)
    · rw [hr12, bI_0, Classical.not_not] at c15
      obtain ⟨j, hjt_j⟩ : ∃ j, f.toNatClampNeg = j := ⟨_, rfl⟩
      have hj_j : j < 6 := hjt_j ▸ tn_lt c5.1
      have hin_j : vp_in f 6 := vp_in_iff.mpr c5.1
      obtain ⟨u, hjt_u⟩ : ∃ u, t.toNatClampNeg = u := ⟨_, rfl⟩
      have hj_u : u < 6 := hjt_u ▸ tn_lt c5.2.1
      have hin_u : vp_in t 6 := vp_in_iff.mpr c5.2.1
      have hju : j ≠ u := by rw [← hjt_j, ← hjt_u]; exact tn_ne c5.1.1 c5.2.1.1 c5.2.2
      have hne : tk j ≠ tk u := fun e => by
        have q := (h5 j hj_j).2
        rw [e, (h5 u hj_u).2] at q
        cases q
        exact hju rfl
      obtain ⟨kn, hkn, rfl⟩ := okB_n c15
      refine f_aload (v := .ref h0) X hl ⟨_, rfl, dX4_shunt_20⟩ rfl ⟨(some h0), rfl⟩ ?_
      refine f_get (v := .ref ta) (k := 0) X Z i4 rfl (by decide) (by decide +kernel) dX4_shunt_21 h1.1 rfl ?_
      refine f_iload X hl ⟨_, rfl, dX4_shunt_24⟩ rfl ?_
      refine f_tald X Z dX4_shunt_25 h2.1 hin_j ?_
      rw [hjt_j, h3 j hj_j]
      refine f_iload X hl ⟨_, rfl, dX4_shunt_26⟩ rfl ?_
      refine f_aload (v := .ref h0) X hl ⟨_, rfl, dX4_shunt_27⟩ rfl ⟨(some h0), rfl⟩ ?_
      refine f_get (v := .ref ta) (k := 0) X Z i4 rfl (by decide) (by decide +kernel) dX4_shunt_28 h1.1 rfl ?_
      refine f_iload X hl ⟨_, rfl, dX4_shunt_31⟩ rfl ?_
      refine f_tald X Z dX4_shunt_32 h2.1 hin_u ?_
      rw [hjt_u, h3 u hj_u]
      refine f_callVi (rest := []) X Z hl.1 (c_X2_moveFirst l G w (tk j) (tk u) (T j) (hd (T u)) (nI (T u).length) kn (by omega) (hx.trk hY hn hj_j) (h5 u hj_u).1 hne) (cwV 2 X.2.2.2.2 gX4_shunt_X2_moveFirst rfl rfl rfl (by decide +kernel) ⟨(Nat.le_of_ble_eq_true rfl), (Nat.le_of_ble_eq_true rfl)⟩) rfl rfl dX4_shunt_33 ⟨(Nat.le_of_ble_eq_true rfl), (Nat.le_of_ble_eq_true rfl)⟩ rfl (Nat.le_of_ble_eq_true rfl) (h5 j hj_j).1 (fun r33 w3 H locs p33 Z => ?_)
      rcases p33 with ⟨hT0, hrz, hwz⟩ | ⟨a, d, ro, hT1, hcA, hrz, hw1⟩
      · have hwz := hwz.symm
        subst hwz
        subst hrz
        have hlen : (T j).length ≤ kn := List.getElem?_eq_none_iff.mp hT0
        refine lv_if_eq (tgt := 43) X.1 X.2.1 dX4_shunt_36 (by decide) (fun c36 => ?_) (fun c36 => ?_)
        · refine f_aload (v := .ref h0) X hl ⟨_, rfl, dX4_shunt_43⟩ rfl ⟨(some h0), rfl⟩ ?_
          refine lv_iconst (v := 1) X.1 X.2.1 dX4_shunt_44 (by decide) ?_
          refine f_callVi (rest := []) X Z hl.1 (c_X4_tell l G w h0 ta to sd pl y.2.2.2.2.1 (nI c) h1.1 y.2.2.2.2.2 1 (by decide) h4.1) (cwV 1 X.2.2.2.2 gX4_shunt_X4_tell rfl rfl rfl (by decide +kernel) ⟨(Nat.le_of_ble_eq_true rfl), (Nat.le_of_ble_eq_true rfl)⟩) rfl rfl dX4_shunt_45 ⟨(Nat.le_of_ble_eq_true rfl), (Nat.le_of_ble_eq_true rfl)⟩ rfl (Nat.le_of_ble_eq_true rfl) h1.1 (fun r45 w4 H locs p45 Z => ?_)
          obtain ⟨hrT, hwT⟩ := p45
          exact f_iret X hr hlk Z (Nat.le_of_ble_eq_true rfl) (Nat.le_of_ble_eq_true rfl) dX4_shunt_48 (out_tell hx Fr.rf hrT hwT (by unfold sp_shunt tn; rw [if_pos ⟨c5, c15⟩, hjt_j, nI_clamp (by omega), if_neg (by rw [← hx.len j]; omega)]))
        · exact absurd rfl c36
      · subst hrz
        have gA : tg a = (4, 0) := (h6.1 j _ a d hT1).1
        have hlt : kn < (T j).length := (List.getElem?_eq_some_iff.mp hT1).1
        have k5 : w3 h0 = some (cTs (some ta) (some to) sd pl y.2.2.2.2.1 (nI c)) := by rw [hw1, up_ne (ad_ne h1.1 (h5 j hj_j).1 (dx_oo (by decide))), up_ne (ad_ne h1.1 (h5 u hj_u).1 (dx_oo (by decide))), up_ne (ad_ne h1.1 hcA (dx_oo (by decide)))]; exact h1.1
        have k6 : w3 ta = some (aT G 6 tf) := by rw [hw1, up_ne (ad_ne h2.1 (h5 j hj_j).1 dx_io), up_ne (ad_ne h2.1 (h5 u hj_u).1 dx_io), up_ne (ad_ne h2.1 hcA dx_io)]; exact h2.1
        have k7 : w3 to = some (aI G 8 y.2.2.2.2.2) := by rw [hw1, up_ne (ad_ne h4.1 (h5 j hj_j).1 dx_io), up_ne (ad_ne h4.1 (h5 u hj_u).1 dx_io), up_ne (ad_ne h4.1 hcA dx_io)]; exact h4.1
        have k8 : w3 (tk j) = some (cTrk (nx (T j) kn) (nI (T j).length - nI (kn + 1))) := by rw [hw1]; exact up_eq
        have k9 : w3 (tk u) = some (cTrk (hd (T j)) (nI (T u).length + nI (kn + 1))) := by rw [hw1, up_ne (Ne.symm hne)]; exact up_eq
        have k10 : w3 a = some (cVeh d.1 d.2.1 d.2.2.1 ro (hd (T u))) := by rw [hw1, up_ne (ad_ne hcA (h5 j hj_j).1 (dx_oo (by decide))), up_ne (ad_ne hcA (h5 u hj_u).1 (dx_oo (by decide)))]; exact up_eq
        have hF : Fr w tg w3 tg := by rw [hw1]; exact ((Fr.rf.put gA (by decide)).put (h5 u hj_u).2 (by simp)).put (h5 j hj_j).2 (by simp)
        refine lv_if_eq (tgt := 43) X.1 X.2.1 dX4_shunt_36 (by decide) (fun c36 => ?_) (fun c36 => ?_)
        · exact absurd c36 (by decide)
        · refine f_iload X hl ⟨_, rfl, dX4_shunt_39⟩ rfl ?_
          refine lv_goto (tgt := 48) X.1 X.2.1 dX4_shunt_40 (by decide) ?_
          exact f_iret X hr hlk Z (Nat.le_of_ble_eq_true rfl) (Nat.le_of_ble_eq_true rfl) dX4_shunt_48 (out_of (hx.move hj_j hj_u hju hT1 (fun ro1 bh1 z => by rw [← (cVeh_inj (hcA.symm.trans z)).1]; exact k10) k8 k9 (fun b n1 n2 n3 => by rw [hw1, up_ne n2, up_ne n3, up_ne n1])) hF (by omega) (by unfold sp_shunt tn; rw [if_pos ⟨c5, c15⟩, hjt_j, hjt_u, nI_clamp (by omega), if_pos (by rw [← hx.len j]; omega)]))
    · rw [hr12, bI_0] at c15
      refine lv_iconst (v := (-1)) X.1 X.2.1 dX4_shunt_18 (by decide) ?_
      exact f_iret X hr hlk Z (Nat.le_of_ble_eq_true rfl) (Nat.le_of_ble_eq_true rfl) dX4_shunt_19 (out_same hR (if_neg (fun h => c15 h.2)))
set_option maxHeartbeats 4000000 in
set_option maxRecDepth 100000 in
theorem c_X4_couple (l : Launch) (G : gT) (w : wT) (tg : tT) (h0 c nb : Nat) (y : Yd) (hR : RepC G tg w h0 c y) (hY : Yok nb y) (hn : nb ≤ 512) (t o : Int32) : Met l yX4_couple wsX4_couple ({ frames := 2, cells := 0, slots := 0, locals := 45 }) (va_Pc [.ref h0, .int t, .int o] (wG G w)) (Qi G (OutC G tg w h0 c (sp_couple t o y))) 0 0 (fr G) := by
  refine f_met (cc := cX4_couple) (maxL := 3) (ret := (some .int)) (by decide) rfl rfl (Nat.le_of_ble_eq_true rfl) ?_
  intro p e s m below meth cd X hr hlk hnm Z ls hl
  have X : CallFix p m cd cX4_couple 3 s [.ref h0, .int t, .int o].toArray wsX4_couple RX4 := X
  have hl : lV ls _ [some (.ref h0), some (.int t), some (.int o)] := hl
  have i2 : ∀ w ∈ wsX20, w ∈ wsX4_couple := by decide +kernel
  have i4 : ∀ w ∈ wsX40, w ∈ wsX4_couple := by decide +kernel
  obtain ⟨ta, to, tf, tk, sd, pl, T, hx⟩ := id hR
  obtain ⟨h1, h2, h3, h4, h5, h6, h7, h8, h9⟩ := id hx
  refine f_iload X hl ⟨_, rfl, dX4_couple_0⟩ rfl ?_
  refine f_iload X hl ⟨_, rfl, dX4_couple_1⟩ rfl ?_
  refine f_callSi (rest := []) X Z hl.1 (c_X4_areTwoTracks l G _ _ _) (va_cwS 2 X.2.2.2.2 gX4_couple_X4_areTwoTracks rfl rfl rfl (by decide +kernel) ⟨(Nat.le_of_ble_eq_true rfl), (Nat.le_of_ble_eq_true rfl)⟩) rfl dX4_couple_2 ⟨(Nat.le_of_ble_eq_true rfl), (Nat.le_of_ble_eq_true rfl)⟩ rfl (Nat.le_of_ble_eq_true rfl) (fun r2 w1 H locs p2 Z => ?_)
  obtain ⟨w1e, hr2⟩ := p2
  have w1e := w1e.symm
  subst w1e
  refine lv_if_ne (tgt := 10) X.1 X.2.1 dX4_couple_5 (by decide) (fun c5 => ?_) (fun c5 => ?_)
  · rw [hr2, bI_0, Classical.not_not] at c5
    obtain ⟨j, hjt_j⟩ : ∃ j, t.toNatClampNeg = j := ⟨_, rfl⟩
    have hj_j : j < 6 := hjt_j ▸ tn_lt c5.1
    have hin_j : vp_in t 6 := vp_in_iff.mpr c5.1
    obtain ⟨u, hjt_u⟩ : ∃ u, o.toNatClampNeg = u := ⟨_, rfl⟩
    have hj_u : u < 6 := hjt_u ▸ tn_lt c5.2.1
    have hin_u : vp_in o 6 := vp_in_iff.mpr c5.2.1
    have hju : j ≠ u := by rw [← hjt_j, ← hjt_u]; exact tn_ne c5.1.1 c5.2.1.1 c5.2.2
    have hne : tk j ≠ tk u := fun e => by
      have q := (h5 j hj_j).2
      rw [e, (h5 u hj_u).2] at q
      cases q
      exact hju rfl
    refine f_aload (v := .ref h0) X hl ⟨_, rfl, dX4_couple_10⟩ rfl ⟨(some h0), rfl⟩ ?_
    refine f_get (v := .ref ta) (k := 0) X Z i4 rfl (by decide) (by decide +kernel) dX4_couple_11 h1.1 rfl ?_
    refine f_iload X hl ⟨_, rfl, dX4_couple_14⟩ rfl ?_
    refine f_tald X Z dX4_couple_15 h2.1 hin_j ?_
    rw [hjt_j, h3 j hj_j]
    refine f_aload (v := .ref h0) X hl ⟨_, rfl, dX4_couple_16⟩ rfl ⟨(some h0), rfl⟩ ?_
    refine f_get (v := .ref ta) (k := 0) X Z i4 rfl (by decide) (by decide +kernel) dX4_couple_17 h1.1 rfl ?_
    refine f_iload X hl ⟨_, rfl, dX4_couple_20⟩ rfl ?_
    refine f_tald X Z dX4_couple_21 h2.1 hin_u ?_
    rw [hjt_u, h3 u hj_u]
    refine f_callVi (rest := []) X Z hl.1 (c_X2_appendAll l G w (tk j) (tk u) (T j) (hd (T u)) (nI (T u).length) (hx.trk hY hn hj_j) (h5 u hj_u).1 hne) (cwV 1 X.2.2.2.2 gX4_couple_X2_appendAll rfl rfl rfl (by decide +kernel) ⟨(Nat.le_of_ble_eq_true rfl), (Nat.le_of_ble_eq_true rfl)⟩) rfl rfl dX4_couple_22 ⟨(Nat.le_of_ble_eq_true rfl), (Nat.le_of_ble_eq_true rfl)⟩ rfl (Nat.le_of_ble_eq_true rfl) (h5 j hj_j).1 (fun r22 w2 H locs p22 Z => ?_)
    rcases p22 with ⟨hT0, hrz, hwz⟩ | ⟨kn, a, d, ro, hkl, hT1, hcA, hrz, hw1⟩
    · have hwz := hwz.symm
      subst hwz
      subst hrz
      have hyj : y.1 j = [] := by rw [← h7 j, hT0]; rfl
      refine lv_if_eq (tgt := 40) X.1 X.2.1 dX4_couple_25 (by decide) (fun c25 => ?_) (fun c25 => ?_)
      · refine f_aload (v := .ref h0) X hl ⟨_, rfl, dX4_couple_40⟩ rfl ⟨(some h0), rfl⟩ ?_
        refine lv_iconst (v := 1) X.1 X.2.1 dX4_couple_41 (by decide) ?_
        refine f_callVi (rest := []) X Z hl.1 (c_X4_tell l G w h0 ta to sd pl y.2.2.2.2.1 (nI c) h1.1 y.2.2.2.2.2 1 (by decide) h4.1) (cwV 1 X.2.2.2.2 gX4_couple_X4_tell rfl rfl rfl (by decide +kernel) ⟨(Nat.le_of_ble_eq_true rfl), (Nat.le_of_ble_eq_true rfl)⟩) rfl rfl dX4_couple_42 ⟨(Nat.le_of_ble_eq_true rfl), (Nat.le_of_ble_eq_true rfl)⟩ rfl (Nat.le_of_ble_eq_true rfl) h1.1 (fun r42 w3 H locs p42 Z => ?_)
        obtain ⟨hrT, hwT⟩ := p42
        exact f_iret X hr hlk Z (Nat.le_of_ble_eq_true rfl) (Nat.le_of_ble_eq_true rfl) dX4_couple_45 (out_tell hx Fr.rf hrT hwT (by unfold sp_couple tn; rw [if_pos c5, hjt_j, if_pos hyj]))
      · exact absurd rfl c25
    · subst hrz
      have gA : tg a = (4, 0) := (h6.1 j _ a d hT1).1
      have hyj : ¬ y.1 j = [] := fun z => by have q := hx.len j; rw [z, hkl] at q; cases q
      have k4 : w2 h0 = some (cTs (some ta) (some to) sd pl y.2.2.2.2.1 (nI c)) := by rw [hw1, up_ne (ad_ne h1.1 (h5 u hj_u).1 (dx_oo (by decide))), up_ne (ad_ne h1.1 (h5 j hj_j).1 (dx_oo (by decide))), up_ne (ad_ne h1.1 hcA (dx_oo (by decide)))]; exact h1.1
      have k5 : w2 ta = some (aT G 6 tf) := by rw [hw1, up_ne (ad_ne h2.1 (h5 u hj_u).1 dx_io), up_ne (ad_ne h2.1 (h5 j hj_j).1 dx_io), up_ne (ad_ne h2.1 hcA dx_io)]; exact h2.1
      have k6 : w2 to = some (aI G 8 y.2.2.2.2.2) := by rw [hw1, up_ne (ad_ne h4.1 (h5 u hj_u).1 dx_io), up_ne (ad_ne h4.1 (h5 j hj_j).1 dx_io), up_ne (ad_ne h4.1 hcA dx_io)]; exact h4.1
      have k7 : w2 (tk u) = some (cTrk none 0) := by rw [hw1]; exact up_eq
      have k8 : w2 (tk j) = some (cTrk (hd (T j)) (nI (T j).length + nI (T u).length)) := by rw [hw1, up_ne hne]; exact up_eq
      have k9 : w2 a = some (cVeh d.1 d.2.1 d.2.2.1 ro (hd (T u))) := by rw [hw1, up_ne (ad_ne hcA (h5 u hj_u).1 (dx_oo (by decide))), up_ne (ad_ne hcA (h5 j hj_j).1 (dx_oo (by decide)))]; exact up_eq
      have hF : Fr w tg w2 tg := by rw [hw1]; exact ((Fr.rf.put gA (by decide)).put (h5 j hj_j).2 (by simp)).put (h5 u hj_u).2 (by simp)
      refine lv_if_eq (tgt := 40) X.1 X.2.1 dX4_couple_25 (by decide) (fun c25 => ?_) (fun c25 => ?_)
      · exact absurd c25 (by decide)
      · refine f_aload (v := .ref h0) X hl ⟨_, rfl, dX4_couple_28⟩ rfl ⟨(some h0), rfl⟩ ?_
        refine f_get (v := .ref ta) (k := 0) X Z i4 rfl (by decide) (by decide +kernel) dX4_couple_29 k4 rfl ?_
        refine f_iload X hl ⟨_, rfl, dX4_couple_32⟩ rfl ?_
        refine f_tald X Z dX4_couple_33 k5 hin_j ?_
        rw [hjt_j, h3 j hj_j]
        refine f_get (v := .int (nI (T j).length + nI (T u).length)) (k := 1) X Z i2 rfl (by decide) (by decide +kernel) dX4_couple_34 k8 rfl ?_
        refine lv_goto (tgt := 45) X.1 X.2.1 dX4_couple_37 (by decide) ?_
        exact f_iret X hr hlk Z (Nat.le_of_ble_eq_true rfl) (Nat.le_of_ble_eq_true rfl) dX4_couple_45 (out_of (hx.append hj_j hj_u hju hkl hT1 (fun ro1 bh1 z => by rw [← (cVeh_inj (hcA.symm.trans z)).1]; exact k9) k8 k7 (fun b n1 n2 n3 => by rw [hw1, up_ne n3, up_ne n2, up_ne n1])) hF (by omega) (by unfold sp_couple tn; rw [if_pos c5, hjt_j, hjt_u, if_neg hyj, nI_add, hx.len j, hx.len u]))
  · rw [hr2, bI_0] at c5
    refine lv_iconst (v := (-1)) X.1 X.2.1 dX4_couple_8 (by decide) ?_
    exact f_iret X hr hlk Z (Nat.le_of_ble_eq_true rfl) (Nat.le_of_ble_eq_true rfl) dX4_couple_9 (out_same hR (if_neg c5))
