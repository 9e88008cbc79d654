def Fr (w : wT) (tg : tT) (w' : wT) (tg' : tT) : Prop := ∀ b e, w b = some e → tg' b = tg b ∧ (∃ e', w' b = some e') ∧ (10 ≤ (tg b).1 → w' b = some e)
theorem Fr.rf {w : wT} {tg : tT} : Fr w tg w tg := fun b e h => ⟨rfl, ⟨e, h⟩, fun _ => h⟩
theorem Fr.put {w w1 : wT} {tg tg1 : tT} {a : Nat} {x : va_E} (h : Fr w tg w1 tg1) {τ : Nat × Nat} (ha : tg1 a = τ) (hτ : τ.1 < 10) : Fr w tg (va_up w1 a (some x)) tg1 := by
  intro b e hb
  obtain ⟨h1, ⟨e', h2⟩, h3⟩ := h b e hb
  by_cases hba : b = a
  · subst hba
    exact ⟨h1, ⟨x, up_eq⟩, fun z => by rw [← h1, ha] at z; omega⟩
  · exact ⟨h1, ⟨e', by rw [up_ne hba]; exact h2⟩, fun z => by rw [up_ne hba]; exact h3 z⟩
theorem Fr.new {w w1 : wT} {tg tg1 : tT} {q : Nat} {x : va_E} {σ : Nat × Nat} (h : Fr w tg w1 tg1) (hq : w q = none) : Fr w tg (va_up w1 q (some x)) (va_up tg1 q σ) := by
  intro b e hb
  obtain ⟨h1, ⟨e', h2⟩, h3⟩ := h b e hb
  have hbq := ad_new hb hq
  exact ⟨by rw [up_off hbq]; exact h1, ⟨e', by rw [up_ne hbq]; exact h2⟩, fun z => by rw [up_ne hbq]; exact h3 z⟩
theorem Fr.eq {w w1 w2 : wT} {tg tg1 : tT} (h : Fr w tg w1 tg1) (e : w2 = w1) : Fr w tg w2 tg1 := by rw [e]; exact h
def OutC (G : gT) (tg : tT) (w : wT) (h0 c : Nat) (res : Int32 × Yd) (r : Int32) (w' : wT) : Prop := r = res.1 ∧ ∃ tg' c', c' ≤ c + 1 ∧ RepC G tg' w' h0 c' res.2 ∧ Fr w tg w' tg'
section OC
variable {G : gT} {tg tg1 : tT} {w w1 w' : wT} {h0 c ta to : Nat} {y y1 : Yd} {tf : Nat → Option Nat} {tk : Nat → Nat} {sd pl : Option Nat} {T : Nat → LV} {r : Int32} {k : Nat}
theorem out_same {res : Int32 × Yd} (hR : RepC G tg w h0 c y) (he : res = (r, y)) : OutC G tg w h0 c res r w := by
  subst he
  exact ⟨rfl, tg, c, by omega, hR, Fr.rf⟩
theorem out_of {res : Int32 × Yd} {c' : Nat} (hx : RepCx G tg1 w' h0 c' y1 ta to tf tk sd pl T) (hF : Fr w tg w' tg1) (hc : c' ≤ c + 1) (he : res = (r, y1)) : OutC G tg w h0 c res r w' := by
  subst he
  exact ⟨rfl, tg1, c', hc, ⟨ta, to, tf, tk, sd, pl, T, hx⟩, hF⟩
theorem out_tell {res : Int32 × Yd} (hx : RepCx G tg1 w1 h0 c y1 ta to tf tk sd pl T) (hF : Fr w tg w1 tg1) (hr : r = -10 - nI k) (hw : w' = va_up w1 to (some (aI G 8 (upd y1.2.2.2.2.2 k (y1.2.2.2.2.2 k + 1))))) (he : res = yno k y1) : OutC G tg w h0 c res r w' := by
  subst he
  exact ⟨hr, tg1, c, by omega, ⟨ta, to, tf, tk, sd, pl, T, hx.tell k hw⟩, by rw [hw]; exact hF.put hx.2.2.2.1.2 (by decide)⟩
theorem out_lev {res : Int32 × Yd} {x : Int32} (hx : RepCx G tg w h0 c y ta to tf tk sd pl T) (hr : r = -10 - nI k) (hw : w' = va_up (va_up w h0 (some (cTs (some ta) (some to) sd pl x (nI c)))) to (some (aI G 8 (upd y.2.2.2.2.2 k (y.2.2.2.2.2 k + 1))))) (he : res = yno k (ylev x y)) : OutC G tg w h0 c res r w' := by
  subst he
  exact ⟨hr, tg, c, by omega, ⟨ta, to, tf, tk, sd, pl, T, hx.tellLevel k x hw⟩, by rw [hw]; exact (Fr.rf.put hx.1.2 (by decide)).put hx.2.2.2.1.2 (by decide)⟩
end OC
theorem tn_lt {t : Int32} {n : Nat} (h : 0 ≤ t.toInt ∧ t.toInt < n) : t.toNatClampNeg < n := by
  have : t.toNatClampNeg = t.toInt.toNat := rfl
  omega
theorem vix_pos {L : LV} {k : Int32} (h : 0 ≤ k.toInt) : vix L k = L[k.toNatClampNeg]? := by
  have : ¬ k.toInt < 0 := by omega
  simp [vix, this]
theorem whyC_lt (od : Option VR) (i : Int32) : whyC od i < 8 := by
  unfold whyC
  split <;> try decide
  split <;> try decide
  split <;> try decide
  split <;> decide
theorem whyR_lt (od : Option VR) : whyR od < 8 := by
  unfold whyR
  split <;> try decide
  split <;> try decide
  split <;> decide
theorem whyP_lt (od : OS) (i : Int32) : whyP od i < 8 := by
  unfold whyP
  split <;> try decide
  split <;> decide
theorem whyL_lt (od : OP) (i : Int32) : whyL od i < 8 := by
  unfold whyL
  split <;> try decide
  split <;> decide
theorem whyN_lt (od : OP) (i j : Int32) : whyN od i j < 8 := by
  unfold whyN
  split <;> try decide
  split <;> decide
theorem nI_z {n : Nat} (h : n < 8) : nI n = 0 ↔ n = 0 := by
  have := nI_eq (a := n) (b := 0) (by omega) (by omega)
  rwa [nI_0] at this
theorem map_snd {L : LV} {i a : Nat} {d : VR} (h : L[i]? = some (a, d)) : (L[i]?).map Prod.snd = some d := by rw [h]; rfl
theorem kc_4 : (4 : Int32).toInt = 4 := by decide
set_option maxHeartbeats 4000000 in
set_option maxRecDepth 100000 in
theorem c_X4_level (l : Launch) (G : gT) (w : wT) (tg : tT) (h0 c nb : Nat) (y : Yd) (hR : RepC G tg w h0 c y) (hY : Yok nb y) (hn : nb ≤ 512)  : Met l yX4_level wsX4_level ({ frames := 0, cells := 0, slots := 0, locals := 0 }) (va_Pc [.ref h0] (wG G w)) (Qi G (OutC G tg w h0 c (sp_level y))) 0 0 (fr G) := by
  refine f_met (cc := cX4_level) (maxL := 1) (ret := (some .int)) (by decide) rfl rfl (Nat.le_of_ble_eq_true rfl) ?_
  intro p e s m below meth cd X hr hlk hnm Z ls hl
  have X : CallFix p m cd cX4_level 1 s [.ref h0].toArray wsX4_level RX4 := X
  have hl : lV ls _ [some (.ref h0)] := hl
  have i4 : ∀ w ∈ wsX40, w ∈ wsX4_level := by decide +kernel
  obtain ⟨ta, to, tf, tk, sd, pl, T, hx⟩ := id hR
  obtain ⟨h1, h2, h3, h4, h5, h6, h7, h8, h9⟩ := id hx
  refine f_aload (v := .ref h0) X hl ⟨_, rfl, dX4_level_0⟩ rfl ⟨(some h0), rfl⟩ ?_
  refine f_get (v := .int y.2.2.2.2.1) (k := 4) X Z i4 rfl (by decide) (by decide +kernel) dX4_level_1 h1.1 rfl ?_
  exact f_iret X hr hlk Z (Nat.le_of_ble_eq_true rfl) (Nat.le_of_ble_eq_true rfl) dX4_level_4 (out_same hR rfl)
set_option maxHeartbeats 4000000 in
set_option maxRecDepth 100000 in
theorem c_X4_count (l : Launch) (G : gT) (w : wT) (tg : tT) (h0 c nb : Nat) (y : Yd) (hR : RepC G tg w h0 c y) (hY : Yok nb y) (hn : nb ≤ 512) (t : Int32) : Met l yX4_count wsX4_count ({ frames := 1, cells := 0, slots := 0, locals := 20 }) (va_Pc [.ref h0, .int t] (wG G w)) (Qi G (OutC G tg w h0 c (sp_count t y))) 0 0 (fr G) := by
  refine f_met (cc := cX4_count) (maxL := 2) (ret := (some .int)) (by decide) rfl rfl (Nat.le_of_ble_eq_true rfl) ?_
  intro p e s m below meth cd X hr hlk hnm Z ls hl
  have X : CallFix p m cd cX4_count 2 s [.ref h0, .int t].toArray wsX4_count RX4 := X
  have hl : lV ls _ [some (.ref h0), some (.int t)] := hl
  have i2 : ∀ w ∈ wsX20, w ∈ wsX4_count := by decide +kernel
  have i4 : ∀ w ∈ wsX40, w ∈ wsX4_count := by decide +kernel
  obtain ⟨ta, to, tf, tk, sd, pl, T, hx⟩ := id hR
  obtain ⟨h1, h2, h3, h4, h5, h6, h7, h8, h9⟩ := id hx
  refine f_iload X hl ⟨_, rfl, dX4_count_0⟩ rfl ?_
  refine f_callSi (rest := []) X Z hl.1 (c_X4_isTrack l G _ _) (va_cwS 1 X.2.2.2.2 gX4_count_X4_isTrack rfl rfl rfl (by decide +kernel) ⟨(Nat.le_of_ble_eq_true rfl), (Nat.le_of_ble_eq_true rfl)⟩) rfl dX4_count_1 ⟨(Nat.le_of_ble_eq_true rfl), (Nat.le_of_ble_eq_true rfl)⟩ rfl (Nat.le_of_ble_eq_true rfl) (fun r1 w1 H locs p1 Z => ?_)
  obtain ⟨w1e, hr1⟩ := p1
  have w1e := w1e.symm
  subst w1e
  refine lv_if_eq (tgt := 19) X.1 X.2.1 dX4_count_4 (by decide) (fun c4 => ?_) (fun c4 => ?_)
  · rw [hr1, bI_0] at c4
    refine lv_iconst (v := (-1)) X.1 X.2.1 dX4_count_19 (by decide) ?_
    exact f_iret X hr hlk Z (Nat.le_of_ble_eq_true rfl) (Nat.le_of_ble_eq_true rfl) dX4_count_20 (out_same hR (if_neg c4))
  · rw [hr1, bI_0, Classical.not_not] at c4
    obtain ⟨j, hjt_j⟩ : ∃ j, t.toNatClampNeg = j := ⟨_, rfl⟩
    have hj_j : j < 6 := hjt_j ▸ tn_lt c4
    have hin_j : vp_in t 6 := vp_in_iff.mpr c4
    refine f_aload (v := .ref h0) X hl ⟨_, rfl, dX4_count_7⟩ rfl ⟨(some h0), rfl⟩ ?_
    refine f_get (v := .ref ta) (k := 0) X Z i4 rfl (by decide) (by decide +kernel) dX4_count_8 h1.1 rfl ?_
    refine f_iload X hl ⟨_, rfl, dX4_count_11⟩ rfl ?_
    refine f_tald X Z dX4_count_12 h2.1 hin_j ?_
    rw [hjt_j, h3 j hj_j]
    refine f_get (v := .int (nI (T j).length)) (k := 1) X Z i2 rfl (by decide) (by decide +kernel) dX4_count_13 (h5 j hj_j).1 rfl ?_
    refine lv_goto (tgt := 20) X.1 X.2.1 dX4_count_16 (by decide) ?_
    exact f_iret X hr hlk Z (Nat.le_of_ble_eq_true rfl) (Nat.le_of_ble_eq_true rfl) dX4_count_20 (out_same hR (by unfold sp_count tn; rw [if_pos c4, hjt_j, hx.len j]))
set_option maxHeartbeats 4000000 in
set_option maxRecDepth 100000 in
theorem c_X4_reasons (l : Launch) (G : gT) (w : wT) (tg : tT) (h0 c nb : Nat) (y : Yd) (hR : RepC G tg w h0 c y) (hY : Yok nb y) (hn : nb ≤ 512) (k : Int32) : Met l yX4_reasons wsX4_reasons ({ frames := 1, cells := 0, slots := 0, locals := 22 }) (va_Pc [.ref h0, .int k] (wG G w)) (Qi G (OutC G tg w h0 c (sp_reasons k y))) 0 0 (fr G) := by
  refine f_met (cc := cX4_reasons) (maxL := 2) (ret := (some .int)) (by decide) rfl rfl (Nat.le_of_ble_eq_true rfl) ?_
  intro p e s m below meth cd X hr hlk hnm Z ls hl
  have X : CallFix p m cd cX4_reasons 2 s [.ref h0, .int k].toArray wsX4_reasons RX4 := X
  have hl : lV ls _ [some (.ref h0), some (.int k)] := hl
  have i4 : ∀ w ∈ wsX40, w ∈ wsX4_reasons := by decide +kernel
  obtain ⟨ta, to, tf, tk, sd, pl, T, hx⟩ := id hR
  obtain ⟨h1, h2, h3, h4, h5, h6, h7, h8, h9⟩ := id hx
  refine f_iload X hl ⟨_, rfl, dX4_reasons_0⟩ rfl ?_
  refine lv_iconst (v := 1) X.1 X.2.1 dX4_reasons_1 (by decide) ?_
  refine lv_bipush (v := 7) X.1 X.2.1 dX4_reasons_2 (by decide) ?_
  refine f_callSi (rest := []) X Z hl.1 (c_X4_isWithin l G _ _ _ _) (va_cwS 3 X.2.2.2.2 gX4_reasons_X4_isWithin rfl rfl rfl (by decide +kernel) ⟨(Nat.le_of_ble_eq_true rfl), (Nat.le_of_ble_eq_true rfl)⟩) rfl dX4_reasons_4 ⟨(Nat.le_of_ble_eq_true rfl), (Nat.le_of_ble_eq_true rfl)⟩ rfl (Nat.le_of_ble_eq_true rfl) (fun r4 w1 H locs p4 Z => ?_)
  obtain ⟨w1e, hr4⟩ := p4
  have w1e := w1e.symm
  subst w1e
  refine lv_if_eq (tgt := 19) X.1 X.2.1 dX4_reasons_7 (by decide) (fun c7 => ?_) (fun c7 => ?_)
  · rw [hr4, bI_0] at c7
    refine lv_iconst (v := (-1)) X.1 X.2.1 dX4_reasons_19 (by decide) ?_
    exact f_iret X hr hlk Z (Nat.le_of_ble_eq_true rfl) (Nat.le_of_ble_eq_true rfl) dX4_reasons_20 (out_same hR (if_neg c7))
  · rw [hr4, bI_0, Classical.not_not] at c7
    refine f_aload (v := .ref h0) X hl ⟨_, rfl, dX4_reasons_10⟩ rfl ⟨(some h0), rfl⟩ ?_
    refine f_get (v := .ref to) (k := 1) X Z i4 rfl (by decide) (by decide +kernel) dX4_reasons_11 h1.1 rfl ?_
    refine f_iload X hl ⟨_, rfl, dX4_reasons_14⟩ rfl ?_
    refine f_iald X Z dX4_reasons_15 h4.1 (vp_in_iff.mpr (by simp only [kc_1, kc_7] at c7; omega)) ?_
    refine lv_goto (tgt := 20) X.1 X.2.1 dX4_reasons_16 (by decide) ?_
    exact f_iret X hr hlk Z (Nat.le_of_ble_eq_true rfl) (Nat.le_of_ble_eq_true rfl) dX4_reasons_20 (out_same hR (if_pos c7))
set_option maxHeartbeats 4000000 in
set_option maxRecDepth 100000 in
theorem c_X4_weigh (l : Launch) (G : gT) (w : wT) (tg : tT) (h0 c nb : Nat) (y : Yd) (hR : RepC G tg w h0 c y) (hY : Yok nb y) (hn : nb ≤ 512) (t k : Int32) : Met l yX4_weigh wsX4_weigh ({ frames := 2, cells := 0, slots := 0, locals := 41 }) (va_Pc [.ref h0, .int t, .int k] (wG G w)) (Qi G (OutC G tg w h0 c (sp_weigh t k y))) 0 0 (fr G) := by
  refine f_met (cc := cX4_weigh) (maxL := 4) (ret := (some .int)) (by decide) rfl rfl (Nat.le_of_ble_eq_true rfl) ?_
  intro p e s m below meth cd X hr hlk hnm Z ls hl
  have X : CallFix p m cd cX4_weigh 4 s [.ref h0, .int t, .int k].toArray wsX4_weigh RX4 := X
  have hl : lV ls _ [some (.ref h0), some (.int t), some (.int k), none] := hl
  have i4 : ∀ w ∈ wsX40, w ∈ wsX4_weigh := by decide +kernel
  obtain ⟨ta, to, tf, tk, sd, pl, T, hx⟩ := id hR
  obtain ⟨h1, h2, h3, h4, h5, h6, h7, h8, h9⟩ := id hx
  refine f_iload X hl ⟨_, rfl, dX4_weigh_0⟩ rfl ?_
  refine f_iload X hl ⟨_, rfl, dX4_weigh_1⟩ rfl ?_
  refine f_callSi (rest := []) X Z hl.1 (c_X4_isPosition l G _ _ _) (va_cwS 2 X.2.2.2.2 gX4_weigh_X4_isPosition rfl rfl rfl (by decide +kernel) ⟨(Nat.le_of_ble_eq_true rfl), (Nat.le_of_ble_eq_true rfl)⟩) rfl dX4_weigh_2 ⟨(Nat.le_of_ble_eq_true rfl), (Nat.le_of_ble_eq_true rfl)⟩ rfl (Nat.le_of_ble_eq_true rfl) (fun r2 w1 H locs p2 Z => ?_)
  obtain ⟨w1e, hr2⟩ := p2
  have w1e := w1e.symm
  subst w1e
  refine lv_if_ne (tgt := 10) X.1 X.2.1 dX4_weigh_5 (by decide) (fun c5 => ?_) (fun c5 => ?_)
  · rw [hr2, bI_0, Classical.not_not] at c5
    obtain ⟨j, hjt_j⟩ : ∃ j, t.toNatClampNeg = j := ⟨_, rfl⟩
    have hj_j : j < 6 := hjt_j ▸ tn_lt c5.1
    have hin_j : vp_in t 6 := vp_in_iff.mpr c5.1
    refine f_aload (v := .ref h0) X hl ⟨_, rfl, dX4_weigh_10⟩ rfl ⟨(some h0), rfl⟩ ?_
    refine f_get (v := .ref ta) (k := 0) X Z i4 rfl (by decide) (by decide +kernel) dX4_weigh_11 h1.1 rfl ?_
    refine f_iload X hl ⟨_, rfl, dX4_weigh_14⟩ rfl ?_
    refine f_tald X Z dX4_weigh_15 h2.1 hin_j ?_
    rw [hjt_j, h3 j hj_j]
    refine f_iload X hl ⟨_, rfl, dX4_weigh_16⟩ rfl ?_
    refine f_callVq (rest := []) X Z hl.1 (c_X2_vehicleAt l G w (tk j) (T j) k (hx.trk hY hn hj_j)) (cwV 1 X.2.2.2.2 gX4_weigh_X2_vehicleAt rfl rfl rfl (by decide +kernel) ⟨(Nat.le_of_ble_eq_true rfl), (Nat.le_of_ble_eq_true rfl)⟩) rfl rfl dX4_weigh_17 ⟨(Nat.le_of_ble_eq_true rfl), (Nat.le_of_ble_eq_true rfl)⟩ rfl (Nat.le_of_ble_eq_true rfl) (h5 j hj_j).1 (fun r17 w2 H locs p17 Z => ?_)
    obtain ⟨w2e, hr17⟩ := p17
    have w2e := w2e.symm
    subst w2e
    rw [vix_pos c5.2] at hr17
    have hv : vopt G w r17 ((y.1 j)[k.toNatClampNeg]?) := by rw [hr17]; exact hx.vopt j _
    refine f_astore X hl ⟨_, rfl, dX4_weigh_20⟩ (by decide) ⟨r17, rfl⟩ (fun ls hl => ?_)
    have hl : lV ls _ [some (.ref h0), some (.int t), some (.int k), some (va_rf r17)] := hl
    refine f_aload (v := va_rf r17) X hl ⟨_, rfl, dX4_weigh_21⟩ rfl ⟨r17, rfl⟩ ?_
    refine f_ifnonnull (tgt := 33) X dX4_weigh_22 (by decide) (fun a22 c22 => ?_) (fun c22 => ?_)
    · subst c22
      obtain ⟨d, hd1⟩ := mf hr17
      obtain ⟨gA, ro, hcA, hro, hrt⟩ := h6.1 j _ a22 d hd1
      have hya : (y.1 j)[k.toNatClampNeg]? = some d := by rw [hx.at]; exact map_snd hd1
      refine f_aload (v := .ref a22) X hl ⟨_, rfl, dX4_weigh_33⟩ rfl ⟨(some a22), rfl⟩ ?_
      refine f_callVi (rest := []) X Z hl.1 (c_X3_fullWeight l G w a22 d _ (h6.1 j _ a22 d hd1).veh) (cwV 0 X.2.2.2.2 gX4_weigh_X3_fullWeight rfl rfl rfl (by decide +kernel) ⟨(Nat.le_of_ble_eq_true rfl), (Nat.le_of_ble_eq_true rfl)⟩) rfl rfl dX4_weigh_34 ⟨(Nat.le_of_ble_eq_true rfl), (Nat.le_of_ble_eq_true rfl)⟩ rfl (Nat.le_of_ble_eq_true rfl) hcA (fun r34 w3 H locs p34 Z => ?_)
      obtain ⟨w3e, hr34⟩ := p34
      have w3e := w3e.symm
      subst w3e
      exact f_iret X hr hlk Z (Nat.le_of_ble_eq_true rfl) (Nat.le_of_ble_eq_true rfl) dX4_weigh_37 (out_same hR (by simp only [sp_weigh, if_pos c5, yat, tn, hjt_j, hya, hr34]))
    · subst c22
      have hya : (y.1 j)[k.toNatClampNeg]? = none := vopt_none hv
      refine f_aload (v := .ref h0) X hl ⟨_, rfl, dX4_weigh_25⟩ rfl ⟨(some h0), rfl⟩ ?_
      refine lv_iconst (v := 1) X.1 X.2.1 dX4_weigh_26 (by decide) ?_
      refine f_callVi (rest := []) X Z hl.1 (c_X4_tell l G w h0 ta to sd pl y.2.2.2.2.1 (nI c) h1.1 y.2.2.2.2.2 1 (by decide) h4.1) (cwV 1 X.2.2.2.2 gX4_weigh_X4_tell rfl rfl rfl (by decide +kernel) ⟨(Nat.le_of_ble_eq_true rfl), (Nat.le_of_ble_eq_true rfl)⟩) rfl rfl dX4_weigh_27 ⟨(Nat.le_of_ble_eq_true rfl), (Nat.le_of_ble_eq_true rfl)⟩ rfl (Nat.le_of_ble_eq_true rfl) h1.1 (fun r27 w4 H locs p27 Z => ?_)
      obtain ⟨hrT, hwT⟩ := p27
      refine lv_goto (tgt := 37) X.1 X.2.1 dX4_weigh_30 (by decide) ?_
      exact f_iret X hr hlk Z (Nat.le_of_ble_eq_true rfl) (Nat.le_of_ble_eq_true rfl) dX4_weigh_37 (out_tell hx Fr.rf hrT hwT (by simp only [sp_weigh, if_pos c5, yat, tn, hjt_j, hya]))
  · rw [hr2, bI_0] at c5
    refine lv_iconst (v := (-1)) X.1 X.2.1 dX4_weigh_8 (by decide) ?_
    exact f_iret X hr hlk Z (Nat.le_of_ble_eq_true rfl) (Nat.le_of_ble_eq_true rfl) dX4_weigh_9 (out_same hR (if_neg c5))
