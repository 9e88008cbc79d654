theorem Fr.back {w w1 : wT} {tg tg1 : tT} {q : Nat} (h : Fr w tg w1 tg1) (hq : w1 q = none) : w q = none := by
  cases hw : w q with
  | none => rfl
  | some e => obtain ⟨-, ⟨e', h2⟩, -⟩ := h q e hw; rw [hq] at h2; cases h2
def mk6 (a b c d e f : Nat) : Nat → Nat := fun t => if t = 0 then a else if t = 1 then b else if t = 2 then c else if t = 3 then d else if t = 4 then e else f
theorem lt6 {P : Nat → Prop} (h0 : P 0) (h1 : P 1) (h2 : P 2) (h3 : P 3) (h4 : P 4) (h5 : P 5) : ∀ t, t < 6 → P t := by
  intro t ht
  rcases (show t = 0 ∨ t = 1 ∨ t = 2 ∨ t = 3 ∨ t = 4 ∨ t = 5 by omega) with rfl | rfl | rfl | rfl | rfl | rfl <;> assumption
set_option maxHeartbeats 4000000 in
set_option maxRecDepth 100000 in
theorem c_X4_init (l : Launch) (G : gT) (w : wT) (tg : tT) (h0 : Nat) (hg : tg h0 = (0, 0)) (h1 : w h0 = some (cTs none none none none 0 0)) : Met l yX4_init wsX4_init ({ frames := 2, cells := 8, slots := 26, locals := 36 }) (va_Pc [.ref h0] (wG G w)) (Qv G (fun w' => ∃ tg', RepC G tg' w' h0 0 y0 ∧ Fr w tg w' tg')) 8 26 (fr G) := by
  refine f_met (cc := cX4_init) (maxL := 2) (ret := none) (by decide) rfl rfl (Nat.le_of_ble_eq_true rfl) ?_
  intro p e s m below meth cd X hr hlk hnm Z ls hl
  have X : CallFix p m cd cX4_init 2 s [.ref h0].toArray wsX4_init RX4 := X
  have hl : lV ls _ [some (.ref h0), none] := hl
  have i2 : ∀ w ∈ wsX20, w ∈ wsX4_init := by decide +kernel
  have i4 : ∀ w ∈ wsX40, w ∈ wsX4_init := by decide +kernel
  refine f_aload (v := .ref h0) X hl ⟨_, rfl, dX4_init_0⟩ rfl ⟨(some h0), rfl⟩ ?_
  refine W.objInit X.1 X.2.1 X.2.2.2.1 (X.2.2.2.2 (.methodLink RX4 1 objectInit) (by decide +kernel)) (X.2.2.2.2 (.instanceMethod objectInit) (by decide +kernel)) (X.2.2.2.2 (.code objectInit ⟨#[0xb1]⟩ 1 none) (by decide +kernel)) rfl (by rw [X.2.2.1]; exact hl.1) rfl dX4_init_1 (Nat.le_of_ble_eq_true rfl) (Nat.le_of_ble_eq_true rfl) ?_
  refine W.eq (g2 := F0 m 4 ls []) rfl ?_
  refine f_aload (v := .ref h0) X hl ⟨_, rfl, dX4_init_4⟩ rfl ⟨(some h0), rfl⟩ ?_
  refine lv_bipush (v := 6) X.1 X.2.1 dX4_init_5 (by decide) ?_
  refine f_anew (ti := 2) X Z rfl (by decide +kernel) Z.2.2.2.2.1 (by decide) rfl (by decide) (Nat.le_of_ble_eq_true rfl) (Nat.le_of_ble_eq_true rfl) dX4_init_7 (fun q7 H w1 hq7 e2 Z => ?_)
  have e2 : w1 = va_up w q7 (some (aT G 6 (fun _ => none))) := e2
  have n_h0_q7 : h0 ≠ q7 := ad_new h1 hq7
  have b_q7 : w q7 = none := Fr.back (Fr.rf (tg := tg)) hq7
  have fr5 : Fr w tg w1 (va_up tg q7 (1, 0)) := by rw [e2]; exact Fr.rf.new b_q7
  have k3 : w1 h0 = some (cTs none none none none 0 0) := by rw [e2]; exact lk_ne (ad_new h1 hq7) h1
  have k4 : w1 q7 = some (aT G 6 (fun _ => none)) := by rw [e2]; exact up_eq
  refine f_putF (v := .ref q7) (ty0 := tyX4) (k := 0) X Z i4 tyX4_ok nmX4 rfl (by decide) (by decide +kernel) rfl hnm rfl dX4_init_10 k3 (nr_a _ (some q7)) (ft_a _ (some q7)) (Nat.le_of_ble_eq_true rfl) (fun H locs w6 e7 Z => ?_)
  have e7 : w6 = va_up w1 h0 (some (cTs (some q7) none none none 0 0)) := e7
  have fr10 : Fr w tg w6 (va_up tg q7 (1, 0)) := by rw [e7]; exact fr5.put (τ := (0, 0)) (by simp [va_up, n_h0_q7, hg]) (by decide)
  have k8 : w6 q7 = some (aT G 6 (fun _ => none)) := by rw [e7]; exact lk_ne (ad_ne k4 k3 dx_io) k4
  have k9 : w6 h0 = some (cTs (some q7) none none none 0 0) := by rw [e7]; exact up_eq
  refine f_aload (v := .ref h0) X hl ⟨_, rfl, dX4_init_13⟩ rfl ⟨(some h0), rfl⟩ ?_
  refine lv_bipush (v := 8) X.1 X.2.1 dX4_init_14 (by decide) ?_
  refine f_newa (ti := 0) X Z rfl (by decide +kernel) rfl (fun _ h => by cases h) rfl (by decide) rfl (by decide) (Nat.le_of_ble_eq_true rfl) (Nat.le_of_ble_eq_true rfl) dX4_init_16 (fun q16 H w11 hq16 e12 Z => ?_)
  have e12 : w11 = va_up w6 q16 (some (aI G 8 (fun _ => 0))) := e12
  have n_h0_q16 : h0 ≠ q16 := ad_new k9 hq16
  have n_q7_q16 : q7 ≠ q16 := ad_new k8 hq16
  have b_q16 : w q16 = none := Fr.back fr10 hq16
  have fr16 : Fr w tg w11 (va_up (va_up tg q7 (1, 0)) q16 (2, 0)) := by rw [e12]; exact fr10.new b_q16
  have k13 : w11 q7 = some (aT G 6 (fun _ => none)) := by rw [e12]; exact lk_ne (ad_new k8 hq16) k8
  have k14 : w11 h0 = some (cTs (some q7) none none none 0 0) := by rw [e12]; exact lk_ne (ad_new k9 hq16) k9
  have k15 : w11 q16 = some (aI G 8 (fun _ => 0)) := by rw [e12]; exact up_eq
  refine f_putF (v := .ref q16) (ty0 := tyX4) (k := 1) X Z i4 tyX4_ok nmX4 rfl (by decide) (by decide +kernel) rfl hnm rfl dX4_init_18 k14 (nr_a _ (some q16)) (ft_a _ (some q16)) (Nat.le_of_ble_eq_true rfl) (fun H locs w17 e18 Z => ?_)
  have e18 : w17 = va_up w11 h0 (some (cTs (some q7) (some q16) none none 0 0)) := e18
  have fr22 : Fr w tg w17 (va_up (va_up tg q7 (1, 0)) q16 (2, 0)) := by rw [e18]; exact fr16.put (τ := (0, 0)) (by simp [va_up, n_h0_q7, n_h0_q16, hg]) (by decide)
  have k19 : w17 q7 = some (aT G 6 (fun _ => none)) := by rw [e18]; exact lk_ne (ad_ne k13 k14 dx_io) k13
  have k20 : w17 q16 = some (aI G 8 (fun _ => 0)) := by rw [e18]; exact lk_ne (ad_ne k15 k14 dx_io) k15
  have k21 : w17 h0 = some (cTs (some q7) (some q16) none none 0 0) := by rw [e18]; exact up_eq
  refine lv_iconst (v := 0) X.1 X.2.1 dX4_init_21 (by decide) ?_
  refine f_istore X hl ⟨_, rfl, dX4_init_22⟩ (by decide) (fun ls hl => ?_)
  have hl : lV ls _ [some (.ref h0), some (.int 0)] := hl
  refine f_iload X hl ⟨_, rfl, dX4_init_23⟩ rfl ?_
  refine lv_bipush (v := 6) X.1 X.2.1 dX4_init_24 (by decide) ?_
  refine lv_icmp_ge (tgt := 48) X.1 X.2.1 dX4_init_26 (by decide) (fun c26 => ?_) (fun c26 => ?_)
  · exact absurd c26 (by decide)
  · refine f_aload (v := .ref h0) X hl ⟨_, rfl, dX4_init_29⟩ rfl ⟨(some h0), rfl⟩ ?_
    refine f_get (v := .ref q7) (k := 0) X Z i4 rfl (by decide) (by decide +kernel) dX4_init_30 k21 rfl ?_
    refine f_iload X hl ⟨_, rfl, dX4_init_33⟩ rfl ?_
    refine f_new (ci := 2) (ty := tyX2) (fs := [.null, .int 0]) X Z i2 tyX2_ok rfl (by decide +kernel) (by decide +kernel) (by decide +kernel) (fun j hj => by rcases (show j = 0 ∨ j = 1 by omega) with rfl | rfl <;> rfl) dX4_init_34 (Nat.le_of_ble_eq_true rfl) (Nat.le_of_ble_eq_true rfl) (fun q34 H w23 hq34 e24 Z => ?_)
    have e24 : w23 = va_up w17 q34 (some (cTrk none 0)) := e24
    have n_h0_q34 : h0 ≠ q34 := ad_new k21 hq34
    have n_q7_q34 : q7 ≠ q34 := ad_new k19 hq34
    have n_q16_q34 : q16 ≠ q34 := ad_new k20 hq34
    have b_q34 : w q34 = none := Fr.back fr22 hq34
    have fr29 : Fr w tg w23 (va_up (va_up (va_up tg q7 (1, 0)) q16 (2, 0)) q34 (3, 0)) := by rw [e24]; exact fr22.new b_q34
    have k25 : w23 q7 = some (aT G 6 (fun _ => none)) := by rw [e24]; exact lk_ne (ad_new k19 hq34) k19
    have k26 : w23 q16 = some (aI G 8 (fun _ => 0)) := by rw [e24]; exact lk_ne (ad_new k20 hq34) k20
    have k27 : w23 h0 = some (cTs (some q7) (some q16) none none 0 0) := by rw [e24]; exact lk_ne (ad_new k21 hq34) k21
    have k28 : w23 q34 = some (cTrk none 0) := by rw [e24]; exact up_eq
    refine lv_dup X.1 X.2.1 dX4_init_37 rfl ?_
    refine f_callINv (rest := [.ref q34, .int 0, .ref q7]) X Z hl.1 (c_X2_init l G w23 q34) ⟨va_cnB 0 X.2.2.2.2 gX4_init_X2_init_n19 rfl rfl rfl Z.2.2.2.2.2.2 (X.2.2.2.2 (.initialized RX2) (by decide +kernel)) (by decide +kernel) ⟨(Nat.le_of_ble_eq_true rfl), (Nat.le_of_ble_eq_true rfl)⟩, rfl, X.2.2.2.2 (.instanceMethod yX2_init) (by decide +kernel)⟩ rfl dX4_init_38 ⟨(Nat.le_of_ble_eq_true rfl), (Nat.le_of_ble_eq_true rfl)⟩ rfl (Nat.le_of_ble_eq_true rfl) (fun w30 H locs p38 Z => ?_)
    have p38 := p38.symm
    subst p38
    refine f_aast (ti := 2) (ci := 2) X Z rfl rfl dX4_init_41 k25 k28 (by unfold vp_in; decide) (fun H locs w31 e32 Z => ?_)
    have e32 : w31 = va_up w23 q7 (some (aT G 6 (va_up (fun _ => none) ((0 : Int32).toNatClampNeg) (some q34)))) := e32
    have fr37 : Fr w tg w31 (va_up (va_up (va_up tg q7 (1, 0)) q16 (2, 0)) q34 (3, 0)) := by rw [e32]; exact fr29.put (τ := (1, 0)) (by simp [va_up, n_q7_q16, n_q7_q34, hg]) (by decide)
    have k33 : w31 q16 = some (aI G 8 (fun _ => 0)) := by rw [e32]; exact lk_ne (ad_ne k26 k25 dx_ir) k26
    have k34 : w31 h0 = some (cTs (some q7) (some q16) none none 0 0) := by rw [e32]; exact lk_ne (ad_ne k27 k25 dx_oi) k27
    have k35 : w31 q34 = some (cTrk none 0) := by rw [e32]; exact lk_ne (ad_ne k28 k25 dx_oi) k28
    have k36 : w31 q7 = some (aT G 6 (va_up (fun _ => none) ((0 : Int32).toNatClampNeg) (some q34))) := by rw [e32]; exact up_eq
    refine f_iinc (v := 1) X hl dX4_init_42 (by decide) rfl (by decide) (fun ls hl => ?_)
    have hl : lV ls _ [some (.ref h0), some (.int (0 + 1))] := hl
    refine lv_goto (tgt := 23) X.1 X.2.1 dX4_init_45 (by decide) ?_
    refine f_iload X hl ⟨_, rfl, dX4_init_23⟩ rfl ?_
    refine lv_bipush (v := 6) X.1 X.2.1 dX4_init_24 (by decide) ?_
    refine lv_icmp_ge (tgt := 48) X.1 X.2.1 dX4_init_26 (by decide) (fun c26 => ?_) (fun c26 => ?_)
    · exact absurd c26 (by decide)
    · refine f_aload (v := .ref h0) X hl ⟨_, rfl, dX4_init_29⟩ rfl ⟨(some h0), rfl⟩ ?_
      refine f_get (v := .ref q7) (k := 0) X Z i4 rfl (by decide) (by decide +kernel) dX4_init_30 k34 rfl ?_
      refine f_iload X hl ⟨_, rfl, dX4_init_33⟩ rfl ?_
      refine f_new (ci := 2) (ty := tyX2) (fs := [.null, .int 0]) X Z i2 tyX2_ok rfl (by decide +kernel) (by decide +kernel) (by decide +kernel) (fun j hj => by rcases (show j = 0 ∨ j = 1 by omega) with rfl | rfl <;> rfl) dX4_init_34 (Nat.le_of_ble_eq_true rfl) (Nat.le_of_ble_eq_true rfl) (fun q38 H w39 hq38 e40 Z => ?_)
      have e40 : w39 = va_up w31 q38 (some (cTrk none 0)) := e40
      have n_h0_q38 : h0 ≠ q38 := ad_new k34 hq38
      have n_q7_q38 : q7 ≠ q38 := ad_new k36 hq38
      have n_q16_q38 : q16 ≠ q38 := ad_new k33 hq38
      have n_q34_q38 : q34 ≠ q38 := ad_new k35 hq38
      have b_q38 : w q38 = none := Fr.back fr37 hq38
      have fr46 : Fr w tg w39 (va_up (va_up (va_up (va_up tg q7 (1, 0)) q16 (2, 0)) q34 (3, 0)) q38 (3, 1)) := by rw [e40]; exact fr37.new b_q38
      have k41 : w39 q16 = some (aI G 8 (fun _ => 0)) := by rw [e40]; exact lk_ne (ad_new k33 hq38) k33
      have k42 : w39 h0 = some (cTs (some q7) (some q16) none none 0 0) := by rw [e40]; exact lk_ne (ad_new k34 hq38) k34
      have k43 : w39 q34 = some (cTrk none 0) := by rw [e40]; exact lk_ne (ad_new k35 hq38) k35
      have k44 : w39 q7 = some (aT G 6 (va_up (fun _ => none) ((0 : Int32).toNatClampNeg) (some q34))) := by rw [e40]; exact lk_ne (ad_new k36 hq38) k36
      have k45 : w39 q38 = some (cTrk none 0) := by rw [e40]; exact up_eq
      refine lv_dup X.1 X.2.1 dX4_init_37 rfl ?_
      refine f_callINv (rest := [.ref q38, .int (0 + 1), .ref q7]) X Z hl.1 (c_X2_init l G w39 q38) ⟨va_cnB 0 X.2.2.2.2 gX4_init_X2_init_n19 rfl rfl rfl Z.2.2.2.2.2.2 (X.2.2.2.2 (.initialized RX2) (by decide +kernel)) (by decide +kernel) ⟨(Nat.le_of_ble_eq_true rfl), (Nat.le_of_ble_eq_true rfl)⟩, rfl, X.2.2.2.2 (.instanceMethod yX2_init) (by decide +kernel)⟩ rfl dX4_init_38 ⟨(Nat.le_of_ble_eq_true rfl), (Nat.le_of_ble_eq_true rfl)⟩ rfl (Nat.le_of_ble_eq_true rfl) (fun w47 H locs p38 Z => ?_)
      have p38 := p38.symm
      subst p38
      refine f_aast (ti := 2) (ci := 2) X Z rfl rfl dX4_init_41 k44 k45 (by unfold vp_in; decide) (fun H locs w48 e49 Z => ?_)
      have e49 : w48 = va_up w39 q7 (some (aT G 6 (va_up (va_up (fun _ => none) ((0 : Int32).toNatClampNeg) (some q34)) (((0 + 1) : Int32).toNatClampNeg) (some q38)))) := e49
      have fr55 : Fr w tg w48 (va_up (va_up (va_up (va_up tg q7 (1, 0)) q16 (2, 0)) q34 (3, 0)) q38 (3, 1)) := by rw [e49]; exact fr46.put (τ := (1, 0)) (by simp [va_up, n_q7_q16, n_q7_q34, n_q7_q38, hg]) (by decide)
      have k50 : w48 q16 = some (aI G 8 (fun _ => 0)) := by rw [e49]; exact lk_ne (ad_ne k41 k44 dx_ir) k41
      have k51 : w48 h0 = some (cTs (some q7) (some q16) none none 0 0) := by rw [e49]; exact lk_ne (ad_ne k42 k44 dx_oi) k42
      have k52 : w48 q34 = some (cTrk none 0) := by rw [e49]; exact lk_ne (ad_ne k43 k44 dx_oi) k43
      have k53 : w48 q38 = some (cTrk none 0) := by rw [e49]; exact lk_ne (ad_ne k45 k44 dx_oi) k45
      have k54 : w48 q7 = some (aT G 6 (va_up (va_up (fun _ => none) ((0 : Int32).toNatClampNeg) (some q34)) (((0 + 1) : Int32).toNatClampNeg) (some q38))) := by rw [e49]; exact up_eq
      refine f_iinc (v := 1) X hl dX4_init_42 (by decide) rfl (by decide) (fun ls hl => ?_)
      have hl : lV ls _ [some (.ref h0), some (.int ((0 + 1) + 1))] := hl
      refine lv_goto (tgt := 23) X.1 X.2.1 dX4_init_45 (by decide) ?_
      refine f_iload X hl ⟨_, rfl, dX4_init_23⟩ rfl ?_
      refine lv_bipush (v := 6) X.1 X.2.1 dX4_init_24 (by decide) ?_
      refine lv_icmp_ge (tgt := 48) X.1 X.2.1 dX4_init_26 (by decide) (fun c26 => ?_) (fun c26 => ?_)
      · exact absurd c26 (by decide)
      · refine f_aload (v := .ref h0) X hl ⟨_, rfl, dX4_init_29⟩ rfl ⟨(some h0), rfl⟩ ?_
        refine f_get (v := .ref q7) (k := 0) X Z i4 rfl (by decide) (by decide +kernel) dX4_init_30 k51 rfl ?_
        refine f_iload X hl ⟨_, rfl, dX4_init_33⟩ rfl ?_
        refine f_new (ci := 2) (ty := tyX2) (fs := [.null, .int 0]) X Z i2 tyX2_ok rfl (by decide +kernel) (by decide +kernel) (by decide +kernel) (fun j hj => by rcases (show j = 0 ∨ j = 1 by omega) with rfl | rfl <;> rfl) dX4_init_34 (Nat.le_of_ble_eq_true rfl) (Nat.le_of_ble_eq_true rfl) (fun q56 H w57 hq56 e58 Z => ?_)
        have e58 : w57 = va_up w48 q56 (some (cTrk none 0)) := e58
        have n_h0_q56 : h0 ≠ q56 := ad_new k51 hq56
        have n_q7_q56 : q7 ≠ q56 := ad_new k54 hq56
        have n_q16_q56 : q16 ≠ q56 := ad_new k50 hq56
        have n_q34_q56 : q34 ≠ q56 := ad_new k52 hq56
        have n_q38_q56 : q38 ≠ q56 := ad_new k53 hq56
        have b_q56 : w q56 = none := Fr.back fr55 hq56
        have fr65 : Fr w tg w57 (va_up (va_up (va_up (va_up (va_up tg q7 (1, 0)) q16 (2, 0)) q34 (3, 0)) q38 (3, 1)) q56 (3, 2)) := by rw [e58]; exact fr55.new b_q56
        have k59 : w57 q16 = some (aI G 8 (fun _ => 0)) := by rw [e58]; exact lk_ne (ad_new k50 hq56) k50
        have k60 : w57 h0 = some (cTs (some q7) (some q16) none none 0 0) := by rw [e58]; exact lk_ne (ad_new k51 hq56) k51
        have k61 : w57 q34 = some (cTrk none 0) := by rw [e58]; exact lk_ne (ad_new k52 hq56) k52
        have k62 : w57 q38 = some (cTrk none 0) := by rw [e58]; exact lk_ne (ad_new k53 hq56) k53
        have k63 : w57 q7 = some (aT G 6 (va_up (va_up (fun _ => none) ((0 : Int32).toNatClampNeg) (some q34)) (((0 + 1) : Int32).toNatClampNeg) (some q38))) := by rw [e58]; exact lk_ne (ad_new k54 hq56) k54
        have k64 : w57 q56 = some (cTrk none 0) := by rw [e58]; exact up_eq
        refine lv_dup X.1 X.2.1 dX4_init_37 rfl ?_
        refine f_callINv (rest := [.ref q56, .int ((0 + 1) + 1), .ref q7]) X Z hl.1 (c_X2_init l G w57 q56) ⟨va_cnB 0 X.2.2.2.2 gX4_init_X2_init_n19 rfl rfl rfl Z.2.2.2.2.2.2 (X.2.2.2.2 (.initialized RX2) (by decide +kernel)) (by decide +kernel) ⟨(Nat.le_of_ble_eq_true rfl), (Nat.le_of_ble_eq_true rfl)⟩, rfl, X.2.2.2.2 (.instanceMethod yX2_init) (by decide +kernel)⟩ rfl dX4_init_38 ⟨(Nat.le_of_ble_eq_true rfl), (Nat.le_of_ble_eq_true rfl)⟩ rfl (Nat.le_of_ble_eq_true rfl) (fun w66 H locs p38 Z => ?_)
        have p38 := p38.symm
        subst p38
        refine f_aast (ti := 2) (ci := 2) X Z rfl rfl dX4_init_41 k63 k64 (by unfold vp_in; decide) (fun H locs w67 e68 Z => ?_)
        have e68 : w67 = va_up w57 q7 (some (aT G 6 (va_up (va_up (va_up (fun _ => none) ((0 : Int32).toNatClampNeg) (some q34)) (((0 + 1) : Int32).toNatClampNeg) (some q38)) ((((0 + 1) + 1) : Int32).toNatClampNeg) (some q56)))) := e68
        have fr75 : Fr w tg w67 (va_up (va_up (va_up (va_up (va_up tg q7 (1, 0)) q16 (2, 0)) q34 (3, 0)) q38 (3, 1)) q56 (3, 2)) := by rw [e68]; exact fr65.put (τ := (1, 0)) (by simp [va_up, n_q7_q16, n_q7_q34, n_q7_q38, n_q7_q56, hg]) (by decide)
        have k69 : w67 q16 = some (aI G 8 (fun _ => 0)) := by rw [e68]; exact lk_ne (ad_ne k59 k63 dx_ir) k59
        have k70 : w67 h0 = some (cTs (some q7) (some q16) none none 0 0) := by rw [e68]; exact lk_ne (ad_ne k60 k63 dx_oi) k60
        have k71 : w67 q34 = some (cTrk none 0) := by rw [e68]; exact lk_ne (ad_ne k61 k63 dx_oi) k61
        have k72 : w67 q38 = some (cTrk none 0) := by rw [e68]; exact lk_ne (ad_ne k62 k63 dx_oi) k62
        have k73 : w67 q56 = some (cTrk none 0) := by rw [e68]; exact lk_ne (ad_ne k64 k63 dx_oi) k64
        have k74 : w67 q7 = some (aT G 6 (va_up (va_up (va_up (fun _ => none) ((0 : Int32).toNatClampNeg) (some q34)) (((0 + 1) : Int32).toNatClampNeg) (some q38)) ((((0 + 1) + 1) : Int32).toNatClampNeg) (some q56))) := by rw [e68]; exact up_eq
        refine f_iinc (v := 1) X hl dX4_init_42 (by decide) rfl (by decide) (fun ls hl => ?_)
        have hl : lV ls _ [some (.ref h0), some (.int (((0 + 1) + 1) + 1))] := hl
        refine lv_goto (tgt := 23) X.1 X.2.1 dX4_init_45 (by decide) ?_
        refine f_iload X hl ⟨_, rfl, dX4_init_23⟩ rfl ?_
        refine lv_bipush (v := 6) X.1 X.2.1 dX4_init_24 (by decide) ?_
        refine lv_icmp_ge (tgt := 48) X.1 X.2.1 dX4_init_26 (by decide) (fun c26 => ?_) (fun c26 => ?_)
        · exact absurd c26 (by decide)
        · refine f_aload (v := .ref h0) X hl ⟨_, rfl, dX4_init_29⟩ rfl ⟨(some h0), rfl⟩ ?_
          refine f_get (v := .ref q7) (k := 0) X Z i4 rfl (by decide) (by decide +kernel) dX4_init_30 k70 rfl ?_
          refine f_iload X hl ⟨_, rfl, dX4_init_33⟩ rfl ?_
          refine f_new (ci := 2) (ty := tyX2) (fs := [.null, .int 0]) X Z i2 tyX2_ok rfl (by decide +kernel) (by decide +kernel) (by decide +kernel) (fun j hj => by rcases (show j = 0 ∨ j = 1 by omega) with rfl | rfl <;> rfl) dX4_init_34 (Nat.le_of_ble_eq_true rfl) (Nat.le_of_ble_eq_true rfl) (fun q76 H w77 hq76 e78 Z => ?_)
          have e78 : w77 = va_up w67 q76 (some (cTrk none 0)) := e78
          have n_h0_q76 : h0 ≠ q76 := ad_new k70 hq76
          have n_q7_q76 : q7 ≠ q76 := ad_new k74 hq76
          have n_q16_q76 : q16 ≠ q76 := ad_new k69 hq76
          have n_q34_q76 : q34 ≠ q76 := ad_new k71 hq76
          have n_q38_q76 : q38 ≠ q76 := ad_new k72 hq76
          have n_q56_q76 : q56 ≠ q76 := ad_new k73 hq76
          have b_q76 : w q76 = none := Fr.back fr75 hq76
          have fr86 : Fr w tg w77 (va_up (va_up (va_up (va_up (va_up (va_up tg q7 (1, 0)) q16 (2, 0)) q34 (3, 0)) q38 (3, 1)) q56 (3, 2)) q76 (3, 3)) := by rw [e78]; exact fr75.new b_q76
          have k79 : w77 q16 = some (aI G 8 (fun _ => 0)) := by rw [e78]; exact lk_ne (ad_new k69 hq76) k69
          have k80 : w77 h0 = some (cTs (some q7) (some q16) none none 0 0) := by rw [e78]; exact lk_ne (ad_new k70 hq76) k70
          have k81 : w77 q34 = some (cTrk none 0) := by rw [e78]; exact lk_ne (ad_new k71 hq76) k71
          have k82 : w77 q38 = some (cTrk none 0) := by rw [e78]; exact lk_ne (ad_new k72 hq76) k72
          have k83 : w77 q56 = some (cTrk none 0) := by rw [e78]; exact lk_ne (ad_new k73 hq76) k73
          have k84 : w77 q7 = some (aT G 6 (va_up (va_up (va_up (fun _ => none) ((0 : Int32).toNatClampNeg) (some q34)) (((0 + 1) : Int32).toNatClampNeg) (some q38)) ((((0 + 1) + 1) : Int32).toNatClampNeg) (some q56))) := by rw [e78]; exact lk_ne (ad_new k74 hq76) k74
          have k85 : w77 q76 = some (cTrk none 0) := by rw [e78]; exact up_eq
          refine lv_dup X.1 X.2.1 dX4_init_37 rfl ?_
          refine f_callINv (rest := [.ref q76, .int (((0 + 1) + 1) + 1), .ref q7]) X Z hl.1 (c_X2_init l G w77 q76) ⟨va_cnB 0 X.2.2.2.2 gX4_init_X2_init_n19 rfl rfl rfl Z.2.2.2.2.2.2 (X.2.2.2.2 (.initialized RX2) (by decide +kernel)) (by decide +kernel) ⟨(Nat.le_of_ble_eq_true rfl), (Nat.le_of_ble_eq_true rfl)⟩, rfl, X.2.2.2.2 (.instanceMethod yX2_init) (by decide +kernel)⟩ rfl dX4_init_38 ⟨(Nat.le_of_ble_eq_true rfl), (Nat.le_of_ble_eq_true rfl)⟩ rfl (Nat.le_of_ble_eq_true rfl) (fun w87 H locs p38 Z => ?_)
          have p38 := p38.symm
          subst p38
          refine f_aast (ti := 2) (ci := 2) X Z rfl rfl dX4_init_41 k84 k85 (by unfold vp_in; decide) (fun H locs w88 e89 Z => ?_)
          have e89 : w88 = va_up w77 q7 (some (aT G 6 (va_up (va_up (va_up (va_up (fun _ => none) ((0 : Int32).toNatClampNeg) (some q34)) (((0 + 1) : Int32).toNatClampNeg) (some q38)) ((((0 + 1) + 1) : Int32).toNatClampNeg) (some q56)) (((((0 + 1) + 1) + 1) : Int32).toNatClampNeg) (some q76)))) := e89
          have fr97 : Fr w tg w88 (va_up (va_up (va_up (va_up (va_up (va_up tg q7 (1, 0)) q16 (2, 0)) q34 (3, 0)) q38 (3, 1)) q56 (3, 2)) q76 (3, 3)) := by rw [e89]; exact fr86.put (τ := (1, 0)) (by simp [va_up, n_q7_q16, n_q7_q34, n_q7_q38, n_q7_q56, n_q7_q76, hg]) (by decide)
          have k90 : w88 q16 = some (aI G 8 (fun _ => 0)) := by rw [e89]; exact lk_ne (ad_ne k79 k84 dx_ir) k79
          have k91 : w88 h0 = some (cTs (some q7) (some q16) none none 0 0) := by rw [e89]; exact lk_ne (ad_ne k80 k84 dx_oi) k80
          have k92 : w88 q34 = some (cTrk none 0) := by rw [e89]; exact lk_ne (ad_ne k81 k84 dx_oi) k81
          have k93 : w88 q38 = some (cTrk none 0) := by rw [e89]; exact lk_ne (ad_ne k82 k84 dx_oi) k82
          have k94 : w88 q56 = some (cTrk none 0) := by rw [e89]; exact lk_ne (ad_ne k83 k84 dx_oi) k83
          have k95 : w88 q76 = some (cTrk none 0) := by rw [e89]; exact lk_ne (ad_ne k85 k84 dx_oi) k85
          have k96 : w88 q7 = some (aT G 6 (va_up (va_up (va_up (va_up (fun _ => none) ((0 : Int32).toNatClampNeg) (some q34)) (((0 + 1) : Int32).toNatClampNeg) (some q38)) ((((0 + 1) + 1) : Int32).toNatClampNeg) (some q56)) (((((0 + 1) + 1) + 1) : Int32).toNatClampNeg) (some q76))) := by rw [e89]; exact up_eq
          refine f_iinc (v := 1) X hl dX4_init_42 (by decide) rfl (by decide) (fun ls hl => ?_)
          have hl : lV ls _ [some (.ref h0), some (.int ((((0 + 1) + 1) + 1) + 1))] := hl
          refine lv_goto (tgt := 23) X.1 X.2.1 dX4_init_45 (by decide) ?_
          refine f_iload X hl ⟨_, rfl, dX4_init_23⟩ rfl ?_
          refine lv_bipush (v := 6) X.1 X.2.1 dX4_init_24 (by decide) ?_
          refine lv_icmp_ge (tgt := 48) X.1 X.2.1 dX4_init_26 (by decide) (fun c26 => ?_) (fun c26 => ?_)
          · exact absurd c26 (by decide)
          · refine f_aload (v := .ref h0) X hl ⟨_, rfl, dX4_init_29⟩ rfl ⟨(some h0), rfl⟩ ?_
            refine f_get (v := .ref q7) (k := 0) X Z i4 rfl (by decide) (by decide +kernel) dX4_init_30 k91 rfl ?_
            refine f_iload X hl ⟨_, rfl, dX4_init_33⟩ rfl ?_
            refine f_new (ci := 2) (ty := tyX2) (fs := [.null, .int 0]) X Z i2 tyX2_ok rfl (by decide +kernel) (by decide +kernel) (by decide +kernel) (fun j hj => by rcases (show j = 0 ∨ j = 1 by omega) with rfl | rfl <;> rfl) dX4_init_34 (Nat.le_of_ble_eq_true rfl) (Nat.le_of_ble_eq_true rfl) (fun q98 H w99 hq98 e100 Z => ?_)
            have e100 : w99 = va_up w88 q98 (some (cTrk none 0)) := e100
            have n_h0_q98 : h0 ≠ q98 := ad_new k91 hq98
            have n_q7_q98 : q7 ≠ q98 := ad_new k96 hq98
            have n_q16_q98 : q16 ≠ q98 := ad_new k90 hq98
            have n_q34_q98 : q34 ≠ q98 := ad_new k92 hq98
            have n_q38_q98 : q38 ≠ q98 := ad_new k93 hq98
            have n_q56_q98 : q56 ≠ q98 := ad_new k94 hq98
            have n_q76_q98 : q76 ≠ q98 := ad_new k95 hq98
            have b_q98 : w q98 = none := Fr.back fr97 hq98
            have fr109 : Fr w tg w99 (va_up (va_up (va_up (va_up (va_up (va_up (va_up tg q7 (1, 0)) q16 (2, 0)) q34 (3, 0)) q38 (3, 1)) q56 (3, 2)) q76 (3, 3)) q98 (3, 4)) := by rw [e100]; exact fr97.new b_q98
            have k101 : w99 q16 = some (aI G 8 (fun _ => 0)) := by rw [e100]; exact lk_ne (ad_new k90 hq98) k90
            have k102 : w99 h0 = some (cTs (some q7) (some q16) none none 0 0) := by rw [e100]; exact lk_ne (ad_new k91 hq98) k91
            have k103 : w99 q34 = some (cTrk none 0) := by rw [e100]; exact lk_ne (ad_new k92 hq98) k92
            have k104 : w99 q38 = some (cTrk none 0) := by rw [e100]; exact lk_ne (ad_new k93 hq98) k93
            have k105 : w99 q56 = some (cTrk none 0) := by rw [e100]; exact lk_ne (ad_new k94 hq98) k94
            have k106 : w99 q76 = some (cTrk none 0) := by rw [e100]; exact lk_ne (ad_new k95 hq98) k95
            have k107 : w99 q7 = some (aT G 6 (va_up (va_up (va_up (va_up (fun _ => none) ((0 : Int32).toNatClampNeg) (some q34)) (((0 + 1) : Int32).toNatClampNeg) (some q38)) ((((0 + 1) + 1) : Int32).toNatClampNeg) (some q56)) (((((0 + 1) + 1) + 1) : Int32).toNatClampNeg) (some q76))) := by rw [e100]; exact lk_ne (ad_new k96 hq98) k96
            have k108 : w99 q98 = some (cTrk none 0) := by rw [e100]; exact up_eq
            refine lv_dup X.1 X.2.1 dX4_init_37 rfl ?_
            refine f_callINv (rest := [.ref q98, .int ((((0 + 1) + 1) + 1) + 1), .ref q7]) X Z hl.1 (c_X2_init l G w99 q98) ⟨va_cnB 0 X.2.2.2.2 gX4_init_X2_init_n19 rfl rfl rfl Z.2.2.2.2.2.2 (X.2.2.2.2 (.initialized RX2) (by decide +kernel)) (by decide +kernel) ⟨(Nat.le_of_ble_eq_true rfl), (Nat.le_of_ble_eq_true rfl)⟩, rfl, X.2.2.2.2 (.instanceMethod yX2_init) (by decide +kernel)⟩ rfl dX4_init_38 ⟨(Nat.le_of_ble_eq_true rfl), (Nat.le_of_ble_eq_true rfl)⟩ rfl (Nat.le_of_ble_eq_true rfl) (fun w110 H locs p38 Z => ?_)
            have p38 := p38.symm
            subst p38
            refine f_aast (ti := 2) (ci := 2) X Z rfl rfl dX4_init_41 k107 k108 (by unfold vp_in; decide) (fun H locs w111 e112 Z => ?_)
            have e112 : w111 = va_up w99 q7 (some (aT G 6 (va_up (va_up (va_up (va_up (va_up (fun _ => none) ((0 : Int32).toNatClampNeg) (some q34)) (((0 + 1) : Int32).toNatClampNeg) (some q38)) ((((0 + 1) + 1) : Int32).toNatClampNeg) (some q56)) (((((0 + 1) + 1) + 1) : Int32).toNatClampNeg) (some q76)) ((((((0 + 1) + 1) + 1) + 1) : Int32).toNatClampNeg) (some q98)))) := e112
            have fr121 : Fr w tg w111 (va_up (va_up (va_up (va_up (va_up (va_up (va_up tg q7 (1, 0)) q16 (2, 0)) q34 (3, 0)) q38 (3, 1)) q56 (3, 2)) q76 (3, 3)) q98 (3, 4)) := by rw [e112]; exact fr109.put (τ := (1, 0)) (by simp [va_up, n_q7_q16, n_q7_q34, n_q7_q38, n_q7_q56, n_q7_q76, n_q7_q98, hg]) (by decide)
            have k113 : w111 q16 = some (aI G 8 (fun _ => 0)) := by rw [e112]; exact lk_ne (ad_ne k101 k107 dx_ir) k101
            have k114 : w111 h0 = some (cTs (some q7) (some q16) none none 0 0) := by rw [e112]; exact lk_ne (ad_ne k102 k107 dx_oi) k102
            have k115 : w111 q34 = some (cTrk none 0) := by rw [e112]; exact lk_ne (ad_ne k103 k107 dx_oi) k103
            have k116 : w111 q38 = some (cTrk none 0) := by rw [e112]; exact lk_ne (ad_ne k104 k107 dx_oi) k104
            have k117 : w111 q56 = some (cTrk none 0) := by rw [e112]; exact lk_ne (ad_ne k105 k107 dx_oi) k105
            have k118 : w111 q76 = some (cTrk none 0) := by rw [e112]; exact lk_ne (ad_ne k106 k107 dx_oi) k106
            have k119 : w111 q98 = some (cTrk none 0) := by rw [e112]; exact lk_ne (ad_ne k108 k107 dx_oi) k108
            have k120 : w111 q7 = some (aT G 6 (va_up (va_up (va_up (va_up (va_up (fun _ => none) ((0 : Int32).toNatClampNeg) (some q34)) (((0 + 1) : Int32).toNatClampNeg) (some q38)) ((((0 + 1) + 1) : Int32).toNatClampNeg) (some q56)) (((((0 + 1) + 1) + 1) : Int32).toNatClampNeg) (some q76)) ((((((0 + 1) + 1) + 1) + 1) : Int32).toNatClampNeg) (some q98))) := by rw [e112]; exact up_eq
            refine f_iinc (v := 1) X hl dX4_init_42 (by decide) rfl (by decide) (fun ls hl => ?_)
            have hl : lV ls _ [some (.ref h0), some (.int (((((0 + 1) + 1) + 1) + 1) + 1))] := hl
            refine lv_goto (tgt := 23) X.1 X.2.1 dX4_init_45 (by decide) ?_
            refine f_iload X hl ⟨_, rfl, dX4_init_23⟩ rfl ?_
            refine lv_bipush (v := 6) X.1 X.2.1 dX4_init_24 (by decide) ?_
            refine lv_icmp_ge (tgt := 48) X.1 X.2.1 dX4_init_26 (by decide) (fun c26 => ?_) (fun c26 => ?_)
            · exact absurd c26 (by decide)
            · refine f_aload (v := .ref h0) X hl ⟨_, rfl, dX4_init_29⟩ rfl ⟨(some h0), rfl⟩ ?_
              refine f_get (v := .ref q7) (k := 0) X Z i4 rfl (by decide) (by decide +kernel) dX4_init_30 k114 rfl ?_
              refine f_iload X hl ⟨_, rfl, dX4_init_33⟩ rfl ?_
              refine f_new (ci := 2) (ty := tyX2) (fs := [.null, .int 0]) X Z i2 tyX2_ok rfl (by decide +kernel) (by decide +kernel) (by decide +kernel) (fun j hj => by rcases (show j = 0 ∨ j = 1 by omega) with rfl | rfl <;> rfl) dX4_init_34 (Nat.le_of_ble_eq_true rfl) (Nat.le_of_ble_eq_true rfl) (fun q122 H w123 hq122 e124 Z => ?_)
              have e124 : w123 = va_up w111 q122 (some (cTrk none 0)) := e124
              have n_h0_q122 : h0 ≠ q122 := ad_new k114 hq122
              have n_q7_q122 : q7 ≠ q122 := ad_new k120 hq122
              have n_q16_q122 : q16 ≠ q122 := ad_new k113 hq122
              have n_q34_q122 : q34 ≠ q122 := ad_new k115 hq122
              have n_q38_q122 : q38 ≠ q122 := ad_new k116 hq122
              have n_q56_q122 : q56 ≠ q122 := ad_new k117 hq122
              have n_q76_q122 : q76 ≠ q122 := ad_new k118 hq122
              have n_q98_q122 : q98 ≠ q122 := ad_new k119 hq122
              have b_q122 : w q122 = none := Fr.back fr121 hq122
              have fr134 : Fr w tg w123 (va_up (va_up (va_up (va_up (va_up (va_up (va_up (va_up tg q7 (1, 0)) q16 (2, 0)) q34 (3, 0)) q38 (3, 1)) q56 (3, 2)) q76 (3, 3)) q98 (3, 4)) q122 (3, 5)) := by rw [e124]; exact fr121.new b_q122
              have k125 : w123 q16 = some (aI G 8 (fun _ => 0)) := by rw [e124]; exact lk_ne (ad_new k113 hq122) k113
              have k126 : w123 h0 = some (cTs (some q7) (some q16) none none 0 0) := by rw [e124]; exact lk_ne (ad_new k114 hq122) k114
              have k127 : w123 q34 = some (cTrk none 0) := by rw [e124]; exact lk_ne (ad_new k115 hq122) k115
              have k128 : w123 q38 = some (cTrk none 0) := by rw [e124]; exact lk_ne (ad_new k116 hq122) k116
              have k129 : w123 q56 = some (cTrk none 0) := by rw [e124]; exact lk_ne (ad_new k117 hq122) k117
              have k130 : w123 q76 = some (cTrk none 0) := by rw [e124]; exact lk_ne (ad_new k118 hq122) k118
              have k131 : w123 q98 = some (cTrk none 0) := by rw [e124]; exact lk_ne (ad_new k119 hq122) k119
              have k132 : w123 q7 = some (aT G 6 (va_up (va_up (va_up (va_up (va_up (fun _ => none) ((0 : Int32).toNatClampNeg) (some q34)) (((0 + 1) : Int32).toNatClampNeg) (some q38)) ((((0 + 1) + 1) : Int32).toNatClampNeg) (some q56)) (((((0 + 1) + 1) + 1) : Int32).toNatClampNeg) (some q76)) ((((((0 + 1) + 1) + 1) + 1) : Int32).toNatClampNeg) (some q98))) := by rw [e124]; exact lk_ne (ad_new k120 hq122) k120
              have k133 : w123 q122 = some (cTrk none 0) := by rw [e124]; exact up_eq
              refine lv_dup X.1 X.2.1 dX4_init_37 rfl ?_
              refine f_callINv (rest := [.ref q122, .int (((((0 + 1) + 1) + 1) + 1) + 1), .ref q7]) X Z hl.1 (c_X2_init l G w123 q122) ⟨va_cnB 0 X.2.2.2.2 gX4_init_X2_init_n19 rfl rfl rfl Z.2.2.2.2.2.2 (X.2.2.2.2 (.initialized RX2) (by decide +kernel)) (by decide +kernel) ⟨(Nat.le_of_ble_eq_true rfl), (Nat.le_of_ble_eq_true rfl)⟩, rfl, X.2.2.2.2 (.instanceMethod yX2_init) (by decide +kernel)⟩ rfl dX4_init_38 ⟨(Nat.le_of_ble_eq_true rfl), (Nat.le_of_ble_eq_true rfl)⟩ rfl (Nat.le_of_ble_eq_true rfl) (fun w135 H locs p38 Z => ?_)
              have p38 := p38.symm
              subst p38
              refine f_aast (ti := 2) (ci := 2) X Z rfl rfl dX4_init_41 k132 k133 (by unfold vp_in; decide) (fun H locs w136 e137 Z => ?_)
              have e137 : w136 = va_up w123 q7 (some (aT G 6 (va_up (va_up (va_up (va_up (va_up (va_up (fun _ => none) ((0 : Int32).toNatClampNeg) (some q34)) (((0 + 1) : Int32).toNatClampNeg) (some q38)) ((((0 + 1) + 1) : Int32).toNatClampNeg) (some q56)) (((((0 + 1) + 1) + 1) : Int32).toNatClampNeg) (some q76)) ((((((0 + 1) + 1) + 1) + 1) : Int32).toNatClampNeg) (some q98)) (((((((0 + 1) + 1) + 1) + 1) + 1) : Int32).toNatClampNeg) (some q122)))) := e137
              have fr147 : Fr w tg w136 (va_up (va_up (va_up (va_up (va_up (va_up (va_up (va_up tg q7 (1, 0)) q16 (2, 0)) q34 (3, 0)) q38 (3, 1)) q56 (3, 2)) q76 (3, 3)) q98 (3, 4)) q122 (3, 5)) := by rw [e137]; exact fr134.put (τ := (1, 0)) (by simp [va_up, n_q7_q16, n_q7_q34, n_q7_q38, n_q7_q56, n_q7_q76, n_q7_q98, n_q7_q122, hg]) (by decide)
              have k138 : w136 q16 = some (aI G 8 (fun _ => 0)) := by rw [e137]; exact lk_ne (ad_ne k125 k132 dx_ir) k125
              have k139 : w136 h0 = some (cTs (some q7) (some q16) none none 0 0) := by rw [e137]; exact lk_ne (ad_ne k126 k132 dx_oi) k126
              have k140 : w136 q34 = some (cTrk none 0) := by rw [e137]; exact lk_ne (ad_ne k127 k132 dx_oi) k127
              have k141 : w136 q38 = some (cTrk none 0) := by rw [e137]; exact lk_ne (ad_ne k128 k132 dx_oi) k128
              have k142 : w136 q56 = some (cTrk none 0) := by rw [e137]; exact lk_ne (ad_ne k129 k132 dx_oi) k129
              have k143 : w136 q76 = some (cTrk none 0) := by rw [e137]; exact lk_ne (ad_ne k130 k132 dx_oi) k130
              have k144 : w136 q98 = some (cTrk none 0) := by rw [e137]; exact lk_ne (ad_ne k131 k132 dx_oi) k131
              have k145 : w136 q122 = some (cTrk none 0) := by rw [e137]; exact lk_ne (ad_ne k133 k132 dx_oi) k133
              have k146 : w136 q7 = some (aT G 6 (va_up (va_up (va_up (va_up (va_up (va_up (fun _ => none) ((0 : Int32).toNatClampNeg) (some q34)) (((0 + 1) : Int32).toNatClampNeg) (some q38)) ((((0 + 1) + 1) : Int32).toNatClampNeg) (some q56)) (((((0 + 1) + 1) + 1) : Int32).toNatClampNeg) (some q76)) ((((((0 + 1) + 1) + 1) + 1) : Int32).toNatClampNeg) (some q98)) (((((((0 + 1) + 1) + 1) + 1) + 1) : Int32).toNatClampNeg) (some q122))) := by rw [e137]; exact up_eq
              refine f_iinc (v := 1) X hl dX4_init_42 (by decide) rfl (by decide) (fun ls hl => ?_)
              have hl : lV ls _ [some (.ref h0), some (.int ((((((0 + 1) + 1) + 1) + 1) + 1) + 1))] := hl
              refine lv_goto (tgt := 23) X.1 X.2.1 dX4_init_45 (by decide) ?_
              refine f_iload X hl ⟨_, rfl, dX4_init_23⟩ rfl ?_
              refine lv_bipush (v := 6) X.1 X.2.1 dX4_init_24 (by decide) ?_
              refine lv_icmp_ge (tgt := 48) X.1 X.2.1 dX4_init_26 (by decide) (fun c26 => ?_) (fun c26 => ?_)
              · exact f_vret X hr hlk Z (Nat.le_of_ble_eq_true rfl) (Nat.le_of_ble_eq_true rfl) dX4_init_48 ⟨(va_up (va_up (va_up (va_up (va_up (va_up (va_up (va_up tg q7 (1, 0)) q16 (2, 0)) q34 (3, 0)) q38 (3, 1)) q56 (3, 2)) q76 (3, 3)) q98 (3, 4)) q122 (3, 5)), ⟨q7, q16, _, mk6 q34 q38 q56 q76 q98 q122, none, none, fun _ => [], ⟨k139, (show (va_up (va_up (va_up (va_up (va_up (va_up (va_up (va_up tg q7 (1, 0)) q16 (2, 0)) q34 (3, 0)) q38 (3, 1)) q56 (3, 2)) q76 (3, 3)) q98 (3, 4)) q122 (3, 5)) h0 = (0, 0) by simp [va_up, hg, n_h0_q7, n_h0_q16, n_h0_q34, n_h0_q38, n_h0_q56, n_h0_q76, n_h0_q98, n_h0_q122])⟩, ⟨k146, (show (va_up (va_up (va_up (va_up (va_up (va_up (va_up (va_up tg q7 (1, 0)) q16 (2, 0)) q34 (3, 0)) q38 (3, 1)) q56 (3, 2)) q76 (3, 3)) q98 (3, 4)) q122 (3, 5)) q7 = (1, 0) by simp [va_up, hg, n_q7_q16, n_q7_q34, n_q7_q38, n_q7_q56, n_q7_q76, n_q7_q98, n_q7_q122])⟩, lt6 rfl rfl rfl rfl rfl rfl, ⟨k138, (show (va_up (va_up (va_up (va_up (va_up (va_up (va_up (va_up tg q7 (1, 0)) q16 (2, 0)) q34 (3, 0)) q38 (3, 1)) q56 (3, 2)) q76 (3, 3)) q98 (3, 4)) q122 (3, 5)) q16 = (2, 0) by simp [va_up, hg, n_q16_q34, n_q16_q38, n_q16_q56, n_q16_q76, n_q16_q98, n_q16_q122])⟩, lt6 ⟨k140, (show (va_up (va_up (va_up (va_up (va_up (va_up (va_up (va_up tg q7 (1, 0)) q16 (2, 0)) q34 (3, 0)) q38 (3, 1)) q56 (3, 2)) q76 (3, 3)) q98 (3, 4)) q122 (3, 5)) q34 = (3, 0) by simp [va_up, hg, n_q34_q38, n_q34_q56, n_q34_q76, n_q34_q98, n_q34_q122])⟩ ⟨k141, (show (va_up (va_up (va_up (va_up (va_up (va_up (va_up (va_up tg q7 (1, 0)) q16 (2, 0)) q34 (3, 0)) q38 (3, 1)) q56 (3, 2)) q76 (3, 3)) q98 (3, 4)) q122 (3, 5)) q38 = (3, 1) by simp [va_up, hg, n_q38_q56, n_q38_q76, n_q38_q98, n_q38_q122])⟩ ⟨k142, (show (va_up (va_up (va_up (va_up (va_up (va_up (va_up (va_up tg q7 (1, 0)) q16 (2, 0)) q34 (3, 0)) q38 (3, 1)) q56 (3, 2)) q76 (3, 3)) q98 (3, 4)) q122 (3, 5)) q56 = (3, 2) by simp [va_up, hg, n_q56_q76, n_q56_q98, n_q56_q122])⟩ ⟨k143, (show (va_up (va_up (va_up (va_up (va_up (va_up (va_up (va_up tg q7 (1, 0)) q16 (2, 0)) q34 (3, 0)) q38 (3, 1)) q56 (3, 2)) q76 (3, 3)) q98 (3, 4)) q122 (3, 5)) q76 = (3, 3) by simp [va_up, hg, n_q76_q98, n_q76_q122])⟩ ⟨k144, (show (va_up (va_up (va_up (va_up (va_up (va_up (va_up (va_up tg q7 (1, 0)) q16 (2, 0)) q34 (3, 0)) q38 (3, 1)) q56 (3, 2)) q76 (3, 3)) q98 (3, 4)) q122 (3, 5)) q98 = (3, 4) by simp [va_up, hg, n_q98_q122])⟩ ⟨k145, (show (va_up (va_up (va_up (va_up (va_up (va_up (va_up (va_up tg q7 (1, 0)) q16 (2, 0)) q34 (3, 0)) q38 (3, 1)) q56 (3, 2)) q76 (3, 3)) q98 (3, 4)) q122 (3, 5)) q122 = (3, 5) by simp [va_up, hg])⟩, ⟨fun t i a d h => by simp at h, fun t i u j a d e h => by simp at h⟩, fun _ => rfl, Or.inl ⟨rfl, rfl⟩, Or.inl ⟨rfl, rfl⟩⟩, fr147⟩
              · exact absurd (by decide) c26
