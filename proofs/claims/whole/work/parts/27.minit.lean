def Fr2 (w : wT) (tg : tT) (w' : wT) (tg' : tT) : Prop := ∀ b e, w b = some e → tg' b = tg b ∧ (∃ e', w' b = some e') ∧ ((tg b).1 < 10 → w' b = some e)
theorem Fr2.rf {w : wT} {tg : tT} : Fr2 w tg w tg := fun b e h => ⟨rfl, ⟨e, h⟩, fun _ => h⟩
theorem Fr2.put {w w1 : wT} {tg tg1 : tT} {a : Nat} {x : va_E} (h : Fr2 w tg w1 tg1) (k : Nat) (ha : tg1 a = (10 + k, 0)) : Fr2 w tg (va_up w1 a (some x)) tg1 := by
  intro b e hb
  obtain ⟨h1, ⟨e', h2⟩, h3⟩ := h b e hb
  by_cases hba : b = a
  · subst hba
    exact ⟨h1, ⟨x, up_eq⟩, fun z => by rw [← h1, ha] at z; simp at z; omega⟩
  · exact ⟨h1, ⟨e', by rw [up_ne hba]; exact h2⟩, fun z => by rw [up_ne hba]; exact h3 z⟩
theorem Fr2.new {w w1 : wT} {tg tg1 : tT} {q : Nat} {x : va_E} {σ : Nat × Nat} (h : Fr2 w tg w1 tg1) (hq : w q = none) : Fr2 w tg (va_up w1 q (some x)) (va_up tg1 q σ) := by
  intro b e hb
  obtain ⟨h1, ⟨e', h2⟩, h3⟩ := h b e hb
  have hbq := ad_new hb hq
  exact ⟨by rw [up_off hbq]; exact h1, ⟨e', by rw [up_ne hbq]; exact h2⟩, fun z => by rw [up_ne hbq]; exact h3 z⟩
theorem Fr2.back {w w1 : wT} {tg tg1 : tT} {q : Nat} (h : Fr2 w tg w1 tg1) (hq : w1 q = none) : w q = none := by
  cases hw : w q with
  | none => rfl
  | some e => obtain ⟨-, ⟨e', h2⟩, -⟩ := h q e hw; rw [hq] at h2; cases h2
def mkA (a0 a1 a2 a3 a4 a5 a6 a7 a8 a9 a10 a11 : Nat) : Nat → Nat := fun k => match k with
  | 0 => a0
  | 1 => a1
  | 2 => a2
  | 3 => a3
  | 4 => a4
  | 5 => a5
  | 6 => a6
  | 7 => a7
  | 8 => a8
  | 9 => a9
  | 10 => a10
  | _ => a11
theorem MW.mk0 {G : gT} {tg : tT} {w : wT} {a0 a1 a2 a3 a4 a5 a6 a7 a8 a9 a10 a11 : Nat} {sd na ro wi lv : Int32} {f1 f2 f3 f4 f5 f6 f7 f8 f9 f10 f11 : Nat → Int32} (k0 : w a0 = some (cMo (some a1) (some a2) (some a3) (some a4) (some a5) (some a6) (some a7) (some a8) sd na (some a9) ro wi (some a10) lv (some a11))) (k1 : w a1 = some (aI G 600 f1)) (k2 : w a2 = some (aI G 600 f2)) (k3 : w a3 = some (aI G 600 f3)) (k4 : w a4 = some (aI G 600 f4)) (k5 : w a5 = some (aI G 7200 f5)) (k6 : w a6 = some (aI G 600 f6)) (k7 : w a7 = some (aZ G 600 f7)) (k8 : w a8 = some (aI G 6 f8)) (k9 : w a9 = some (aI G 12 f9)) (k10 : w a10 = some (aI G 144 f10)) (k11 : w a11 = some (aI G 8 f11)) (t0 : tg a0 = (10, 0)) (t1 : tg a1 = (11, 0)) (t2 : tg a2 = (12, 0)) (t3 : tg a3 = (13, 0)) (t4 : tg a4 = (14, 0)) (t5 : tg a5 = (15, 0)) (t6 : tg a6 = (16, 0)) (t7 : tg a7 = (17, 0)) (t8 : tg a8 = (18, 0)) (t9 : tg a9 = (19, 0)) (t10 : tg a10 = (20, 0)) (t11 : tg a11 = (21, 0)) : MW G tg w (mkA a0 a1 a2 a3 a4 a5 a6 a7 a8 a9 a10 a11) (mkF f1 f2 f3 f4 f5 f6 f7 f8 f9 f10 f11) sd na ro wi lv := by
  refine ⟨k0, fun k h1 h2 => ?_, fun k hk => ?_⟩
  · rcases (show k = 1 ∨ k = 2 ∨ k = 3 ∨ k = 4 ∨ k = 5 ∨ k = 6 ∨ k = 7 ∨ k = 8 ∨ k = 9 ∨ k = 10 ∨ k = 11 by omega) with rfl | rfl | rfl | rfl | rfl | rfl | rfl | rfl | rfl | rfl | rfl <;> (simp only [mkA, cellM, mkF]; assumption)
  · rcases (show k = 0 ∨ k = 1 ∨ k = 2 ∨ k = 3 ∨ k = 4 ∨ k = 5 ∨ k = 6 ∨ k = 7 ∨ k = 8 ∨ k = 9 ∨ k = 10 ∨ k = 11 by omega) with rfl | rfl | rfl | rfl | rfl | rfl | rfl | rfl | rfl | rfl | rfl | rfl <;> (simp only [mkA]; assumption)
set_option maxHeartbeats 4000000 in
set_option maxRecDepth 100000 in
theorem c_X5_init (l : Launch) (G : gT) (w : wT) (tg : tT) (mo : Nat) (hg : tg mo = (10, 0)) (h1 : w mo = some (cMo none none none none none none none none 0 0 none 0 0 none 0 none)) : Met l yX5_init wsX5_init ({ frames := 1, cells := 11, slots := 10970, locals := 16 }) (va_Pc [.ref mo] (wG G w)) (Qv G (fun w' => ∃ tg' ad, ad 0 = mo ∧ RepM G tg' w' ad 0 y0 ∧ Fr2 w tg w' tg')) 11 10970 (fr G) := by
  refine f_met (cc := cX5_init) (maxL := 1) (ret := none) (by decide) rfl rfl (Nat.le_of_ble_eq_true rfl) ?_
  intro p e s m below meth cd X hr hlk hnm Z ls hl
  have X : CallFix p m cd cX5_init 1 s [.ref mo].toArray wsX5_init RX5 := X
  have hl : lV ls _ [some (.ref mo)] := hl
  have i5 : ∀ w ∈ wsX50, w ∈ wsX5_init := by decide +kernel
  refine f_aload (v := .ref mo) X hl ⟨_, rfl, dX5_init_0⟩ rfl ⟨(some mo), rfl⟩ ?_
  refine W.objInit X.1 X.2.1 X.2.2.2.1 (X.2.2.2.2 (.methodLink RX5 1 objectInit) (by decide +kernel)) (X.2.2.2.2 (.instanceMethod objectInit) (by decide +kernel)) (X.2.2.2.2 (.code objectInit ⟨#[0xb1]⟩ 1 none) (by decide +kernel)) rfl (by rw [X.2.2.1]; exact hl.1) rfl dX5_init_1 (Nat.le_of_ble_eq_true rfl) (Nat.le_of_ble_eq_true rfl) ?_
  refine W.eq (g2 := F0 m 4 ls []) rfl ?_
  refine f_aload (v := .ref mo) X hl ⟨_, rfl, dX5_init_4⟩ rfl ⟨(some mo), rfl⟩ ?_
  refine lv_sipush (v := 600) X.1 X.2.1 dX5_init_5 (by decide) ?_
  refine f_newa (ti := 0) X Z rfl (by decide +kernel) rfl (fun _ h => by cases h) rfl (by decide) rfl (by decide) (Nat.le_of_ble_eq_true rfl) (Nat.le_of_ble_eq_true rfl) dX5_init_8 (fun q8 H w1 hq8 e2 Z => ?_)
  have e2 : w1 = va_up w q8 (some (aI G 600 (fun _ => 0))) := e2
  have n_mo_q8 : mo ≠ q8 := ad_new h1 hq8
  have b_q8 : w q8 = none := Fr2.back (Fr2.rf (tg := tg)) hq8
  have fr5 : Fr2 w tg w1 (va_up tg q8 (11, 0)) := by rw [e2]; exact Fr2.new Fr2.rf b_q8
  have k3 : w1 mo = some (cMo none none none none none none none none 0 0 none 0 0 none 0 none) := by rw [e2]; exact lk_ne (ad_new h1 hq8) h1
  have k4 : w1 q8 = some (aI G 600 (fun _ => 0)) := by rw [e2]; exact up_eq
  refine f_putF (v := .ref q8) (ty0 := tyX5) (k := 0) X Z i5 tyX5_ok nmX5 rfl (by decide) (by decide +kernel) rfl hnm rfl dX5_init_10 k3 (nr_a _ (some q8)) (ft_a _ (some q8)) (Nat.le_of_ble_eq_true rfl) (fun H locs w6 e7 Z => ?_)
  have e7 : w6 = va_up w1 mo (some (cMo (some q8) none none none none none none none 0 0 none 0 0 none 0 none)) := e7
  have fr10 : Fr2 w tg w6 (va_up tg q8 (11, 0)) := by rw [e7]; exact Fr2.put fr5 0 (by simp [va_up, n_mo_q8, hg])
  have k8 : w6 q8 = some (aI G 600 (fun _ => 0)) := by rw [e7]; exact lk_ne (ad_ne k4 k3 dx_io) k4
  have k9 : w6 mo = some (cMo (some q8) none none none none none none none 0 0 none 0 0 none 0 none) := by rw [e7]; exact up_eq
  refine f_aload (v := .ref mo) X hl ⟨_, rfl, dX5_init_13⟩ rfl ⟨(some mo), rfl⟩ ?_
  refine lv_sipush (v := 600) X.1 X.2.1 dX5_init_14 (by decide) ?_
  refine f_newa (ti := 0) X Z rfl (by decide +kernel) rfl (fun _ h => by cases h) rfl (by decide) rfl (by decide) (Nat.le_of_ble_eq_true rfl) (Nat.le_of_ble_eq_true rfl) dX5_init_17 (fun q17 H w11 hq17 e12 Z => ?_)
  have e12 : w11 = va_up w6 q17 (some (aI G 600 (fun _ => 0))) := e12
  have n_mo_q17 : mo ≠ q17 := ad_new k9 hq17
  have n_q8_q17 : q8 ≠ q17 := ad_new k8 hq17
  have b_q17 : w q17 = none := Fr2.back fr10 hq17
  have fr16 : Fr2 w tg w11 (va_up (va_up tg q8 (11, 0)) q17 (12, 0)) := by rw [e12]; exact Fr2.new fr10 b_q17
  have k13 : w11 q8 = some (aI G 600 (fun _ => 0)) := by rw [e12]; exact lk_ne (ad_new k8 hq17) k8
  have k14 : w11 mo = some (cMo (some q8) none none none none none none none 0 0 none 0 0 none 0 none) := by rw [e12]; exact lk_ne (ad_new k9 hq17) k9
  have k15 : w11 q17 = some (aI G 600 (fun _ => 0)) := by rw [e12]; exact up_eq
  refine f_putF (v := .ref q17) (ty0 := tyX5) (k := 1) X Z i5 tyX5_ok nmX5 rfl (by decide) (by decide +kernel) rfl hnm rfl dX5_init_19 k14 (nr_a _ (some q17)) (ft_a _ (some q17)) (Nat.le_of_ble_eq_true rfl) (fun H locs w17 e18 Z => ?_)
  have e18 : w17 = va_up w11 mo (some (cMo (some q8) (some q17) none none none none none none 0 0 none 0 0 none 0 none)) := e18
  have fr22 : Fr2 w tg w17 (va_up (va_up tg q8 (11, 0)) q17 (12, 0)) := by rw [e18]; exact Fr2.put fr16 0 (by simp [va_up, n_mo_q8, n_mo_q17, hg])
  have k19 : w17 q8 = some (aI G 600 (fun _ => 0)) := by rw [e18]; exact lk_ne (ad_ne k13 k14 dx_io) k13
  have k20 : w17 q17 = some (aI G 600 (fun _ => 0)) := by rw [e18]; exact lk_ne (ad_ne k15 k14 dx_io) k15
  have k21 : w17 mo = some (cMo (some q8) (some q17) none none none none none none 0 0 none 0 0 none 0 none) := by rw [e18]; exact up_eq
  refine f_aload (v := .ref mo) X hl ⟨_, rfl, dX5_init_22⟩ rfl ⟨(some mo), rfl⟩ ?_
  refine lv_sipush (v := 600) X.1 X.2.1 dX5_init_23 (by decide) ?_
  refine f_newa (ti := 0) X Z rfl (by decide +kernel) rfl (fun _ h => by cases h) rfl (by decide) rfl (by decide) (Nat.le_of_ble_eq_true rfl) (Nat.le_of_ble_eq_true rfl) dX5_init_26 (fun q26 H w23 hq26 e24 Z => ?_)
  have e24 : w23 = va_up w17 q26 (some (aI G 600 (fun _ => 0))) := e24
  have n_mo_q26 : mo ≠ q26 := ad_new k21 hq26
  have n_q8_q26 : q8 ≠ q26 := ad_new k19 hq26
  have n_q17_q26 : q17 ≠ q26 := ad_new k20 hq26
  have b_q26 : w q26 = none := Fr2.back fr22 hq26
  have fr29 : Fr2 w tg w23 (va_up (va_up (va_up tg q8 (11, 0)) q17 (12, 0)) q26 (13, 0)) := by rw [e24]; exact Fr2.new fr22 b_q26
  have k25 : w23 q8 = some (aI G 600 (fun _ => 0)) := by rw [e24]; exact lk_ne (ad_new k19 hq26) k19
  have k26 : w23 q17 = some (aI G 600 (fun _ => 0)) := by rw [e24]; exact lk_ne (ad_new k20 hq26) k20
  have k27 : w23 mo = some (cMo (some q8) (some q17) none none none none none none 0 0 none 0 0 none 0 none) := by rw [e24]; exact lk_ne (ad_new k21 hq26) k21
  have k28 : w23 q26 = some (aI G 600 (fun _ => 0)) := by rw [e24]; exact up_eq
  refine f_putF (v := .ref q26) (ty0 := tyX5) (k := 2) X Z i5 tyX5_ok nmX5 rfl (by decide) (by decide +kernel) rfl hnm rfl dX5_init_28 k27 (nr_a _ (some q26)) (ft_a _ (some q26)) (Nat.le_of_ble_eq_true rfl) (fun H locs w30 e31 Z => ?_)
  have e31 : w30 = va_up w23 mo (some (cMo (some q8) (some q17) (some q26) none none none none none 0 0 none 0 0 none 0 none)) := e31
  have fr36 : Fr2 w tg w30 (va_up (va_up (va_up tg q8 (11, 0)) q17 (12, 0)) q26 (13, 0)) := by rw [e31]; exact Fr2.put fr29 0 (by simp [va_up, n_mo_q8, n_mo_q17, n_mo_q26, hg])
  have k32 : w30 q8 = some (aI G 600 (fun _ => 0)) := by rw [e31]; exact lk_ne (ad_ne k25 k27 dx_io) k25
  have k33 : w30 q17 = some (aI G 600 (fun _ => 0)) := by rw [e31]; exact lk_ne (ad_ne k26 k27 dx_io) k26
  have k34 : w30 q26 = some (aI G 600 (fun _ => 0)) := by rw [e31]; exact lk_ne (ad_ne k28 k27 dx_io) k28
  have k35 : w30 mo = some (cMo (some q8) (some q17) (some q26) none none none none none 0 0 none 0 0 none 0 none) := by rw [e31]; exact up_eq
  refine f_aload (v := .ref mo) X hl ⟨_, rfl, dX5_init_31⟩ rfl ⟨(some mo), rfl⟩ ?_
  refine lv_sipush (v := 600) X.1 X.2.1 dX5_init_32 (by decide) ?_
  refine f_newa (ti := 0) X Z rfl (by decide +kernel) rfl (fun _ h => by cases h) rfl (by decide) rfl (by decide) (Nat.le_of_ble_eq_true rfl) (Nat.le_of_ble_eq_true rfl) dX5_init_35 (fun q35 H w37 hq35 e38 Z => ?_)
  have e38 : w37 = va_up w30 q35 (some (aI G 600 (fun _ => 0))) := e38
  have n_mo_q35 : mo ≠ q35 := ad_new k35 hq35
  have n_q8_q35 : q8 ≠ q35 := ad_new k32 hq35
  have n_q17_q35 : q17 ≠ q35 := ad_new k33 hq35
  have n_q26_q35 : q26 ≠ q35 := ad_new k34 hq35
  have b_q35 : w q35 = none := Fr2.back fr36 hq35
  have fr44 : Fr2 w tg w37 (va_up (va_up (va_up (va_up tg q8 (11, 0)) q17 (12, 0)) q26 (13, 0)) q35 (14, 0)) := by rw [e38]; exact Fr2.new fr36 b_q35
  have k39 : w37 q8 = some (aI G 600 (fun _ => 0)) := by rw [e38]; exact lk_ne (ad_new k32 hq35) k32
  have k40 : w37 q17 = some (aI G 600 (fun _ => 0)) := by rw [e38]; exact lk_ne (ad_new k33 hq35) k33
  have k41 : w37 q26 = some (aI G 600 (fun _ => 0)) := by rw [e38]; exact lk_ne (ad_new k34 hq35) k34
  have k42 : w37 mo = some (cMo (some q8) (some q17) (some q26) none none none none none 0 0 none 0 0 none 0 none) := by rw [e38]; exact lk_ne (ad_new k35 hq35) k35
  have k43 : w37 q35 = some (aI G 600 (fun _ => 0)) := by rw [e38]; exact up_eq
  refine f_putF (v := .ref q35) (ty0 := tyX5) (k := 3) X Z i5 tyX5_ok nmX5 rfl (by decide) (by decide +kernel) rfl hnm rfl dX5_init_37 k42 (nr_a _ (some q35)) (ft_a _ (some q35)) (Nat.le_of_ble_eq_true rfl) (fun H locs w45 e46 Z => ?_)
  have e46 : w45 = va_up w37 mo (some (cMo (some q8) (some q17) (some q26) (some q35) none none none none 0 0 none 0 0 none 0 none)) := e46
  have fr52 : Fr2 w tg w45 (va_up (va_up (va_up (va_up tg q8 (11, 0)) q17 (12, 0)) q26 (13, 0)) q35 (14, 0)) := by rw [e46]; exact Fr2.put fr44 0 (by simp [va_up, n_mo_q8, n_mo_q17, n_mo_q26, n_mo_q35, hg])
  have k47 : w45 q8 = some (aI G 600 (fun _ => 0)) := by rw [e46]; exact lk_ne (ad_ne k39 k42 dx_io) k39
  have k48 : w45 q17 = some (aI G 600 (fun _ => 0)) := by rw [e46]; exact lk_ne (ad_ne k40 k42 dx_io) k40
  have k49 : w45 q26 = some (aI G 600 (fun _ => 0)) := by rw [e46]; exact lk_ne (ad_ne k41 k42 dx_io) k41
  have k50 : w45 q35 = some (aI G 600 (fun _ => 0)) := by rw [e46]; exact lk_ne (ad_ne k43 k42 dx_io) k43
  have k51 : w45 mo = some (cMo (some q8) (some q17) (some q26) (some q35) none none none none 0 0 none 0 0 none 0 none) := by rw [e46]; exact up_eq
  refine f_aload (v := .ref mo) X hl ⟨_, rfl, dX5_init_40⟩ rfl ⟨(some mo), rfl⟩ ?_
  refine lv_sipush (v := 7200) X.1 X.2.1 dX5_init_41 (by decide) ?_
  refine f_newa (ti := 0) X Z rfl (by decide +kernel) rfl (fun _ h => by cases h) rfl (by decide) rfl (by decide) (Nat.le_of_ble_eq_true rfl) (Nat.le_of_ble_eq_true rfl) dX5_init_44 (fun q44 H w53 hq44 e54 Z => ?_)
  have e54 : w53 = va_up w45 q44 (some (aI G 7200 (fun _ => 0))) := e54
  have n_mo_q44 : mo ≠ q44 := ad_new k51 hq44
  have n_q8_q44 : q8 ≠ q44 := ad_new k47 hq44
  have n_q17_q44 : q17 ≠ q44 := ad_new k48 hq44
  have n_q26_q44 : q26 ≠ q44 := ad_new k49 hq44
  have n_q35_q44 : q35 ≠ q44 := ad_new k50 hq44
  have b_q44 : w q44 = none := Fr2.back fr52 hq44
  have fr61 : Fr2 w tg w53 (va_up (va_up (va_up (va_up (va_up tg q8 (11, 0)) q17 (12, 0)) q26 (13, 0)) q35 (14, 0)) q44 (15, 0)) := by rw [e54]; exact Fr2.new fr52 b_q44
  have k55 : w53 q8 = some (aI G 600 (fun _ => 0)) := by rw [e54]; exact lk_ne (ad_new k47 hq44) k47
  have k56 : w53 q17 = some (aI G 600 (fun _ => 0)) := by rw [e54]; exact lk_ne (ad_new k48 hq44) k48
  have k57 : w53 q26 = some (aI G 600 (fun _ => 0)) := by rw [e54]; exact lk_ne (ad_new k49 hq44) k49
  have k58 : w53 q35 = some (aI G 600 (fun _ => 0)) := by rw [e54]; exact lk_ne (ad_new k50 hq44) k50
  have k59 : w53 mo = some (cMo (some q8) (some q17) (some q26) (some q35) none none none none 0 0 none 0 0 none 0 none) := by rw [e54]; exact lk_ne (ad_new k51 hq44) k51
  have k60 : w53 q44 = some (aI G 7200 (fun _ => 0)) := by rw [e54]; exact up_eq
  refine f_putF (v := .ref q44) (ty0 := tyX5) (k := 4) X Z i5 tyX5_ok nmX5 rfl (by decide) (by decide +kernel) rfl hnm rfl dX5_init_46 k59 (nr_a _ (some q44)) (ft_a _ (some q44)) (Nat.le_of_ble_eq_true rfl) (fun H locs w62 e63 Z => ?_)
  have e63 : w62 = va_up w53 mo (some (cMo (some q8) (some q17) (some q26) (some q35) (some q44) none none none 0 0 none 0 0 none 0 none)) := e63
  have fr70 : Fr2 w tg w62 (va_up (va_up (va_up (va_up (va_up tg q8 (11, 0)) q17 (12, 0)) q26 (13, 0)) q35 (14, 0)) q44 (15, 0)) := by rw [e63]; exact Fr2.put fr61 0 (by simp [va_up, n_mo_q8, n_mo_q17, n_mo_q26, n_mo_q35, n_mo_q44, hg])
  have k64 : w62 q8 = some (aI G 600 (fun _ => 0)) := by rw [e63]; exact lk_ne (ad_ne k55 k59 dx_io) k55
  have k65 : w62 q17 = some (aI G 600 (fun _ => 0)) := by rw [e63]; exact lk_ne (ad_ne k56 k59 dx_io) k56
  have k66 : w62 q26 = some (aI G 600 (fun _ => 0)) := by rw [e63]; exact lk_ne (ad_ne k57 k59 dx_io) k57
  have k67 : w62 q35 = some (aI G 600 (fun _ => 0)) := by rw [e63]; exact lk_ne (ad_ne k58 k59 dx_io) k58
  have k68 : w62 q44 = some (aI G 7200 (fun _ => 0)) := by rw [e63]; exact lk_ne (ad_ne k60 k59 dx_io) k60
  have k69 : w62 mo = some (cMo (some q8) (some q17) (some q26) (some q35) (some q44) none none none 0 0 none 0 0 none 0 none) := by rw [e63]; exact up_eq
  refine f_aload (v := .ref mo) X hl ⟨_, rfl, dX5_init_49⟩ rfl ⟨(some mo), rfl⟩ ?_
  refine lv_sipush (v := 600) X.1 X.2.1 dX5_init_50 (by decide) ?_
  refine f_newa (ti := 0) X Z rfl (by decide +kernel) rfl (fun _ h => by cases h) rfl (by decide) rfl (by decide) (Nat.le_of_ble_eq_true rfl) (Nat.le_of_ble_eq_true rfl) dX5_init_53 (fun q53 H w71 hq53 e72 Z => ?_)
  have e72 : w71 = va_up w62 q53 (some (aI G 600 (fun _ => 0))) := e72
  have n_mo_q53 : mo ≠ q53 := ad_new k69 hq53
  have n_q8_q53 : q8 ≠ q53 := ad_new k64 hq53
  have n_q17_q53 : q17 ≠ q53 := ad_new k65 hq53
  have n_q26_q53 : q26 ≠ q53 := ad_new k66 hq53
  have n_q35_q53 : q35 ≠ q53 := ad_new k67 hq53
  have n_q44_q53 : q44 ≠ q53 := ad_new k68 hq53
  have b_q53 : w q53 = none := Fr2.back fr70 hq53
  have fr80 : Fr2 w tg w71 (va_up (va_up (va_up (va_up (va_up (va_up tg q8 (11, 0)) q17 (12, 0)) q26 (13, 0)) q35 (14, 0)) q44 (15, 0)) q53 (16, 0)) := by rw [e72]; exact Fr2.new fr70 b_q53
  have k73 : w71 q8 = some (aI G 600 (fun _ => 0)) := by rw [e72]; exact lk_ne (ad_new k64 hq53) k64
  have k74 : w71 q17 = some (aI G 600 (fun _ => 0)) := by rw [e72]; exact lk_ne (ad_new k65 hq53) k65
  have k75 : w71 q26 = some (aI G 600 (fun _ => 0)) := by rw [e72]; exact lk_ne (ad_new k66 hq53) k66
  have k76 : w71 q35 = some (aI G 600 (fun _ => 0)) := by rw [e72]; exact lk_ne (ad_new k67 hq53) k67
  have k77 : w71 q44 = some (aI G 7200 (fun _ => 0)) := by rw [e72]; exact lk_ne (ad_new k68 hq53) k68
  have k78 : w71 mo = some (cMo (some q8) (some q17) (some q26) (some q35) (some q44) none none none 0 0 none 0 0 none 0 none) := by rw [e72]; exact lk_ne (ad_new k69 hq53) k69
  have k79 : w71 q53 = some (aI G 600 (fun _ => 0)) := by rw [e72]; exact up_eq
  refine f_putF (v := .ref q53) (ty0 := tyX5) (k := 5) X Z i5 tyX5_ok nmX5 rfl (by decide) (by decide +kernel) rfl hnm rfl dX5_init_55 k78 (nr_a _ (some q53)) (ft_a _ (some q53)) (Nat.le_of_ble_eq_true rfl) (fun H locs w81 e82 Z => ?_)
  have e82 : w81 = va_up w71 mo (some (cMo (some q8) (some q17) (some q26) (some q35) (some q44) (some q53) none none 0 0 none 0 0 none 0 none)) := e82
  have fr90 : Fr2 w tg w81 (va_up (va_up (va_up (va_up (va_up (va_up tg q8 (11, 0)) q17 (12, 0)) q26 (13, 0)) q35 (14, 0)) q44 (15, 0)) q53 (16, 0)) := by rw [e82]; exact Fr2.put fr80 0 (by simp [va_up, n_mo_q8, n_mo_q17, n_mo_q26, n_mo_q35, n_mo_q44, n_mo_q53, hg])
  have k83 : w81 q8 = some (aI G 600 (fun _ => 0)) := by rw [e82]; exact lk_ne (ad_ne k73 k78 dx_io) k73
  have k84 : w81 q17 = some (aI G 600 (fun _ => 0)) := by rw [e82]; exact lk_ne (ad_ne k74 k78 dx_io) k74
  have k85 : w81 q26 = some (aI G 600 (fun _ => 0)) := by rw [e82]; exact lk_ne (ad_ne k75 k78 dx_io) k75
  have k86 : w81 q35 = some (aI G 600 (fun _ => 0)) := by rw [e82]; exact lk_ne (ad_ne k76 k78 dx_io) k76
  have k87 : w81 q44 = some (aI G 7200 (fun _ => 0)) := by rw [e82]; exact lk_ne (ad_ne k77 k78 dx_io) k77
  have k88 : w81 q53 = some (aI G 600 (fun _ => 0)) := by rw [e82]; exact lk_ne (ad_ne k79 k78 dx_io) k79
  have k89 : w81 mo = some (cMo (some q8) (some q17) (some q26) (some q35) (some q44) (some q53) none none 0 0 none 0 0 none 0 none) := by rw [e82]; exact up_eq
  refine f_aload (v := .ref mo) X hl ⟨_, rfl, dX5_init_58⟩ rfl ⟨(some mo), rfl⟩ ?_
  refine lv_sipush (v := 600) X.1 X.2.1 dX5_init_59 (by decide) ?_
  refine f_newa (ti := 1) X Z rfl (by decide +kernel) rfl (fun _ h => by cases h) rfl (by decide) rfl (by decide) (Nat.le_of_ble_eq_true rfl) (Nat.le_of_ble_eq_true rfl) dX5_init_62 (fun q62 H w91 hq62 e92 Z => ?_)
  have e92 : w91 = va_up w81 q62 (some (aZ G 600 (fun _ => 0))) := e92
  have n_mo_q62 : mo ≠ q62 := ad_new k89 hq62
  have n_q8_q62 : q8 ≠ q62 := ad_new k83 hq62
  have n_q17_q62 : q17 ≠ q62 := ad_new k84 hq62
  have n_q26_q62 : q26 ≠ q62 := ad_new k85 hq62
  have n_q35_q62 : q35 ≠ q62 := ad_new k86 hq62
  have n_q44_q62 : q44 ≠ q62 := ad_new k87 hq62
  have n_q53_q62 : q53 ≠ q62 := ad_new k88 hq62
  have b_q62 : w q62 = none := Fr2.back fr90 hq62
  have fr101 : Fr2 w tg w91 (va_up (va_up (va_up (va_up (va_up (va_up (va_up tg q8 (11, 0)) q17 (12, 0)) q26 (13, 0)) q35 (14, 0)) q44 (15, 0)) q53 (16, 0)) q62 (17, 0)) := by rw [e92]; exact Fr2.new fr90 b_q62
  have k93 : w91 q8 = some (aI G 600 (fun _ => 0)) := by rw [e92]; exact lk_ne (ad_new k83 hq62) k83
  have k94 : w91 q17 = some (aI G 600 (fun _ => 0)) := by rw [e92]; exact lk_ne (ad_new k84 hq62) k84
  have k95 : w91 q26 = some (aI G 600 (fun _ => 0)) := by rw [e92]; exact lk_ne (ad_new k85 hq62) k85
  have k96 : w91 q35 = some (aI G 600 (fun _ => 0)) := by rw [e92]; exact lk_ne (ad_new k86 hq62) k86
  have k97 : w91 q44 = some (aI G 7200 (fun _ => 0)) := by rw [e92]; exact lk_ne (ad_new k87 hq62) k87
  have k98 : w91 q53 = some (aI G 600 (fun _ => 0)) := by rw [e92]; exact lk_ne (ad_new k88 hq62) k88
  have k99 : w91 mo = some (cMo (some q8) (some q17) (some q26) (some q35) (some q44) (some q53) none none 0 0 none 0 0 none 0 none) := by rw [e92]; exact lk_ne (ad_new k89 hq62) k89
  have k100 : w91 q62 = some (aZ G 600 (fun _ => 0)) := by rw [e92]; exact up_eq
  refine f_putF (v := .ref q62) (ty0 := tyX5) (k := 6) X Z i5 tyX5_ok nmX5 rfl (by decide) (by decide +kernel) rfl hnm rfl dX5_init_64 k99 (nr_a _ (some q62)) (ft_a _ (some q62)) (Nat.le_of_ble_eq_true rfl) (fun H locs w102 e103 Z => ?_)
  have e103 : w102 = va_up w91 mo (some (cMo (some q8) (some q17) (some q26) (some q35) (some q44) (some q53) (some q62) none 0 0 none 0 0 none 0 none)) := e103
  have fr112 : Fr2 w tg w102 (va_up (va_up (va_up (va_up (va_up (va_up (va_up tg q8 (11, 0)) q17 (12, 0)) q26 (13, 0)) q35 (14, 0)) q44 (15, 0)) q53 (16, 0)) q62 (17, 0)) := by rw [e103]; exact Fr2.put fr101 0 (by simp [va_up, n_mo_q8, n_mo_q17, n_mo_q26, n_mo_q35, n_mo_q44, n_mo_q53, n_mo_q62, hg])
  have k104 : w102 q8 = some (aI G 600 (fun _ => 0)) := by rw [e103]; exact lk_ne (ad_ne k93 k99 dx_io) k93
  have k105 : w102 q17 = some (aI G 600 (fun _ => 0)) := by rw [e103]; exact lk_ne (ad_ne k94 k99 dx_io) k94
  have k106 : w102 q26 = some (aI G 600 (fun _ => 0)) := by rw [e103]; exact lk_ne (ad_ne k95 k99 dx_io) k95
  have k107 : w102 q35 = some (aI G 600 (fun _ => 0)) := by rw [e103]; exact lk_ne (ad_ne k96 k99 dx_io) k96
  have k108 : w102 q44 = some (aI G 7200 (fun _ => 0)) := by rw [e103]; exact lk_ne (ad_ne k97 k99 dx_io) k97
  have k109 : w102 q53 = some (aI G 600 (fun _ => 0)) := by rw [e103]; exact lk_ne (ad_ne k98 k99 dx_io) k98
  have k110 : w102 q62 = some (aZ G 600 (fun _ => 0)) := by rw [e103]; exact lk_ne (ad_ne k100 k99 dx_io) k100
  have k111 : w102 mo = some (cMo (some q8) (some q17) (some q26) (some q35) (some q44) (some q53) (some q62) none 0 0 none 0 0 none 0 none) := by rw [e103]; exact up_eq
  refine f_aload (v := .ref mo) X hl ⟨_, rfl, dX5_init_67⟩ rfl ⟨(some mo), rfl⟩ ?_
  refine lv_bipush (v := 6) X.1 X.2.1 dX5_init_68 (by decide) ?_
  refine f_newa (ti := 0) X Z rfl (by decide +kernel) rfl (fun _ h => by cases h) rfl (by decide) rfl (by decide) (Nat.le_of_ble_eq_true rfl) (Nat.le_of_ble_eq_true rfl) dX5_init_70 (fun q70 H w113 hq70 e114 Z => ?_)
  have e114 : w113 = va_up w102 q70 (some (aI G 6 (fun _ => 0))) := e114
  have n_mo_q70 : mo ≠ q70 := ad_new k111 hq70
  have n_q8_q70 : q8 ≠ q70 := ad_new k104 hq70
  have n_q17_q70 : q17 ≠ q70 := ad_new k105 hq70
  have n_q26_q70 : q26 ≠ q70 := ad_new k106 hq70
  have n_q35_q70 : q35 ≠ q70 := ad_new k107 hq70
  have n_q44_q70 : q44 ≠ q70 := ad_new k108 hq70
  have n_q53_q70 : q53 ≠ q70 := ad_new k109 hq70
  have n_q62_q70 : q62 ≠ q70 := ad_new k110 hq70
  have b_q70 : w q70 = none := Fr2.back fr112 hq70
  have fr124 : Fr2 w tg w113 (va_up (va_up (va_up (va_up (va_up (va_up (va_up (va_up tg q8 (11, 0)) q17 (12, 0)) q26 (13, 0)) q35 (14, 0)) q44 (15, 0)) q53 (16, 0)) q62 (17, 0)) q70 (18, 0)) := by rw [e114]; exact Fr2.new fr112 b_q70
  have k115 : w113 q8 = some (aI G 600 (fun _ => 0)) := by rw [e114]; exact lk_ne (ad_new k104 hq70) k104
  have k116 : w113 q17 = some (aI G 600 (fun _ => 0)) := by rw [e114]; exact lk_ne (ad_new k105 hq70) k105
  have k117 : w113 q26 = some (aI G 600 (fun _ => 0)) := by rw [e114]; exact lk_ne (ad_new k106 hq70) k106
  have k118 : w113 q35 = some (aI G 600 (fun _ => 0)) := by rw [e114]; exact lk_ne (ad_new k107 hq70) k107
  have k119 : w113 q44 = some (aI G 7200 (fun _ => 0)) := by rw [e114]; exact lk_ne (ad_new k108 hq70) k108
  have k120 : w113 q53 = some (aI G 600 (fun _ => 0)) := by rw [e114]; exact lk_ne (ad_new k109 hq70) k109
  have k121 : w113 q62 = some (aZ G 600 (fun _ => 0)) := by rw [e114]; exact lk_ne (ad_new k110 hq70) k110
  have k122 : w113 mo = some (cMo (some q8) (some q17) (some q26) (some q35) (some q44) (some q53) (some q62) none 0 0 none 0 0 none 0 none) := by rw [e114]; exact lk_ne (ad_new k111 hq70) k111
  have k123 : w113 q70 = some (aI G 6 (fun _ => 0)) := by rw [e114]; exact up_eq
  refine lv_dup X.1 X.2.1 dX5_init_72 rfl ?_
  refine lv_iconst (v := 0) X.1 X.2.1 dX5_init_73 (by decide) ?_
  refine lv_iconst (v := (-1)) X.1 X.2.1 dX5_init_74 (by decide) ?_
  refine f_iast X Z dX5_init_75 k123 (by unfold vp_in; decide) (fun H locs w125 e126 Z => ?_)
  have e126 : w125 = va_up w113 q70 (some (aI G 6 (upd (fun _ => 0) ((0 : Int32).toNatClampNeg) (-1)))) := e126
  have fr136 : Fr2 w tg w125 (va_up (va_up (va_up (va_up (va_up (va_up (va_up (va_up tg q8 (11, 0)) q17 (12, 0)) q26 (13, 0)) q35 (14, 0)) q44 (15, 0)) q53 (16, 0)) q62 (17, 0)) q70 (18, 0)) := by rw [e126]; exact Fr2.put fr124 8 (by simp [va_up, hg])
  have k127 : w125 q8 = some (aI G 600 (fun _ => 0)) := by rw [e126]; exact lk_ne n_q8_q70 k115
  have k128 : w125 q17 = some (aI G 600 (fun _ => 0)) := by rw [e126]; exact lk_ne n_q17_q70 k116
  have k129 : w125 q26 = some (aI G 600 (fun _ => 0)) := by rw [e126]; exact lk_ne n_q26_q70 k117
  have k130 : w125 q35 = some (aI G 600 (fun _ => 0)) := by rw [e126]; exact lk_ne n_q35_q70 k118
  have k131 : w125 q44 = some (aI G 7200 (fun _ => 0)) := by rw [e126]; exact lk_ne n_q44_q70 k119
  have k132 : w125 q53 = some (aI G 600 (fun _ => 0)) := by rw [e126]; exact lk_ne n_q53_q70 k120
  have k133 : w125 q62 = some (aZ G 600 (fun _ => 0)) := by rw [e126]; exact lk_ne n_q62_q70 k121
  have k134 : w125 mo = some (cMo (some q8) (some q17) (some q26) (some q35) (some q44) (some q53) (some q62) none 0 0 none 0 0 none 0 none) := by rw [e126]; exact lk_ne (ad_ne k122 k123 dx_oi) k122
  have k135 : w125 q70 = some (aI G 6 (upd (fun _ => 0) ((0 : Int32).toNatClampNeg) (-1))) := by rw [e126]; exact up_eq
  refine lv_dup X.1 X.2.1 dX5_init_76 rfl ?_
  refine lv_iconst (v := 1) X.1 X.2.1 dX5_init_77 (by decide) ?_
  refine lv_iconst (v := (-1)) X.1 X.2.1 dX5_init_78 (by decide) ?_
  refine f_iast X Z dX5_init_79 k135 (by unfold vp_in; decide) (fun H locs w137 e138 Z => ?_)
  have e138 : w137 = va_up w125 q70 (some (aI G 6 (upd (upd (fun _ => 0) ((0 : Int32).toNatClampNeg) (-1)) ((1 : Int32).toNatClampNeg) (-1)))) := e138
  have fr148 : Fr2 w tg w137 (va_up (va_up (va_up (va_up (va_up (va_up (va_up (va_up tg q8 (11, 0)) q17 (12, 0)) q26 (13, 0)) q35 (14, 0)) q44 (15, 0)) q53 (16, 0)) q62 (17, 0)) q70 (18, 0)) := by rw [e138]; exact Fr2.put fr136 8 (by simp [va_up, hg])
  have k139 : w137 q8 = some (aI G 600 (fun _ => 0)) := by rw [e138]; exact lk_ne n_q8_q70 k127
  have k140 : w137 q17 = some (aI G 600 (fun _ => 0)) := by rw [e138]; exact lk_ne n_q17_q70 k128
  have k141 : w137 q26 = some (aI G 600 (fun _ => 0)) := by rw [e138]; exact lk_ne n_q26_q70 k129
  have k142 : w137 q35 = some (aI G 600 (fun _ => 0)) := by rw [e138]; exact lk_ne n_q35_q70 k130
  have k143 : w137 q44 = some (aI G 7200 (fun _ => 0)) := by rw [e138]; exact lk_ne n_q44_q70 k131
  have k144 : w137 q53 = some (aI G 600 (fun _ => 0)) := by rw [e138]; exact lk_ne n_q53_q70 k132
  have k145 : w137 q62 = some (aZ G 600 (fun _ => 0)) := by rw [e138]; exact lk_ne n_q62_q70 k133
  have k146 : w137 mo = some (cMo (some q8) (some q17) (some q26) (some q35) (some q44) (some q53) (some q62) none 0 0 none 0 0 none 0 none) := by rw [e138]; exact lk_ne (ad_ne k134 k135 dx_oi) k134
  have k147 : w137 q70 = some (aI G 6 (upd (upd (fun _ => 0) ((0 : Int32).toNatClampNeg) (-1)) ((1 : Int32).toNatClampNeg) (-1))) := by rw [e138]; exact up_eq
  refine lv_dup X.1 X.2.1 dX5_init_80 rfl ?_
  refine lv_iconst (v := 2) X.1 X.2.1 dX5_init_81 (by decide) ?_
  refine lv_iconst (v := (-1)) X.1 X.2.1 dX5_init_82 (by decide) ?_
  refine f_iast X Z dX5_init_83 k147 (by unfold vp_in; decide) (fun H locs w149 e150 Z => ?_)
  have e150 : w149 = va_up w137 q70 (some (aI G 6 (upd (upd (upd (fun _ => 0) ((0 : Int32).toNatClampNeg) (-1)) ((1 : Int32).toNatClampNeg) (-1)) ((2 : Int32).toNatClampNeg) (-1)))) := e150
  have fr160 : Fr2 w tg w149 (va_up (va_up (va_up (va_up (va_up (va_up (va_up (va_up tg q8 (11, 0)) q17 (12, 0)) q26 (13, 0)) q35 (14, 0)) q44 (15, 0)) q53 (16, 0)) q62 (17, 0)) q70 (18, 0)) := by rw [e150]; exact Fr2.put fr148 8 (by simp [va_up, hg])
  have k151 : w149 q8 = some (aI G 600 (fun _ => 0)) := by rw [e150]; exact lk_ne n_q8_q70 k139
  have k152 : w149 q17 = some (aI G 600 (fun _ => 0)) := by rw [e150]; exact lk_ne n_q17_q70 k140
  have k153 : w149 q26 = some (aI G 600 (fun _ => 0)) := by rw [e150]; exact lk_ne n_q26_q70 k141
  have k154 : w149 q35 = some (aI G 600 (fun _ => 0)) := by rw [e150]; exact lk_ne n_q35_q70 k142
  have k155 : w149 q44 = some (aI G 7200 (fun _ => 0)) := by rw [e150]; exact lk_ne n_q44_q70 k143
  have k156 : w149 q53 = some (aI G 600 (fun _ => 0)) := by rw [e150]; exact lk_ne n_q53_q70 k144
  have k157 : w149 q62 = some (aZ G 600 (fun _ => 0)) := by rw [e150]; exact lk_ne n_q62_q70 k145
  have k158 : w149 mo = some (cMo (some q8) (some q17) (some q26) (some q35) (some q44) (some q53) (some q62) none 0 0 none 0 0 none 0 none) := by rw [e150]; exact lk_ne (ad_ne k146 k147 dx_oi) k146
  have k159 : w149 q70 = some (aI G 6 (upd (upd (upd (fun _ => 0) ((0 : Int32).toNatClampNeg) (-1)) ((1 : Int32).toNatClampNeg) (-1)) ((2 : Int32).toNatClampNeg) (-1))) := by rw [e150]; exact up_eq
  refine lv_dup X.1 X.2.1 dX5_init_84 rfl ?_
  refine lv_iconst (v := 3) X.1 X.2.1 dX5_init_85 (by decide) ?_
  refine lv_iconst (v := (-1)) X.1 X.2.1 dX5_init_86 (by decide) ?_
  refine f_iast X Z dX5_init_87 k159 (by unfold vp_in; decide) (fun H locs w161 e162 Z => ?_)
  have e162 : w161 = va_up w149 q70 (some (aI G 6 (upd (upd (upd (upd (fun _ => 0) ((0 : Int32).toNatClampNeg) (-1)) ((1 : Int32).toNatClampNeg) (-1)) ((2 : Int32).toNatClampNeg) (-1)) ((3 : Int32).toNatClampNeg) (-1)))) := e162
  have fr172 : Fr2 w tg w161 (va_up (va_up (va_up (va_up (va_up (va_up (va_up (va_up tg q8 (11, 0)) q17 (12, 0)) q26 (13, 0)) q35 (14, 0)) q44 (15, 0)) q53 (16, 0)) q62 (17, 0)) q70 (18, 0)) := by rw [e162]; exact Fr2.put fr160 8 (by simp [va_up, hg])
  have k163 : w161 q8 = some (aI G 600 (fun _ => 0)) := by rw [e162]; exact lk_ne n_q8_q70 k151
  have k164 : w161 q17 = some (aI G 600 (fun _ => 0)) := by rw [e162]; exact lk_ne n_q17_q70 k152
  have k165 : w161 q26 = some (aI G 600 (fun _ => 0)) := by rw [e162]; exact lk_ne n_q26_q70 k153
  have k166 : w161 q35 = some (aI G 600 (fun _ => 0)) := by rw [e162]; exact lk_ne n_q35_q70 k154
  have k167 : w161 q44 = some (aI G 7200 (fun _ => 0)) := by rw [e162]; exact lk_ne n_q44_q70 k155
  have k168 : w161 q53 = some (aI G 600 (fun _ => 0)) := by rw [e162]; exact lk_ne n_q53_q70 k156
  have k169 : w161 q62 = some (aZ G 600 (fun _ => 0)) := by rw [e162]; exact lk_ne n_q62_q70 k157
  have k170 : w161 mo = some (cMo (some q8) (some q17) (some q26) (some q35) (some q44) (some q53) (some q62) none 0 0 none 0 0 none 0 none) := by rw [e162]; exact lk_ne (ad_ne k158 k159 dx_oi) k158
  have k171 : w161 q70 = some (aI G 6 (upd (upd (upd (upd (fun _ => 0) ((0 : Int32).toNatClampNeg) (-1)) ((1 : Int32).toNatClampNeg) (-1)) ((2 : Int32).toNatClampNeg) (-1)) ((3 : Int32).toNatClampNeg) (-1))) := by rw [e162]; exact up_eq
  refine lv_dup X.1 X.2.1 dX5_init_88 rfl ?_
  refine lv_iconst (v := 4) X.1 X.2.1 dX5_init_89 (by decide) ?_
  refine lv_iconst (v := (-1)) X.1 X.2.1 dX5_init_90 (by decide) ?_
  refine f_iast X Z dX5_init_91 k171 (by unfold vp_in; decide) (fun H locs w173 e174 Z => ?_)
  have e174 : w173 = va_up w161 q70 (some (aI G 6 (upd (upd (upd (upd (upd (fun _ => 0) ((0 : Int32).toNatClampNeg) (-1)) ((1 : Int32).toNatClampNeg) (-1)) ((2 : Int32).toNatClampNeg) (-1)) ((3 : Int32).toNatClampNeg) (-1)) ((4 : Int32).toNatClampNeg) (-1)))) := e174
  have fr184 : Fr2 w tg w173 (va_up (va_up (va_up (va_up (va_up (va_up (va_up (va_up tg q8 (11, 0)) q17 (12, 0)) q26 (13, 0)) q35 (14, 0)) q44 (15, 0)) q53 (16, 0)) q62 (17, 0)) q70 (18, 0)) := by rw [e174]; exact Fr2.put fr172 8 (by simp [va_up, hg])
  have k175 : w173 q8 = some (aI G 600 (fun _ => 0)) := by rw [e174]; exact lk_ne n_q8_q70 k163
  have k176 : w173 q17 = some (aI G 600 (fun _ => 0)) := by rw [e174]; exact lk_ne n_q17_q70 k164
  have k177 : w173 q26 = some (aI G 600 (fun _ => 0)) := by rw [e174]; exact lk_ne n_q26_q70 k165
  have k178 : w173 q35 = some (aI G 600 (fun _ => 0)) := by rw [e174]; exact lk_ne n_q35_q70 k166
  have k179 : w173 q44 = some (aI G 7200 (fun _ => 0)) := by rw [e174]; exact lk_ne n_q44_q70 k167
  have k180 : w173 q53 = some (aI G 600 (fun _ => 0)) := by rw [e174]; exact lk_ne n_q53_q70 k168
  have k181 : w173 q62 = some (aZ G 600 (fun _ => 0)) := by rw [e174]; exact lk_ne n_q62_q70 k169
  have k182 : w173 mo = some (cMo (some q8) (some q17) (some q26) (some q35) (some q44) (some q53) (some q62) none 0 0 none 0 0 none 0 none) := by rw [e174]; exact lk_ne (ad_ne k170 k171 dx_oi) k170
  have k183 : w173 q70 = some (aI G 6 (upd (upd (upd (upd (upd (fun _ => 0) ((0 : Int32).toNatClampNeg) (-1)) ((1 : Int32).toNatClampNeg) (-1)) ((2 : Int32).toNatClampNeg) (-1)) ((3 : Int32).toNatClampNeg) (-1)) ((4 : Int32).toNatClampNeg) (-1))) := by rw [e174]; exact up_eq
  refine lv_dup X.1 X.2.1 dX5_init_92 rfl ?_
  refine lv_iconst (v := 5) X.1 X.2.1 dX5_init_93 (by decide) ?_
  refine lv_iconst (v := (-1)) X.1 X.2.1 dX5_init_94 (by decide) ?_
  refine f_iast X Z dX5_init_95 k183 (by unfold vp_in; decide) (fun H locs w185 e186 Z => ?_)
  have e186 : w185 = va_up w173 q70 (some (aI G 6 (upd (upd (upd (upd (upd (upd (fun _ => 0) ((0 : Int32).toNatClampNeg) (-1)) ((1 : Int32).toNatClampNeg) (-1)) ((2 : Int32).toNatClampNeg) (-1)) ((3 : Int32).toNatClampNeg) (-1)) ((4 : Int32).toNatClampNeg) (-1)) ((5 : Int32).toNatClampNeg) (-1)))) := e186
  have fr196 : Fr2 w tg w185 (va_up (va_up (va_up (va_up (va_up (va_up (va_up (va_up tg q8 (11, 0)) q17 (12, 0)) q26 (13, 0)) q35 (14, 0)) q44 (15, 0)) q53 (16, 0)) q62 (17, 0)) q70 (18, 0)) := by rw [e186]; exact Fr2.put fr184 8 (by simp [va_up, hg])
  have k187 : w185 q8 = some (aI G 600 (fun _ => 0)) := by rw [e186]; exact lk_ne n_q8_q70 k175
  have k188 : w185 q17 = some (aI G 600 (fun _ => 0)) := by rw [e186]; exact lk_ne n_q17_q70 k176
  have k189 : w185 q26 = some (aI G 600 (fun _ => 0)) := by rw [e186]; exact lk_ne n_q26_q70 k177
  have k190 : w185 q35 = some (aI G 600 (fun _ => 0)) := by rw [e186]; exact lk_ne n_q35_q70 k178
  have k191 : w185 q44 = some (aI G 7200 (fun _ => 0)) := by rw [e186]; exact lk_ne n_q44_q70 k179
  have k192 : w185 q53 = some (aI G 600 (fun _ => 0)) := by rw [e186]; exact lk_ne n_q53_q70 k180
  have k193 : w185 q62 = some (aZ G 600 (fun _ => 0)) := by rw [e186]; exact lk_ne n_q62_q70 k181
  have k194 : w185 mo = some (cMo (some q8) (some q17) (some q26) (some q35) (some q44) (some q53) (some q62) none 0 0 none 0 0 none 0 none) := by rw [e186]; exact lk_ne (ad_ne k182 k183 dx_oi) k182
  have k195 : w185 q70 = some (aI G 6 (upd (upd (upd (upd (upd (upd (fun _ => 0) ((0 : Int32).toNatClampNeg) (-1)) ((1 : Int32).toNatClampNeg) (-1)) ((2 : Int32).toNatClampNeg) (-1)) ((3 : Int32).toNatClampNeg) (-1)) ((4 : Int32).toNatClampNeg) (-1)) ((5 : Int32).toNatClampNeg) (-1))) := by rw [e186]; exact up_eq
  refine f_putF (v := .ref q70) (ty0 := tyX5) (k := 7) X Z i5 tyX5_ok nmX5 rfl (by decide) (by decide +kernel) rfl hnm rfl dX5_init_96 k194 (nr_a _ (some q70)) (ft_a _ (some q70)) (Nat.le_of_ble_eq_true rfl) (fun H locs w197 e198 Z => ?_)
  have e198 : w197 = va_up w185 mo (some (cMo (some q8) (some q17) (some q26) (some q35) (some q44) (some q53) (some q62) (some q70) 0 0 none 0 0 none 0 none)) := e198
  have fr208 : Fr2 w tg w197 (va_up (va_up (va_up (va_up (va_up (va_up (va_up (va_up tg q8 (11, 0)) q17 (12, 0)) q26 (13, 0)) q35 (14, 0)) q44 (15, 0)) q53 (16, 0)) q62 (17, 0)) q70 (18, 0)) := by rw [e198]; exact Fr2.put fr196 0 (by simp [va_up, n_mo_q8, n_mo_q17, n_mo_q26, n_mo_q35, n_mo_q44, n_mo_q53, n_mo_q62, n_mo_q70, hg])
  have k199 : w197 q8 = some (aI G 600 (fun _ => 0)) := by rw [e198]; exact lk_ne (ad_ne k187 k194 dx_io) k187
  have k200 : w197 q17 = some (aI G 600 (fun _ => 0)) := by rw [e198]; exact lk_ne (ad_ne k188 k194 dx_io) k188
  have k201 : w197 q26 = some (aI G 600 (fun _ => 0)) := by rw [e198]; exact lk_ne (ad_ne k189 k194 dx_io) k189
  have k202 : w197 q35 = some (aI G 600 (fun _ => 0)) := by rw [e198]; exact lk_ne (ad_ne k190 k194 dx_io) k190
  have k203 : w197 q44 = some (aI G 7200 (fun _ => 0)) := by rw [e198]; exact lk_ne (ad_ne k191 k194 dx_io) k191
  have k204 : w197 q53 = some (aI G 600 (fun _ => 0)) := by rw [e198]; exact lk_ne (ad_ne k192 k194 dx_io) k192
  have k205 : w197 q62 = some (aZ G 600 (fun _ => 0)) := by rw [e198]; exact lk_ne (ad_ne k193 k194 dx_io) k193
  have k206 : w197 q70 = some (aI G 6 (upd (upd (upd (upd (upd (upd (fun _ => 0) ((0 : Int32).toNatClampNeg) (-1)) ((1 : Int32).toNatClampNeg) (-1)) ((2 : Int32).toNatClampNeg) (-1)) ((3 : Int32).toNatClampNeg) (-1)) ((4 : Int32).toNatClampNeg) (-1)) ((5 : Int32).toNatClampNeg) (-1))) := by rw [e198]; exact lk_ne (ad_ne k195 k194 dx_io) k195
  have k207 : w197 mo = some (cMo (some q8) (some q17) (some q26) (some q35) (some q44) (some q53) (some q62) (some q70) 0 0 none 0 0 none 0 none) := by rw [e198]; exact up_eq
  refine f_aload (v := .ref mo) X hl ⟨_, rfl, dX5_init_99⟩ rfl ⟨(some mo), rfl⟩ ?_
  refine lv_iconst (v := (-1)) X.1 X.2.1 dX5_init_100 (by decide) ?_
  refine f_put (v := .int (-1)) (ty0 := tyX5) (k := 8) X Z i5 tyX5_ok nmX5 rfl (by decide) (by decide +kernel) rfl dX5_init_101 k207 rfl rfl (Nat.le_of_ble_eq_true rfl) (fun H locs w209 e210 Z => ?_)
  have e210 : w209 = va_up w197 mo (some (cMo (some q8) (some q17) (some q26) (some q35) (some q44) (some q53) (some q62) (some q70) (-1) 0 none 0 0 none 0 none)) := e210
  have fr220 : Fr2 w tg w209 (va_up (va_up (va_up (va_up (va_up (va_up (va_up (va_up tg q8 (11, 0)) q17 (12, 0)) q26 (13, 0)) q35 (14, 0)) q44 (15, 0)) q53 (16, 0)) q62 (17, 0)) q70 (18, 0)) := by rw [e210]; exact Fr2.put fr208 0 (by simp [va_up, n_mo_q8, n_mo_q17, n_mo_q26, n_mo_q35, n_mo_q44, n_mo_q53, n_mo_q62, n_mo_q70, hg])
  have k211 : w209 q8 = some (aI G 600 (fun _ => 0)) := by rw [e210]; exact lk_ne (ad_ne k199 k207 dx_io) k199
  have k212 : w209 q17 = some (aI G 600 (fun _ => 0)) := by rw [e210]; exact lk_ne (ad_ne k200 k207 dx_io) k200
  have k213 : w209 q26 = some (aI G 600 (fun _ => 0)) := by rw [e210]; exact lk_ne (ad_ne k201 k207 dx_io) k201
  have k214 : w209 q35 = some (aI G 600 (fun _ => 0)) := by rw [e210]; exact lk_ne (ad_ne k202 k207 dx_io) k202
  have k215 : w209 q44 = some (aI G 7200 (fun _ => 0)) := by rw [e210]; exact lk_ne (ad_ne k203 k207 dx_io) k203
  have k216 : w209 q53 = some (aI G 600 (fun _ => 0)) := by rw [e210]; exact lk_ne (ad_ne k204 k207 dx_io) k204
  have k217 : w209 q62 = some (aZ G 600 (fun _ => 0)) := by rw [e210]; exact lk_ne (ad_ne k205 k207 dx_io) k205
  have k218 : w209 q70 = some (aI G 6 (upd (upd (upd (upd (upd (upd (fun _ => 0) ((0 : Int32).toNatClampNeg) (-1)) ((1 : Int32).toNatClampNeg) (-1)) ((2 : Int32).toNatClampNeg) (-1)) ((3 : Int32).toNatClampNeg) (-1)) ((4 : Int32).toNatClampNeg) (-1)) ((5 : Int32).toNatClampNeg) (-1))) := by rw [e210]; exact lk_ne (ad_ne k206 k207 dx_io) k206
  have k219 : w209 mo = some (cMo (some q8) (some q17) (some q26) (some q35) (some q44) (some q53) (some q62) (some q70) (-1) 0 none 0 0 none 0 none) := by rw [e210]; exact up_eq
  refine f_aload (v := .ref mo) X hl ⟨_, rfl, dX5_init_104⟩ rfl ⟨(some mo), rfl⟩ ?_
  refine lv_bipush (v := 12) X.1 X.2.1 dX5_init_105 (by decide) ?_
  refine f_newa (ti := 0) X Z rfl (by decide +kernel) rfl (fun _ h => by cases h) rfl (by decide) rfl (by decide) (Nat.le_of_ble_eq_true rfl) (Nat.le_of_ble_eq_true rfl) dX5_init_107 (fun q107 H w221 hq107 e222 Z => ?_)
  have e222 : w221 = va_up w209 q107 (some (aI G 12 (fun _ => 0))) := e222
  have n_mo_q107 : mo ≠ q107 := ad_new k219 hq107
  have n_q8_q107 : q8 ≠ q107 := ad_new k211 hq107
  have n_q17_q107 : q17 ≠ q107 := ad_new k212 hq107
  have n_q26_q107 : q26 ≠ q107 := ad_new k213 hq107
  have n_q35_q107 : q35 ≠ q107 := ad_new k214 hq107
  have n_q44_q107 : q44 ≠ q107 := ad_new k215 hq107
  have n_q53_q107 : q53 ≠ q107 := ad_new k216 hq107
  have n_q62_q107 : q62 ≠ q107 := ad_new k217 hq107
  have n_q70_q107 : q70 ≠ q107 := ad_new k218 hq107
  have b_q107 : w q107 = none := Fr2.back fr220 hq107
  have fr233 : Fr2 w tg w221 (va_up (va_up (va_up (va_up (va_up (va_up (va_up (va_up (va_up tg q8 (11, 0)) q17 (12, 0)) q26 (13, 0)) q35 (14, 0)) q44 (15, 0)) q53 (16, 0)) q62 (17, 0)) q70 (18, 0)) q107 (19, 0)) := by rw [e222]; exact Fr2.new fr220 b_q107
  have k223 : w221 q8 = some (aI G 600 (fun _ => 0)) := by rw [e222]; exact lk_ne (ad_new k211 hq107) k211
  have k224 : w221 q17 = some (aI G 600 (fun _ => 0)) := by rw [e222]; exact lk_ne (ad_new k212 hq107) k212
  have k225 : w221 q26 = some (aI G 600 (fun _ => 0)) := by rw [e222]; exact lk_ne (ad_new k213 hq107) k213
  have k226 : w221 q35 = some (aI G 600 (fun _ => 0)) := by rw [e222]; exact lk_ne (ad_new k214 hq107) k214
  have k227 : w221 q44 = some (aI G 7200 (fun _ => 0)) := by rw [e222]; exact lk_ne (ad_new k215 hq107) k215
  have k228 : w221 q53 = some (aI G 600 (fun _ => 0)) := by rw [e222]; exact lk_ne (ad_new k216 hq107) k216
  have k229 : w221 q62 = some (aZ G 600 (fun _ => 0)) := by rw [e222]; exact lk_ne (ad_new k217 hq107) k217
  have k230 : w221 q70 = some (aI G 6 (upd (upd (upd (upd (upd (upd (fun _ => 0) ((0 : Int32).toNatClampNeg) (-1)) ((1 : Int32).toNatClampNeg) (-1)) ((2 : Int32).toNatClampNeg) (-1)) ((3 : Int32).toNatClampNeg) (-1)) ((4 : Int32).toNatClampNeg) (-1)) ((5 : Int32).toNatClampNeg) (-1))) := by rw [e222]; exact lk_ne (ad_new k218 hq107) k218
  have k231 : w221 mo = some (cMo (some q8) (some q17) (some q26) (some q35) (some q44) (some q53) (some q62) (some q70) (-1) 0 none 0 0 none 0 none) := by rw [e222]; exact lk_ne (ad_new k219 hq107) k219
  have k232 : w221 q107 = some (aI G 12 (fun _ => 0)) := by rw [e222]; exact up_eq
  refine f_putF (v := .ref q107) (ty0 := tyX5) (k := 10) X Z i5 tyX5_ok nmX5 rfl (by decide) (by decide +kernel) rfl hnm rfl dX5_init_109 k231 (nr_a _ (some q107)) (ft_a _ (some q107)) (Nat.le_of_ble_eq_true rfl) (fun H locs w234 e235 Z => ?_)
  have e235 : w234 = va_up w221 mo (some (cMo (some q8) (some q17) (some q26) (some q35) (some q44) (some q53) (some q62) (some q70) (-1) 0 (some q107) 0 0 none 0 none)) := e235
  have fr246 : Fr2 w tg w234 (va_up (va_up (va_up (va_up (va_up (va_up (va_up (va_up (va_up tg q8 (11, 0)) q17 (12, 0)) q26 (13, 0)) q35 (14, 0)) q44 (15, 0)) q53 (16, 0)) q62 (17, 0)) q70 (18, 0)) q107 (19, 0)) := by rw [e235]; exact Fr2.put fr233 0 (by simp [va_up, n_mo_q8, n_mo_q17, n_mo_q26, n_mo_q35, n_mo_q44, n_mo_q53, n_mo_q62, n_mo_q70, n_mo_q107, hg])
  have k236 : w234 q8 = some (aI G 600 (fun _ => 0)) := by rw [e235]; exact lk_ne (ad_ne k223 k231 dx_io) k223
  have k237 : w234 q17 = some (aI G 600 (fun _ => 0)) := by rw [e235]; exact lk_ne (ad_ne k224 k231 dx_io) k224
  have k238 : w234 q26 = some (aI G 600 (fun _ => 0)) := by rw [e235]; exact lk_ne (ad_ne k225 k231 dx_io) k225
  have k239 : w234 q35 = some (aI G 600 (fun _ => 0)) := by rw [e235]; exact lk_ne (ad_ne k226 k231 dx_io) k226
  have k240 : w234 q44 = some (aI G 7200 (fun _ => 0)) := by rw [e235]; exact lk_ne (ad_ne k227 k231 dx_io) k227
  have k241 : w234 q53 = some (aI G 600 (fun _ => 0)) := by rw [e235]; exact lk_ne (ad_ne k228 k231 dx_io) k228
  have k242 : w234 q62 = some (aZ G 600 (fun _ => 0)) := by rw [e235]; exact lk_ne (ad_ne k229 k231 dx_io) k229
  have k243 : w234 q70 = some (aI G 6 (upd (upd (upd (upd (upd (upd (fun _ => 0) ((0 : Int32).toNatClampNeg) (-1)) ((1 : Int32).toNatClampNeg) (-1)) ((2 : Int32).toNatClampNeg) (-1)) ((3 : Int32).toNatClampNeg) (-1)) ((4 : Int32).toNatClampNeg) (-1)) ((5 : Int32).toNatClampNeg) (-1))) := by rw [e235]; exact lk_ne (ad_ne k230 k231 dx_io) k230
  have k244 : w234 q107 = some (aI G 12 (fun _ => 0)) := by rw [e235]; exact lk_ne (ad_ne k232 k231 dx_io) k232
  have k245 : w234 mo = some (cMo (some q8) (some q17) (some q26) (some q35) (some q44) (some q53) (some q62) (some q70) (-1) 0 (some q107) 0 0 none 0 none) := by rw [e235]; exact up_eq
  refine f_aload (v := .ref mo) X hl ⟨_, rfl, dX5_init_112⟩ rfl ⟨(some mo), rfl⟩ ?_
  refine lv_iconst (v := (-1)) X.1 X.2.1 dX5_init_113 (by decide) ?_
  refine f_put (v := .int (-1)) (ty0 := tyX5) (k := 11) X Z i5 tyX5_ok nmX5 rfl (by decide) (by decide +kernel) rfl dX5_init_114 k245 rfl rfl (Nat.le_of_ble_eq_true rfl) (fun H locs w247 e248 Z => ?_)
  have e248 : w247 = va_up w234 mo (some (cMo (some q8) (some q17) (some q26) (some q35) (some q44) (some q53) (some q62) (some q70) (-1) 0 (some q107) (-1) 0 none 0 none)) := e248
  have fr259 : Fr2 w tg w247 (va_up (va_up (va_up (va_up (va_up (va_up (va_up (va_up (va_up tg q8 (11, 0)) q17 (12, 0)) q26 (13, 0)) q35 (14, 0)) q44 (15, 0)) q53 (16, 0)) q62 (17, 0)) q70 (18, 0)) q107 (19, 0)) := by rw [e248]; exact Fr2.put fr246 0 (by simp [va_up, n_mo_q8, n_mo_q17, n_mo_q26, n_mo_q35, n_mo_q44, n_mo_q53, n_mo_q62, n_mo_q70, n_mo_q107, hg])
  have k249 : w247 q8 = some (aI G 600 (fun _ => 0)) := by rw [e248]; exact lk_ne (ad_ne k236 k245 dx_io) k236
  have k250 : w247 q17 = some (aI G 600 (fun _ => 0)) := by rw [e248]; exact lk_ne (ad_ne k237 k245 dx_io) k237
  have k251 : w247 q26 = some (aI G 600 (fun _ => 0)) := by rw [e248]; exact lk_ne (ad_ne k238 k245 dx_io) k238
  have k252 : w247 q35 = some (aI G 600 (fun _ => 0)) := by rw [e248]; exact lk_ne (ad_ne k239 k245 dx_io) k239
  have k253 : w247 q44 = some (aI G 7200 (fun _ => 0)) := by rw [e248]; exact lk_ne (ad_ne k240 k245 dx_io) k240
  have k254 : w247 q53 = some (aI G 600 (fun _ => 0)) := by rw [e248]; exact lk_ne (ad_ne k241 k245 dx_io) k241
  have k255 : w247 q62 = some (aZ G 600 (fun _ => 0)) := by rw [e248]; exact lk_ne (ad_ne k242 k245 dx_io) k242
  have k256 : w247 q70 = some (aI G 6 (upd (upd (upd (upd (upd (upd (fun _ => 0) ((0 : Int32).toNatClampNeg) (-1)) ((1 : Int32).toNatClampNeg) (-1)) ((2 : Int32).toNatClampNeg) (-1)) ((3 : Int32).toNatClampNeg) (-1)) ((4 : Int32).toNatClampNeg) (-1)) ((5 : Int32).toNatClampNeg) (-1))) := by rw [e248]; exact lk_ne (ad_ne k243 k245 dx_io) k243
  have k257 : w247 q107 = some (aI G 12 (fun _ => 0)) := by rw [e248]; exact lk_ne (ad_ne k244 k245 dx_io) k244
  have k258 : w247 mo = some (cMo (some q8) (some q17) (some q26) (some q35) (some q44) (some q53) (some q62) (some q70) (-1) 0 (some q107) (-1) 0 none 0 none) := by rw [e248]; exact up_eq
  refine f_aload (v := .ref mo) X hl ⟨_, rfl, dX5_init_117⟩ rfl ⟨(some mo), rfl⟩ ?_
  refine lv_sipush (v := 144) X.1 X.2.1 dX5_init_118 (by decide) ?_
  refine f_newa (ti := 0) X Z rfl (by decide +kernel) rfl (fun _ h => by cases h) rfl (by decide) rfl (by decide) (Nat.le_of_ble_eq_true rfl) (Nat.le_of_ble_eq_true rfl) dX5_init_121 (fun q121 H w260 hq121 e261 Z => ?_)
  have e261 : w260 = va_up w247 q121 (some (aI G 144 (fun _ => 0))) := e261
  have n_mo_q121 : mo ≠ q121 := ad_new k258 hq121
  have n_q8_q121 : q8 ≠ q121 := ad_new k249 hq121
  have n_q17_q121 : q17 ≠ q121 := ad_new k250 hq121
  have n_q26_q121 : q26 ≠ q121 := ad_new k251 hq121
  have n_q35_q121 : q35 ≠ q121 := ad_new k252 hq121
  have n_q44_q121 : q44 ≠ q121 := ad_new k253 hq121
  have n_q53_q121 : q53 ≠ q121 := ad_new k254 hq121
  have n_q62_q121 : q62 ≠ q121 := ad_new k255 hq121
  have n_q70_q121 : q70 ≠ q121 := ad_new k256 hq121
  have n_q107_q121 : q107 ≠ q121 := ad_new k257 hq121
  have b_q121 : w q121 = none := Fr2.back fr259 hq121
  have fr273 : Fr2 w tg w260 (va_up (va_up (va_up (va_up (va_up (va_up (va_up (va_up (va_up (va_up tg q8 (11, 0)) q17 (12, 0)) q26 (13, 0)) q35 (14, 0)) q44 (15, 0)) q53 (16, 0)) q62 (17, 0)) q70 (18, 0)) q107 (19, 0)) q121 (20, 0)) := by rw [e261]; exact Fr2.new fr259 b_q121
  have k262 : w260 q8 = some (aI G 600 (fun _ => 0)) := by rw [e261]; exact lk_ne (ad_new k249 hq121) k249
  have k263 : w260 q17 = some (aI G 600 (fun _ => 0)) := by rw [e261]; exact lk_ne (ad_new k250 hq121) k250
  have k264 : w260 q26 = some (aI G 600 (fun _ => 0)) := by rw [e261]; exact lk_ne (ad_new k251 hq121) k251
  have k265 : w260 q35 = some (aI G 600 (fun _ => 0)) := by rw [e261]; exact lk_ne (ad_new k252 hq121) k252
  have k266 : w260 q44 = some (aI G 7200 (fun _ => 0)) := by rw [e261]; exact lk_ne (ad_new k253 hq121) k253
  have k267 : w260 q53 = some (aI G 600 (fun _ => 0)) := by rw [e261]; exact lk_ne (ad_new k254 hq121) k254
  have k268 : w260 q62 = some (aZ G 600 (fun _ => 0)) := by rw [e261]; exact lk_ne (ad_new k255 hq121) k255
  have k269 : w260 q70 = some (aI G 6 (upd (upd (upd (upd (upd (upd (fun _ => 0) ((0 : Int32).toNatClampNeg) (-1)) ((1 : Int32).toNatClampNeg) (-1)) ((2 : Int32).toNatClampNeg) (-1)) ((3 : Int32).toNatClampNeg) (-1)) ((4 : Int32).toNatClampNeg) (-1)) ((5 : Int32).toNatClampNeg) (-1))) := by rw [e261]; exact lk_ne (ad_new k256 hq121) k256
  have k270 : w260 q107 = some (aI G 12 (fun _ => 0)) := by rw [e261]; exact lk_ne (ad_new k257 hq121) k257
  have k271 : w260 mo = some (cMo (some q8) (some q17) (some q26) (some q35) (some q44) (some q53) (some q62) (some q70) (-1) 0 (some q107) (-1) 0 none 0 none) := by rw [e261]; exact lk_ne (ad_new k258 hq121) k258
  have k272 : w260 q121 = some (aI G 144 (fun _ => 0)) := by rw [e261]; exact up_eq
  refine f_putF (v := .ref q121) (ty0 := tyX5) (k := 13) X Z i5 tyX5_ok nmX5 rfl (by decide) (by decide +kernel) rfl hnm rfl dX5_init_123 k271 (nr_a _ (some q121)) (ft_a _ (some q121)) (Nat.le_of_ble_eq_true rfl) (fun H locs w274 e275 Z => ?_)
  have e275 : w274 = va_up w260 mo (some (cMo (some q8) (some q17) (some q26) (some q35) (some q44) (some q53) (some q62) (some q70) (-1) 0 (some q107) (-1) 0 (some q121) 0 none)) := e275
  have fr287 : Fr2 w tg w274 (va_up (va_up (va_up (va_up (va_up (va_up (va_up (va_up (va_up (va_up tg q8 (11, 0)) q17 (12, 0)) q26 (13, 0)) q35 (14, 0)) q44 (15, 0)) q53 (16, 0)) q62 (17, 0)) q70 (18, 0)) q107 (19, 0)) q121 (20, 0)) := by rw [e275]; exact Fr2.put fr273 0 (by simp [va_up, n_mo_q8, n_mo_q17, n_mo_q26, n_mo_q35, n_mo_q44, n_mo_q53, n_mo_q62, n_mo_q70, n_mo_q107, n_mo_q121, hg])
  have k276 : w274 q8 = some (aI G 600 (fun _ => 0)) := by rw [e275]; exact lk_ne (ad_ne k262 k271 dx_io) k262
  have k277 : w274 q17 = some (aI G 600 (fun _ => 0)) := by rw [e275]; exact lk_ne (ad_ne k263 k271 dx_io) k263
  have k278 : w274 q26 = some (aI G 600 (fun _ => 0)) := by rw [e275]; exact lk_ne (ad_ne k264 k271 dx_io) k264
  have k279 : w274 q35 = some (aI G 600 (fun _ => 0)) := by rw [e275]; exact lk_ne (ad_ne k265 k271 dx_io) k265
  have k280 : w274 q44 = some (aI G 7200 (fun _ => 0)) := by rw [e275]; exact lk_ne (ad_ne k266 k271 dx_io) k266
  have k281 : w274 q53 = some (aI G 600 (fun _ => 0)) := by rw [e275]; exact lk_ne (ad_ne k267 k271 dx_io) k267
  have k282 : w274 q62 = some (aZ G 600 (fun _ => 0)) := by rw [e275]; exact lk_ne (ad_ne k268 k271 dx_io) k268
  have k283 : w274 q70 = some (aI G 6 (upd (upd (upd (upd (upd (upd (fun _ => 0) ((0 : Int32).toNatClampNeg) (-1)) ((1 : Int32).toNatClampNeg) (-1)) ((2 : Int32).toNatClampNeg) (-1)) ((3 : Int32).toNatClampNeg) (-1)) ((4 : Int32).toNatClampNeg) (-1)) ((5 : Int32).toNatClampNeg) (-1))) := by rw [e275]; exact lk_ne (ad_ne k269 k271 dx_io) k269
  have k284 : w274 q107 = some (aI G 12 (fun _ => 0)) := by rw [e275]; exact lk_ne (ad_ne k270 k271 dx_io) k270
  have k285 : w274 q121 = some (aI G 144 (fun _ => 0)) := by rw [e275]; exact lk_ne (ad_ne k272 k271 dx_io) k272
  have k286 : w274 mo = some (cMo (some q8) (some q17) (some q26) (some q35) (some q44) (some q53) (some q62) (some q70) (-1) 0 (some q107) (-1) 0 (some q121) 0 none) := by rw [e275]; exact up_eq
  refine f_aload (v := .ref mo) X hl ⟨_, rfl, dX5_init_126⟩ rfl ⟨(some mo), rfl⟩ ?_
  refine lv_bipush (v := 8) X.1 X.2.1 dX5_init_127 (by decide) ?_
  refine f_newa (ti := 0) X Z rfl (by decide +kernel) rfl (fun _ h => by cases h) rfl (by decide) rfl (by decide) (Nat.le_of_ble_eq_true rfl) (Nat.le_of_ble_eq_true rfl) dX5_init_129 (fun q129 H w288 hq129 e289 Z => ?_)
  have e289 : w288 = va_up w274 q129 (some (aI G 8 (fun _ => 0))) := e289
  have n_mo_q129 : mo ≠ q129 := ad_new k286 hq129
  have n_q8_q129 : q8 ≠ q129 := ad_new k276 hq129
  have n_q17_q129 : q17 ≠ q129 := ad_new k277 hq129
  have n_q26_q129 : q26 ≠ q129 := ad_new k278 hq129
  have n_q35_q129 : q35 ≠ q129 := ad_new k279 hq129
  have n_q44_q129 : q44 ≠ q129 := ad_new k280 hq129
  have n_q53_q129 : q53 ≠ q129 := ad_new k281 hq129
  have n_q62_q129 : q62 ≠ q129 := ad_new k282 hq129
  have n_q70_q129 : q70 ≠ q129 := ad_new k283 hq129
  have n_q107_q129 : q107 ≠ q129 := ad_new k284 hq129
  have n_q121_q129 : q121 ≠ q129 := ad_new k285 hq129
  have b_q129 : w q129 = none := Fr2.back fr287 hq129
  have fr302 : Fr2 w tg w288 (va_up (va_up (va_up (va_up (va_up (va_up (va_up (va_up (va_up (va_up (va_up tg q8 (11, 0)) q17 (12, 0)) q26 (13, 0)) q35 (14, 0)) q44 (15, 0)) q53 (16, 0)) q62 (17, 0)) q70 (18, 0)) q107 (19, 0)) q121 (20, 0)) q129 (21, 0)) := by rw [e289]; exact Fr2.new fr287 b_q129
  have k290 : w288 q8 = some (aI G 600 (fun _ => 0)) := by rw [e289]; exact lk_ne (ad_new k276 hq129) k276
  have k291 : w288 q17 = some (aI G 600 (fun _ => 0)) := by rw [e289]; exact lk_ne (ad_new k277 hq129) k277
  have k292 : w288 q26 = some (aI G 600 (fun _ => 0)) := by rw [e289]; exact lk_ne (ad_new k278 hq129) k278
  have k293 : w288 q35 = some (aI G 600 (fun _ => 0)) := by rw [e289]; exact lk_ne (ad_new k279 hq129) k279
  have k294 : w288 q44 = some (aI G 7200 (fun _ => 0)) := by rw [e289]; exact lk_ne (ad_new k280 hq129) k280
  have k295 : w288 q53 = some (aI G 600 (fun _ => 0)) := by rw [e289]; exact lk_ne (ad_new k281 hq129) k281
  have k296 : w288 q62 = some (aZ G 600 (fun _ => 0)) := by rw [e289]; exact lk_ne (ad_new k282 hq129) k282
  have k297 : w288 q70 = some (aI G 6 (upd (upd (upd (upd (upd (upd (fun _ => 0) ((0 : Int32).toNatClampNeg) (-1)) ((1 : Int32).toNatClampNeg) (-1)) ((2 : Int32).toNatClampNeg) (-1)) ((3 : Int32).toNatClampNeg) (-1)) ((4 : Int32).toNatClampNeg) (-1)) ((5 : Int32).toNatClampNeg) (-1))) := by rw [e289]; exact lk_ne (ad_new k283 hq129) k283
  have k298 : w288 q107 = some (aI G 12 (fun _ => 0)) := by rw [e289]; exact lk_ne (ad_new k284 hq129) k284
  have k299 : w288 q121 = some (aI G 144 (fun _ => 0)) := by rw [e289]; exact lk_ne (ad_new k285 hq129) k285
  have k300 : w288 mo = some (cMo (some q8) (some q17) (some q26) (some q35) (some q44) (some q53) (some q62) (some q70) (-1) 0 (some q107) (-1) 0 (some q121) 0 none) := by rw [e289]; exact lk_ne (ad_new k286 hq129) k286
  have k301 : w288 q129 = some (aI G 8 (fun _ => 0)) := by rw [e289]; exact up_eq
  refine f_putF (v := .ref q129) (ty0 := tyX5) (k := 15) X Z i5 tyX5_ok nmX5 rfl (by decide) (by decide +kernel) rfl hnm rfl dX5_init_131 k300 (nr_a _ (some q129)) (ft_a _ (some q129)) (Nat.le_of_ble_eq_true rfl) (fun H locs w303 e304 Z => ?_)
  have e304 : w303 = va_up w288 mo (some (cMo (some q8) (some q17) (some q26) (some q35) (some q44) (some q53) (some q62) (some q70) (-1) 0 (some q107) (-1) 0 (some q121) 0 (some q129))) := e304
  have fr317 : Fr2 w tg w303 (va_up (va_up (va_up (va_up (va_up (va_up (va_up (va_up (va_up (va_up (va_up tg q8 (11, 0)) q17 (12, 0)) q26 (13, 0)) q35 (14, 0)) q44 (15, 0)) q53 (16, 0)) q62 (17, 0)) q70 (18, 0)) q107 (19, 0)) q121 (20, 0)) q129 (21, 0)) := by rw [e304]; exact Fr2.put fr302 0 (by simp [va_up, n_mo_q8, n_mo_q17, n_mo_q26, n_mo_q35, n_mo_q44, n_mo_q53, n_mo_q62, n_mo_q70, n_mo_q107, n_mo_q121, n_mo_q129, hg])
  have k305 : w303 q8 = some (aI G 600 (fun _ => 0)) := by rw [e304]; exact lk_ne (ad_ne k290 k300 dx_io) k290
  have k306 : w303 q17 = some (aI G 600 (fun _ => 0)) := by rw [e304]; exact lk_ne (ad_ne k291 k300 dx_io) k291
  have k307 : w303 q26 = some (aI G 600 (fun _ => 0)) := by rw [e304]; exact lk_ne (ad_ne k292 k300 dx_io) k292
  have k308 : w303 q35 = some (aI G 600 (fun _ => 0)) := by rw [e304]; exact lk_ne (ad_ne k293 k300 dx_io) k293
  have k309 : w303 q44 = some (aI G 7200 (fun _ => 0)) := by rw [e304]; exact lk_ne (ad_ne k294 k300 dx_io) k294
  have k310 : w303 q53 = some (aI G 600 (fun _ => 0)) := by rw [e304]; exact lk_ne (ad_ne k295 k300 dx_io) k295
  have k311 : w303 q62 = some (aZ G 600 (fun _ => 0)) := by rw [e304]; exact lk_ne (ad_ne k296 k300 dx_io) k296
  have k312 : w303 q70 = some (aI G 6 (upd (upd (upd (upd (upd (upd (fun _ => 0) ((0 : Int32).toNatClampNeg) (-1)) ((1 : Int32).toNatClampNeg) (-1)) ((2 : Int32).toNatClampNeg) (-1)) ((3 : Int32).toNatClampNeg) (-1)) ((4 : Int32).toNatClampNeg) (-1)) ((5 : Int32).toNatClampNeg) (-1))) := by rw [e304]; exact lk_ne (ad_ne k297 k300 dx_io) k297
  have k313 : w303 q107 = some (aI G 12 (fun _ => 0)) := by rw [e304]; exact lk_ne (ad_ne k298 k300 dx_io) k298
  have k314 : w303 q121 = some (aI G 144 (fun _ => 0)) := by rw [e304]; exact lk_ne (ad_ne k299 k300 dx_io) k299
  have k315 : w303 q129 = some (aI G 8 (fun _ => 0)) := by rw [e304]; exact lk_ne (ad_ne k301 k300 dx_io) k301
  have k316 : w303 mo = some (cMo (some q8) (some q17) (some q26) (some q35) (some q44) (some q53) (some q62) (some q70) (-1) 0 (some q107) (-1) 0 (some q121) 0 (some q129)) := by rw [e304]; exact up_eq
  exact f_vret X hr hlk Z (Nat.le_of_ble_eq_true rfl) (Nat.le_of_ble_eq_true rfl) dX5_init_134 ⟨(va_up (va_up (va_up (va_up (va_up (va_up (va_up (va_up (va_up (va_up (va_up tg q8 (11, 0)) q17 (12, 0)) q26 (13, 0)) q35 (14, 0)) q44 (15, 0)) q53 (16, 0)) q62 (17, 0)) q70 (18, 0)) q107 (19, 0)) q121 (20, 0)) q129 (21, 0)), mkA mo q8 q17 q26 q35 q44 q53 q62 q70 q107 q121 q129, rfl, ⟨_, _, _, _, _, fun _ => [], MW.mk0 k316 k305 k306 k307 k308 k309 k310 k311 k312 k313 k314 k315 (show (va_up (va_up (va_up (va_up (va_up (va_up (va_up (va_up (va_up (va_up (va_up tg q8 (11, 0)) q17 (12, 0)) q26 (13, 0)) q35 (14, 0)) q44 (15, 0)) q53 (16, 0)) q62 (17, 0)) q70 (18, 0)) q107 (19, 0)) q121 (20, 0)) q129 (21, 0)) mo = (10, 0) by simp [va_up, hg, n_mo_q8, n_mo_q17, n_mo_q26, n_mo_q35, n_mo_q44, n_mo_q53, n_mo_q62, n_mo_q70, n_mo_q107, n_mo_q121, n_mo_q129]) (show (va_up (va_up (va_up (va_up (va_up (va_up (va_up (va_up (va_up (va_up (va_up tg q8 (11, 0)) q17 (12, 0)) q26 (13, 0)) q35 (14, 0)) q44 (15, 0)) q53 (16, 0)) q62 (17, 0)) q70 (18, 0)) q107 (19, 0)) q121 (20, 0)) q129 (21, 0)) q8 = (11, 0) by simp [va_up, hg, n_q8_q17, n_q8_q26, n_q8_q35, n_q8_q44, n_q8_q53, n_q8_q62, n_q8_q70, n_q8_q107, n_q8_q121, n_q8_q129]) (show (va_up (va_up (va_up (va_up (va_up (va_up (va_up (va_up (va_up (va_up (va_up tg q8 (11, 0)) q17 (12, 0)) q26 (13, 0)) q35 (14, 0)) q44 (15, 0)) q53 (16, 0)) q62 (17, 0)) q70 (18, 0)) q107 (19, 0)) q121 (20, 0)) q129 (21, 0)) q17 = (12, 0) by simp [va_up, hg, n_q17_q26, n_q17_q35, n_q17_q44, n_q17_q53, n_q17_q62, n_q17_q70, n_q17_q107, n_q17_q121, n_q17_q129]) (show (va_up (va_up (va_up (va_up (va_up (va_up (va_up (va_up (va_up (va_up (va_up tg q8 (11, 0)) q17 (12, 0)) q26 (13, 0)) q35 (14, 0)) q44 (15, 0)) q53 (16, 0)) q62 (17, 0)) q70 (18, 0)) q107 (19, 0)) q121 (20, 0)) q129 (21, 0)) q26 = (13, 0) by simp [va_up, hg, n_q26_q35, n_q26_q44, n_q26_q53, n_q26_q62, n_q26_q70, n_q26_q107, n_q26_q121, n_q26_q129]) (show (va_up (va_up (va_up (va_up (va_up (va_up (va_up (va_up (va_up (va_up (va_up tg q8 (11, 0)) q17 (12, 0)) q26 (13, 0)) q35 (14, 0)) q44 (15, 0)) q53 (16, 0)) q62 (17, 0)) q70 (18, 0)) q107 (19, 0)) q121 (20, 0)) q129 (21, 0)) q35 = (14, 0) by simp [va_up, hg, n_q35_q44, n_q35_q53, n_q35_q62, n_q35_q70, n_q35_q107, n_q35_q121, n_q35_q129]) (show (va_up (va_up (va_up (va_up (va_up (va_up (va_up (va_up (va_up (va_up (va_up tg q8 (11, 0)) q17 (12, 0)) q26 (13, 0)) q35 (14, 0)) q44 (15, 0)) q53 (16, 0)) q62 (17, 0)) q70 (18, 0)) q107 (19, 0)) q121 (20, 0)) q129 (21, 0)) q44 = (15, 0) by simp [va_up, hg, n_q44_q53, n_q44_q62, n_q44_q70, n_q44_q107, n_q44_q121, n_q44_q129]) (show (va_up (va_up (va_up (va_up (va_up (va_up (va_up (va_up (va_up (va_up (va_up tg q8 (11, 0)) q17 (12, 0)) q26 (13, 0)) q35 (14, 0)) q44 (15, 0)) q53 (16, 0)) q62 (17, 0)) q70 (18, 0)) q107 (19, 0)) q121 (20, 0)) q129 (21, 0)) q53 = (16, 0) by simp [va_up, hg, n_q53_q62, n_q53_q70, n_q53_q107, n_q53_q121, n_q53_q129]) (show (va_up (va_up (va_up (va_up (va_up (va_up (va_up (va_up (va_up (va_up (va_up tg q8 (11, 0)) q17 (12, 0)) q26 (13, 0)) q35 (14, 0)) q44 (15, 0)) q53 (16, 0)) q62 (17, 0)) q70 (18, 0)) q107 (19, 0)) q121 (20, 0)) q129 (21, 0)) q62 = (17, 0) by simp [va_up, hg, n_q62_q70, n_q62_q107, n_q62_q121, n_q62_q129]) (show (va_up (va_up (va_up (va_up (va_up (va_up (va_up (va_up (va_up (va_up (va_up tg q8 (11, 0)) q17 (12, 0)) q26 (13, 0)) q35 (14, 0)) q44 (15, 0)) q53 (16, 0)) q62 (17, 0)) q70 (18, 0)) q107 (19, 0)) q121 (20, 0)) q129 (21, 0)) q70 = (18, 0) by simp [va_up, hg, n_q70_q107, n_q70_q121, n_q70_q129]) (show (va_up (va_up (va_up (va_up (va_up (va_up (va_up (va_up (va_up (va_up (va_up tg q8 (11, 0)) q17 (12, 0)) q26 (13, 0)) q35 (14, 0)) q44 (15, 0)) q53 (16, 0)) q62 (17, 0)) q70 (18, 0)) q107 (19, 0)) q121 (20, 0)) q129 (21, 0)) q107 = (19, 0) by simp [va_up, hg, n_q107_q121, n_q107_q129]) (show (va_up (va_up (va_up (va_up (va_up (va_up (va_up (va_up (va_up (va_up (va_up tg q8 (11, 0)) q17 (12, 0)) q26 (13, 0)) q35 (14, 0)) q44 (15, 0)) q53 (16, 0)) q62 (17, 0)) q70 (18, 0)) q107 (19, 0)) q121 (20, 0)) q129 (21, 0)) q121 = (20, 0) by simp [va_up, hg, n_q121_q129]) (show (va_up (va_up (va_up (va_up (va_up (va_up (va_up (va_up (va_up (va_up (va_up tg q8 (11, 0)) q17 (12, 0)) q26 (13, 0)) q35 (14, 0)) q44 (15, 0)) q53 (16, 0)) q62 (17, 0)) q70 (18, 0)) q107 (19, 0)) q121 (20, 0)) q129 (21, 0)) q129 = (21, 0) by simp [va_up, hg]), ⟨fun t i a d h => by simp at h, fun t i u j a d e h => by simp at h⟩, lt6 (by decide) (by decide) (by decide) (by decide) (by decide) (by decide), fun _ => rfl, fun _ _ => rfl, Or.inl ⟨rfl, rfl⟩, Or.inl ⟨rfl, rfl⟩, rfl⟩, fr317⟩
