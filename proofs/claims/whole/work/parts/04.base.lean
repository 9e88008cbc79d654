theorem kc_0 : (0 : Int32).toInt = 0 := by decide
theorem kc_1 : (1 : Int32).toInt = 1 := by decide
theorem kc_2 : (2 : Int32).toInt = 2 := by decide
theorem kc_3 : (3 : Int32).toInt = 3 := by decide
theorem kc_5 : (5 : Int32).toInt = 5 := by decide
theorem kc_6 : (6 : Int32).toInt = 6 := by decide
theorem kc_7 : (7 : Int32).toInt = 7 := by decide
theorem kc_12 : (12 : Int32).toInt = 12 := by decide
theorem kc_50 : (50 : Int32).toInt = 50 := by decide
theorem kc_99 : (99 : Int32).toInt = 99 := by decide
theorem kc_144 : (144 : Int32).toInt = 144 := by decide
theorem kc_512 : (512 : Int32).toInt = 512 := by decide
theorem kc_1000 : (1000 : Int32).toInt = 1000 := by decide
theorem kc_m1 : (-1 : Int32).toInt = -1 := by decide
set_option maxHeartbeats 4000000 in
set_option maxRecDepth 100000 in
theorem c_X4_isWithin (l : Launch) (G : gT) (w : wT) (x a b : Int32) : Met l yX4_isWithin wsX4_isWithin ({ frames := 0, cells := 0, slots := 0, locals := 0 }) (va_Pc [.int x, .int a, .int b] (wG G w)) (Qi G (fun r w' => w' = w ∧ r = bI (a.toInt ≤ x.toInt ∧ x.toInt ≤ b.toInt))) 0 0 (fr G) := by
  refine f_met (cc := cX4_isWithin) (maxL := 3) (ret := (some .boolean)) (by decide) rfl rfl (Nat.le_of_ble_eq_true rfl) ?_
  intro p e s m below meth cd X hr hlk hnm Z ls hl
  have X : CallFix p m cd cX4_isWithin 3 s [.int x, .int a, .int b].toArray wsX4_isWithin RX4 := X
  have hl : lV ls _ [some (.int x), some (.int a), some (.int b)] := hl
  refine f_iload X hl ⟨_, rfl, dX4_isWithin_0⟩ rfl ?_
  refine f_iload X hl ⟨_, rfl, dX4_isWithin_1⟩ rfl ?_
  refine lv_icmp_lt (tgt := 14) X.1 X.2.1 dX4_isWithin_2 (by decide) (fun c2 => ?_) (fun c2 => ?_)
  · refine lv_iconst (v := 0) X.1 X.2.1 dX4_isWithin_14 (by decide) ?_
    exact f_zret X hr hlk Z (Nat.le_of_ble_eq_true rfl) (Nat.le_of_ble_eq_true rfl) dX4_isWithin_15 (by decide) ⟨rfl, by unfold bI; split <;> first | rfl | (exfalso; (try simp only [Int32.lt_iff_toInt_lt, Int32.le_iff_toInt_le, ← Int32.toInt_inj, ne_eq, kc_0, kc_1, kc_6] at *; omega))⟩
  · refine f_iload X hl ⟨_, rfl, dX4_isWithin_5⟩ rfl ?_
    refine f_iload X hl ⟨_, rfl, dX4_isWithin_6⟩ rfl ?_
    refine lv_icmp_gt (tgt := 14) X.1 X.2.1 dX4_isWithin_7 (by decide) (fun c7 => ?_) (fun c7 => ?_)
    · refine lv_iconst (v := 0) X.1 X.2.1 dX4_isWithin_14 (by decide) ?_
      exact f_zret X hr hlk Z (Nat.le_of_ble_eq_true rfl) (Nat.le_of_ble_eq_true rfl) dX4_isWithin_15 (by decide) ⟨rfl, by unfold bI; split <;> first | rfl | (exfalso; (try simp only [Int32.lt_iff_toInt_lt, Int32.le_iff_toInt_le, ← Int32.toInt_inj, ne_eq, kc_0, kc_1, kc_6] at *; omega))⟩
    · refine lv_iconst (v := 1) X.1 X.2.1 dX4_isWithin_10 (by decide) ?_
      refine lv_goto (tgt := 15) X.1 X.2.1 dX4_isWithin_11 (by decide) ?_
      exact f_zret X hr hlk Z (Nat.le_of_ble_eq_true rfl) (Nat.le_of_ble_eq_true rfl) dX4_isWithin_15 (by decide) ⟨rfl, by unfold bI; split <;> first | rfl | (exfalso; (try simp only [Int32.lt_iff_toInt_lt, Int32.le_iff_toInt_le, ← Int32.toInt_inj, ne_eq, kc_0, kc_1, kc_6] at *; omega))⟩
set_option maxHeartbeats 4000000 in
set_option maxRecDepth 100000 in
theorem c_X4_isTrack (l : Launch) (G : gT) (w : wT) (x : Int32) : Met l yX4_isTrack wsX4_isTrack ({ frames := 0, cells := 0, slots := 0, locals := 0 }) (va_Pc [.int x] (wG G w)) (Qi G (fun r w' => w' = w ∧ r = bI (0 ≤ x.toInt ∧ x.toInt < 6))) 0 0 (fr G) := by
  refine f_met (cc := cX4_isTrack) (maxL := 1) (ret := (some .boolean)) (by decide) rfl rfl (Nat.le_of_ble_eq_true rfl) ?_
  intro p e s m below meth cd X hr hlk hnm Z ls hl
  have X : CallFix p m cd cX4_isTrack 1 s [.int x].toArray wsX4_isTrack RX4 := X
  have hl : lV ls _ [some (.int x)] := hl
  refine f_iload X hl ⟨_, rfl, dX4_isTrack_0⟩ rfl ?_
  refine lv_if_lt (tgt := 14) X.1 X.2.1 dX4_isTrack_1 (by decide) (fun c1 => ?_) (fun c1 => ?_)
  · refine lv_iconst (v := 0) X.1 X.2.1 dX4_isTrack_14 (by decide) ?_
    exact f_zret X hr hlk Z (Nat.le_of_ble_eq_true rfl) (Nat.le_of_ble_eq_true rfl) dX4_isTrack_15 (by decide) ⟨rfl, by unfold bI; split <;> first | rfl | (exfalso; (try simp only [Int32.lt_iff_toInt_lt, Int32.le_iff_toInt_le, ← Int32.toInt_inj, ne_eq, kc_0, kc_1, kc_6] at *; omega))⟩
  · refine f_iload X hl ⟨_, rfl, dX4_isTrack_4⟩ rfl ?_
    refine lv_bipush (v := 6) X.1 X.2.1 dX4_isTrack_5 (by decide) ?_
    refine lv_icmp_ge (tgt := 14) X.1 X.2.1 dX4_isTrack_7 (by decide) (fun c7 => ?_) (fun c7 => ?_)
    · refine lv_iconst (v := 0) X.1 X.2.1 dX4_isTrack_14 (by decide) ?_
      exact f_zret X hr hlk Z (Nat.le_of_ble_eq_true rfl) (Nat.le_of_ble_eq_true rfl) dX4_isTrack_15 (by decide) ⟨rfl, by unfold bI; split <;> first | rfl | (exfalso; (try simp only [Int32.lt_iff_toInt_lt, Int32.le_iff_toInt_le, ← Int32.toInt_inj, ne_eq, kc_0, kc_1, kc_6] at *; omega))⟩
    · refine lv_iconst (v := 1) X.1 X.2.1 dX4_isTrack_10 (by decide) ?_
      refine lv_goto (tgt := 15) X.1 X.2.1 dX4_isTrack_11 (by decide) ?_
      exact f_zret X hr hlk Z (Nat.le_of_ble_eq_true rfl) (Nat.le_of_ble_eq_true rfl) dX4_isTrack_15 (by decide) ⟨rfl, by unfold bI; split <;> first | rfl | (exfalso; (try simp only [Int32.lt_iff_toInt_lt, Int32.le_iff_toInt_le, ← Int32.toInt_inj, ne_eq, kc_0, kc_1, kc_6] at *; omega))⟩
set_option maxHeartbeats 4000000 in
set_option maxRecDepth 100000 in
theorem c_X4_areTwoTracks (l : Launch) (G : gT) (w : wT) (x y : Int32) : Met l yX4_areTwoTracks wsX4_areTwoTracks ({ frames := 1, cells := 0, slots := 0, locals := 20 }) (va_Pc [.int x, .int y] (wG G w)) (Qi G (fun r w' => w' = w ∧ r = bI ((0 ≤ x.toInt ∧ x.toInt < 6) ∧ (0 ≤ y.toInt ∧ y.toInt < 6) ∧ x ≠ y))) 0 0 (fr G) := by
  refine f_met (cc := cX4_areTwoTracks) (maxL := 2) (ret := (some .boolean)) (by decide) rfl rfl (Nat.le_of_ble_eq_true rfl) ?_
  intro p e s m below meth cd X hr hlk hnm Z ls hl
  have X : CallFix p m cd cX4_areTwoTracks 2 s [.int x, .int y].toArray wsX4_areTwoTracks RX4 := X
  have hl : lV ls _ [some (.int x), some (.int y)] := hl
  refine f_iload X hl ⟨_, rfl, dX4_areTwoTracks_0⟩ rfl ?_
  refine f_callSi (rest := []) X Z hl.1 (c_X4_isTrack l G _ _) (va_cwS 1 X.2.2.2.2 gX4_areTwoTracks_X4_isTrack rfl rfl rfl (by decide +kernel) ⟨(Nat.le_of_ble_eq_true rfl), (Nat.le_of_ble_eq_true rfl)⟩) rfl dX4_areTwoTracks_1 ⟨(Nat.le_of_ble_eq_true rfl), (Nat.le_of_ble_eq_true rfl)⟩ rfl (Nat.le_of_ble_eq_true rfl) (fun r1 w1 H locs p1 Z => ?_)
  obtain ⟨w1e, hr1⟩ := p1
  have w1e := w1e.symm
  subst w1e
  refine lv_if_eq (tgt := 23) X.1 X.2.1 dX4_areTwoTracks_4 (by decide) (fun c4 => ?_) (fun c4 => ?_)
  · rw [hr1, bI_0] at c4
    refine lv_iconst (v := 0) X.1 X.2.1 dX4_areTwoTracks_23 (by decide) ?_
    exact f_zret X hr hlk Z (Nat.le_of_ble_eq_true rfl) (Nat.le_of_ble_eq_true rfl) dX4_areTwoTracks_24 (by decide) ⟨rfl, by unfold bI; split <;> first | rfl | (exfalso; (try simp only [Int32.lt_iff_toInt_lt, Int32.le_iff_toInt_le, ← Int32.toInt_inj, ne_eq, kc_0, kc_1, kc_6] at *; omega))⟩
  · rw [hr1, bI_0, Classical.not_not] at c4
    refine f_iload X hl ⟨_, rfl, dX4_areTwoTracks_7⟩ rfl ?_
    refine f_callSi (rest := []) X Z hl.1 (c_X4_isTrack l G _ _) (va_cwS 1 X.2.2.2.2 gX4_areTwoTracks_X4_isTrack rfl rfl rfl (by decide +kernel) ⟨(Nat.le_of_ble_eq_true rfl), (Nat.le_of_ble_eq_true rfl)⟩) rfl dX4_areTwoTracks_8 ⟨(Nat.le_of_ble_eq_true rfl), (Nat.le_of_ble_eq_true rfl)⟩ rfl (Nat.le_of_ble_eq_true rfl) (fun r8 w2 H locs p8 Z => ?_)
    obtain ⟨w2e, hr8⟩ := p8
    have w2e := w2e.symm
    subst w2e
    refine lv_if_eq (tgt := 23) X.1 X.2.1 dX4_areTwoTracks_11 (by decide) (fun c11 => ?_) (fun c11 => ?_)
    · rw [hr8, bI_0] at c11
      refine lv_iconst (v := 0) X.1 X.2.1 dX4_areTwoTracks_23 (by decide) ?_
      exact f_zret X hr hlk Z (Nat.le_of_ble_eq_true rfl) (Nat.le_of_ble_eq_true rfl) dX4_areTwoTracks_24 (by decide) ⟨rfl, by unfold bI; split <;> first | rfl | (exfalso; (try simp only [Int32.lt_iff_toInt_lt, Int32.le_iff_toInt_le, ← Int32.toInt_inj, ne_eq, kc_0, kc_1, kc_6] at *; omega))⟩
    · rw [hr8, bI_0, Classical.not_not] at c11
      refine f_iload X hl ⟨_, rfl, dX4_areTwoTracks_14⟩ rfl ?_
      refine f_iload X hl ⟨_, rfl, dX4_areTwoTracks_15⟩ rfl ?_
      refine lv_icmp_eq (tgt := 23) X.1 X.2.1 dX4_areTwoTracks_16 (by decide) (fun c16 => ?_) (fun c16 => ?_)
      · refine lv_iconst (v := 0) X.1 X.2.1 dX4_areTwoTracks_23 (by decide) ?_
        exact f_zret X hr hlk Z (Nat.le_of_ble_eq_true rfl) (Nat.le_of_ble_eq_true rfl) dX4_areTwoTracks_24 (by decide) ⟨rfl, by unfold bI; split <;> first | rfl | (exfalso; (try simp only [Int32.lt_iff_toInt_lt, Int32.le_iff_toInt_le, ← Int32.toInt_inj, ne_eq, kc_0, kc_1, kc_6] at *; omega))⟩
      · refine lv_iconst (v := 1) X.1 X.2.1 dX4_areTwoTracks_19 (by decide) ?_
        refine lv_goto (tgt := 24) X.1 X.2.1 dX4_areTwoTracks_20 (by decide) ?_
        exact f_zret X hr hlk Z (Nat.le_of_ble_eq_true rfl) (Nat.le_of_ble_eq_true rfl) dX4_areTwoTracks_24 (by decide) ⟨rfl, by unfold bI; split <;> first | rfl | (exfalso; (try simp only [Int32.lt_iff_toInt_lt, Int32.le_iff_toInt_le, ← Int32.toInt_inj, ne_eq, kc_0, kc_1, kc_6] at *; omega))⟩
set_option maxHeartbeats 4000000 in
set_option maxRecDepth 100000 in
theorem c_X4_isPosition (l : Launch) (G : gT) (w : wT) (x y : Int32) : Met l yX4_isPosition wsX4_isPosition ({ frames := 1, cells := 0, slots := 0, locals := 20 }) (va_Pc [.int x, .int y] (wG G w)) (Qi G (fun r w' => w' = w ∧ r = bI ((0 ≤ x.toInt ∧ x.toInt < 6) ∧ 0 ≤ y.toInt))) 0 0 (fr G) := by
  refine f_met (cc := cX4_isPosition) (maxL := 2) (ret := (some .boolean)) (by decide) rfl rfl (Nat.le_of_ble_eq_true rfl) ?_
  intro p e s m below meth cd X hr hlk hnm Z ls hl
  have X : CallFix p m cd cX4_isPosition 2 s [.int x, .int y].toArray wsX4_isPosition RX4 := X
  have hl : lV ls _ [some (.int x), some (.int y)] := hl
  refine f_iload X hl ⟨_, rfl, dX4_isPosition_0⟩ rfl ?_
  refine f_callSi (rest := []) X Z hl.1 (c_X4_isTrack l G _ _) (va_cwS 1 X.2.2.2.2 gX4_isPosition_X4_isTrack rfl rfl rfl (by decide +kernel) ⟨(Nat.le_of_ble_eq_true rfl), (Nat.le_of_ble_eq_true rfl)⟩) rfl dX4_isPosition_1 ⟨(Nat.le_of_ble_eq_true rfl), (Nat.le_of_ble_eq_true rfl)⟩ rfl (Nat.le_of_ble_eq_true rfl) (fun r1 w1 H locs p1 Z => ?_)
  obtain ⟨w1e, hr1⟩ := p1
  have w1e := w1e.symm
  subst w1e
  refine lv_if_eq (tgt := 15) X.1 X.2.1 dX4_isPosition_4 (by decide) (fun c4 => ?_) (fun c4 => ?_)
  · rw [hr1, bI_0] at c4
    refine lv_iconst (v := 0) X.1 X.2.1 dX4_isPosition_15 (by decide) ?_
    exact f_zret X hr hlk Z (Nat.le_of_ble_eq_true rfl) (Nat.le_of_ble_eq_true rfl) dX4_isPosition_16 (by decide) ⟨rfl, by unfold bI; split <;> first | rfl | (exfalso; (try simp only [Int32.lt_iff_toInt_lt, Int32.le_iff_toInt_le, ← Int32.toInt_inj, ne_eq, kc_0, kc_1, kc_6] at *; omega))⟩
  · rw [hr1, bI_0, Classical.not_not] at c4
    refine f_iload X hl ⟨_, rfl, dX4_isPosition_7⟩ rfl ?_
    refine lv_if_lt (tgt := 15) X.1 X.2.1 dX4_isPosition_8 (by decide) (fun c8 => ?_) (fun c8 => ?_)
    · refine lv_iconst (v := 0) X.1 X.2.1 dX4_isPosition_15 (by decide) ?_
      exact f_zret X hr hlk Z (Nat.le_of_ble_eq_true rfl) (Nat.le_of_ble_eq_true rfl) dX4_isPosition_16 (by decide) ⟨rfl, by unfold bI; split <;> first | rfl | (exfalso; (try simp only [Int32.lt_iff_toInt_lt, Int32.le_iff_toInt_le, ← Int32.toInt_inj, ne_eq, kc_0, kc_1, kc_6] at *; omega))⟩
    · refine lv_iconst (v := 1) X.1 X.2.1 dX4_isPosition_11 (by decide) ?_
      refine lv_goto (tgt := 16) X.1 X.2.1 dX4_isPosition_12 (by decide) ?_
      exact f_zret X hr hlk Z (Nat.le_of_ble_eq_true rfl) (Nat.le_of_ble_eq_true rfl) dX4_isPosition_16 (by decide) ⟨rfl, by unfold bI; split <;> first | rfl | (exfalso; (try simp only [Int32.lt_iff_toInt_lt, Int32.le_iff_toInt_le, ← Int32.toInt_inj, ne_eq, kc_0, kc_1, kc_6] at *; omega))⟩
set_option maxHeartbeats 4000000 in
set_option maxRecDepth 100000 in
theorem c_X4_isEngine (l : Launch) (G : gT) (w : wT) (v : Option Nat) (so : Int32) (hv : ∀ a, v = some a → ∃ we de ro bh, w a = some (cVeh so we de ro bh)) : Met l yX4_isEngine wsX4_isEngine ({ frames := 0, cells := 0, slots := 0, locals := 0 }) (va_Pc [va_rf v] (wG G w)) (Qi G (fun r w' => w' = w ∧ r = bI (v ≠ none ∧ so.toInt = 1))) 0 0 (fr G) := by
  refine f_met (cc := cX4_isEngine) (maxL := 1) (ret := (some .boolean)) (by decide) rfl (by cases v <;> rfl) (Nat.le_of_ble_eq_true rfl) ?_
  intro p e s m below meth cd X hr hlk hnm Z ls hl
  have X : CallFix p m cd cX4_isEngine 1 s [va_rf v].toArray wsX4_isEngine RX4 := X
  have hl : lV ls _ [some (va_rf v)] := hl
  have i3 : ∀ w ∈ wsX30, w ∈ wsX4_isEngine := by decide +kernel
  refine f_aload (v := va_rf v) X hl ⟨_, rfl, dX4_isEngine_0⟩ rfl ⟨v, rfl⟩ ?_
  refine f_ifnull (tgt := 16) X dX4_isEngine_1 (by decide) (fun c1 => ?_) (fun a1 c1 => ?_)
  · subst c1
    refine lv_iconst (v := 0) X.1 X.2.1 dX4_isEngine_16 (by decide) ?_
    exact f_zret X hr hlk Z (Nat.le_of_ble_eq_true rfl) (Nat.le_of_ble_eq_true rfl) dX4_isEngine_17 (by decide) ⟨rfl, by unfold bI; split <;> first | rfl | (exfalso; simp only [ne_eq, not_true_eq_false, false_and, reduceCtorEq, not_false_eq_true, true_and] at *; done) | (exfalso; simp only [ne_eq, not_true_eq_false, false_and, reduceCtorEq, not_false_eq_true, true_and] at *; (try simp only [Int32.lt_iff_toInt_lt, Int32.le_iff_toInt_le, ← Int32.toInt_inj, ne_eq, kc_0, kc_1, kc_6] at *; omega))⟩
  · subst c1
    obtain ⟨we, de, ro, bh, hc⟩ := hv _ rfl
    refine f_aload (v := .ref a1) X hl ⟨_, rfl, dX4_isEngine_4⟩ rfl ⟨(some a1), rfl⟩ ?_
    refine f_get (v := .int so) (k := 0) X Z i3 rfl (by decide) (by decide +kernel) dX4_isEngine_5 hc rfl ?_
    refine lv_iconst (v := 1) X.1 X.2.1 dX4_isEngine_8 (by decide) ?_
    refine lv_icmp_ne (tgt := 16) X.1 X.2.1 dX4_isEngine_9 (by decide) (fun c9 => ?_) (fun c9 => ?_)
    · refine lv_iconst (v := 0) X.1 X.2.1 dX4_isEngine_16 (by decide) ?_
      exact f_zret X hr hlk Z (Nat.le_of_ble_eq_true rfl) (Nat.le_of_ble_eq_true rfl) dX4_isEngine_17 (by decide) ⟨rfl, by unfold bI; split <;> first | rfl | (exfalso; simp only [ne_eq, not_true_eq_false, false_and, reduceCtorEq, not_false_eq_true, true_and] at *; done) | (exfalso; simp only [ne_eq, not_true_eq_false, false_and, reduceCtorEq, not_false_eq_true, true_and] at *; (try simp only [Int32.lt_iff_toInt_lt, Int32.le_iff_toInt_le, ← Int32.toInt_inj, ne_eq, kc_0, kc_1, kc_6] at *; omega))⟩
    · refine lv_iconst (v := 1) X.1 X.2.1 dX4_isEngine_12 (by decide) ?_
      refine lv_goto (tgt := 17) X.1 X.2.1 dX4_isEngine_13 (by decide) ?_
      exact f_zret X hr hlk Z (Nat.le_of_ble_eq_true rfl) (Nat.le_of_ble_eq_true rfl) dX4_isEngine_17 (by decide) ⟨rfl, by unfold bI; split <;> first | rfl | (exfalso; simp only [ne_eq, not_true_eq_false, false_and, reduceCtorEq, not_false_eq_true, true_and] at *; done) | (exfalso; simp only [ne_eq, not_true_eq_false, false_and, reduceCtorEq, not_false_eq_true, true_and] at *; (try simp only [Int32.lt_iff_toInt_lt, Int32.le_iff_toInt_le, ← Int32.toInt_inj, ne_eq, kc_0, kc_1, kc_6] at *; omega))⟩
