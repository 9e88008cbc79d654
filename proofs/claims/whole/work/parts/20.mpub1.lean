theorem MP.ch {F : Nat → Nat → Int32} {sd na ro wi : Int32} {c : Nat} {y : Yd} {T : Nat → LV} (hP : MP F sd na ro wi c y T) {t : Nat} (ht : t < 6) (hl : (T t).length ≤ 2000) : chM F t (T t) := ⟨hP.2.1 t ht, hl, fun i v d h => ⟨(hP.1.1 t i v d h).1, (hP.1.1 t i v d h).2.2.2.2.2.1⟩⟩
theorem MP.len {F : Nat → Nat → Int32} {sd na ro wi : Int32} {c : Nat} {y : Yd} {T : Nat → LV} (hP : MP F sd na ro wi c y T) (t : Nat) : (T t).length = (y.1 t).length := by
  have := congrArg List.length (hP.2.2.1 t)
  simpa using this
theorem MP.at {F : Nat → Nat → Int32} {sd na ro wi : Int32} {c : Nat} {y : Yd} {T : Nat → LV} (hP : MP F sd na ro wi c y T) (t k : Nat) : (y.1 t)[k]? = ((T t)[k]?).map Prod.snd := by
  rw [← hP.2.2.1 t, List.getElem?_map]
theorem MP.lenT {F : Nat → Nat → Int32} {sd na ro wi : Int32} {c nb : Nat} {y : Yd} {T : Nat → LV} (hP : MP F sd na ro wi c y T) (hY : Yok nb y) (hn : nb ≤ 512) {t : Nat} (ht : t < 6) : (T t).length ≤ 512 := by
  rw [hP.len]; exact Nat.le_trans (hY.len (by omega)) hn
theorem SMo {F : Nat → Nat → Int32} {sd na : Int32} {os : OS} {T : Nat → LV} (h : SM F sd na os T) (hs : ¬ sd = -1) : ∃ n b, sd = nI n ∧ na = b ∧ os = some (n, b) ∧ n ≤ 12 ∧ ∀ p, p < n → F 9 p = enc (hd (T (6 + p))) := by
  rcases h with ⟨h, -⟩ | h
  · exact absurd h hs
  · exact h
theorem SMn {F : Nat → Nat → Int32} {sd na : Int32} {os : OS} {T : Nat → LV} (h : SM F sd na os T) (hs : sd = -1) : os = none := by
  rcases h with ⟨-, h⟩ | ⟨n, b, h, -, -, h5, -⟩
  · exact h
  · exact absurd (h.symm.trans hs) (enc_ne (by omega))
theorem PlMo {F : Nat → Nat → Int32} {ro wi : Int32} {op : OP} {N : Nat → Nat → Int32} (h : PlM F ro wi op N) : (ro = -1 ∧ op = none) ∨ ∃ r k, ro = nI r ∧ op = some (r, k) ∧ r ≤ 12 := by
  rcases h with h | ⟨r, k, h1, -, h2, h3, -⟩
  · exact Or.inl h
  · exact Or.inr ⟨r, k, h1, h2, h3⟩
theorem PlMs {F : Nat → Nat → Int32} {ro wi : Int32} {op : OP} {N : Nat → Nat → Int32} {r k : Nat} (h : PlM F ro wi op N) (ho : op = some (r, k)) : ro = nI r ∧ wi = nI k ∧ r ≤ 12 ∧ k ≤ 12 ∧ ∀ i j, i < r → j < k → F 10 (12 * i + j) = N i j := by
  rcases h with ⟨-, z⟩ | ⟨r', k', h1, h2, h3, h4⟩
  · rw [ho] at z; cases z
  · rw [ho] at h3; cases h3; exact ⟨h1, h2, h4⟩
theorem whyA_N {F : Nat → Nat → Int32} {ro wi i j : Int32} {op : OP} {N : Nat → Nat → Int32} (h : PlM F ro wi op N) : whyA op i j wi = whyN op i j := by
  rcases h with ⟨-, rfl⟩ | ⟨r, k, -, rfl, rfl, -, h4, -⟩
  · rfl
  · simp only [whyA, whyN]
    rw [n1_toInt h4]
    by_cases hz : (0 ≤ i.toInt ∧ i.toInt < (r : Int)) ∧ 0 ≤ j.toInt ∧ j.toInt < (k : Int)
    · rw [if_pos hz, if_pos (by omega)]
    · rw [if_neg hz, if_neg (by omega)]
theorem whyA_L {i : Int32} {op : OP} : whyA op i 0 1 = whyL op i := by
  cases op with
  | none => rfl
  | some q =>
    simp only [whyA, whyL]
    by_cases hz : 0 ≤ i.toInt ∧ i.toInt < (q.1 : Int)
    · rw [if_pos hz, if_pos ⟨hz, by decide, by decide⟩]
    · rw [if_neg hz, if_neg (fun z => hz z.1)]
theorem nI_pos0 {n : Nat} (h : n < 8) (hz : ¬ nI n ≤ 0) : n ≠ 0 := fun z => hz (by rw [z]; decide)
theorem nI_le0 {n : Nat} (h : n < 8) (hz : nI n ≤ 0) : n = 0 := by
  rw [Int32.le_iff_toInt_le, kc_0, nI_toInt (by omega)] at hz; omega
theorem ge0 {k : Int32} (h : 0 ≤ k) : 0 ≤ k.toInt := by rw [Int32.le_iff_toInt_le, kc_0] at h; exact h
theorem nge0 {k : Int32} (h : ¬ 0 ≤ k) : ¬ 0 ≤ k.toInt := by rw [Int32.le_iff_toInt_le, kc_0] at h; exact h
theorem ge0' {k : Int32} (h : ¬ k < 0) : 0 ≤ k.toInt := nonneg h
theorem nge0' {k : Int32} (h : k < 0) : ¬ 0 ≤ k.toInt := by have := isneg h; omega
theorem outM_rep {G : gT} {tg : tT} {w w' : wT} {ad : Nat → Nat} {F : Nat → Nat → Int32} {sd na ro wi : Int32} {c k : Nat} {y : Yd} {T : Nat → LV} {r x : Int32} {res : Int32 × Yd} (hM : MW G tg w ad F sd na ro wi y.2.2.2.2.1) (hP : MP F sd na ro wi c y T) (hr : r = -10 - nI k) (hw : w' = va_up (va_up w (ad 0) (some (cMo (some (ad 1)) (some (ad 2)) (some (ad 3)) (some (ad 4)) (some (ad 5)) (some (ad 6)) (some (ad 7)) (some (ad 8)) sd na (some (ad 9)) ro wi (some (ad 10)) x (some (ad 11))))) (ad 11) (some (aI G 8 (upd (F 11) k (F 11 k + 1))))) (he : res = yno k (ylev x y)) : OutM G tg w ad c res r w' :=
  outM_no (y1 := ylev x y) hP (hM.fld rfl) (FrM.rf.put (hM.2.2 0 (by decide))) hr hw he
set_option maxHeartbeats 4000000 in
set_option maxRecDepth 100000 in
theorem c_X5_level (l : Launch) (G : gT) (w : wT) (tg : tT) (ad : Nat → Nat) (c nb : Nat) (y : Yd) (hR : RepM G tg w ad c y) (hY : Yok nb y) (hn : nb ≤ 512)  : Met l yX5_level wsX5_level ({ frames := 0, cells := 0, slots := 0, locals := 0 }) (va_Pc [.ref (ad 0)] (wG G w)) (Qi G (OutM G tg w ad c (sp_level y))) 0 0 (fr G) := by
  refine f_met (cc := cX5_level) (maxL := 1) (ret := (some .int)) (by decide) rfl rfl (Nat.le_of_ble_eq_true rfl) ?_
  intro p e s m below meth cd X hr hlk hnm Z ls hl
  have X : CallFix p m cd cX5_level 1 s [.ref (ad 0)].toArray wsX5_level RX5 := X
  have hl : lV ls _ [some (.ref (ad 0))] := hl
  have i5 : ∀ w ∈ wsX50, w ∈ wsX5_level := by decide +kernel
  obtain ⟨F, sd, na, ro, wi, T, hM, hP⟩ := id hR
  obtain ⟨h1, h2, h3, h4, h5, h6, h7⟩ := id hP
  have km0 := hM.1
  have km1 : w (ad 1) = some (aI G 600 (F 1)) := hM.2.1 1 (by decide) (by decide)
  have km2 : w (ad 2) = some (aI G 600 (F 2)) := hM.2.1 2 (by decide) (by decide)
  have km3 : w (ad 3) = some (aI G 600 (F 3)) := hM.2.1 3 (by decide) (by decide)
  have km4 : w (ad 4) = some (aI G 600 (F 4)) := hM.2.1 4 (by decide) (by decide)
  have km5 : w (ad 5) = some (aI G 7200 (F 5)) := hM.2.1 5 (by decide) (by decide)
  have km6 : w (ad 6) = some (aI G 600 (F 6)) := hM.2.1 6 (by decide) (by decide)
  have km7 : w (ad 7) = some (aZ G 600 (F 7)) := hM.2.1 7 (by decide) (by decide)
  have km8 : w (ad 8) = some (aI G 6 (F 8)) := hM.2.1 8 (by decide) (by decide)
  have km9 : w (ad 9) = some (aI G 12 (F 9)) := hM.2.1 9 (by decide) (by decide)
  have km10 : w (ad 10) = some (aI G 144 (F 10)) := hM.2.1 10 (by decide) (by decide)
  have km11 : w (ad 11) = some (aI G 8 (F 11)) := hM.2.1 11 (by decide) (by decide)
  refine f_aload (v := .ref (ad 0)) X hl ⟨_, rfl, dX5_level_0⟩ rfl ⟨(some (ad 0)), rfl⟩ ?_
  refine f_get (v := .int y.2.2.2.2.1) (k := 14) X Z i5 rfl (by decide) (by decide +kernel) dX5_level_1 km0 rfl ?_
  exact f_iret X hr hlk Z (Nat.le_of_ble_eq_true rfl) (Nat.le_of_ble_eq_true rfl) dX5_level_4 (outM_same hR rfl)
set_option maxHeartbeats 4000000 in
set_option maxRecDepth 100000 in
theorem c_X5_count (l : Launch) (G : gT) (w : wT) (tg : tT) (ad : Nat → Nat) (c nb : Nat) (y : Yd) (hR : RepM G tg w ad c y) (hY : Yok nb y) (hn : nb ≤ 512) (t : Int32) : Met l yX5_count wsX5_count ({ frames := 2, cells := 0, slots := 0, locals := 42 }) (va_Pc [.ref (ad 0), .int t] (wG G w)) (Qi G (OutM G tg w ad c (sp_count t y))) 0 0 (fr G) := by
  refine f_met (cc := cX5_count) (maxL := 2) (ret := (some .int)) (by decide) rfl rfl (Nat.le_of_ble_eq_true rfl) ?_
  intro p e s m below meth cd X hr hlk hnm Z ls hl
  have X : CallFix p m cd cX5_count 2 s [.ref (ad 0), .int t].toArray wsX5_count RX5 := X
  have hl : lV ls _ [some (.ref (ad 0)), some (.int t)] := hl
  obtain ⟨F, sd, na, ro, wi, T, hM, hP⟩ := id hR
  obtain ⟨h1, h2, h3, h4, h5, h6, h7⟩ := id hP
  have km0 := hM.1
  have km1 : w (ad 1) = some (aI G 600 (F 1)) := hM.2.1 1 (by decide) (by decide)
  have km2 : w (ad 2) = some (aI G 600 (F 2)) := hM.2.1 2 (by decide) (by decide)
  have km3 : w (ad 3) = some (aI G 600 (F 3)) := hM.2.1 3 (by decide) (by decide)
  have km4 : w (ad 4) = some (aI G 600 (F 4)) := hM.2.1 4 (by decide) (by decide)
  have km5 : w (ad 5) = some (aI G 7200 (F 5)) := hM.2.1 5 (by decide) (by decide)
  have km6 : w (ad 6) = some (aI G 600 (F 6)) := hM.2.1 6 (by decide) (by decide)
  have km7 : w (ad 7) = some (aZ G 600 (F 7)) := hM.2.1 7 (by decide) (by decide)
  have km8 : w (ad 8) = some (aI G 6 (F 8)) := hM.2.1 8 (by decide) (by decide)
  have km9 : w (ad 9) = some (aI G 12 (F 9)) := hM.2.1 9 (by decide) (by decide)
  have km10 : w (ad 10) = some (aI G 144 (F 10)) := hM.2.1 10 (by decide) (by decide)
  have km11 : w (ad 11) = some (aI G 8 (F 11)) := hM.2.1 11 (by decide) (by decide)
  refine f_iload X hl ⟨_, rfl, dX5_count_0⟩ rfl ?_
  refine f_callSi (rest := []) X Z hl.1 (c_X5_isTrack l G _ _) (va_cwS 1 X.2.2.2.2 gX5_count_X5_isTrack rfl rfl rfl (by decide +kernel) ⟨(Nat.le_of_ble_eq_true rfl), (Nat.le_of_ble_eq_true rfl)⟩) rfl dX5_count_1 ⟨(Nat.le_of_ble_eq_true rfl), (Nat.le_of_ble_eq_true rfl)⟩ rfl (Nat.le_of_ble_eq_true rfl) (fun r1 w1 H locs p1 Z => ?_)
  obtain ⟨w1e, hr1⟩ := p1
  have w1e := w1e.symm
  subst w1e
  refine lv_if_eq (tgt := 15) X.1 X.2.1 dX5_count_4 (by decide) (fun c4 => ?_) (fun c4 => ?_)
  · rw [hr1, bI_0] at c4
    refine lv_iconst (v := (-1)) X.1 X.2.1 dX5_count_15 (by decide) ?_
    exact f_iret X hr hlk Z (Nat.le_of_ble_eq_true rfl) (Nat.le_of_ble_eq_true rfl) dX5_count_16 (outM_same hR (if_neg c4))
  · rw [hr1, bI_0, Classical.not_not] at c4
    obtain ⟨j, hjt_j⟩ : ∃ j, t.toNatClampNeg = j := ⟨_, rfl⟩
    have hj_j : j < 6 := hjt_j ▸ tn_lt c4
    have hin_j : vp_in t 6 := vp_in_iff.mpr c4
    have hch_j : chM F j (T j) := hP.ch hj_j (Nat.le_trans (hP.lenT hY hn hj_j) (by decide))
    refine f_aload (v := .ref (ad 0)) X hl ⟨_, rfl, dX5_count_7⟩ rfl ⟨(some (ad 0)), rfl⟩ ?_
    refine f_iload X hl ⟨_, rfl, dX5_count_8⟩ rfl ?_
    refine f_callVi (rest := []) X Z hl.1 (c_X5_countOf l G w tg ad F sd na ro wi y.2.2.2.2.1 hM t j (T j) hjt_j hin_j hch_j) (cwV 1 X.2.2.2.2 gX5_count_X5_countOf rfl rfl rfl (by decide +kernel) ⟨(Nat.le_of_ble_eq_true rfl), (Nat.le_of_ble_eq_true rfl)⟩) rfl rfl dX5_count_9 ⟨(Nat.le_of_ble_eq_true rfl), (Nat.le_of_ble_eq_true rfl)⟩ rfl (Nat.le_of_ble_eq_true rfl) km0 (fun r9 w2 H locs p9 Z => ?_)
    obtain ⟨w2e, hr9⟩ := p9
    have w2e := w2e.symm
    subst w2e
    refine lv_goto (tgt := 16) X.1 X.2.1 dX5_count_12 (by decide) ?_
    exact f_iret X hr hlk Z (Nat.le_of_ble_eq_true rfl) (Nat.le_of_ble_eq_true rfl) dX5_count_16 (outM_same hR (by unfold sp_count tn; rw [if_pos c4, hjt_j, hr9, hP.len j]))
set_option maxHeartbeats 4000000 in
set_option maxRecDepth 100000 in
theorem c_X5_reasons (l : Launch) (G : gT) (w : wT) (tg : tT) (ad : Nat → Nat) (c nb : Nat) (y : Yd) (hR : RepM G tg w ad c y) (hY : Yok nb y) (hn : nb ≤ 512) (k : Int32) : Met l yX5_reasons wsX5_reasons ({ frames := 1, cells := 0, slots := 0, locals := 22 }) (va_Pc [.ref (ad 0), .int k] (wG G w)) (Qi G (OutM G tg w ad c (sp_reasons k y))) 0 0 (fr G) := by
  refine f_met (cc := cX5_reasons) (maxL := 2) (ret := (some .int)) (by decide) rfl rfl (Nat.le_of_ble_eq_true rfl) ?_
  intro p e s m below meth cd X hr hlk hnm Z ls hl
  have X : CallFix p m cd cX5_reasons 2 s [.ref (ad 0), .int k].toArray wsX5_reasons RX5 := X
  have hl : lV ls _ [some (.ref (ad 0)), some (.int k)] := hl
  have i5 : ∀ w ∈ wsX50, w ∈ wsX5_reasons := by decide +kernel
  obtain ⟨F, sd, na, ro, wi, T, hM, hP⟩ := id hR
  obtain ⟨h1, h2, h3, h4, h5, h6, h7⟩ := id hP
  have km0 := hM.1
  have km1 : w (ad 1) = some (aI G 600 (F 1)) := hM.2.1 1 (by decide) (by decide)
  have km2 : w (ad 2) = some (aI G 600 (F 2)) := hM.2.1 2 (by decide) (by decide)
  have km3 : w (ad 3) = some (aI G 600 (F 3)) := hM.2.1 3 (by decide) (by decide)
  have km4 : w (ad 4) = some (aI G 600 (F 4)) := hM.2.1 4 (by decide) (by decide)
  have km5 : w (ad 5) = some (aI G 7200 (F 5)) := hM.2.1 5 (by decide) (by decide)
  have km6 : w (ad 6) = some (aI G 600 (F 6)) := hM.2.1 6 (by decide) (by decide)
  have km7 : w (ad 7) = some (aZ G 600 (F 7)) := hM.2.1 7 (by decide) (by decide)
  have km8 : w (ad 8) = some (aI G 6 (F 8)) := hM.2.1 8 (by decide) (by decide)
  have km9 : w (ad 9) = some (aI G 12 (F 9)) := hM.2.1 9 (by decide) (by decide)
  have km10 : w (ad 10) = some (aI G 144 (F 10)) := hM.2.1 10 (by decide) (by decide)
  have km11 : w (ad 11) = some (aI G 8 (F 11)) := hM.2.1 11 (by decide) (by decide)
  refine f_iload X hl ⟨_, rfl, dX5_reasons_0⟩ rfl ?_
  refine lv_iconst (v := 1) X.1 X.2.1 dX5_reasons_1 (by decide) ?_
  refine lv_bipush (v := 7) X.1 X.2.1 dX5_reasons_2 (by decide) ?_
  refine f_callSi (rest := []) X Z hl.1 (c_X5_in l G _ _ _ _) (va_cwS 3 X.2.2.2.2 gX5_reasons_X5_in rfl rfl rfl (by decide +kernel) ⟨(Nat.le_of_ble_eq_true rfl), (Nat.le_of_ble_eq_true rfl)⟩) rfl dX5_reasons_4 ⟨(Nat.le_of_ble_eq_true rfl), (Nat.le_of_ble_eq_true rfl)⟩ rfl (Nat.le_of_ble_eq_true rfl) (fun r4 w1 H locs p4 Z => ?_)
  obtain ⟨w1e, hr4⟩ := p4
  have w1e := w1e.symm
  subst w1e
  refine lv_if_eq (tgt := 19) X.1 X.2.1 dX5_reasons_7 (by decide) (fun c7 => ?_) (fun c7 => ?_)
  · rw [hr4, bI_0] at c7
    refine lv_iconst (v := (-1)) X.1 X.2.1 dX5_reasons_19 (by decide) ?_
    exact f_iret X hr hlk Z (Nat.le_of_ble_eq_true rfl) (Nat.le_of_ble_eq_true rfl) dX5_reasons_20 (outM_same hR (if_neg c7))
  · rw [hr4, bI_0, Classical.not_not] at c7
    refine f_aload (v := .ref (ad 0)) X hl ⟨_, rfl, dX5_reasons_10⟩ rfl ⟨(some (ad 0)), rfl⟩ ?_
    refine f_get (v := .ref (ad 11)) (k := 15) X Z i5 rfl (by decide) (by decide +kernel) dX5_reasons_11 km0 rfl ?_
    refine f_iload X hl ⟨_, rfl, dX5_reasons_14⟩ rfl ?_
    refine f_iald X Z dX5_reasons_15 km11 (vp_in_iff.mpr (by simp only [kc_1, kc_7] at c7; omega)) ?_
    refine lv_goto (tgt := 20) X.1 X.2.1 dX5_reasons_16 (by decide) ?_
    exact f_iret X hr hlk Z (Nat.le_of_ble_eq_true rfl) (Nat.le_of_ble_eq_true rfl) dX5_reasons_20 (by rw [h7]; exact outM_same hR (if_pos c7))
set_option maxHeartbeats 4000000 in
set_option maxRecDepth 100000 in
theorem c_X5_weigh (l : Launch) (G : gT) (w : wT) (tg : tT) (ad : Nat → Nat) (c nb : Nat) (y : Yd) (hR : RepM G tg w ad c y) (hY : Yok nb y) (hn : nb ≤ 512) (t k : Int32) : Met l yX5_weigh wsX5_weigh ({ frames := 2, cells := 0, slots := 0, locals := 42 }) (va_Pc [.ref (ad 0), .int t, .int k] (wG G w)) (Qi G (OutM G tg w ad c (sp_weigh t k y))) 0 0 (fr G) := by
  refine f_met (cc := cX5_weigh) (maxL := 4) (ret := (some .int)) (by decide) rfl rfl (Nat.le_of_ble_eq_true rfl) ?_
  intro p e s m below meth cd X hr hlk hnm Z ls hl
  have X : CallFix p m cd cX5_weigh 4 s [.ref (ad 0), .int t, .int k].toArray wsX5_weigh RX5 := X
  have hl : lV ls _ [some (.ref (ad 0)), some (.int t), some (.int k), none] := hl
  obtain ⟨F, sd, na, ro, wi, T, hM, hP⟩ := id hR
  obtain ⟨h1, h2, h3, h4, h5, h6, h7⟩ := id hP
  have km0 := hM.1
  have km1 : w (ad 1) = some (aI G 600 (F 1)) := hM.2.1 1 (by decide) (by decide)
  have km2 : w (ad 2) = some (aI G 600 (F 2)) := hM.2.1 2 (by decide) (by decide)
  have km3 : w (ad 3) = some (aI G 600 (F 3)) := hM.2.1 3 (by decide) (by decide)
  have km4 : w (ad 4) = some (aI G 600 (F 4)) := hM.2.1 4 (by decide) (by decide)
  have km5 : w (ad 5) = some (aI G 7200 (F 5)) := hM.2.1 5 (by decide) (by decide)
  have km6 : w (ad 6) = some (aI G 600 (F 6)) := hM.2.1 6 (by decide) (by decide)
  have km7 : w (ad 7) = some (aZ G 600 (F 7)) := hM.2.1 7 (by decide) (by decide)
  have km8 : w (ad 8) = some (aI G 6 (F 8)) := hM.2.1 8 (by decide) (by decide)
  have km9 : w (ad 9) = some (aI G 12 (F 9)) := hM.2.1 9 (by decide) (by decide)
  have km10 : w (ad 10) = some (aI G 144 (F 10)) := hM.2.1 10 (by decide) (by decide)
  have km11 : w (ad 11) = some (aI G 8 (F 11)) := hM.2.1 11 (by decide) (by decide)
  refine f_iload X hl ⟨_, rfl, dX5_weigh_0⟩ rfl ?_
  refine f_callSi (rest := []) X Z hl.1 (c_X5_isTrack l G _ _) (va_cwS 1 X.2.2.2.2 gX5_weigh_X5_isTrack rfl rfl rfl (by decide +kernel) ⟨(Nat.le_of_ble_eq_true rfl), (Nat.le_of_ble_eq_true rfl)⟩) rfl dX5_weigh_1 ⟨(Nat.le_of_ble_eq_true rfl), (Nat.le_of_ble_eq_true rfl)⟩ rfl (Nat.le_of_ble_eq_true rfl) (fun r1 w1 H locs p1 Z => ?_)
  obtain ⟨w1e, hr1⟩ := p1
  have w1e := w1e.symm
  subst w1e
  refine lv_if_eq (tgt := 11) X.1 X.2.1 dX5_weigh_4 (by decide) (fun c4 => ?_) (fun c4 => ?_)
  · rw [hr1, bI_0] at c4
    refine lv_iconst (v := (-1)) X.1 X.2.1 dX5_weigh_11 (by decide) ?_
    exact f_iret X hr hlk Z (Nat.le_of_ble_eq_true rfl) (Nat.le_of_ble_eq_true rfl) dX5_weigh_12 (outM_same hR (if_neg (fun h => c4 h.1)))
  · rw [hr1, bI_0, Classical.not_not] at c4
    refine f_iload X hl ⟨_, rfl, dX5_weigh_7⟩ rfl ?_
    refine lv_if_ge (tgt := 13) X.1 X.2.1 dX5_weigh_8 (by decide) (fun c8 => ?_) (fun c8 => ?_)
    · obtain ⟨j, hjt_j⟩ : ∃ j, t.toNatClampNeg = j := ⟨_, rfl⟩
      have hj_j : j < 6 := hjt_j ▸ tn_lt c4
      have hin_j : vp_in t 6 := vp_in_iff.mpr c4
      have hch_j : chM F j (T j) := hP.ch hj_j (Nat.le_trans (hP.lenT hY hn hj_j) (by decide))
      refine f_aload (v := .ref (ad 0)) X hl ⟨_, rfl, dX5_weigh_13⟩ rfl ⟨(some (ad 0)), rfl⟩ ?_
      refine f_iload X hl ⟨_, rfl, dX5_weigh_14⟩ rfl ?_
      refine f_iload X hl ⟨_, rfl, dX5_weigh_15⟩ rfl ?_
      refine f_callVi (rest := []) X Z hl.1 (c_X5_at l G w tg ad F sd na ro wi y.2.2.2.2.1 hM t k j (T j) hjt_j hin_j hch_j (ge0 c8)) (cwV 2 X.2.2.2.2 gX5_weigh_X5_at rfl rfl rfl (by decide +kernel) ⟨(Nat.le_of_ble_eq_true rfl), (Nat.le_of_ble_eq_true rfl)⟩) rfl rfl dX5_weigh_16 ⟨(Nat.le_of_ble_eq_true rfl), (Nat.le_of_ble_eq_true rfl)⟩ rfl (Nat.le_of_ble_eq_true rfl) km0 (fun r16 w2 H locs p16 Z => ?_)
      obtain ⟨w2e, hr16⟩ := p16
      have w2e := w2e.symm
      subst w2e
      rcases hq : (T j)[k.toNatClampNeg]? with _ | ⟨v, d⟩
      · have hr0 : r16 = -1 := by rw [hr16, hq]; rfl
        subst hr0
        have hya : (y.1 j)[k.toNatClampNeg]? = none := by rw [hP.at, hq]; rfl
        refine f_istore X hl ⟨_, rfl, dX5_weigh_19⟩ (by decide) (fun ls hl => ?_)
        have hl : lV ls _ [some (.ref (ad 0)), some (.int t), some (.int k), some (.int (-1))] := hl
        refine f_iload X hl ⟨_, rfl, dX5_weigh_20⟩ rfl ?_
        refine lv_iconst (v := (-1)) X.1 X.2.1 dX5_weigh_21 (by decide) ?_
        refine lv_icmp_ne (tgt := 33) X.1 X.2.1 dX5_weigh_22 (by decide) (fun c22 => ?_) (fun c22 => ?_)
        · exact absurd rfl c22
        · refine f_aload (v := .ref (ad 0)) X hl ⟨_, rfl, dX5_weigh_25⟩ rfl ⟨(some (ad 0)), rfl⟩ ?_
          refine lv_iconst (v := 1) X.1 X.2.1 dX5_weigh_26 (by decide) ?_
          refine f_callVi (rest := []) X Z hl.1 (c_X5_no l G w tg ad F sd na ro wi y.2.2.2.2.1 hM 1 (by decide)) (cwV 1 X.2.2.2.2 gX5_weigh_X5_no rfl rfl rfl (by decide +kernel) ⟨(Nat.le_of_ble_eq_true rfl), (Nat.le_of_ble_eq_true rfl)⟩) rfl rfl dX5_weigh_27 ⟨(Nat.le_of_ble_eq_true rfl), (Nat.le_of_ble_eq_true rfl)⟩ rfl (Nat.le_of_ble_eq_true rfl) km0 (fun r27 w3 H locs p27 Z => ?_)
          obtain ⟨hrT, hwT⟩ := p27
          refine lv_goto (tgt := 38) X.1 X.2.1 dX5_weigh_30 (by decide) ?_
          exact f_iret X hr hlk Z (Nat.le_of_ble_eq_true rfl) (Nat.le_of_ble_eq_true rfl) dX5_weigh_38 (outM_no hP hM FrM.rf hrT hwT (by unfold sp_weigh yat tn; rw [if_pos ⟨c4, ge0 c8⟩, hjt_j, hya]))
      · have hr0 : r16 = nI v := by rw [hr16, hq]; rfl
        subst hr0
        have hya : (y.1 j)[k.toNatClampNeg]? = some d := by rw [hP.at, hq]; rfl
        have hp := h1.1 j _ v d hq
        obtain ⟨hv6, hso, hwe, hde, hcr, hbh, hus⟩ := id hp
        have hcl : (nI v).toNatClampNeg = v := nI_clamp (by omega)
        refine f_istore X hl ⟨_, rfl, dX5_weigh_19⟩ (by decide) (fun ls hl => ?_)
        have hl : lV ls _ [some (.ref (ad 0)), some (.int t), some (.int k), some (.int (nI v))] := hl
        refine f_iload X hl ⟨_, rfl, dX5_weigh_20⟩ rfl ?_
        refine lv_iconst (v := (-1)) X.1 X.2.1 dX5_weigh_21 (by decide) ?_
        refine lv_icmp_ne (tgt := 33) X.1 X.2.1 dX5_weigh_22 (by decide) (fun c22 => ?_) (fun c22 => ?_)
        · refine f_aload (v := .ref (ad 0)) X hl ⟨_, rfl, dX5_weigh_33⟩ rfl ⟨(some (ad 0)), rfl⟩ ?_
          refine f_iload X hl ⟨_, rfl, dX5_weigh_34⟩ rfl ?_
          refine f_callVi (rest := []) X Z hl.1 (c_X5_loadOf l G w tg ad F sd na ro wi y.2.2.2.2.1 hM v d hv6 hwe hcr) (cwV 1 X.2.2.2.2 gX5_weigh_X5_loadOf rfl rfl rfl (by decide +kernel) ⟨(Nat.le_of_ble_eq_true rfl), (Nat.le_of_ble_eq_true rfl)⟩) rfl rfl dX5_weigh_35 ⟨(Nat.le_of_ble_eq_true rfl), (Nat.le_of_ble_eq_true rfl)⟩ rfl (Nat.le_of_ble_eq_true rfl) km0 (fun r35 w4 H locs p35 Z => ?_)
          obtain ⟨w4e, hr35⟩ := p35
          have w4e := w4e.symm
          subst w4e
          exact f_iret X hr hlk Z (Nat.le_of_ble_eq_true rfl) (Nat.le_of_ble_eq_true rfl) dX5_weigh_38 (outM_same hR (by unfold sp_weigh yat tn; rw [if_pos ⟨c4, ge0 c8⟩, hjt_j, hya, hr35]))
        · exact absurd c22 (enc_ne hv6)
    · refine lv_iconst (v := (-1)) X.1 X.2.1 dX5_weigh_11 (by decide) ?_
      exact f_iret X hr hlk Z (Nat.le_of_ble_eq_true rfl) (Nat.le_of_ble_eq_true rfl) dX5_weigh_12 (outM_same hR (if_neg (fun h => nge0 c8 h.2)))
set_option maxHeartbeats 4000000 in
set_option maxRecDepth 100000 in
theorem c_X5_room (l : Launch) (G : gT) (w : wT) (tg : tT) (ad : Nat → Nat) (c nb : Nat) (y : Yd) (hR : RepM G tg w ad c y) (hY : Yok nb y) (hn : nb ≤ 512)  : Met l yX5_room wsX5_room ({ frames := 1, cells := 0, slots := 0, locals := 21 }) (va_Pc [.ref (ad 0)] (wG G w)) (Qi G (OutM G tg w ad c (sp_room y))) 0 0 (fr G) := by
  refine f_met (cc := cX5_room) (maxL := 1) (ret := (some .int)) (by decide) rfl rfl (Nat.le_of_ble_eq_true rfl) ?_
  intro p e s m below meth cd X hr hlk hnm Z ls hl
  have X : CallFix p m cd cX5_room 1 s [.ref (ad 0)].toArray wsX5_room RX5 := X
  have hl : lV ls _ [some (.ref (ad 0))] := hl
  have i5 : ∀ w ∈ wsX50, w ∈ wsX5_room := by decide +kernel
  obtain ⟨F, sd, na, ro, wi, T, hM, hP⟩ := id hR
  obtain ⟨h1, h2, h3, h4, h5, h6, h7⟩ := id hP
  have km0 := hM.1
  have km1 : w (ad 1) = some (aI G 600 (F 1)) := hM.2.1 1 (by decide) (by decide)
  have km2 : w (ad 2) = some (aI G 600 (F 2)) := hM.2.1 2 (by decide) (by decide)
  have km3 : w (ad 3) = some (aI G 600 (F 3)) := hM.2.1 3 (by decide) (by decide)
  have km4 : w (ad 4) = some (aI G 600 (F 4)) := hM.2.1 4 (by decide) (by decide)
  have km5 : w (ad 5) = some (aI G 7200 (F 5)) := hM.2.1 5 (by decide) (by decide)
  have km6 : w (ad 6) = some (aI G 600 (F 6)) := hM.2.1 6 (by decide) (by decide)
  have km7 : w (ad 7) = some (aZ G 600 (F 7)) := hM.2.1 7 (by decide) (by decide)
  have km8 : w (ad 8) = some (aI G 6 (F 8)) := hM.2.1 8 (by decide) (by decide)
  have km9 : w (ad 9) = some (aI G 12 (F 9)) := hM.2.1 9 (by decide) (by decide)
  have km10 : w (ad 10) = some (aI G 144 (F 10)) := hM.2.1 10 (by decide) (by decide)
  have km11 : w (ad 11) = some (aI G 8 (F 11)) := hM.2.1 11 (by decide) (by decide)
  refine f_aload (v := .ref (ad 0)) X hl ⟨_, rfl, dX5_room_0⟩ rfl ⟨(some (ad 0)), rfl⟩ ?_
  refine f_get (v := .int sd) (k := 8) X Z i5 rfl (by decide) (by decide +kernel) dX5_room_1 km0 rfl ?_
  refine lv_iconst (v := (-1)) X.1 X.2.1 dX5_room_4 (by decide) ?_
  refine lv_icmp_ne (tgt := 16) X.1 X.2.1 dX5_room_5 (by decide) (fun c5 => ?_) (fun c5 => ?_)
  · obtain ⟨sn, sb, hsd, hnb, hos, hs12, hfp⟩ := SMo h5 c5
    refine f_aload (v := .ref (ad 0)) X hl ⟨_, rfl, dX5_room_16⟩ rfl ⟨(some (ad 0)), rfl⟩ ?_
    refine f_get (v := .int sd) (k := 8) X Z i5 rfl (by decide) (by decide +kernel) dX5_room_17 km0 rfl ?_
    exact f_iret X hr hlk Z (Nat.le_of_ble_eq_true rfl) (Nat.le_of_ble_eq_true rfl) dX5_room_20 (by rw [hsd]; exact outM_same hR (by unfold sp_room; rw [hos]))
  · have hos := SMn h5 c5
    refine f_aload (v := .ref (ad 0)) X hl ⟨_, rfl, dX5_room_8⟩ rfl ⟨(some (ad 0)), rfl⟩ ?_
    refine lv_iconst (v := 1) X.1 X.2.1 dX5_room_9 (by decide) ?_
    refine f_callVi (rest := []) X Z hl.1 (c_X5_no l G w tg ad F sd na ro wi y.2.2.2.2.1 hM 1 (by decide)) (cwV 1 X.2.2.2.2 gX5_room_X5_no rfl rfl rfl (by decide +kernel) ⟨(Nat.le_of_ble_eq_true rfl), (Nat.le_of_ble_eq_true rfl)⟩) rfl rfl dX5_room_10 ⟨(Nat.le_of_ble_eq_true rfl), (Nat.le_of_ble_eq_true rfl)⟩ rfl (Nat.le_of_ble_eq_true rfl) km0 (fun r10 w1 H locs p10 Z => ?_)
    obtain ⟨hrT, hwT⟩ := p10
    refine lv_goto (tgt := 20) X.1 X.2.1 dX5_room_13 (by decide) ?_
    exact f_iret X hr hlk Z (Nat.le_of_ble_eq_true rfl) (Nat.le_of_ble_eq_true rfl) dX5_room_20 (outM_no hP hM FrM.rf hrT hwT (by unfold sp_room; rw [hos]))
set_option maxHeartbeats 4000000 in
set_option maxRecDepth 100000 in
theorem c_X5_crate (l : Launch) (G : gT) (w : wT) (tg : tT) (ad : Nat → Nat) (c nb : Nat) (y : Yd) (hR : RepM G tg w ad c y) (hY : Yok nb y) (hn : nb ≤ 512) (t k i : Int32) : Met l yX5_crate wsX5_crate ({ frames := 2, cells := 0, slots := 0, locals := 44 }) (va_Pc [.ref (ad 0), .int t, .int k, .int i] (wG G w)) (Qi G (OutM G tg w ad c (sp_crate t k i y))) 0 0 (fr G) := by
  refine f_met (cc := cX5_crate) (maxL := 6) (ret := (some .int)) (by decide) rfl rfl (Nat.le_of_ble_eq_true rfl) ?_
  intro p e s m below meth cd X hr hlk hnm Z ls hl
  have X : CallFix p m cd cX5_crate 6 s [.ref (ad 0), .int t, .int k, .int i].toArray wsX5_crate RX5 := X
  have hl : lV ls _ [some (.ref (ad 0)), some (.int t), some (.int k), some (.int i), none, none] := hl
  have i5 : ∀ w ∈ wsX50, w ∈ wsX5_crate := by decide +kernel
  obtain ⟨F, sd, na, ro, wi, T, hM, hP⟩ := id hR
  obtain ⟨h1, h2, h3, h4, h5, h6, h7⟩ := id hP
  have km0 := hM.1
  have km1 : w (ad 1) = some (aI G 600 (F 1)) := hM.2.1 1 (by decide) (by decide)
  have km2 : w (ad 2) = some (aI G 600 (F 2)) := hM.2.1 2 (by decide) (by decide)
  have km3 : w (ad 3) = some (aI G 600 (F 3)) := hM.2.1 3 (by decide) (by decide)
  have km4 : w (ad 4) = some (aI G 600 (F 4)) := hM.2.1 4 (by decide) (by decide)
  have km5 : w (ad 5) = some (aI G 7200 (F 5)) := hM.2.1 5 (by decide) (by decide)
  have km6 : w (ad 6) = some (aI G 600 (F 6)) := hM.2.1 6 (by decide) (by decide)
  have km7 : w (ad 7) = some (aZ G 600 (F 7)) := hM.2.1 7 (by decide) (by decide)
  have km8 : w (ad 8) = some (aI G 6 (F 8)) := hM.2.1 8 (by decide) (by decide)
  have km9 : w (ad 9) = some (aI G 12 (F 9)) := hM.2.1 9 (by decide) (by decide)
  have km10 : w (ad 10) = some (aI G 144 (F 10)) := hM.2.1 10 (by decide) (by decide)
  have km11 : w (ad 11) = some (aI G 8 (F 11)) := hM.2.1 11 (by decide) (by decide)
  refine f_iload X hl ⟨_, rfl, dX5_crate_0⟩ rfl ?_
  refine f_callSi (rest := []) X Z hl.1 (c_X5_isTrack l G _ _) (va_cwS 1 X.2.2.2.2 gX5_crate_X5_isTrack rfl rfl rfl (by decide +kernel) ⟨(Nat.le_of_ble_eq_true rfl), (Nat.le_of_ble_eq_true rfl)⟩) rfl dX5_crate_1 ⟨(Nat.le_of_ble_eq_true rfl), (Nat.le_of_ble_eq_true rfl)⟩ rfl (Nat.le_of_ble_eq_true rfl) (fun r1 w1 H locs p1 Z => ?_)
  obtain ⟨w1e, hr1⟩ := p1
  have w1e := w1e.symm
  subst w1e
  refine lv_if_eq (tgt := 11) X.1 X.2.1 dX5_crate_4 (by decide) (fun c4 => ?_) (fun c4 => ?_)
  · rw [hr1, bI_0] at c4
    refine lv_iconst (v := (-1)) X.1 X.2.1 dX5_crate_11 (by decide) ?_
    exact f_iret X hr hlk Z (Nat.le_of_ble_eq_true rfl) (Nat.le_of_ble_eq_true rfl) dX5_crate_12 (outM_same hR (if_neg (fun h => c4 h.1)))
  · rw [hr1, bI_0, Classical.not_not] at c4
    refine f_iload X hl ⟨_, rfl, dX5_crate_7⟩ rfl ?_
    refine lv_if_ge (tgt := 13) X.1 X.2.1 dX5_crate_8 (by decide) (fun c8 => ?_) (fun c8 => ?_)
    · obtain ⟨j, hjt_j⟩ : ∃ j, t.toNatClampNeg = j := ⟨_, rfl⟩
      have hj_j : j < 6 := hjt_j ▸ tn_lt c4
      have hin_j : vp_in t 6 := vp_in_iff.mpr c4
      have hch_j : chM F j (T j) := hP.ch hj_j (Nat.le_trans (hP.lenT hY hn hj_j) (by decide))
      refine f_aload (v := .ref (ad 0)) X hl ⟨_, rfl, dX5_crate_13⟩ rfl ⟨(some (ad 0)), rfl⟩ ?_
      refine f_iload X hl ⟨_, rfl, dX5_crate_14⟩ rfl ?_
      refine f_iload X hl ⟨_, rfl, dX5_crate_15⟩ rfl ?_
      refine f_callVi (rest := []) X Z hl.1 (c_X5_at l G w tg ad F sd na ro wi y.2.2.2.2.1 hM t k j (T j) hjt_j hin_j hch_j (ge0 c8)) (cwV 2 X.2.2.2.2 gX5_crate_X5_at rfl rfl rfl (by decide +kernel) ⟨(Nat.le_of_ble_eq_true rfl), (Nat.le_of_ble_eq_true rfl)⟩) rfl rfl dX5_crate_16 ⟨(Nat.le_of_ble_eq_true rfl), (Nat.le_of_ble_eq_true rfl)⟩ rfl (Nat.le_of_ble_eq_true rfl) km0 (fun r16 w2 H locs p16 Z => ?_)
      obtain ⟨w2e, hr16⟩ := p16
      have w2e := w2e.symm
      subst w2e
      rcases hq : (T j)[k.toNatClampNeg]? with _ | ⟨v, d⟩
      · have hr0 : r16 = -1 := by rw [hr16, hq]; rfl
        subst hr0
        have hya : (y.1 j)[k.toNatClampNeg]? = none := by rw [hP.at, hq]; rfl
        refine f_istore2 X hl dX5_crate_19 (by decide) (fun ls hl => ?_)
        have hl : lV ls _ [some (.ref (ad 0)), some (.int t), some (.int k), some (.int i), some (.int (-1)), none] := hl
        refine f_aload (v := .ref (ad 0)) X hl ⟨_, rfl, dX5_crate_21⟩ rfl ⟨(some (ad 0)), rfl⟩ ?_
        refine f_iload2 X hl dX5_crate_22 rfl ?_
        refine f_iload X hl ⟨_, rfl, dX5_crate_24⟩ rfl ?_
        refine f_callVi (rest := []) X Z hl.1 (c_X5_against l G w tg ad F sd na ro wi y.2.2.2.2.1 hM (-1) i none (Or.inl ⟨rfl, rfl⟩)) (cwV 2 X.2.2.2.2 gX5_crate_X5_against rfl rfl rfl (by decide +kernel) ⟨(Nat.le_of_ble_eq_true rfl), (Nat.le_of_ble_eq_true rfl)⟩) rfl rfl dX5_crate_25 ⟨(Nat.le_of_ble_eq_true rfl), (Nat.le_of_ble_eq_true rfl)⟩ rfl (Nat.le_of_ble_eq_true rfl) km0 (fun r25 w3 H locs p25 Z => ?_)
        obtain ⟨w3e, hr25⟩ := p25
        have w3e := w3e.symm
        subst w3e
        subst hr25
        refine f_istore2 X hl dX5_crate_28 (by decide) (fun ls hl => ?_)
        have hl : lV ls _ [some (.ref (ad 0)), some (.int t), some (.int k), some (.int i), some (.int (-1)), some (.int (nI (whyC none i)))] := hl
        refine f_iload2 X hl dX5_crate_30 rfl ?_
        refine lv_if_le (tgt := 44) X.1 X.2.1 dX5_crate_32 (by decide) (fun c32 => ?_) (fun c32 => ?_)
        · exact absurd c32 (by show ¬ nI 1 ≤ 0; decide)
        · refine f_aload (v := .ref (ad 0)) X hl ⟨_, rfl, dX5_crate_35⟩ rfl ⟨(some (ad 0)), rfl⟩ ?_
          refine f_iload2 X hl dX5_crate_36 rfl ?_
          refine f_callVi (rest := []) X Z hl.1 (c_X5_no l G w tg ad F sd na ro wi y.2.2.2.2.1 hM (whyC none i) (whyC_lt _ _)) (cwV 1 X.2.2.2.2 gX5_crate_X5_no rfl rfl rfl (by decide +kernel) ⟨(Nat.le_of_ble_eq_true rfl), (Nat.le_of_ble_eq_true rfl)⟩) rfl rfl dX5_crate_38 ⟨(Nat.le_of_ble_eq_true rfl), (Nat.le_of_ble_eq_true rfl)⟩ rfl (Nat.le_of_ble_eq_true rfl) km0 (fun r38 w4 H locs p38 Z => ?_)
          obtain ⟨hrT, hwT⟩ := p38
          refine lv_goto (tgt := 56) X.1 X.2.1 dX5_crate_41 (by decide) ?_
          exact f_iret X hr hlk Z (Nat.le_of_ble_eq_true rfl) (Nat.le_of_ble_eq_true rfl) dX5_crate_56 (outM_no hP hM FrM.rf hrT hwT (by unfold sp_crate yat tn; rw [if_pos ⟨c4, ge0 c8⟩, hjt_j, hya, if_pos (nI_pos0 (whyC_lt _ _) c32)]))
      · have hr0 : r16 = nI v := by rw [hr16, hq]; rfl
        subst hr0
        have hya : (y.1 j)[k.toNatClampNeg]? = some d := by rw [hP.at, hq]; rfl
        have hp := h1.1 j _ v d hq
        obtain ⟨hv6, hso, hwe, hde, hcr, hbh, hus⟩ := id hp
        have hcl : (nI v).toNatClampNeg = v := nI_clamp (by omega)
        refine f_istore2 X hl dX5_crate_19 (by decide) (fun ls hl => ?_)
        have hl : lV ls _ [some (.ref (ad 0)), some (.int t), some (.int k), some (.int i), some (.int (nI v)), none] := hl
        refine f_aload (v := .ref (ad 0)) X hl ⟨_, rfl, dX5_crate_21⟩ rfl ⟨(some (ad 0)), rfl⟩ ?_
        refine f_iload2 X hl dX5_crate_22 rfl ?_
        refine f_iload X hl ⟨_, rfl, dX5_crate_24⟩ rfl ?_
        refine f_callVi (rest := []) X Z hl.1 (c_X5_against l G w tg ad F sd na ro wi y.2.2.2.2.1 hM (nI v) i (some d) (Or.inr ⟨v, d, _, rfl, rfl, hp⟩)) (cwV 2 X.2.2.2.2 gX5_crate_X5_against rfl rfl rfl (by decide +kernel) ⟨(Nat.le_of_ble_eq_true rfl), (Nat.le_of_ble_eq_true rfl)⟩) rfl rfl dX5_crate_25 ⟨(Nat.le_of_ble_eq_true rfl), (Nat.le_of_ble_eq_true rfl)⟩ rfl (Nat.le_of_ble_eq_true rfl) km0 (fun r25 w5 H locs p25 Z => ?_)
        obtain ⟨w5e, hr25⟩ := p25
        have w5e := w5e.symm
        subst w5e
        subst hr25
        refine f_istore2 X hl dX5_crate_28 (by decide) (fun ls hl => ?_)
        have hl : lV ls _ [some (.ref (ad 0)), some (.int t), some (.int k), some (.int i), some (.int (nI v)), some (.int (nI (whyC (some d) i)))] := hl
        refine f_iload2 X hl dX5_crate_30 rfl ?_
        refine lv_if_le (tgt := 44) X.1 X.2.1 dX5_crate_32 (by decide) (fun c32 => ?_) (fun c32 => ?_)
        · have hz := nI_le0 (whyC_lt _ _) c32
          obtain ⟨so, we, de, nn, f, hod, hi0, hi1⟩ := whyC_0 hz
          cases hod
          obtain ⟨h4n, hn12, hcf⟩ := hcr
          have hin : i.toNatClampNeg < nn := tn_lt ⟨hi0, hi1⟩
          have hix : (12 : Int32) * nI v + i = nI (12 * v + i.toNatClampNeg) := by rw [← ix12 hv6 (by omega), nI_tn hi0]
          have hixc : ((12 : Int32) * nI v + i).toNatClampNeg = 12 * v + i.toNatClampNeg := by rw [hix, nI_clamp (by omega)]
          have hixi : vp_in ((12 : Int32) * nI v + i) 7200 := by rw [hix]; exact vp_in_nI (by omega) (by decide)
          refine f_aload (v := .ref (ad 0)) X hl ⟨_, rfl, dX5_crate_44⟩ rfl ⟨(some (ad 0)), rfl⟩ ?_
          refine f_get (v := .ref (ad 5)) (k := 4) X Z i5 rfl (by decide) (by decide +kernel) dX5_crate_45 km0 rfl ?_
          refine lv_bipush (v := 12) X.1 X.2.1 dX5_crate_48 (by decide) ?_
          refine f_iload2 X hl dX5_crate_50 rfl ?_
          refine lv_imul X.1 X.2.1 dX5_crate_52 ?_
          refine f_iload X hl ⟨_, rfl, dX5_crate_53⟩ rfl ?_
          refine lv_iadd X.1 X.2.1 dX5_crate_54 ?_
          refine f_iald X Z dX5_crate_55 km5 hixi ?_
          rw [hixc]
          exact f_iret X hr hlk Z (Nat.le_of_ble_eq_true rfl) (Nat.le_of_ble_eq_true rfl) dX5_crate_56 (by rw [hcf _ hin]; exact outM_same hR (by unfold sp_crate yat tn; rw [if_pos ⟨c4, ge0 c8⟩, hjt_j, hya, if_neg (fun z => z hz)]))
        · refine f_aload (v := .ref (ad 0)) X hl ⟨_, rfl, dX5_crate_35⟩ rfl ⟨(some (ad 0)), rfl⟩ ?_
          refine f_iload2 X hl dX5_crate_36 rfl ?_
          refine f_callVi (rest := []) X Z hl.1 (c_X5_no l G w tg ad F sd na ro wi y.2.2.2.2.1 hM (whyC (some d) i) (whyC_lt _ _)) (cwV 1 X.2.2.2.2 gX5_crate_X5_no rfl rfl rfl (by decide +kernel) ⟨(Nat.le_of_ble_eq_true rfl), (Nat.le_of_ble_eq_true rfl)⟩) rfl rfl dX5_crate_38 ⟨(Nat.le_of_ble_eq_true rfl), (Nat.le_of_ble_eq_true rfl)⟩ rfl (Nat.le_of_ble_eq_true rfl) km0 (fun r38 w6 H locs p38 Z => ?_)
          obtain ⟨hrT, hwT⟩ := p38
          refine lv_goto (tgt := 56) X.1 X.2.1 dX5_crate_41 (by decide) ?_
          exact f_iret X hr hlk Z (Nat.le_of_ble_eq_true rfl) (Nat.le_of_ble_eq_true rfl) dX5_crate_56 (outM_no hP hM FrM.rf hrT hwT (by unfold sp_crate yat tn; rw [if_pos ⟨c4, ge0 c8⟩, hjt_j, hya, if_pos (nI_pos0 (whyC_lt _ _) c32)]))
    · refine lv_iconst (v := (-1)) X.1 X.2.1 dX5_crate_11 (by decide) ?_
      exact f_iret X hr hlk Z (Nat.le_of_ble_eq_true rfl) (Nat.le_of_ble_eq_true rfl) dX5_crate_12 (outM_same hR (if_neg (fun h => nge0 c8 h.2)))
set_option maxHeartbeats 4000000 in
set_option maxRecDepth 100000 in
theorem c_X5_length (l : Launch) (G : gT) (w : wT) (tg : tT) (ad : Nat → Nat) (c nb : Nat) (y : Yd) (hR : RepM G tg w ad c y) (hY : Yok nb y) (hn : nb ≤ 512) (t k : Int32) : Met l yX5_length wsX5_length ({ frames := 2, cells := 0, slots := 0, locals := 42 }) (va_Pc [.ref (ad 0), .int t, .int k] (wG G w)) (Qi G (OutM G tg w ad c (sp_length t k y))) 0 0 (fr G) := by
  refine f_met (cc := cX5_length) (maxL := 4) (ret := (some .int)) (by decide) rfl rfl (Nat.le_of_ble_eq_true rfl) ?_
  intro p e s m below meth cd X hr hlk hnm Z ls hl
  have X : CallFix p m cd cX5_length 4 s [.ref (ad 0), .int t, .int k].toArray wsX5_length RX5 := X
  have hl : lV ls _ [some (.ref (ad 0)), some (.int t), some (.int k), none] := hl
  have i5 : ∀ w ∈ wsX50, w ∈ wsX5_length := by decide +kernel
  obtain ⟨F, sd, na, ro, wi, T, hM, hP⟩ := id hR
  obtain ⟨h1, h2, h3, h4, h5, h6, h7⟩ := id hP
  have km0 := hM.1
  have km1 : w (ad 1) = some (aI G 600 (F 1)) := hM.2.1 1 (by decide) (by decide)
  have km2 : w (ad 2) = some (aI G 600 (F 2)) := hM.2.1 2 (by decide) (by decide)
  have km3 : w (ad 3) = some (aI G 600 (F 3)) := hM.2.1 3 (by decide) (by decide)
  have km4 : w (ad 4) = some (aI G 600 (F 4)) := hM.2.1 4 (by decide) (by decide)
  have km5 : w (ad 5) = some (aI G 7200 (F 5)) := hM.2.1 5 (by decide) (by decide)
  have km6 : w (ad 6) = some (aI G 600 (F 6)) := hM.2.1 6 (by decide) (by decide)
  have km7 : w (ad 7) = some (aZ G 600 (F 7)) := hM.2.1 7 (by decide) (by decide)
  have km8 : w (ad 8) = some (aI G 6 (F 8)) := hM.2.1 8 (by decide) (by decide)
  have km9 : w (ad 9) = some (aI G 12 (F 9)) := hM.2.1 9 (by decide) (by decide)
  have km10 : w (ad 10) = some (aI G 144 (F 10)) := hM.2.1 10 (by decide) (by decide)
  have km11 : w (ad 11) = some (aI G 8 (F 11)) := hM.2.1 11 (by decide) (by decide)
  refine f_iload X hl ⟨_, rfl, dX5_length_0⟩ rfl ?_
  refine f_callSi (rest := []) X Z hl.1 (c_X5_isTrack l G _ _) (va_cwS 1 X.2.2.2.2 gX5_length_X5_isTrack rfl rfl rfl (by decide +kernel) ⟨(Nat.le_of_ble_eq_true rfl), (Nat.le_of_ble_eq_true rfl)⟩) rfl dX5_length_1 ⟨(Nat.le_of_ble_eq_true rfl), (Nat.le_of_ble_eq_true rfl)⟩ rfl (Nat.le_of_ble_eq_true rfl) (fun r1 w1 H locs p1 Z => ?_)
  obtain ⟨w1e, hr1⟩ := p1
  have w1e := w1e.symm
  subst w1e
  refine lv_if_eq (tgt := 11) X.1 X.2.1 dX5_length_4 (by decide) (fun c4 => ?_) (fun c4 => ?_)
  · rw [hr1, bI_0] at c4
    refine lv_iconst (v := (-1)) X.1 X.2.1 dX5_length_11 (by decide) ?_
    exact f_iret X hr hlk Z (Nat.le_of_ble_eq_true rfl) (Nat.le_of_ble_eq_true rfl) dX5_length_12 (outM_same hR (if_neg (fun h => c4 h.1)))
  · rw [hr1, bI_0, Classical.not_not] at c4
    refine f_iload X hl ⟨_, rfl, dX5_length_7⟩ rfl ?_
    refine lv_if_ge (tgt := 13) X.1 X.2.1 dX5_length_8 (by decide) (fun c8 => ?_) (fun c8 => ?_)
    · obtain ⟨j, hjt_j⟩ : ∃ j, t.toNatClampNeg = j := ⟨_, rfl⟩
      have hj_j : j < 6 := hjt_j ▸ tn_lt c4
      have hin_j : vp_in t 6 := vp_in_iff.mpr c4
      have hch_j : chM F j (T j) := hP.ch hj_j (Nat.le_trans (hP.lenT hY hn hj_j) (by decide))
      refine f_aload (v := .ref (ad 0)) X hl ⟨_, rfl, dX5_length_13⟩ rfl ⟨(some (ad 0)), rfl⟩ ?_
      refine f_iload X hl ⟨_, rfl, dX5_length_14⟩ rfl ?_
      refine f_iload X hl ⟨_, rfl, dX5_length_15⟩ rfl ?_
      refine f_callVi (rest := []) X Z hl.1 (c_X5_at l G w tg ad F sd na ro wi y.2.2.2.2.1 hM t k j (T j) hjt_j hin_j hch_j (ge0 c8)) (cwV 2 X.2.2.2.2 gX5_length_X5_at rfl rfl rfl (by decide +kernel) ⟨(Nat.le_of_ble_eq_true rfl), (Nat.le_of_ble_eq_true rfl)⟩) rfl rfl dX5_length_16 ⟨(Nat.le_of_ble_eq_true rfl), (Nat.le_of_ble_eq_true rfl)⟩ rfl (Nat.le_of_ble_eq_true rfl) km0 (fun r16 w2 H locs p16 Z => ?_)
      obtain ⟨w2e, hr16⟩ := p16
      have w2e := w2e.symm
      subst w2e
      rcases hq : (T j)[k.toNatClampNeg]? with _ | ⟨v, d⟩
      · have hr0 : r16 = -1 := by rw [hr16, hq]; rfl
        subst hr0
        have hya : (y.1 j)[k.toNatClampNeg]? = none := by rw [hP.at, hq]; rfl
        refine f_istore X hl ⟨_, rfl, dX5_length_19⟩ (by decide) (fun ls hl => ?_)
        have hl : lV ls _ [some (.ref (ad 0)), some (.int t), some (.int k), some (.int (-1))] := hl
        refine f_iload X hl ⟨_, rfl, dX5_length_20⟩ rfl ?_
        refine lv_iconst (v := (-1)) X.1 X.2.1 dX5_length_21 (by decide) ?_
        refine lv_icmp_eq (tgt := 41) X.1 X.2.1 dX5_length_22 (by decide) (fun c22 => ?_) (fun c22 => ?_)
        · refine f_iload X hl ⟨_, rfl, dX5_length_41⟩ rfl ?_
          refine lv_iconst (v := (-1)) X.1 X.2.1 dX5_length_42 (by decide) ?_
          refine lv_icmp_eq (tgt := 56) X.1 X.2.1 dX5_length_43 (by decide) (fun c43 => ?_) (fun c43 => ?_)
          · refine f_aload (v := .ref (ad 0)) X hl ⟨_, rfl, dX5_length_56⟩ rfl ⟨(some (ad 0)), rfl⟩ ?_
            refine lv_iconst (v := 1) X.1 X.2.1 dX5_length_57 (by decide) ?_
            refine f_callVi (rest := []) X Z hl.1 (c_X5_no l G w tg ad F sd na ro wi y.2.2.2.2.1 hM 1 (by decide)) (cwV 1 X.2.2.2.2 gX5_length_X5_no rfl rfl rfl (by decide +kernel) ⟨(Nat.le_of_ble_eq_true rfl), (Nat.le_of_ble_eq_true rfl)⟩) rfl rfl dX5_length_58 ⟨(Nat.le_of_ble_eq_true rfl), (Nat.le_of_ble_eq_true rfl)⟩ rfl (Nat.le_of_ble_eq_true rfl) km0 (fun r58 w3 H locs p58 Z => ?_)
            obtain ⟨hrT, hwT⟩ := p58
            refine lv_goto (tgt := 70) X.1 X.2.1 dX5_length_61 (by decide) ?_
            exact f_iret X hr hlk Z (Nat.le_of_ble_eq_true rfl) (Nat.le_of_ble_eq_true rfl) dX5_length_70 (outM_no hP hM FrM.rf hrT hwT (by unfold sp_length yat tn; rw [if_pos ⟨c4, ge0 c8⟩, hjt_j, hya]; rfl))
          · exact absurd rfl c43
        · exact absurd rfl c22
      · have hr0 : r16 = nI v := by rw [hr16, hq]; rfl
        subst hr0
        have hya : (y.1 j)[k.toNatClampNeg]? = some d := by rw [hP.at, hq]; rfl
        have hp := h1.1 j _ v d hq
        obtain ⟨hv6, hso, hwe, hde, hcr, hbh, hus⟩ := id hp
        have hcl : (nI v).toNatClampNeg = v := nI_clamp (by omega)
        refine f_istore X hl ⟨_, rfl, dX5_length_19⟩ (by decide) (fun ls hl => ?_)
        have hl : lV ls _ [some (.ref (ad 0)), some (.int t), some (.int k), some (.int (nI v))] := hl
        refine f_iload X hl ⟨_, rfl, dX5_length_20⟩ rfl ?_
        refine lv_iconst (v := (-1)) X.1 X.2.1 dX5_length_21 (by decide) ?_
        refine lv_icmp_eq (tgt := 41) X.1 X.2.1 dX5_length_22 (by decide) (fun c22 => ?_) (fun c22 => ?_)
        · exact absurd c22 (enc_ne hv6)
        · refine f_aload (v := .ref (ad 0)) X hl ⟨_, rfl, dX5_length_25⟩ rfl ⟨(some (ad 0)), rfl⟩ ?_
          refine f_get (v := .ref (ad 1)) (k := 0) X Z i5 rfl (by decide) (by decide +kernel) dX5_length_26 km0 rfl ?_
          refine f_iload X hl ⟨_, rfl, dX5_length_29⟩ rfl ?_
          refine f_iald X Z dX5_length_30 km1 (vp_in_nI hv6 (by decide)) ?_
          rw [hcl]
          rw [hso]
          refine lv_iconst (v := 1) X.1 X.2.1 dX5_length_31 (by decide) ?_
          refine lv_icmp_ne (tgt := 41) X.1 X.2.1 dX5_length_32 (by decide) (fun c32 => ?_) (fun c32 => ?_)
          · have hso1 : ¬ d.1.toInt = 1 := fun z => c32 (Int32.toInt_inj.mp z)
            refine f_iload X hl ⟨_, rfl, dX5_length_41⟩ rfl ?_
            refine lv_iconst (v := (-1)) X.1 X.2.1 dX5_length_42 (by decide) ?_
            refine lv_icmp_eq (tgt := 56) X.1 X.2.1 dX5_length_43 (by decide) (fun c43 => ?_) (fun c43 => ?_)
            · exact absurd c43 (enc_ne hv6)
            · refine f_aload (v := .ref (ad 0)) X hl ⟨_, rfl, dX5_length_46⟩ rfl ⟨(some (ad 0)), rfl⟩ ?_
              refine f_get (v := .ref (ad 4)) (k := 3) X Z i5 rfl (by decide) (by decide +kernel) dX5_length_47 km0 rfl ?_
              refine f_iload X hl ⟨_, rfl, dX5_length_50⟩ rfl ?_
              refine f_iald X Z dX5_length_51 km4 (vp_in_nI hv6 (by decide)) ?_
              rw [hcl]
              refine lv_iconst (v := (-1)) X.1 X.2.1 dX5_length_52 (by decide) ?_
              refine lv_icmp_ne (tgt := 64) X.1 X.2.1 dX5_length_53 (by decide) (fun c53 => ?_) (fun c53 => ?_)
              · obtain ⟨n, f, hcd, h4n, hn12⟩ : ∃ n f, d.2.2.2 = some (n, f) ∧ F 4 v = nI n ∧ n ≤ 12 := by
                  cases hq2 : d.2.2.2 with
                  | none => rw [hq2] at hcr; exact absurd hcr c53
                  | some q => rw [hq2] at hcr; exact ⟨q.1, q.2, rfl, hcr.1, hcr.2.1⟩
                refine f_aload (v := .ref (ad 0)) X hl ⟨_, rfl, dX5_length_64⟩ rfl ⟨(some (ad 0)), rfl⟩ ?_
                refine f_get (v := .ref (ad 4)) (k := 3) X Z i5 rfl (by decide) (by decide +kernel) dX5_length_65 km0 rfl ?_
                refine f_iload X hl ⟨_, rfl, dX5_length_68⟩ rfl ?_
                refine f_iald X Z dX5_length_69 km4 (vp_in_nI hv6 (by decide)) ?_
                rw [hcl]
                exact f_iret X hr hlk Z (Nat.le_of_ble_eq_true rfl) (Nat.le_of_ble_eq_true rfl) dX5_length_70 (by rw [h4n]; exact outM_same hR (by unfold sp_length yat tn; rw [if_pos ⟨c4, ge0 c8⟩, hjt_j, hya]; obtain ⟨d1, d2, d3, d4⟩ := d; simp only at hcd hso1; subst hcd; simp only [whyR, if_neg hso1]; rfl))
              · have hcd : d.2.2.2 = none := by
                  cases hq2 : d.2.2.2 with
                  | none => rfl
                  | some q => rw [hq2] at hcr; exact absurd (hcr.1.symm.trans c53) (enc_ne (by have := hcr.2.1; omega))
                refine f_aload (v := .ref (ad 0)) X hl ⟨_, rfl, dX5_length_56⟩ rfl ⟨(some (ad 0)), rfl⟩ ?_
                refine lv_iconst (v := 1) X.1 X.2.1 dX5_length_57 (by decide) ?_
                refine f_callVi (rest := []) X Z hl.1 (c_X5_no l G w tg ad F sd na ro wi y.2.2.2.2.1 hM 1 (by decide)) (cwV 1 X.2.2.2.2 gX5_length_X5_no rfl rfl rfl (by decide +kernel) ⟨(Nat.le_of_ble_eq_true rfl), (Nat.le_of_ble_eq_true rfl)⟩) rfl rfl dX5_length_58 ⟨(Nat.le_of_ble_eq_true rfl), (Nat.le_of_ble_eq_true rfl)⟩ rfl (Nat.le_of_ble_eq_true rfl) km0 (fun r58 w4 H locs p58 Z => ?_)
                obtain ⟨hrT, hwT⟩ := p58
                refine lv_goto (tgt := 70) X.1 X.2.1 dX5_length_61 (by decide) ?_
                exact f_iret X hr hlk Z (Nat.le_of_ble_eq_true rfl) (Nat.le_of_ble_eq_true rfl) dX5_length_70 (outM_no hP hM FrM.rf hrT hwT (by unfold sp_length yat tn; rw [if_pos ⟨c4, ge0 c8⟩, hjt_j, hya]; simp only [whyR, if_neg hso1, hcd]; rfl))
          · refine f_aload (v := .ref (ad 0)) X hl ⟨_, rfl, dX5_length_35⟩ rfl ⟨(some (ad 0)), rfl⟩ ?_
            refine lv_iconst (v := 2) X.1 X.2.1 dX5_length_36 (by decide) ?_
            refine f_callVi (rest := []) X Z hl.1 (c_X5_no l G w tg ad F sd na ro wi y.2.2.2.2.1 hM 2 (by decide)) (cwV 1 X.2.2.2.2 gX5_length_X5_no rfl rfl rfl (by decide +kernel) ⟨(Nat.le_of_ble_eq_true rfl), (Nat.le_of_ble_eq_true rfl)⟩) rfl rfl dX5_length_37 ⟨(Nat.le_of_ble_eq_true rfl), (Nat.le_of_ble_eq_true rfl)⟩ rfl (Nat.le_of_ble_eq_true rfl) km0 (fun r37 w5 H locs p37 Z => ?_)
            obtain ⟨hrT, hwT⟩ := p37
            exact f_iret X hr hlk Z (Nat.le_of_ble_eq_true rfl) (Nat.le_of_ble_eq_true rfl) dX5_length_40 (outM_no hP hM FrM.rf hrT hwT (by unfold sp_length yat tn; rw [if_pos ⟨c4, ge0 c8⟩, hjt_j, hya]; simp only [whyR, c32, kc_1, if_pos]; rfl))
    · refine lv_iconst (v := (-1)) X.1 X.2.1 dX5_length_11 (by decide) ?_
      exact f_iret X hr hlk Z (Nat.le_of_ble_eq_true rfl) (Nat.le_of_ble_eq_true rfl) dX5_length_12 (outM_same hR (if_neg (fun h => nge0 c8 h.2)))
set_option maxHeartbeats 4000000 in
set_option maxRecDepth 100000 in
theorem c_X5_report (l : Launch) (G : gT) (w : wT) (tg : tT) (ad : Nat → Nat) (c nb : Nat) (y : Yd) (hR : RepM G tg w ad c y) (hY : Yok nb y) (hn : nb ≤ 512) (t k : Int32) : Met l yX5_report wsX5_report ({ frames := 2, cells := 0, slots := 0, locals := 42 }) (va_Pc [.ref (ad 0), .int t, .int k] (wG G w)) (Qi G (OutM G tg w ad c (sp_report t k y))) 0 0 (fr G) := by
  refine f_met (cc := cX5_report) (maxL := 4) (ret := (some .int)) (by decide) rfl rfl (Nat.le_of_ble_eq_true rfl) ?_
  intro p e s m below meth cd X hr hlk hnm Z ls hl
  have X : CallFix p m cd cX5_report 4 s [.ref (ad 0), .int t, .int k].toArray wsX5_report RX5 := X
  have hl : lV ls _ [some (.ref (ad 0)), some (.int t), some (.int k), none] := hl
  have i5 : ∀ w ∈ wsX50, w ∈ wsX5_report := by decide +kernel
  obtain ⟨F, sd, na, ro, wi, T, hM, hP⟩ := id hR
  obtain ⟨h1, h2, h3, h4, h5, h6, h7⟩ := id hP
  have km0 := hM.1
  have km1 : w (ad 1) = some (aI G 600 (F 1)) := hM.2.1 1 (by decide) (by decide)
  have km2 : w (ad 2) = some (aI G 600 (F 2)) := hM.2.1 2 (by decide) (by decide)
  have km3 : w (ad 3) = some (aI G 600 (F 3)) := hM.2.1 3 (by decide) (by decide)
  have km4 : w (ad 4) = some (aI G 600 (F 4)) := hM.2.1 4 (by decide) (by decide)
  have km5 : w (ad 5) = some (aI G 7200 (F 5)) := hM.2.1 5 (by decide) (by decide)
  have km6 : w (ad 6) = some (aI G 600 (F 6)) := hM.2.1 6 (by decide) (by decide)
  have km7 : w (ad 7) = some (aZ G 600 (F 7)) := hM.2.1 7 (by decide) (by decide)
  have km8 : w (ad 8) = some (aI G 6 (F 8)) := hM.2.1 8 (by decide) (by decide)
  have km9 : w (ad 9) = some (aI G 12 (F 9)) := hM.2.1 9 (by decide) (by decide)
  have km10 : w (ad 10) = some (aI G 144 (F 10)) := hM.2.1 10 (by decide) (by decide)
  have km11 : w (ad 11) = some (aI G 8 (F 11)) := hM.2.1 11 (by decide) (by decide)
  refine f_iload X hl ⟨_, rfl, dX5_report_0⟩ rfl ?_
  refine f_callSi (rest := []) X Z hl.1 (c_X5_isTrack l G _ _) (va_cwS 1 X.2.2.2.2 gX5_report_X5_isTrack rfl rfl rfl (by decide +kernel) ⟨(Nat.le_of_ble_eq_true rfl), (Nat.le_of_ble_eq_true rfl)⟩) rfl dX5_report_1 ⟨(Nat.le_of_ble_eq_true rfl), (Nat.le_of_ble_eq_true rfl)⟩ rfl (Nat.le_of_ble_eq_true rfl) (fun r1 w1 H locs p1 Z => ?_)
  obtain ⟨w1e, hr1⟩ := p1
  have w1e := w1e.symm
  subst w1e
  refine lv_if_eq (tgt := 11) X.1 X.2.1 dX5_report_4 (by decide) (fun c4 => ?_) (fun c4 => ?_)
  · rw [hr1, bI_0] at c4
    refine lv_iconst (v := (-1)) X.1 X.2.1 dX5_report_11 (by decide) ?_
    exact f_iret X hr hlk Z (Nat.le_of_ble_eq_true rfl) (Nat.le_of_ble_eq_true rfl) dX5_report_12 (outM_same hR (if_neg (fun h => c4 h.1)))
  · rw [hr1, bI_0, Classical.not_not] at c4
    refine f_iload X hl ⟨_, rfl, dX5_report_7⟩ rfl ?_
    refine lv_if_ge (tgt := 13) X.1 X.2.1 dX5_report_8 (by decide) (fun c8 => ?_) (fun c8 => ?_)
    · obtain ⟨j, hjt_j⟩ : ∃ j, t.toNatClampNeg = j := ⟨_, rfl⟩
      have hj_j : j < 6 := hjt_j ▸ tn_lt c4
      have hin_j : vp_in t 6 := vp_in_iff.mpr c4
      have hch_j : chM F j (T j) := hP.ch hj_j (Nat.le_trans (hP.lenT hY hn hj_j) (by decide))
      refine f_aload (v := .ref (ad 0)) X hl ⟨_, rfl, dX5_report_13⟩ rfl ⟨(some (ad 0)), rfl⟩ ?_
      refine f_iload X hl ⟨_, rfl, dX5_report_14⟩ rfl ?_
      refine f_iload X hl ⟨_, rfl, dX5_report_15⟩ rfl ?_
      refine f_callVi (rest := []) X Z hl.1 (c_X5_at l G w tg ad F sd na ro wi y.2.2.2.2.1 hM t k j (T j) hjt_j hin_j hch_j (ge0 c8)) (cwV 2 X.2.2.2.2 gX5_report_X5_at rfl rfl rfl (by decide +kernel) ⟨(Nat.le_of_ble_eq_true rfl), (Nat.le_of_ble_eq_true rfl)⟩) rfl rfl dX5_report_16 ⟨(Nat.le_of_ble_eq_true rfl), (Nat.le_of_ble_eq_true rfl)⟩ rfl (Nat.le_of_ble_eq_true rfl) km0 (fun r16 w2 H locs p16 Z => ?_)
      obtain ⟨w2e, hr16⟩ := p16
      have w2e := w2e.symm
      subst w2e
      rcases hq : (T j)[k.toNatClampNeg]? with _ | ⟨v, d⟩
      · have hr0 : r16 = -1 := by rw [hr16, hq]; rfl
        subst hr0
        have hya : (y.1 j)[k.toNatClampNeg]? = none := by rw [hP.at, hq]; rfl
        refine f_istore X hl ⟨_, rfl, dX5_report_19⟩ (by decide) (fun ls hl => ?_)
        have hl : lV ls _ [some (.ref (ad 0)), some (.int t), some (.int k), some (.int (-1))] := hl
        refine f_iload X hl ⟨_, rfl, dX5_report_20⟩ rfl ?_
        refine lv_iconst (v := (-1)) X.1 X.2.1 dX5_report_21 (by decide) ?_
        refine lv_icmp_eq (tgt := 34) X.1 X.2.1 dX5_report_22 (by decide) (fun c22 => ?_) (fun c22 => ?_)
        · refine f_aload (v := .ref (ad 0)) X hl ⟨_, rfl, dX5_report_34⟩ rfl ⟨(some (ad 0)), rfl⟩ ?_
          refine lv_iconst (v := 1) X.1 X.2.1 dX5_report_35 (by decide) ?_
          refine f_callVi (rest := []) X Z hl.1 (c_X5_no l G w tg ad F sd na ro wi y.2.2.2.2.1 hM 1 (by decide)) (cwV 1 X.2.2.2.2 gX5_report_X5_no rfl rfl rfl (by decide +kernel) ⟨(Nat.le_of_ble_eq_true rfl), (Nat.le_of_ble_eq_true rfl)⟩) rfl rfl dX5_report_36 ⟨(Nat.le_of_ble_eq_true rfl), (Nat.le_of_ble_eq_true rfl)⟩ rfl (Nat.le_of_ble_eq_true rfl) km0 (fun r36 w3 H locs p36 Z => ?_)
          obtain ⟨hrT, hwT⟩ := p36
          refine lv_goto (tgt := 47) X.1 X.2.1 dX5_report_39 (by decide) ?_
          exact f_iret X hr hlk Z (Nat.le_of_ble_eq_true rfl) (Nat.le_of_ble_eq_true rfl) dX5_report_47 (outM_no hP hM FrM.rf hrT hwT (by unfold sp_report yat tn; rw [if_pos ⟨c4, ge0 c8⟩, hjt_j, hya]))
        · exact absurd rfl c22
      · have hr0 : r16 = nI v := by rw [hr16, hq]; rfl
        subst hr0
        have hya : (y.1 j)[k.toNatClampNeg]? = some d := by rw [hP.at, hq]; rfl
        have hp := h1.1 j _ v d hq
        obtain ⟨hv6, hso, hwe, hde, hcr, hbh, hus⟩ := id hp
        have hcl : (nI v).toNatClampNeg = v := nI_clamp (by omega)
        refine f_istore X hl ⟨_, rfl, dX5_report_19⟩ (by decide) (fun ls hl => ?_)
        have hl : lV ls _ [some (.ref (ad 0)), some (.int t), some (.int k), some (.int (nI v))] := hl
        refine f_iload X hl ⟨_, rfl, dX5_report_20⟩ rfl ?_
        refine lv_iconst (v := (-1)) X.1 X.2.1 dX5_report_21 (by decide) ?_
        refine lv_icmp_eq (tgt := 34) X.1 X.2.1 dX5_report_22 (by decide) (fun c22 => ?_) (fun c22 => ?_)
        · exact absurd c22 (enc_ne hv6)
        · refine f_aload (v := .ref (ad 0)) X hl ⟨_, rfl, dX5_report_25⟩ rfl ⟨(some (ad 0)), rfl⟩ ?_
          refine f_get (v := .ref (ad 3)) (k := 2) X Z i5 rfl (by decide) (by decide +kernel) dX5_report_26 km0 rfl ?_
          refine f_iload X hl ⟨_, rfl, dX5_report_29⟩ rfl ?_
          refine f_iald X Z dX5_report_30 km3 (vp_in_nI hv6 (by decide)) ?_
          rw [hcl]
          rw [hde]
          refine lv_if_ne (tgt := 42) X.1 X.2.1 dX5_report_31 (by decide) (fun c31 => ?_) (fun c31 => ?_)
          · refine f_aload (v := .ref (ad 0)) X hl ⟨_, rfl, dX5_report_42⟩ rfl ⟨(some (ad 0)), rfl⟩ ?_
            refine f_iload X hl ⟨_, rfl, dX5_report_43⟩ rfl ?_
            refine f_callVi (rest := []) X Z hl.1 (c_X5_reported l G w tg ad F sd na ro wi y.2.2.2.2.1 hM v hv6) (cwV 1 X.2.2.2.2 gX5_report_X5_reported rfl rfl rfl (by decide +kernel) ⟨(Nat.le_of_ble_eq_true rfl), (Nat.le_of_ble_eq_true rfl)⟩) rfl rfl dX5_report_44 ⟨(Nat.le_of_ble_eq_true rfl), (Nat.le_of_ble_eq_true rfl)⟩ rfl (Nat.le_of_ble_eq_true rfl) km0 (fun r44 w4 H locs p44 Z => ?_)
            obtain ⟨hrT, hwT⟩ := p44
            exact f_iret X hr hlk Z (Nat.le_of_ble_eq_true rfl) (Nat.le_of_ble_eq_true rfl) dX5_report_47 (outM_rep hM hP hrT hwT (by unfold sp_report yat tn; rw [if_pos ⟨c4, ge0 c8⟩, hjt_j, hya]; rw [hde]; exact if_neg c31))
          · refine f_aload (v := .ref (ad 0)) X hl ⟨_, rfl, dX5_report_34⟩ rfl ⟨(some (ad 0)), rfl⟩ ?_
            refine lv_iconst (v := 1) X.1 X.2.1 dX5_report_35 (by decide) ?_
            refine f_callVi (rest := []) X Z hl.1 (c_X5_no l G w tg ad F sd na ro wi y.2.2.2.2.1 hM 1 (by decide)) (cwV 1 X.2.2.2.2 gX5_report_X5_no rfl rfl rfl (by decide +kernel) ⟨(Nat.le_of_ble_eq_true rfl), (Nat.le_of_ble_eq_true rfl)⟩) rfl rfl dX5_report_36 ⟨(Nat.le_of_ble_eq_true rfl), (Nat.le_of_ble_eq_true rfl)⟩ rfl (Nat.le_of_ble_eq_true rfl) km0 (fun r36 w5 H locs p36 Z => ?_)
            obtain ⟨hrT, hwT⟩ := p36
            refine lv_goto (tgt := 47) X.1 X.2.1 dX5_report_39 (by decide) ?_
            exact f_iret X hr hlk Z (Nat.le_of_ble_eq_true rfl) (Nat.le_of_ble_eq_true rfl) dX5_report_47 (outM_no hP hM FrM.rf hrT hwT (by unfold sp_report yat tn; rw [if_pos ⟨c4, ge0 c8⟩, hjt_j, hya]; exact if_pos c31))
    · refine lv_iconst (v := (-1)) X.1 X.2.1 dX5_report_11 (by decide) ?_
      exact f_iret X hr hlk Z (Nat.le_of_ble_eq_true rfl) (Nat.le_of_ble_eq_true rfl) dX5_report_12 (outM_same hR (if_neg (fun h => nge0 c8 h.2)))
set_option maxHeartbeats 4000000 in
set_option maxRecDepth 100000 in
theorem c_X5_about (l : Launch) (G : gT) (w : wT) (tg : tT) (ad : Nat → Nat) (c nb : Nat) (y : Yd) (hR : RepM G tg w ad c y) (hY : Yok nb y) (hn : nb ≤ 512) (t k x : Int32) : Met l yX5_about wsX5_about ({ frames := 2, cells := 0, slots := 0, locals := 42 }) (va_Pc [.ref (ad 0), .int t, .int k, .int x] (wG G w)) (Qi G (OutM G tg w ad c (sp_about t k x y))) 0 0 (fr G) := by
  refine f_met (cc := cX5_about) (maxL := 5) (ret := (some .int)) (by decide) rfl rfl (Nat.le_of_ble_eq_true rfl) ?_
  intro p e s m below meth cd X hr hlk hnm Z ls hl
  have X : CallFix p m cd cX5_about 5 s [.ref (ad 0), .int t, .int k, .int x].toArray wsX5_about RX5 := X
  have hl : lV ls _ [some (.ref (ad 0)), some (.int t), some (.int k), some (.int x), none] := hl
  have i5 : ∀ w ∈ wsX50, w ∈ wsX5_about := by decide +kernel
  obtain ⟨F, sd, na, ro, wi, T, hM, hP⟩ := id hR
  obtain ⟨h1, h2, h3, h4, h5, h6, h7⟩ := id hP
  have km0 := hM.1
  have km1 : w (ad 1) = some (aI G 600 (F 1)) := hM.2.1 1 (by decide) (by decide)
  have km2 : w (ad 2) = some (aI G 600 (F 2)) := hM.2.1 2 (by decide) (by decide)
  have km3 : w (ad 3) = some (aI G 600 (F 3)) := hM.2.1 3 (by decide) (by decide)
  have km4 : w (ad 4) = some (aI G 600 (F 4)) := hM.2.1 4 (by decide) (by decide)
  have km5 : w (ad 5) = some (aI G 7200 (F 5)) := hM.2.1 5 (by decide) (by decide)
  have km6 : w (ad 6) = some (aI G 600 (F 6)) := hM.2.1 6 (by decide) (by decide)
  have km7 : w (ad 7) = some (aZ G 600 (F 7)) := hM.2.1 7 (by decide) (by decide)
  have km8 : w (ad 8) = some (aI G 6 (F 8)) := hM.2.1 8 (by decide) (by decide)
  have km9 : w (ad 9) = some (aI G 12 (F 9)) := hM.2.1 9 (by decide) (by decide)
  have km10 : w (ad 10) = some (aI G 144 (F 10)) := hM.2.1 10 (by decide) (by decide)
  have km11 : w (ad 11) = some (aI G 8 (F 11)) := hM.2.1 11 (by decide) (by decide)
  refine f_iload X hl ⟨_, rfl, dX5_about_0⟩ rfl ?_
  refine f_callSi (rest := []) X Z hl.1 (c_X5_isTrack l G _ _) (va_cwS 1 X.2.2.2.2 gX5_about_X5_isTrack rfl rfl rfl (by decide +kernel) ⟨(Nat.le_of_ble_eq_true rfl), (Nat.le_of_ble_eq_true rfl)⟩) rfl dX5_about_1 ⟨(Nat.le_of_ble_eq_true rfl), (Nat.le_of_ble_eq_true rfl)⟩ rfl (Nat.le_of_ble_eq_true rfl) (fun r1 w1 H locs p1 Z => ?_)
  obtain ⟨w1e, hr1⟩ := p1
  have w1e := w1e.symm
  subst w1e
  refine lv_if_eq (tgt := 20) X.1 X.2.1 dX5_about_4 (by decide) (fun c4 => ?_) (fun c4 => ?_)
  · rw [hr1, bI_0] at c4
    refine lv_iconst (v := (-1)) X.1 X.2.1 dX5_about_20 (by decide) ?_
    exact f_iret X hr hlk Z (Nat.le_of_ble_eq_true rfl) (Nat.le_of_ble_eq_true rfl) dX5_about_21 (outM_same hR (if_neg (fun h => c4 h.1.1)))
  · rw [hr1, bI_0, Classical.not_not] at c4
    refine f_iload X hl ⟨_, rfl, dX5_about_7⟩ rfl ?_
    refine lv_if_lt (tgt := 20) X.1 X.2.1 dX5_about_8 (by decide) (fun c8 => ?_) (fun c8 => ?_)
    · refine lv_iconst (v := (-1)) X.1 X.2.1 dX5_about_20 (by decide) ?_
      exact f_iret X hr hlk Z (Nat.le_of_ble_eq_true rfl) (Nat.le_of_ble_eq_true rfl) dX5_about_21 (outM_same hR (if_neg (fun h => nge0' c8 h.1.2)))
    · refine f_iload X hl ⟨_, rfl, dX5_about_11⟩ rfl ?_
      refine lv_iconst (v := 0) X.1 X.2.1 dX5_about_12 (by decide) ?_
      refine lv_iconst (v := 3) X.1 X.2.1 dX5_about_13 (by decide) ?_
      refine f_callSi (rest := []) X Z hl.1 (c_X5_in l G _ _ _ _) (va_cwS 3 X.2.2.2.2 gX5_about_X5_in rfl rfl rfl (by decide +kernel) ⟨(Nat.le_of_ble_eq_true rfl), (Nat.le_of_ble_eq_true rfl)⟩) rfl dX5_about_14 ⟨(Nat.le_of_ble_eq_true rfl), (Nat.le_of_ble_eq_true rfl)⟩ rfl (Nat.le_of_ble_eq_true rfl) (fun r14 w2 H locs p14 Z => ?_)
      obtain ⟨w2e, hr14⟩ := p14
      have w2e := w2e.symm
      subst w2e
      refine lv_if_ne (tgt := 22) X.1 X.2.1 dX5_about_17 (by decide) (fun c17 => ?_) (fun c17 => ?_)
      · rw [hr14, bI_0, Classical.not_not] at c17
        obtain ⟨j, hjt_j⟩ : ∃ j, t.toNatClampNeg = j := ⟨_, rfl⟩
        have hj_j : j < 6 := hjt_j ▸ tn_lt c4
        have hin_j : vp_in t 6 := vp_in_iff.mpr c4
        have hch_j : chM F j (T j) := hP.ch hj_j (Nat.le_trans (hP.lenT hY hn hj_j) (by decide))
        refine f_aload (v := .ref (ad 0)) X hl ⟨_, rfl, dX5_about_22⟩ rfl ⟨(some (ad 0)), rfl⟩ ?_
        refine f_iload X hl ⟨_, rfl, dX5_about_23⟩ rfl ?_
        refine f_iload X hl ⟨_, rfl, dX5_about_24⟩ rfl ?_
        refine f_callVi (rest := []) X Z hl.1 (c_X5_at l G w tg ad F sd na ro wi y.2.2.2.2.1 hM t k j (T j) hjt_j hin_j hch_j (ge0' c8)) (cwV 2 X.2.2.2.2 gX5_about_X5_at rfl rfl rfl (by decide +kernel) ⟨(Nat.le_of_ble_eq_true rfl), (Nat.le_of_ble_eq_true rfl)⟩) rfl rfl dX5_about_25 ⟨(Nat.le_of_ble_eq_true rfl), (Nat.le_of_ble_eq_true rfl)⟩ rfl (Nat.le_of_ble_eq_true rfl) km0 (fun r25 w3 H locs p25 Z => ?_)
        obtain ⟨w3e, hr25⟩ := p25
        have w3e := w3e.symm
        subst w3e
        rcases hq : (T j)[k.toNatClampNeg]? with _ | ⟨v, d⟩
        · have hr0 : r25 = -1 := by rw [hr25, hq]; rfl
          subst hr0
          have hya : (y.1 j)[k.toNatClampNeg]? = none := by rw [hP.at, hq]; rfl
          refine f_istore2 X hl dX5_about_28 (by decide) (fun ls hl => ?_)
          have hl : lV ls _ [some (.ref (ad 0)), some (.int t), some (.int k), some (.int x), some (.int (-1))] := hl
          refine f_iload2 X hl dX5_about_30 rfl ?_
          refine lv_iconst (v := (-1)) X.1 X.2.1 dX5_about_32 (by decide) ?_
          refine lv_icmp_ne (tgt := 38) X.1 X.2.1 dX5_about_33 (by decide) (fun c33 => ?_) (fun c33 => ?_)
          · exact absurd rfl c33
          · refine lv_iconst (v := 0) X.1 X.2.1 dX5_about_36 (by decide) ?_
            exact f_iret X hr hlk Z (Nat.le_of_ble_eq_true rfl) (Nat.le_of_ble_eq_true rfl) dX5_about_37 (outM_same hR (by unfold sp_about yat tn; rw [if_pos ⟨⟨c4, ge0' c8⟩, c17⟩, hjt_j, hya]))
        · have hr0 : r25 = nI v := by rw [hr25, hq]; rfl
          subst hr0
          have hya : (y.1 j)[k.toNatClampNeg]? = some d := by rw [hP.at, hq]; rfl
          have hp := h1.1 j _ v d hq
          obtain ⟨hv6, hso, hwe, hde, hcr, hbh, hus⟩ := id hp
          have hcl : (nI v).toNatClampNeg = v := nI_clamp (by omega)
          refine f_istore2 X hl dX5_about_28 (by decide) (fun ls hl => ?_)
          have hl : lV ls _ [some (.ref (ad 0)), some (.int t), some (.int k), some (.int x), some (.int (nI v))] := hl
          refine f_iload2 X hl dX5_about_30 rfl ?_
          refine lv_iconst (v := (-1)) X.1 X.2.1 dX5_about_32 (by decide) ?_
          refine lv_icmp_ne (tgt := 38) X.1 X.2.1 dX5_about_33 (by decide) (fun c33 => ?_) (fun c33 => ?_)
          · refine f_iload X hl ⟨_, rfl, dX5_about_38⟩ rfl ?_
            refine lv_if_ne (tgt := 52) X.1 X.2.1 dX5_about_39 (by decide) (fun c39 => ?_) (fun c39 => ?_)
            · refine f_iload X hl ⟨_, rfl, dX5_about_52⟩ rfl ?_
              refine lv_iconst (v := 1) X.1 X.2.1 dX5_about_53 (by decide) ?_
              refine lv_icmp_ne (tgt := 67) X.1 X.2.1 dX5_about_54 (by decide) (fun c54 => ?_) (fun c54 => ?_)
              · refine f_iload X hl ⟨_, rfl, dX5_about_67⟩ rfl ?_
                refine lv_iconst (v := 2) X.1 X.2.1 dX5_about_68 (by decide) ?_
                refine lv_icmp_ne (tgt := 82) X.1 X.2.1 dX5_about_69 (by decide) (fun c69 => ?_) (fun c69 => ?_)
                · refine f_aload (v := .ref (ad 0)) X hl ⟨_, rfl, dX5_about_82⟩ rfl ⟨(some (ad 0)), rfl⟩ ?_
                  refine f_get (v := .ref (ad 4)) (k := 3) X Z i5 rfl (by decide) (by decide +kernel) dX5_about_83 km0 rfl ?_
                  refine f_iload2 X hl dX5_about_86 rfl ?_
                  refine f_iald X Z dX5_about_88 km4 (vp_in_nI hv6 (by decide)) ?_
                  rw [hcl]
                  refine lv_iconst (v := (-1)) X.1 X.2.1 dX5_about_89 (by decide) ?_
                  refine lv_icmp_ne (tgt := 97) X.1 X.2.1 dX5_about_90 (by decide) (fun c90 => ?_) (fun c90 => ?_)
                  · obtain ⟨n, f, hcd, h4n, hn12⟩ : ∃ n f, d.2.2.2 = some (n, f) ∧ F 4 v = nI n ∧ n ≤ 12 := by
                      cases hq2 : d.2.2.2 with
                      | none => rw [hq2] at hcr; exact absurd hcr c90
                      | some q => rw [hq2] at hcr; exact ⟨q.1, q.2, rfl, hcr.1, hcr.2.1⟩
                    refine f_aload (v := .ref (ad 0)) X hl ⟨_, rfl, dX5_about_97⟩ rfl ⟨(some (ad 0)), rfl⟩ ?_
                    refine f_get (v := .ref (ad 4)) (k := 3) X Z i5 rfl (by decide) (by decide +kernel) dX5_about_98 km0 rfl ?_
                    refine f_iload2 X hl dX5_about_101 rfl ?_
                    refine f_iald X Z dX5_about_103 km4 (vp_in_nI hv6 (by decide)) ?_
                    rw [hcl]
                    exact f_iret X hr hlk Z (Nat.le_of_ble_eq_true rfl) (Nat.le_of_ble_eq_true rfl) dX5_about_104 (by rw [h4n]; exact outM_same hR (by unfold sp_about yat tn; rw [if_pos ⟨⟨c4, ge0' c8⟩, c17⟩, hjt_j, hya]; simp only [if_neg c39, if_neg c54, if_neg c69, hcd]))
                  · have hcd : d.2.2.2 = none := by
                      cases hq2 : d.2.2.2 with
                      | none => rfl
                      | some q => rw [hq2] at hcr; exact absurd (hcr.1.symm.trans c90) (enc_ne (by have := hcr.2.1; omega))
                    refine lv_iconst (v := 0) X.1 X.2.1 dX5_about_93 (by decide) ?_
                    refine lv_goto (tgt := 104) X.1 X.2.1 dX5_about_94 (by decide) ?_
                    exact f_iret X hr hlk Z (Nat.le_of_ble_eq_true rfl) (Nat.le_of_ble_eq_true rfl) dX5_about_104 (outM_same hR (by unfold sp_about yat tn; rw [if_pos ⟨⟨c4, ge0' c8⟩, c17⟩, hjt_j, hya]; simp only [if_neg c39, if_neg c54, if_neg c69, hcd]))
                · refine f_aload (v := .ref (ad 0)) X hl ⟨_, rfl, dX5_about_72⟩ rfl ⟨(some (ad 0)), rfl⟩ ?_
                  refine f_get (v := .ref (ad 3)) (k := 2) X Z i5 rfl (by decide) (by decide +kernel) dX5_about_73 km0 rfl ?_
                  refine f_iload2 X hl dX5_about_76 rfl ?_
                  refine f_iald X Z dX5_about_78 km3 (vp_in_nI hv6 (by decide)) ?_
                  rw [hcl]
                  rw [hde]
                  refine lv_goto (tgt := 104) X.1 X.2.1 dX5_about_79 (by decide) ?_
                  exact f_iret X hr hlk Z (Nat.le_of_ble_eq_true rfl) (Nat.le_of_ble_eq_true rfl) dX5_about_104 (outM_same hR (by unfold sp_about yat tn; rw [if_pos ⟨⟨c4, ge0' c8⟩, c17⟩, hjt_j, hya]; simp only [if_neg c39, if_neg c54, if_pos c69]))
              · refine f_aload (v := .ref (ad 0)) X hl ⟨_, rfl, dX5_about_57⟩ rfl ⟨(some (ad 0)), rfl⟩ ?_
                refine f_get (v := .ref (ad 2)) (k := 1) X Z i5 rfl (by decide) (by decide +kernel) dX5_about_58 km0 rfl ?_
                refine f_iload2 X hl dX5_about_61 rfl ?_
                refine f_iald X Z dX5_about_63 km2 (vp_in_nI hv6 (by decide)) ?_
                rw [hcl]
                rw [hwe]
                refine lv_goto (tgt := 104) X.1 X.2.1 dX5_about_64 (by decide) ?_
                exact f_iret X hr hlk Z (Nat.le_of_ble_eq_true rfl) (Nat.le_of_ble_eq_true rfl) dX5_about_104 (outM_same hR (by unfold sp_about yat tn; rw [if_pos ⟨⟨c4, ge0' c8⟩, c17⟩, hjt_j, hya]; simp only [if_neg c39, if_pos c54]))
            · refine f_aload (v := .ref (ad 0)) X hl ⟨_, rfl, dX5_about_42⟩ rfl ⟨(some (ad 0)), rfl⟩ ?_
              refine f_get (v := .ref (ad 1)) (k := 0) X Z i5 rfl (by decide) (by decide +kernel) dX5_about_43 km0 rfl ?_
              refine f_iload2 X hl dX5_about_46 rfl ?_
              refine f_iald X Z dX5_about_48 km1 (vp_in_nI hv6 (by decide)) ?_
              rw [hcl]
              rw [hso]
              refine lv_goto (tgt := 104) X.1 X.2.1 dX5_about_49 (by decide) ?_
              exact f_iret X hr hlk Z (Nat.le_of_ble_eq_true rfl) (Nat.le_of_ble_eq_true rfl) dX5_about_104 (outM_same hR (by unfold sp_about yat tn; rw [if_pos ⟨⟨c4, ge0' c8⟩, c17⟩, hjt_j, hya]; simp only [if_pos c39]))
          · exact absurd c33 (enc_ne hv6)
      · rw [hr14, bI_0] at c17
        refine lv_iconst (v := (-1)) X.1 X.2.1 dX5_about_20 (by decide) ?_
        exact f_iret X hr hlk Z (Nat.le_of_ble_eq_true rfl) (Nat.le_of_ble_eq_true rfl) dX5_about_21 (outM_same hR (if_neg (fun h => c17 h.2)))
set_option maxHeartbeats 4000000 in
set_option maxRecDepth 100000 in
theorem c_X5_noted (l : Launch) (G : gT) (w : wT) (tg : tT) (ad : Nat → Nat) (c nb : Nat) (y : Yd) (hR : RepM G tg w ad c y) (hY : Yok nb y) (hn : nb ≤ 512) (i j : Int32) : Met l yX5_noted wsX5_noted ({ frames := 2, cells := 0, slots := 0, locals := 45 }) (va_Pc [.ref (ad 0), .int i, .int j] (wG G w)) (Qi G (OutM G tg w ad c (sp_noted i j y))) 0 0 (fr G) := by
  refine f_met (cc := cX5_noted) (maxL := 4) (ret := (some .int)) (by decide) rfl rfl (Nat.le_of_ble_eq_true rfl) ?_
  intro p e s m below meth cd X hr hlk hnm Z ls hl
  have X : CallFix p m cd cX5_noted 4 s [.ref (ad 0), .int i, .int j].toArray wsX5_noted RX5 := X
  have hl : lV ls _ [some (.ref (ad 0)), some (.int i), some (.int j), none] := hl
  have i5 : ∀ w ∈ wsX50, w ∈ wsX5_noted := by decide +kernel
  obtain ⟨F, sd, na, ro, wi, T, hM, hP⟩ := id hR
  obtain ⟨h1, h2, h3, h4, h5, h6, h7⟩ := id hP
  have km0 := hM.1
  have km1 : w (ad 1) = some (aI G 600 (F 1)) := hM.2.1 1 (by decide) (by decide)
  have km2 : w (ad 2) = some (aI G 600 (F 2)) := hM.2.1 2 (by decide) (by decide)
  have km3 : w (ad 3) = some (aI G 600 (F 3)) := hM.2.1 3 (by decide) (by decide)
  have km4 : w (ad 4) = some (aI G 600 (F 4)) := hM.2.1 4 (by decide) (by decide)
  have km5 : w (ad 5) = some (aI G 7200 (F 5)) := hM.2.1 5 (by decide) (by decide)
  have km6 : w (ad 6) = some (aI G 600 (F 6)) := hM.2.1 6 (by decide) (by decide)
  have km7 : w (ad 7) = some (aZ G 600 (F 7)) := hM.2.1 7 (by decide) (by decide)
  have km8 : w (ad 8) = some (aI G 6 (F 8)) := hM.2.1 8 (by decide) (by decide)
  have km9 : w (ad 9) = some (aI G 12 (F 9)) := hM.2.1 9 (by decide) (by decide)
  have km10 : w (ad 10) = some (aI G 144 (F 10)) := hM.2.1 10 (by decide) (by decide)
  have km11 : w (ad 11) = some (aI G 8 (F 11)) := hM.2.1 11 (by decide) (by decide)
  refine f_aload (v := .ref (ad 0)) X hl ⟨_, rfl, dX5_noted_0⟩ rfl ⟨(some (ad 0)), rfl⟩ ?_
  refine f_iload X hl ⟨_, rfl, dX5_noted_1⟩ rfl ?_
  refine f_iload X hl ⟨_, rfl, dX5_noted_2⟩ rfl ?_
  refine f_aload (v := .ref (ad 0)) X hl ⟨_, rfl, dX5_noted_3⟩ rfl ⟨(some (ad 0)), rfl⟩ ?_
  refine f_get (v := .int wi) (k := 12) X Z i5 rfl (by decide) (by decide +kernel) dX5_noted_4 km0 rfl ?_
  refine f_callVi (rest := []) X Z hl.1 (c_X5_against_ l G w tg ad F sd na ro wi y.2.2.2.2.1 hM i j wi y.2.2.1 (PlMo h6)) (cwV 3 X.2.2.2.2 gX5_noted_X5_against_ rfl rfl rfl (by decide +kernel) ⟨(Nat.le_of_ble_eq_true rfl), (Nat.le_of_ble_eq_true rfl)⟩) rfl rfl dX5_noted_7 ⟨(Nat.le_of_ble_eq_true rfl), (Nat.le_of_ble_eq_true rfl)⟩ rfl (Nat.le_of_ble_eq_true rfl) km0 (fun r7 w1 H locs p7 Z => ?_)
  obtain ⟨w1e, hr7⟩ := p7
  have w1e := w1e.symm
  subst w1e
  rw [whyA_N h6] at hr7
  subst hr7
  refine f_istore X hl ⟨_, rfl, dX5_noted_10⟩ (by decide) (fun ls hl => ?_)
  have hl : lV ls _ [some (.ref (ad 0)), some (.int i), some (.int j), some (.int (nI (whyN y.2.2.1 i j)))] := hl
  refine f_iload X hl ⟨_, rfl, dX5_noted_11⟩ rfl ?_
  refine lv_if_le (tgt := 23) X.1 X.2.1 dX5_noted_12 (by decide) (fun c12 => ?_) (fun c12 => ?_)
  · have hz := nI_le0 (whyN_lt _ _ _) c12
    obtain ⟨r, kk, hop, hi, hj0, hj1⟩ := whyN_0 hz
    obtain ⟨hro, hwi, hr12, hk12, hfN⟩ := PlMs h6 hop
    have hin : i.toNatClampNeg < r := tn_lt hi
    have hjn : j.toNatClampNeg < kk := tn_lt ⟨hj0, hj1⟩
    have hix : (12 : Int32) * i + j = nI (12 * i.toNatClampNeg + j.toNatClampNeg) := by rw [← nI_add, ← pk_mul, nI_tn hi.1, nI_tn hj0]; rfl
    have hixc : ((12 : Int32) * i + j).toNatClampNeg = 12 * i.toNatClampNeg + j.toNatClampNeg := by rw [hix, nI_clamp (by omega)]
    have hixi : vp_in ((12 : Int32) * i + j) 144 := by rw [hix]; exact vp_in_nI (by omega) (by decide)
    refine f_aload (v := .ref (ad 0)) X hl ⟨_, rfl, dX5_noted_23⟩ rfl ⟨(some (ad 0)), rfl⟩ ?_
    refine f_get (v := .ref (ad 10)) (k := 13) X Z i5 rfl (by decide) (by decide +kernel) dX5_noted_24 km0 rfl ?_
    refine lv_bipush (v := 12) X.1 X.2.1 dX5_noted_27 (by decide) ?_
    refine f_iload X hl ⟨_, rfl, dX5_noted_29⟩ rfl ?_
    refine lv_imul X.1 X.2.1 dX5_noted_30 ?_
    refine f_iload X hl ⟨_, rfl, dX5_noted_31⟩ rfl ?_
    refine lv_iadd X.1 X.2.1 dX5_noted_32 ?_
    refine f_iald X Z dX5_noted_33 km10 hixi ?_
    rw [hixc]
    exact f_iret X hr hlk Z (Nat.le_of_ble_eq_true rfl) (Nat.le_of_ble_eq_true rfl) dX5_noted_34 (by rw [hfN _ _ hin hjn]; exact outM_same hR (by unfold sp_noted; rw [if_neg (fun z => z hz)]))
  · refine f_aload (v := .ref (ad 0)) X hl ⟨_, rfl, dX5_noted_15⟩ rfl ⟨(some (ad 0)), rfl⟩ ?_
    refine f_iload X hl ⟨_, rfl, dX5_noted_16⟩ rfl ?_
    refine f_callVi (rest := []) X Z hl.1 (c_X5_no l G w tg ad F sd na ro wi y.2.2.2.2.1 hM (whyN y.2.2.1 i j) (whyN_lt _ _ _)) (cwV 1 X.2.2.2.2 gX5_noted_X5_no rfl rfl rfl (by decide +kernel) ⟨(Nat.le_of_ble_eq_true rfl), (Nat.le_of_ble_eq_true rfl)⟩) rfl rfl dX5_noted_17 ⟨(Nat.le_of_ble_eq_true rfl), (Nat.le_of_ble_eq_true rfl)⟩ rfl (Nat.le_of_ble_eq_true rfl) km0 (fun r17 w2 H locs p17 Z => ?_)
    obtain ⟨hrT, hwT⟩ := p17
    refine lv_goto (tgt := 34) X.1 X.2.1 dX5_noted_20 (by decide) ?_
    exact f_iret X hr hlk Z (Nat.le_of_ble_eq_true rfl) (Nat.le_of_ble_eq_true rfl) dX5_noted_34 (outM_no hP hM FrM.rf hrT hwT (by unfold sp_noted; rw [if_pos (nI_pos0 (whyN_lt _ _ _) c12)]))
set_option maxHeartbeats 4000000 in
set_option maxRecDepth 100000 in
theorem c_X5_wide (l : Launch) (G : gT) (w : wT) (tg : tT) (ad : Nat → Nat) (c nb : Nat) (y : Yd) (hR : RepM G tg w ad c y) (hY : Yok nb y) (hn : nb ≤ 512) (i : Int32) : Met l yX5_wide wsX5_wide ({ frames := 2, cells := 0, slots := 0, locals := 45 }) (va_Pc [.ref (ad 0), .int i] (wG G w)) (Qi G (OutM G tg w ad c (sp_wide i y))) 0 0 (fr G) := by
  refine f_met (cc := cX5_wide) (maxL := 3) (ret := (some .int)) (by decide) rfl rfl (Nat.le_of_ble_eq_true rfl) ?_
  intro p e s m below meth cd X hr hlk hnm Z ls hl
  have X : CallFix p m cd cX5_wide 3 s [.ref (ad 0), .int i].toArray wsX5_wide RX5 := X
  have hl : lV ls _ [some (.ref (ad 0)), some (.int i), none] := hl
  have i5 : ∀ w ∈ wsX50, w ∈ wsX5_wide := by decide +kernel
  obtain ⟨F, sd, na, ro, wi, T, hM, hP⟩ := id hR
  obtain ⟨h1, h2, h3, h4, h5, h6, h7⟩ := id hP
  have km0 := hM.1
  have km1 : w (ad 1) = some (aI G 600 (F 1)) := hM.2.1 1 (by decide) (by decide)
  have km2 : w (ad 2) = some (aI G 600 (F 2)) := hM.2.1 2 (by decide) (by decide)
  have km3 : w (ad 3) = some (aI G 600 (F 3)) := hM.2.1 3 (by decide) (by decide)
  have km4 : w (ad 4) = some (aI G 600 (F 4)) := hM.2.1 4 (by decide) (by decide)
  have km5 : w (ad 5) = some (aI G 7200 (F 5)) := hM.2.1 5 (by decide) (by decide)
  have km6 : w (ad 6) = some (aI G 600 (F 6)) := hM.2.1 6 (by decide) (by decide)
  have km7 : w (ad 7) = some (aZ G 600 (F 7)) := hM.2.1 7 (by decide) (by decide)
  have km8 : w (ad 8) = some (aI G 6 (F 8)) := hM.2.1 8 (by decide) (by decide)
  have km9 : w (ad 9) = some (aI G 12 (F 9)) := hM.2.1 9 (by decide) (by decide)
  have km10 : w (ad 10) = some (aI G 144 (F 10)) := hM.2.1 10 (by decide) (by decide)
  have km11 : w (ad 11) = some (aI G 8 (F 11)) := hM.2.1 11 (by decide) (by decide)
  refine f_aload (v := .ref (ad 0)) X hl ⟨_, rfl, dX5_wide_0⟩ rfl ⟨(some (ad 0)), rfl⟩ ?_
  refine f_iload X hl ⟨_, rfl, dX5_wide_1⟩ rfl ?_
  refine lv_iconst (v := 0) X.1 X.2.1 dX5_wide_2 (by decide) ?_
  refine lv_iconst (v := 1) X.1 X.2.1 dX5_wide_3 (by decide) ?_
  refine f_callVi (rest := []) X Z hl.1 (c_X5_against_ l G w tg ad F sd na ro wi y.2.2.2.2.1 hM i 0 1 y.2.2.1 (PlMo h6)) (cwV 3 X.2.2.2.2 gX5_wide_X5_against_ rfl rfl rfl (by decide +kernel) ⟨(Nat.le_of_ble_eq_true rfl), (Nat.le_of_ble_eq_true rfl)⟩) rfl rfl dX5_wide_4 ⟨(Nat.le_of_ble_eq_true rfl), (Nat.le_of_ble_eq_true rfl)⟩ rfl (Nat.le_of_ble_eq_true rfl) km0 (fun r4 w1 H locs p4 Z => ?_)
  obtain ⟨w1e, hr4⟩ := p4
  have w1e := w1e.symm
  subst w1e
  rw [whyA_L] at hr4
  subst hr4
  refine f_istore X hl ⟨_, rfl, dX5_wide_7⟩ (by decide) (fun ls hl => ?_)
  have hl : lV ls _ [some (.ref (ad 0)), some (.int i), some (.int (nI (whyL y.2.2.1 i)))] := hl
  refine f_iload X hl ⟨_, rfl, dX5_wide_8⟩ rfl ?_
  refine lv_if_le (tgt := 20) X.1 X.2.1 dX5_wide_9 (by decide) (fun c9 => ?_) (fun c9 => ?_)
  · have hz := nI_le0 (whyL_lt _ _) c9
    obtain ⟨r, kk, hop, hi⟩ := whyL_0 hz
    obtain ⟨hro, hwi, hr12, hk12, hfN⟩ := PlMs h6 hop
    refine f_aload (v := .ref (ad 0)) X hl ⟨_, rfl, dX5_wide_20⟩ rfl ⟨(some (ad 0)), rfl⟩ ?_
    refine f_get (v := .int wi) (k := 12) X Z i5 rfl (by decide) (by decide +kernel) dX5_wide_21 km0 rfl ?_
    exact f_iret X hr hlk Z (Nat.le_of_ble_eq_true rfl) (Nat.le_of_ble_eq_true rfl) dX5_wide_24 (by rw [hwi]; exact outM_same hR (by unfold sp_wide; rw [if_neg (fun z => z hz), hop]))
  · refine f_aload (v := .ref (ad 0)) X hl ⟨_, rfl, dX5_wide_12⟩ rfl ⟨(some (ad 0)), rfl⟩ ?_
    refine f_iload X hl ⟨_, rfl, dX5_wide_13⟩ rfl ?_
    refine f_callVi (rest := []) X Z hl.1 (c_X5_no l G w tg ad F sd na ro wi y.2.2.2.2.1 hM (whyL y.2.2.1 i) (whyL_lt _ _)) (cwV 1 X.2.2.2.2 gX5_wide_X5_no rfl rfl rfl (by decide +kernel) ⟨(Nat.le_of_ble_eq_true rfl), (Nat.le_of_ble_eq_true rfl)⟩) rfl rfl dX5_wide_14 ⟨(Nat.le_of_ble_eq_true rfl), (Nat.le_of_ble_eq_true rfl)⟩ rfl (Nat.le_of_ble_eq_true rfl) km0 (fun r14 w2 H locs p14 Z => ?_)
    obtain ⟨hrT, hwT⟩ := p14
    refine lv_goto (tgt := 24) X.1 X.2.1 dX5_wide_17 (by decide) ?_
    exact f_iret X hr hlk Z (Nat.le_of_ble_eq_true rfl) (Nat.le_of_ble_eq_true rfl) dX5_wide_24 (outM_no hP hM FrM.rf hrT hwT (by unfold sp_wide; rw [if_pos (nI_pos0 (whyL_lt _ _) c9)]))
