set_option maxHeartbeats 4000000 in
set_option maxRecDepth 100000 in
/-- THE LAW'S LOOP: at its head, with n calls made, the class and the model hold one state -/
theorem law_loop {p : Program} {l : Launch} {e : Env} {s : State} {m : MethodId} {below : List Frame} {meth : Method} {cd : Code} {b L : Nat} {xs : Nat → Int32} {G : gT} (X : CallFix p m cd cL_law 4 s #[Value.ref b] wsL_law RL) (hr : meth.sig.returnType = ret) (hlocks : meth.locks = false) (hX : va_X b L xs s s.heap) (hbl : b < s.heap.size) (hG : G.2.2 = s.heap.size) (hL2 : L ≤ 2560) :
    ∀ (fu n : Nat) (tg : tT) (w : wT) (h0 : Nat) (ad : Nat → Nat) (c1 c2 : Nat) (y : Yd) (x3 : Int32), 512 < n + fu → n ≤ 512 → x3 = nI (5 * n) → RepC G tg w h0 c1 y → c1 ≤ n → RepM G tg w ad c2 y → c2 ≤ n → Yok n y → ∀ (H : Heap) (locs : List Loc) (ls : Array Slot), wZ G w s H locs → lV ls 4 [some (.ref b), some (.ref h0), some (.ref (ad 0)), some (.int x3)] → W p l e room_1 s m #[Value.ref b] below meth cd H locs (21 + 2 * n) (11018 + 147 * n) (lw_Z below #[Value.ref b] s) (F0 m 18 ls []) := by
  intro fu
  induction fu with
  | zero => intro n tg w h0 ad c1 c2 y x3 h1 h2; omega
  | succ fu ih =>
    intro n tg w h0 ad c1 c2 y x3 hfu hn5 hx3 hC h1n hMo h2n hY H locs ls Z hl
    refine f_iload X hl ⟨_, rfl, dL_law_18⟩ rfl ?_
    refine f_aload (v := .ref b) X hl ⟨_, rfl, dL_law_19⟩ rfl ⟨(some b), rfl⟩ ?_
    refine f_slen X hX hbl hG Z dL_law_20 ?_
    refine lv_iconst (v := 5) X.1 X.2.1 dL_law_21 (by decide) ?_
    refine lv_isub X.1 X.2.1 dL_law_22 ?_
    have hLI : (nI L - 5).toInt = (L : Int) - 5 := by
      have : nI L - nI 5 = nI L - 5 := rfl
      rw [← this, pk_sub_toInt (by omega) (by decide)]; rfl
    refine lv_icmp_gt (tgt := 985) X.1 X.2.1 dL_law_23 (by decide) (fun c23 => ?_) (fun c23 => ?_)
    · refine lv_iconst (v := 1) X.1 X.2.1 dL_law_985 (by decide) ?_
      refine va_forget (fun q hq => by have := Z.2.2.2.1.2.2 q hq; unfold fr at this; omega) ?_
      refine W.widen (k := 600000) (n := 7302250) (by omega) (by omega) ?_
      exact lw_ret X.1 X.2.1 hr hlocks dL_law_986
    · have hL : 5 * n + 5 ≤ L := by
        rw [hx3, Int32.lt_iff_toInt_lt, hLI, nI_toInt (by omega)] at c23
        omega
      have hn : n < 512 := by omega
      have hin0 : vp_in x3 L := by rw [hx3]; exact vp_in_nI (by omega) (by omega)
      have kk : ∀ (tg' : tT) (w' : wT) (c1' c2' : Nat) (y' : Yd) (H' : Heap) (locs' : List Loc), RepC G tg' w' h0 c1' y' → c1' ≤ n + 1 → RepM G tg' w' ad c2' y' → c2' ≤ n + 1 → Yok (n + 1) y' → wZ G w' s H' locs' → W p l e room_1 s m #[Value.ref b] below meth cd H' locs' (21 + 2 * (n + 1)) (11018 + 147 * (n + 1)) (lw_Z below #[Value.ref b] s) (F0 m 979 ls []) := by
        intro tg' w' c1' c2' y' H' locs' g1 g2 g3 g4 g5 Z'
        refine f_iinc (v := 5) X hl dL_law_979 (by decide) rfl (by decide) (fun ls hl => ?_)
        have hl : lV ls 4 [some (.ref b), some (.ref h0), some (.ref (ad 0)), some (.int (x3 + 5))] := hl
        refine lv_goto (tgt := 18) X.1 X.2.1 dL_law_982 (by decide) ?_
        exact ih (n + 1) tg' w' h0 ad c1' c2' y' (x3 + 5) (by omega) (by omega) (by rw [hx3, show (5 : Int32) = nI 5 from rfl, nI_add]; rfl) g1 g2 g3 g4 g5 H' locs' ls Z' hl
      refine f_aload (v := .ref b) X hl ⟨_, rfl, dL_law_26⟩ rfl ⟨(some b), rfl⟩ ?_
      refine f_iload X hl ⟨_, rfl, dL_law_27⟩ rfl ?_
      refine f_sld X hX hbl hG Z hin0 dL_law_28 ?_
      refine lv_bipush (v := 31) X.1 X.2.1 dL_law_29 (by decide) ?_
      refine lv_iand X.1 X.2.1 dL_law_31 ?_
      obtain ⟨j, hj, hje⟩ := pk_andE (xs x3.toNatClampNeg) (m := 31) 5 (by decide)
      rw [hje]
      rcases (show j < 25 ∨ 25 ≤ j by omega) with hj25 | hj25
      · rcases (show j = 0 ∨ j = 1 ∨ j = 2 ∨ j = 3 ∨ j = 4 ∨ j = 5 ∨ j = 6 ∨ j = 7 ∨ j = 8 ∨ j = 9 ∨ j = 10 ∨ j = 11 ∨ j = 12 ∨ j = 13 ∨ j = 14 ∨ j = 15 ∨ j = 16 ∨ j = 17 ∨ j = 18 ∨ j = 19 ∨ j = 20 ∨ j = 21 ∨ j = 22 ∨ j = 23 ∨ j = 24 by omega) with rfl | rfl | rfl | rfl | rfl | rfl | rfl | rfl | rfl | rfl | rfl | rfl | rfl | rfl | rfl | rfl | rfl | rfl | rfl | rfl | rfl | rfl | rfl | rfl | rfl
        · refine lv_tableIn (tgt := 148) X.1 X.2.1 dL_law_32 (by decide) (by decide) rfl (by decide) ?_
          exact law_place X hX hbl hG hn hL hL2 hx3 hC h1n hMo h2n hY Z hl kk
        · refine lv_tableIn (tgt := 191) X.1 X.2.1 dL_law_32 (by decide) (by decide) rfl (by decide) ?_
          exact law_take X hX hbl hG hn hL hL2 hx3 hC h1n hMo h2n hY Z hl kk
        · refine lv_tableIn (tgt := 214) X.1 X.2.1 dL_law_32 (by decide) (by decide) rfl (by decide) ?_
          exact law_shunt X hX hbl hG hn hL hL2 hx3 hC h1n hMo h2n hY Z hl kk
        · refine lv_tableIn (tgt := 257) X.1 X.2.1 dL_law_32 (by decide) (by decide) rfl (by decide) ?_
          exact law_couple X hX hbl hG hn hL hL2 hx3 hC h1n hMo h2n hY Z hl kk
        · refine lv_tableIn (tgt := 290) X.1 X.2.1 dL_law_32 (by decide) (by decide) rfl (by decide) ?_
          exact law_crates X hX hbl hG hn hL hL2 hx3 hC h1n hMo h2n hY Z hl kk
        · refine lv_tableIn (tgt := 333) X.1 X.2.1 dL_law_32 (by decide) (by decide) rfl (by decide) ?_
          exact law_load X hX hbl hG hn hL hL2 hx3 hC h1n hMo h2n hY Z hl kk
        · refine lv_tableIn (tgt := 386) X.1 X.2.1 dL_law_32 (by decide) (by decide) rfl (by decide) ?_
          exact law_crate X hX hbl hG hn hL hL2 hx3 hC h1n hMo h2n hY Z hl kk
        · refine lv_tableIn (tgt := 429) X.1 X.2.1 dL_law_32 (by decide) (by decide) rfl (by decide) ?_
          exact law_length X hX hbl hG hn hL hL2 hx3 hC h1n hMo h2n hY Z hl kk
        · refine lv_tableIn (tgt := 462) X.1 X.2.1 dL_law_32 (by decide) (by decide) rfl (by decide) ?_
          exact law_weigh X hX hbl hG hn hL hL2 hx3 hC h1n hMo h2n hY Z hl kk
        · refine lv_tableIn (tgt := 495) X.1 X.2.1 dL_law_32 (by decide) (by decide) rfl (by decide) ?_
          exact law_defect X hX hbl hG hn hL hL2 hx3 hC h1n hMo h2n hY Z hl kk
        · refine lv_tableIn (tgt := 538) X.1 X.2.1 dL_law_32 (by decide) (by decide) rfl (by decide) ?_
          exact law_report X hX hbl hG hn hL hL2 hx3 hC h1n hMo h2n hY Z hl kk
        · refine lv_tableIn (tgt := 571) X.1 X.2.1 dL_law_32 (by decide) (by decide) rfl (by decide) ?_
          exact law_draw X hX hbl hG hn hL hL2 hx3 hC h1n hMo h2n hY Z hl kk
        · refine lv_tableIn (tgt := 594) X.1 X.2.1 dL_law_32 (by decide) (by decide) rfl (by decide) ?_
          exact law_level X hX hbl hG hn hL hL2 hx3 hC h1n hMo h2n hY Z hl kk
        · refine lv_tableIn (tgt := 607) X.1 X.2.1 dL_law_32 (by decide) (by decide) rfl (by decide) ?_
          exact law_siding X hX hbl hG hn hL hL2 hx3 hC h1n hMo h2n hY Z hl kk
        · refine lv_tableIn (tgt := 656) X.1 X.2.1 dL_law_32 (by decide) (by decide) rfl (by decide) ?_
          exact law_room X hX hbl hG hn hL hL2 hx3 hC h1n hMo h2n hY Z hl kk
        · refine lv_tableIn (tgt := 669) X.1 X.2.1 dL_law_32 (by decide) (by decide) rfl (by decide) ?_
          exact law_stow X hX hbl hG hn hL hL2 hx3 hC h1n hMo h2n hY Z hl kk
        · refine lv_tableIn (tgt := 702) X.1 X.2.1 dL_law_32 (by decide) (by decide) rfl (by decide) ?_
          exact law_fetch X hX hbl hG hn hL hL2 hx3 hC h1n hMo h2n hY Z hl kk
        · refine lv_tableIn (tgt := 735) X.1 X.2.1 dL_law_32 (by decide) (by decide) rfl (by decide) ?_
          exact law_plan X hX hbl hG hn hL hL2 hx3 hC h1n hMo h2n hY Z hl kk
        · refine lv_tableIn (tgt := 768) X.1 X.2.1 dL_law_32 (by decide) (by decide) rfl (by decide) ?_
          exact law_note X hX hbl hG hn hL hL2 hx3 hC h1n hMo h2n hY Z hl kk
        · refine lv_tableIn (tgt := 811) X.1 X.2.1 dL_law_32 (by decide) (by decide) rfl (by decide) ?_
          exact law_noted X hX hbl hG hn hL hL2 hx3 hC h1n hMo h2n hY Z hl kk
        · refine lv_tableIn (tgt := 844) X.1 X.2.1 dL_law_32 (by decide) (by decide) rfl (by decide) ?_
          exact law_wide X hX hbl hG hn hL hL2 hx3 hC h1n hMo h2n hY Z hl kk
        · refine lv_tableIn (tgt := 867) X.1 X.2.1 dL_law_32 (by decide) (by decide) rfl (by decide) ?_
          exact law_away X hX hbl hG hn hL hL2 hx3 hC h1n hMo h2n hY Z hl kk
        · refine lv_tableIn (tgt := 890) X.1 X.2.1 dL_law_32 (by decide) (by decide) rfl (by decide) ?_
          exact law_about X hX hbl hG hn hL hL2 hx3 hC h1n hMo h2n hY Z hl kk
        · refine lv_tableIn (tgt := 933) X.1 X.2.1 dL_law_32 (by decide) (by decide) rfl (by decide) ?_
          exact law_count X hX hbl hG hn hL hL2 hx3 hC h1n hMo h2n hY Z hl kk
        · refine lv_tableIn (tgt := 956) X.1 X.2.1 dL_law_32 (by decide) (by decide) rfl (by decide) ?_
          exact law_reasons X hX hbl hG hn hL hL2 hx3 hC h1n hMo h2n hY Z hl kk
      · refine lv_tableOut (tgt := 979) X.1 X.2.1 dL_law_32 (Or.inr (by rw [nI_toInt (by omega)]; omega)) (by decide) ?_
        refine W.widen (k := 21 + 2 * (n + 1)) (n := 11018 + 147 * (n + 1)) (by omega) (by omega) ?_
        exact kk tg w c1 c2 y H locs hC (by omega) hMo (by omega) (hY.up (by omega)) Z
theorem Y0 : Yok 0 y0 := ⟨Nat.le_refl _, (fun t d h => by cases h), (fun q h => by cases h), (fun q h => by cases h), fun p _ => Nat.zero_le _⟩
set_option maxHeartbeats 4000000 in
set_option maxRecDepth 100000 in
/-- THE LAW, from its entry -/
theorem whole_start {p : Program} {e : Env} {s : State} {m : MethodId} {below : List Frame} {meth : Method} {cd : Code} (l : Launch) {b L : Nat} {xs : Nat → Int32} (hL : L ≤ 2560) (C0 : lw_At p s m meth cd b L xs) : W p l e room_1 s m #[Value.ref b] below meth cd s.heap [] 0 0 (lw_Z below #[Value.ref b] s) (entryFrame m ([Value.ref b] : List Value).toArray 4) := by
  obtain ⟨hx, hb, hr, hml, hown, hts, hX, hbl, hlocks, hgv⟩ := id C0
  obtain ⟨c0, iS0, hKn0⟩ := u_known (C := RX0) (T := TX0) (N := 3) (n := 3) hts inX0 (hts (.instantiable RX0 3) (by decide +kernel))
  obtain ⟨c1, iS1, hKn1⟩ := u_known (C := RX1) (T := TX1) (N := 2) (n := 2) hts inX1 (hts (.instantiable RX1 2) (by decide +kernel))
  obtain ⟨c2, iS2, hKn2⟩ := u_known (C := RX2) (T := TX2) (N := 2) (n := 2) hts inX2 (hts (.instantiable RX2 2) (by decide +kernel))
  obtain ⟨c3, iS3, hKn3⟩ := u_known (C := RX3) (T := TX3) (N := 5) (n := 5) hts inX3 (hts (.instantiable RX3 5) (by decide +kernel))
  obtain ⟨c4, iS4, hKn4⟩ := u_known (C := RX4) (T := TX4) (N := 6) (n := 6) hts inX4 (hts (.instantiable RX4 6) (by decide +kernel))
  obtain ⟨c5, iS5, hKn5⟩ := u_known (C := RX5) (T := TX5) (N := 16) (n := 16) hts inX5 (hts (.instantiable RX5 16) (by decide +kernel))
  obtain ⟨dC, dI, hKc⟩ : ∃ (dC : Nat → ClassId) (dI : Nat → Nat → Nat), ∀ (k : Nat) (q : vw_C), vwCl[k]? = some q → u_Kn s q.1 q.2.1 q.2.2 (dC k) (dI k) := by
    refine ⟨fun k => if k = 0 then c0 else if k = 1 then c1 else if k = 2 then c2 else if k = 3 then c3 else if k = 4 then c4 else c5, fun k => if k = 0 then iS0 else if k = 1 then iS1 else if k = 2 then iS2 else if k = 3 then iS3 else if k = 4 then iS4 else iS5, ?_⟩
    intro k q hq
    match k, hq with
    | 0, hq => cases hq; exact hKn0
    | 1, hq => cases hq; exact hKn1
    | 2, hq => cases hq; exact hKn2
    | 3, hq => cases hq; exact hKn3
    | 4, hq => cases hq; exact hKn4
    | 5, hq => cases hq; exact hKn5
    | k + 6, hq => simp [vwCl] at hq
  obtain ⟨cI, kI, compI, hnI, hkI, hkdI⟩ := Cond.arrayClass_spec (hts (.arrayClass .int) (by decide +kernel))
  obtain ⟨cB, kB, compB, hnB, hkB, hkdB⟩ := Cond.arrayClass_spec (hts (.arrayClass .boolean) (by decide +kernel))
  have hAO2 : va_AO RX2 s := va_AO.of (hts (.arrayOver (.object RX2)) (by decide +kernel))
  have hAO3 : va_AO RX3 s := va_AO.of (hts (.arrayOver (.object RX3)) (by decide +kernel))
  have hNw : va_Nw (.methodLinkNest RX4 19 yX2_init RX4) s := va_Nw.of rfl (hts (.methodLinkNest RX4 19 yX2_init RX4) (by decide +kernel))
  obtain ⟨comp2, cT, kT, t1, t2, t3, t4, t5⟩ := Cond.arrayOver_spec hAO2
  obtain ⟨comp3, cV, kV, v1, v2, v3, v4, v5⟩ := Cond.arrayOver_spec hAO3
  obtain ⟨cs, hcs0, hcs1, hcs2, hcs3⟩ : ∃ cs : Nat → ClassId, cs 0 = cI ∧ cs 1 = cB ∧ cs 2 = cT ∧ cs 3 = cV := ⟨fun k => if k = 0 then cI else if k = 1 then cB else if k = 2 then cT else cV, rfl, rfl, rfl, rfl⟩
  subst hcs0; subst hcs1; subst hcs2; subst hcs3
  have hK : va_K (dC, dI) vwCl (tyl cs) s := by
    refine ⟨hKc, fun k q h => ?_⟩
    match k, h with
    | 0, h => cases h; exact ⟨fun n z => ⟨(fun k h => by cases h), kI, hkI, compI, hkdI⟩, hnI⟩
    | 1, h => cases h; exact ⟨fun n z => ⟨(fun k h => by cases h), kB, hkB, compB, hkdB⟩, hnB⟩
    | 2, h => cases h; exact ⟨fun n z => ⟨(fun k h => by cases h), kT, t3, comp2, t4⟩, kT, comp2, t3, t4, t1, t5⟩
    | 3, h => cases h; exact ⟨fun n z => ⟨(fun k h => by cases h), kV, v3, comp3, v4⟩, kV, comp3, v3, v4, v1, v5⟩
    | k + 4, h => simp at h
  have X : CallFix p m cd cL_law 4 s #[Value.ref b] wsL_law RL := ⟨hx, hb, hml, hown, fun w h => hts w (wsL_law_in w h)⟩
  have i4 : ∀ w ∈ wsX40, w ∈ wsL_law := inlX4
  have i5 : ∀ w ∈ wsX50, w ∈ wsL_law := inlX5
  obtain ⟨G, hGe⟩ : ∃ G : gT, G = ((dC, dI), cs, s.heap.size) := ⟨_, rfl⟩
  obtain ⟨w, hwe⟩ : ∃ w : wT, w = fun _ => none := ⟨_, rfl⟩
  have Z : wZ G w s s.heap [] := by
    subst hGe; subst hwe
    exact ⟨Nat.le_refl _, (fun a e h => by cases h), hK, va_S.rf, hAO2, hAO3, hNw⟩
  have hGs : G.2.2 = s.heap.size := by rw [hGe]
  have hl := lv_entry ([.ref b]) (n := 4) (Nat.le_of_ble_eq_true rfl)
  rw [lg_entry_eq]
  generalize (lg_sl ([.ref b]) ++ List.replicate (4 - (lg_sl ([.ref b])).length) Slot.unset).toArray = ls at hl ⊢
  have hl : lV ls 4 [some (.ref b), none, none, none] := by
    refine ⟨hl.1, hl.2.1, fun i v h => ?_, rfl, fun i v h => ?_⟩
    · match i, h with
      | 0, h => cases h; exact hl.2.2 (0, .ref b) List.mem_cons_self
      | 1, h => cases h
      | 2, h => cases h
      | 3, h => cases h
      | i + 4, h => simp at h
    · match i, h with
      | 0, h => cases h; rfl
      | 1, h => cases h
      | 2, h => cases h
      | 3, h => cases h
      | i + 4, h => simp at h
  refine f_new (ci := 4) (ty := tyX4) (fs := [.null, .null, .null, .null, .int 0, .int 0]) X Z i4 tyX4_ok rfl (by decide +kernel) (by decide +kernel) (by decide +kernel) (fun j hj => by rcases (show j = 0 ∨ j = 1 ∨ j = 2 ∨ j = 3 ∨ j = 4 ∨ j = 5 by omega) with rfl | rfl | rfl | rfl | rfl | rfl <;> rfl) dL_law_0 (Nat.le_of_ble_eq_true rfl) (Nat.le_of_ble_eq_true rfl) (fun q0 H w1 hq0 e2 Z => ?_)
  have e2 : w1 = va_up w q0 (some (cTs none none none none 0 0)) := e2
  have k3 : w1 q0 = some (cTs none none none none 0 0) := by rw [e2]; exact up_eq
  refine lv_dup X.1 X.2.1 dL_law_3 rfl ?_
  refine f_callIv (rest := [.ref q0]) X Z hl.1 (c_X4_init l G w1 (fun _ => (0, 0)) q0 rfl k3) (cwI 0 X.2.2.2.2 gL_law_X4_init rfl rfl rfl (X.2.2.2.2 (.initialized RX4) (by decide +kernel)) (X.2.2.2.2 (.methodLink RL 9 yX4_init) (by decide +kernel)) (X.2.2.2.2 (.instanceMethod yX4_init) (by decide +kernel)) rfl (by decide +kernel) ⟨(Nat.le_of_ble_eq_true rfl), (Nat.le_of_ble_eq_true rfl)⟩) rfl dL_law_4 ⟨(Nat.le_of_ble_eq_true rfl), (Nat.le_of_ble_eq_true rfl)⟩ rfl (Nat.le_of_ble_eq_true rfl) (fun w4 H locs p4 Z => ?_)
  obtain ⟨tg1, hC, hF1⟩ := p4
  refine f_astore X hl ⟨_, rfl, dL_law_7⟩ (by decide) ⟨(some q0), rfl⟩ (fun ls hl => ?_)
  have hl : lV ls _ [some (.ref b), some (.ref q0), none, none] := hl
  refine f_new (ci := 5) (ty := tyX5) (fs := [.null, .null, .null, .null, .null, .null, .null, .null, .int 0, .int 0, .null, .int 0, .int 0, .null, .int 0, .null]) X Z i5 tyX5_ok rfl (by decide +kernel) (by decide +kernel) (by decide +kernel) (fun j hj => by rcases (show j = 0 ∨ j = 1 ∨ j = 2 ∨ j = 3 ∨ j = 4 ∨ j = 5 ∨ j = 6 ∨ j = 7 ∨ j = 8 ∨ j = 9 ∨ j = 10 ∨ j = 11 ∨ j = 12 ∨ j = 13 ∨ j = 14 ∨ j = 15 by omega) with rfl | rfl | rfl | rfl | rfl | rfl | rfl | rfl | rfl | rfl | rfl | rfl | rfl | rfl | rfl | rfl <;> rfl) dL_law_8 (Nat.le_of_ble_eq_true rfl) (Nat.le_of_ble_eq_true rfl) (fun q8 H w5 hq8 e6 Z => ?_)
  have e6 : w5 = va_up w4 q8 (some (cMo none none none none none none none none 0 0 none 0 0 none 0 none)) := e6
  have k7 : w5 q8 = some (cMo none none none none none none none none 0 0 none 0 0 none 0 none) := by rw [e6]; exact up_eq
  refine lv_dup X.1 X.2.1 dL_law_11 rfl ?_
  have hF2 : Fr2 w4 tg1 w5 (va_up tg1 q8 (10, 0)) := by rw [e6]; exact Fr2.rf.new hq8
  have hCa := hC.fr2 hF2
  refine f_callIv (rest := [.ref q8]) X Z hl.1 (c_X5_init l G w5 (va_up tg1 q8 (10, 0)) q8 up_at k7) (cwI 0 X.2.2.2.2 gL_law_X5_init rfl rfl rfl (X.2.2.2.2 (.initialized RX5) (by decide +kernel)) (X.2.2.2.2 (.methodLink RL 12 yX5_init) (by decide +kernel)) (X.2.2.2.2 (.instanceMethod yX5_init) (by decide +kernel)) rfl (by decide +kernel) ⟨(Nat.le_of_ble_eq_true rfl), (Nat.le_of_ble_eq_true rfl)⟩) rfl dL_law_12 ⟨(Nat.le_of_ble_eq_true rfl), (Nat.le_of_ble_eq_true rfl)⟩ rfl (Nat.le_of_ble_eq_true rfl) (fun w8 H locs p12 Z => ?_)
  obtain ⟨tg2, ad, had, hMo, hF3⟩ := p12
  have hCb := hCa.fr2 hF3
  refine f_astore X hl ⟨_, rfl, dL_law_15⟩ (by decide) ⟨(some q8), rfl⟩ (fun ls hl => ?_)
  have hl : lV ls _ [some (.ref b), some (.ref q0), some (.ref q8), none] := hl
  refine lv_iconst (v := 0) X.1 X.2.1 dL_law_16 (by decide) ?_
  refine f_istore X hl ⟨_, rfl, dL_law_17⟩ (by decide) (fun ls hl => ?_)
  have hl : lV ls _ [some (.ref b), some (.ref q0), some (.ref q8), some (.int 0)] := hl
  subst had
  refine W.widen (k := 21 + 2 * 0) (n := 11018 + 147 * 0) (by omega) (by omega) ?_
  exact law_loop X hr hlocks hX hbl hGs hL 513 0 tg2 _ q0 ad 0 0 y0 0 (by omega) (by omega) rfl hCb (by omega) hMo (by omega) Y0 _ _ ls Z hl
