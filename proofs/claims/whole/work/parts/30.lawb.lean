set_option maxHeartbeats 4000000 in
set_option maxRecDepth 100000 in
theorem law_siding {p : Program} {l : Launch} {e : Env} {s : State} {m : MethodId} {below : List Frame} {meth : Method} {cd : Code} {b L : Nat} {xs : Nat → Int32} {G : gT} (X : CallFix p m cd cL_law 4 s #[Value.ref b] wsL_law RL) (hX : va_X b L xs s s.heap) (hbl : b < s.heap.size) (hG : G.2.2 = s.heap.size) {n : Nat} (hn : n < 512) (hL : 5 * n + 5 ≤ L) (hL2 : L ≤ 2560) {tg : tT} {w : wT} {h0 : Nat} {ad : Nat → Nat} {c1 c2 : Nat} {y : Yd} {x3 : Int32} (hx3 : x3 = nI (5 * n)) (hC : RepC G tg w h0 c1 y) (h1n : c1 ≤ n) (hMo : RepM G tg w ad c2 y) (h2n : c2 ≤ n) (hY : Yok n y) {H : Heap} {locs : List Loc} {ls : Array Slot} (Z : wZ G w s H locs) (hl : lV ls 4 [some (.ref b), some (.ref h0), some (.ref (ad 0)), some (.int x3)])
    (kk : ∀ (tg' : tT) (w' : wT) (c1' c2' : Nat) (y' : Yd) (H' : Heap) (locs' : List Loc), RepC G tg' w' h0 c1' y' → c1' ≤ n + 1 → RepM G tg' w' ad c2' y' → c2' ≤ n + 1 → Yok (n + 1) y' → wZ G w' s H' locs' → W p l e room_1 s m #[Value.ref b] below meth cd H' locs' (21 + 2 * (n + 1)) (11018 + 147 * (n + 1)) (lw_Z below #[Value.ref b] s) (F0 m 979 ls [])) : W p l e room_1 s m #[Value.ref b] below meth cd H locs (21 + 2 * n) (11018 + 147 * n) (lw_Z below #[Value.ref b] s) (F0 m 607 ls []) := by
  obtain ⟨fs1, ho1⟩ := hC.obj
  have hin1 : vp_in (x3 + 1) L := xk_in (k := 1) hx3 rfl (by decide) hL hL2
  have hin2 : vp_in (x3 + 2) L := xk_in (k := 2) hx3 rfl (by decide) hL hL2
  have hin3 : vp_in (x3 + 3) L := xk_in (k := 3) hx3 rfl (by decide) hL hL2
  have hin4 : vp_in (x3 + 4) L := xk_in (k := 4) hx3 rfl (by decide) hL hL2
  refine f_aload (v := .ref h0) X hl ⟨_, rfl, dL_law_607⟩ rfl ⟨(some h0), rfl⟩ ?_
  refine f_aload (v := .ref b) X hl ⟨_, rfl, dL_law_608⟩ rfl ⟨(some b), rfl⟩ ?_
  refine f_iload X hl ⟨_, rfl, dL_law_609⟩ rfl ?_
  refine lv_iconst (v := 1) X.1 X.2.1 dL_law_610 (by decide) ?_
  refine lv_iadd X.1 X.2.1 dL_law_611 ?_
  refine f_sld X hX hbl hG Z hin1 dL_law_612 ?_
  refine f_aload (v := .ref b) X hl ⟨_, rfl, dL_law_613⟩ rfl ⟨(some b), rfl⟩ ?_
  refine f_iload X hl ⟨_, rfl, dL_law_614⟩ rfl ?_
  refine lv_iconst (v := 2) X.1 X.2.1 dL_law_615 (by decide) ?_
  refine lv_iadd X.1 X.2.1 dL_law_616 ?_
  refine f_sld X hX hbl hG Z hin2 dL_law_617 ?_
  refine lv_if_eq (tgt := 625) X.1 X.2.1 dL_law_618 (by decide) (fun c618 => ?_) (fun c618 => ?_)
  · refine lv_iconst (v := 0) X.1 X.2.1 dL_law_625 (by decide) ?_
    refine f_callVi (rest := []) X Z hl.1 (c_X4_siding l G w tg h0 c1 n y hC hY (by omega) (xs (x3 + 1).toNatClampNeg) 0 (Or.inl rfl)) (cwV 2 X.2.2.2.2 gL_law_X4_siding rfl rfl rfl (by decide +kernel) ⟨(Nat.le_of_ble_eq_true rfl), (Nat.le_of_ble_eq_true rfl)⟩) rfl rfl dL_law_626 ⟨show 21 + 2 * n + 2 ≤ 600000 by omega, show 11018 + 147 * n + 14 ≤ 7302250 by omega⟩ rfl (Nat.le_of_ble_eq_true rfl) ho1 (fun r626 w1 H locs p626 Z => ?_)
    obtain ⟨hr1, tg1, c3, hc3, hC1, hF1⟩ := p626
    have hM1 := hMo.fr hF1
    obtain ⟨fs2, ho2⟩ := hM1.obj
    refine f_aload (v := .ref (ad 0)) X hl ⟨_, rfl, dL_law_629⟩ rfl ⟨(some (ad 0)), rfl⟩ ?_
    refine f_aload (v := .ref b) X hl ⟨_, rfl, dL_law_630⟩ rfl ⟨(some b), rfl⟩ ?_
    refine f_iload X hl ⟨_, rfl, dL_law_631⟩ rfl ?_
    refine lv_iconst (v := 1) X.1 X.2.1 dL_law_632 (by decide) ?_
    refine lv_iadd X.1 X.2.1 dL_law_633 ?_
    refine f_sld X hX hbl hG Z hin1 dL_law_634 ?_
    refine f_aload (v := .ref b) X hl ⟨_, rfl, dL_law_635⟩ rfl ⟨(some b), rfl⟩ ?_
    refine f_iload X hl ⟨_, rfl, dL_law_636⟩ rfl ?_
    refine lv_iconst (v := 2) X.1 X.2.1 dL_law_637 (by decide) ?_
    refine lv_iadd X.1 X.2.1 dL_law_638 ?_
    refine f_sld X hX hbl hG Z hin2 dL_law_639 ?_
    refine lv_if_eq (tgt := 647) X.1 X.2.1 dL_law_640 (by decide) (fun c640 => ?_) (fun c640 => ?_)
    · refine lv_iconst (v := 0) X.1 X.2.1 dL_law_647 (by decide) ?_
      refine f_callVi (rest := [.int r626]) X Z hl.1 (c_X5_siding l G w1 tg1 ad c2 n y hM1 hY (by omega) (xs (x3 + 1).toNatClampNeg) 0 (Or.inl rfl)) (cwV 2 X.2.2.2.2 gL_law_X5_siding rfl rfl rfl (by decide +kernel) ⟨(Nat.le_of_ble_eq_true rfl), (Nat.le_of_ble_eq_true rfl)⟩) rfl rfl dL_law_648 ⟨show 21 + 2 * n + 2 + 0 ≤ 600000 by omega, show 11018 + 147 * n + 14 + 0 ≤ 7302250 by omega⟩ rfl (Nat.le_of_ble_eq_true rfl) ho2 (fun r648 w2 H locs p648 Z => ?_)
      obtain ⟨hr2, ⟨c4, hc4, hM2⟩, hF2⟩ := p648
      have hC2 := hC1.frm hF2
      refine lv_icmp_eq (tgt := 979) X.1 X.2.1 dL_law_651 (by decide) (fun c651 => ?_) (fun c651 => ?_)
      · refine W.widen (k := 21 + 2 * (n + 1)) (n := 11018 + 147 * (n + 1)) (by omega) (by omega) ?_
        exact kk tg1 _ c3 c4 _ _ _ hC2 (by omega) hM2 (by omega) (Yk_siding hY (Or.inl rfl)) Z
      · exact absurd (hr1.trans hr2.symm) c651
    · exact absurd c618 c640
  · refine lv_iconst (v := 1) X.1 X.2.1 dL_law_621 (by decide) ?_
    refine lv_goto (tgt := 626) X.1 X.2.1 dL_law_622 (by decide) ?_
    refine f_callVi (rest := []) X Z hl.1 (c_X4_siding l G w tg h0 c1 n y hC hY (by omega) (xs (x3 + 1).toNatClampNeg) 1 (Or.inr rfl)) (cwV 2 X.2.2.2.2 gL_law_X4_siding rfl rfl rfl (by decide +kernel) ⟨(Nat.le_of_ble_eq_true rfl), (Nat.le_of_ble_eq_true rfl)⟩) rfl rfl dL_law_626 ⟨show 21 + 2 * n + 2 ≤ 600000 by omega, show 11018 + 147 * n + 14 ≤ 7302250 by omega⟩ rfl (Nat.le_of_ble_eq_true rfl) ho1 (fun r626 w3 H locs p626 Z => ?_)
    obtain ⟨hr1, tg1, c3, hc3, hC1, hF1⟩ := p626
    have hM1 := hMo.fr hF1
    obtain ⟨fs2, ho2⟩ := hM1.obj
    refine f_aload (v := .ref (ad 0)) X hl ⟨_, rfl, dL_law_629⟩ rfl ⟨(some (ad 0)), rfl⟩ ?_
    refine f_aload (v := .ref b) X hl ⟨_, rfl, dL_law_630⟩ rfl ⟨(some b), rfl⟩ ?_
    refine f_iload X hl ⟨_, rfl, dL_law_631⟩ rfl ?_
    refine lv_iconst (v := 1) X.1 X.2.1 dL_law_632 (by decide) ?_
    refine lv_iadd X.1 X.2.1 dL_law_633 ?_
    refine f_sld X hX hbl hG Z hin1 dL_law_634 ?_
    refine f_aload (v := .ref b) X hl ⟨_, rfl, dL_law_635⟩ rfl ⟨(some b), rfl⟩ ?_
    refine f_iload X hl ⟨_, rfl, dL_law_636⟩ rfl ?_
    refine lv_iconst (v := 2) X.1 X.2.1 dL_law_637 (by decide) ?_
    refine lv_iadd X.1 X.2.1 dL_law_638 ?_
    refine f_sld X hX hbl hG Z hin2 dL_law_639 ?_
    refine lv_if_eq (tgt := 647) X.1 X.2.1 dL_law_640 (by decide) (fun c640 => ?_) (fun c640 => ?_)
    · exact absurd c640 c618
    · refine lv_iconst (v := 1) X.1 X.2.1 dL_law_643 (by decide) ?_
      refine lv_goto (tgt := 648) X.1 X.2.1 dL_law_644 (by decide) ?_
      refine f_callVi (rest := [.int r626]) X Z hl.1 (c_X5_siding l G w3 tg1 ad c2 n y hM1 hY (by omega) (xs (x3 + 1).toNatClampNeg) 1 (Or.inr rfl)) (cwV 2 X.2.2.2.2 gL_law_X5_siding rfl rfl rfl (by decide +kernel) ⟨(Nat.le_of_ble_eq_true rfl), (Nat.le_of_ble_eq_true rfl)⟩) rfl rfl dL_law_648 ⟨show 21 + 2 * n + 2 + 0 ≤ 600000 by omega, show 11018 + 147 * n + 14 + 0 ≤ 7302250 by omega⟩ rfl (Nat.le_of_ble_eq_true rfl) ho2 (fun r648 w4 H locs p648 Z => ?_)
      obtain ⟨hr2, ⟨c4, hc4, hM2⟩, hF2⟩ := p648
      have hC2 := hC1.frm hF2
      refine lv_icmp_eq (tgt := 979) X.1 X.2.1 dL_law_651 (by decide) (fun c651 => ?_) (fun c651 => ?_)
      · refine W.widen (k := 21 + 2 * (n + 1)) (n := 11018 + 147 * (n + 1)) (by omega) (by omega) ?_
        exact kk tg1 _ c3 c4 _ _ _ hC2 (by omega) hM2 (by omega) (Yk_siding hY (Or.inr rfl)) Z
      · exact absurd (hr1.trans hr2.symm) c651
set_option maxHeartbeats 4000000 in
set_option maxRecDepth 100000 in
theorem law_room {p : Program} {l : Launch} {e : Env} {s : State} {m : MethodId} {below : List Frame} {meth : Method} {cd : Code} {b L : Nat} {xs : Nat → Int32} {G : gT} (X : CallFix p m cd cL_law 4 s #[Value.ref b] wsL_law RL) (hX : va_X b L xs s s.heap) (hbl : b < s.heap.size) (hG : G.2.2 = s.heap.size) {n : Nat} (hn : n < 512) (hL : 5 * n + 5 ≤ L) (hL2 : L ≤ 2560) {tg : tT} {w : wT} {h0 : Nat} {ad : Nat → Nat} {c1 c2 : Nat} {y : Yd} {x3 : Int32} (hx3 : x3 = nI (5 * n)) (hC : RepC G tg w h0 c1 y) (h1n : c1 ≤ n) (hMo : RepM G tg w ad c2 y) (h2n : c2 ≤ n) (hY : Yok n y) {H : Heap} {locs : List Loc} {ls : Array Slot} (Z : wZ G w s H locs) (hl : lV ls 4 [some (.ref b), some (.ref h0), some (.ref (ad 0)), some (.int x3)])
    (kk : ∀ (tg' : tT) (w' : wT) (c1' c2' : Nat) (y' : Yd) (H' : Heap) (locs' : List Loc), RepC G tg' w' h0 c1' y' → c1' ≤ n + 1 → RepM G tg' w' ad c2' y' → c2' ≤ n + 1 → Yok (n + 1) y' → wZ G w' s H' locs' → W p l e room_1 s m #[Value.ref b] below meth cd H' locs' (21 + 2 * (n + 1)) (11018 + 147 * (n + 1)) (lw_Z below #[Value.ref b] s) (F0 m 979 ls [])) : W p l e room_1 s m #[Value.ref b] below meth cd H locs (21 + 2 * n) (11018 + 147 * n) (lw_Z below #[Value.ref b] s) (F0 m 656 ls []) := by
  obtain ⟨fs1, ho1⟩ := hC.obj
  have hin1 : vp_in (x3 + 1) L := xk_in (k := 1) hx3 rfl (by decide) hL hL2
  have hin2 : vp_in (x3 + 2) L := xk_in (k := 2) hx3 rfl (by decide) hL hL2
  have hin3 : vp_in (x3 + 3) L := xk_in (k := 3) hx3 rfl (by decide) hL hL2
  have hin4 : vp_in (x3 + 4) L := xk_in (k := 4) hx3 rfl (by decide) hL hL2
  refine f_aload (v := .ref h0) X hl ⟨_, rfl, dL_law_656⟩ rfl ⟨(some h0), rfl⟩ ?_
  refine f_callVi (rest := []) X Z hl.1 (c_X4_room l G w tg h0 c1 n y hC hY (by omega) ) (cwV 0 X.2.2.2.2 gL_law_X4_room rfl rfl rfl (by decide +kernel) ⟨(Nat.le_of_ble_eq_true rfl), (Nat.le_of_ble_eq_true rfl)⟩) rfl rfl dL_law_657 ⟨show 21 + 2 * n + 0 ≤ 600000 by omega, show 11018 + 147 * n + 0 ≤ 7302250 by omega⟩ rfl (Nat.le_of_ble_eq_true rfl) ho1 (fun r657 w1 H locs p657 Z => ?_)
  obtain ⟨hr1, tg1, c3, hc3, hC1, hF1⟩ := p657
  have hM1 := hMo.fr hF1
  obtain ⟨fs2, ho2⟩ := hM1.obj
  refine f_aload (v := .ref (ad 0)) X hl ⟨_, rfl, dL_law_660⟩ rfl ⟨(some (ad 0)), rfl⟩ ?_
  refine f_callVi (rest := [.int r657]) X Z hl.1 (c_X5_room l G w1 tg1 ad c2 n y hM1 hY (by omega) ) (cwV 0 X.2.2.2.2 gL_law_X5_room rfl rfl rfl (by decide +kernel) ⟨(Nat.le_of_ble_eq_true rfl), (Nat.le_of_ble_eq_true rfl)⟩) rfl rfl dL_law_661 ⟨show 21 + 2 * n + 0 + 0 ≤ 600000 by omega, show 11018 + 147 * n + 0 + 0 ≤ 7302250 by omega⟩ rfl (Nat.le_of_ble_eq_true rfl) ho2 (fun r661 w2 H locs p661 Z => ?_)
  obtain ⟨hr2, ⟨c4, hc4, hM2⟩, hF2⟩ := p661
  have hC2 := hC1.frm hF2
  refine lv_icmp_eq (tgt := 979) X.1 X.2.1 dL_law_664 (by decide) (fun c664 => ?_) (fun c664 => ?_)
  · refine W.widen (k := 21 + 2 * (n + 1)) (n := 11018 + 147 * (n + 1)) (by omega) (by omega) ?_
    exact kk tg1 _ c3 c4 _ _ _ hC2 (by omega) hM2 (by omega) (Yk_room hY) Z
  · exact absurd (hr1.trans hr2.symm) c664
set_option maxHeartbeats 4000000 in
set_option maxRecDepth 100000 in
theorem law_stow {p : Program} {l : Launch} {e : Env} {s : State} {m : MethodId} {below : List Frame} {meth : Method} {cd : Code} {b L : Nat} {xs : Nat → Int32} {G : gT} (X : CallFix p m cd cL_law 4 s #[Value.ref b] wsL_law RL) (hX : va_X b L xs s s.heap) (hbl : b < s.heap.size) (hG : G.2.2 = s.heap.size) {n : Nat} (hn : n < 512) (hL : 5 * n + 5 ≤ L) (hL2 : L ≤ 2560) {tg : tT} {w : wT} {h0 : Nat} {ad : Nat → Nat} {c1 c2 : Nat} {y : Yd} {x3 : Int32} (hx3 : x3 = nI (5 * n)) (hC : RepC G tg w h0 c1 y) (h1n : c1 ≤ n) (hMo : RepM G tg w ad c2 y) (h2n : c2 ≤ n) (hY : Yok n y) {H : Heap} {locs : List Loc} {ls : Array Slot} (Z : wZ G w s H locs) (hl : lV ls 4 [some (.ref b), some (.ref h0), some (.ref (ad 0)), some (.int x3)])
    (kk : ∀ (tg' : tT) (w' : wT) (c1' c2' : Nat) (y' : Yd) (H' : Heap) (locs' : List Loc), RepC G tg' w' h0 c1' y' → c1' ≤ n + 1 → RepM G tg' w' ad c2' y' → c2' ≤ n + 1 → Yok (n + 1) y' → wZ G w' s H' locs' → W p l e room_1 s m #[Value.ref b] below meth cd H' locs' (21 + 2 * (n + 1)) (11018 + 147 * (n + 1)) (lw_Z below #[Value.ref b] s) (F0 m 979 ls [])) : W p l e room_1 s m #[Value.ref b] below meth cd H locs (21 + 2 * n) (11018 + 147 * n) (lw_Z below #[Value.ref b] s) (F0 m 669 ls []) := by
  obtain ⟨fs1, ho1⟩ := hC.obj
  have hin1 : vp_in (x3 + 1) L := xk_in (k := 1) hx3 rfl (by decide) hL hL2
  have hin2 : vp_in (x3 + 2) L := xk_in (k := 2) hx3 rfl (by decide) hL hL2
  have hin3 : vp_in (x3 + 3) L := xk_in (k := 3) hx3 rfl (by decide) hL hL2
  have hin4 : vp_in (x3 + 4) L := xk_in (k := 4) hx3 rfl (by decide) hL hL2
  refine f_aload (v := .ref h0) X hl ⟨_, rfl, dL_law_669⟩ rfl ⟨(some h0), rfl⟩ ?_
  refine f_aload (v := .ref b) X hl ⟨_, rfl, dL_law_670⟩ rfl ⟨(some b), rfl⟩ ?_
  refine f_iload X hl ⟨_, rfl, dL_law_671⟩ rfl ?_
  refine lv_iconst (v := 1) X.1 X.2.1 dL_law_672 (by decide) ?_
  refine lv_iadd X.1 X.2.1 dL_law_673 ?_
  refine f_sld X hX hbl hG Z hin1 dL_law_674 ?_
  refine f_aload (v := .ref b) X hl ⟨_, rfl, dL_law_675⟩ rfl ⟨(some b), rfl⟩ ?_
  refine f_iload X hl ⟨_, rfl, dL_law_676⟩ rfl ?_
  refine lv_iconst (v := 2) X.1 X.2.1 dL_law_677 (by decide) ?_
  refine lv_iadd X.1 X.2.1 dL_law_678 ?_
  refine f_sld X hX hbl hG Z hin2 dL_law_679 ?_
  refine f_callVi (rest := []) X Z hl.1 (c_X4_stow l G w tg h0 c1 n y hC hY (by omega) (xs (x3 + 1).toNatClampNeg) (xs (x3 + 2).toNatClampNeg)) (cwV 2 X.2.2.2.2 gL_law_X4_stow rfl rfl rfl (by decide +kernel) ⟨(Nat.le_of_ble_eq_true rfl), (Nat.le_of_ble_eq_true rfl)⟩) rfl rfl dL_law_680 ⟨show 21 + 2 * n + 0 ≤ 600000 by omega, show 11018 + 147 * n + 0 ≤ 7302250 by omega⟩ rfl (Nat.le_of_ble_eq_true rfl) ho1 (fun r680 w1 H locs p680 Z => ?_)
  obtain ⟨hr1, tg1, c3, hc3, hC1, hF1⟩ := p680
  have hM1 := hMo.fr hF1
  obtain ⟨fs2, ho2⟩ := hM1.obj
  refine f_aload (v := .ref (ad 0)) X hl ⟨_, rfl, dL_law_683⟩ rfl ⟨(some (ad 0)), rfl⟩ ?_
  refine f_aload (v := .ref b) X hl ⟨_, rfl, dL_law_684⟩ rfl ⟨(some b), rfl⟩ ?_
  refine f_iload X hl ⟨_, rfl, dL_law_685⟩ rfl ?_
  refine lv_iconst (v := 1) X.1 X.2.1 dL_law_686 (by decide) ?_
  refine lv_iadd X.1 X.2.1 dL_law_687 ?_
  refine f_sld X hX hbl hG Z hin1 dL_law_688 ?_
  refine f_aload (v := .ref b) X hl ⟨_, rfl, dL_law_689⟩ rfl ⟨(some b), rfl⟩ ?_
  refine f_iload X hl ⟨_, rfl, dL_law_690⟩ rfl ?_
  refine lv_iconst (v := 2) X.1 X.2.1 dL_law_691 (by decide) ?_
  refine lv_iadd X.1 X.2.1 dL_law_692 ?_
  refine f_sld X hX hbl hG Z hin2 dL_law_693 ?_
  refine f_callVi (rest := [.int r680]) X Z hl.1 (c_X5_stow l G w1 tg1 ad c2 n y hM1 hY (by omega) (xs (x3 + 1).toNatClampNeg) (xs (x3 + 2).toNatClampNeg)) (cwV 2 X.2.2.2.2 gL_law_X5_stow rfl rfl rfl (by decide +kernel) ⟨(Nat.le_of_ble_eq_true rfl), (Nat.le_of_ble_eq_true rfl)⟩) rfl rfl dL_law_694 ⟨show 21 + 2 * n + 0 + 0 ≤ 600000 by omega, show 11018 + 147 * n + 0 + 0 ≤ 7302250 by omega⟩ rfl (Nat.le_of_ble_eq_true rfl) ho2 (fun r694 w2 H locs p694 Z => ?_)
  obtain ⟨hr2, ⟨c4, hc4, hM2⟩, hF2⟩ := p694
  have hC2 := hC1.frm hF2
  refine lv_icmp_eq (tgt := 979) X.1 X.2.1 dL_law_697 (by decide) (fun c697 => ?_) (fun c697 => ?_)
  · refine W.widen (k := 21 + 2 * (n + 1)) (n := 11018 + 147 * (n + 1)) (by omega) (by omega) ?_
    exact kk tg1 _ c3 c4 _ _ _ hC2 (by omega) hM2 (by omega) (Yk_stow hY) Z
  · exact absurd (hr1.trans hr2.symm) c697
set_option maxHeartbeats 4000000 in
set_option maxRecDepth 100000 in
theorem law_fetch {p : Program} {l : Launch} {e : Env} {s : State} {m : MethodId} {below : List Frame} {meth : Method} {cd : Code} {b L : Nat} {xs : Nat → Int32} {G : gT} (X : CallFix p m cd cL_law 4 s #[Value.ref b] wsL_law RL) (hX : va_X b L xs s s.heap) (hbl : b < s.heap.size) (hG : G.2.2 = s.heap.size) {n : Nat} (hn : n < 512) (hL : 5 * n + 5 ≤ L) (hL2 : L ≤ 2560) {tg : tT} {w : wT} {h0 : Nat} {ad : Nat → Nat} {c1 c2 : Nat} {y : Yd} {x3 : Int32} (hx3 : x3 = nI (5 * n)) (hC : RepC G tg w h0 c1 y) (h1n : c1 ≤ n) (hMo : RepM G tg w ad c2 y) (h2n : c2 ≤ n) (hY : Yok n y) {H : Heap} {locs : List Loc} {ls : Array Slot} (Z : wZ G w s H locs) (hl : lV ls 4 [some (.ref b), some (.ref h0), some (.ref (ad 0)), some (.int x3)])
    (kk : ∀ (tg' : tT) (w' : wT) (c1' c2' : Nat) (y' : Yd) (H' : Heap) (locs' : List Loc), RepC G tg' w' h0 c1' y' → c1' ≤ n + 1 → RepM G tg' w' ad c2' y' → c2' ≤ n + 1 → Yok (n + 1) y' → wZ G w' s H' locs' → W p l e room_1 s m #[Value.ref b] below meth cd H' locs' (21 + 2 * (n + 1)) (11018 + 147 * (n + 1)) (lw_Z below #[Value.ref b] s) (F0 m 979 ls [])) : W p l e room_1 s m #[Value.ref b] below meth cd H locs (21 + 2 * n) (11018 + 147 * n) (lw_Z below #[Value.ref b] s) (F0 m 702 ls []) := by
  obtain ⟨fs1, ho1⟩ := hC.obj
  have hin1 : vp_in (x3 + 1) L := xk_in (k := 1) hx3 rfl (by decide) hL hL2
  have hin2 : vp_in (x3 + 2) L := xk_in (k := 2) hx3 rfl (by decide) hL hL2
  have hin3 : vp_in (x3 + 3) L := xk_in (k := 3) hx3 rfl (by decide) hL hL2
  have hin4 : vp_in (x3 + 4) L := xk_in (k := 4) hx3 rfl (by decide) hL hL2
  refine f_aload (v := .ref h0) X hl ⟨_, rfl, dL_law_702⟩ rfl ⟨(some h0), rfl⟩ ?_
  refine f_aload (v := .ref b) X hl ⟨_, rfl, dL_law_703⟩ rfl ⟨(some b), rfl⟩ ?_
  refine f_iload X hl ⟨_, rfl, dL_law_704⟩ rfl ?_
  refine lv_iconst (v := 1) X.1 X.2.1 dL_law_705 (by decide) ?_
  refine lv_iadd X.1 X.2.1 dL_law_706 ?_
  refine f_sld X hX hbl hG Z hin1 dL_law_707 ?_
  refine f_aload (v := .ref b) X hl ⟨_, rfl, dL_law_708⟩ rfl ⟨(some b), rfl⟩ ?_
  refine f_iload X hl ⟨_, rfl, dL_law_709⟩ rfl ?_
  refine lv_iconst (v := 2) X.1 X.2.1 dL_law_710 (by decide) ?_
  refine lv_iadd X.1 X.2.1 dL_law_711 ?_
  refine f_sld X hX hbl hG Z hin2 dL_law_712 ?_
  refine f_callVi (rest := []) X Z hl.1 (c_X4_fetch l G w tg h0 c1 n y hC hY (by omega) (xs (x3 + 1).toNatClampNeg) (xs (x3 + 2).toNatClampNeg)) (cwV 2 X.2.2.2.2 gL_law_X4_fetch rfl rfl rfl (by decide +kernel) ⟨(Nat.le_of_ble_eq_true rfl), (Nat.le_of_ble_eq_true rfl)⟩) rfl rfl dL_law_713 ⟨show 21 + 2 * n + 0 ≤ 600000 by omega, show 11018 + 147 * n + 0 ≤ 7302250 by omega⟩ rfl (Nat.le_of_ble_eq_true rfl) ho1 (fun r713 w1 H locs p713 Z => ?_)
  obtain ⟨hr1, tg1, c3, hc3, hC1, hF1⟩ := p713
  have hM1 := hMo.fr hF1
  obtain ⟨fs2, ho2⟩ := hM1.obj
  refine f_aload (v := .ref (ad 0)) X hl ⟨_, rfl, dL_law_716⟩ rfl ⟨(some (ad 0)), rfl⟩ ?_
  refine f_aload (v := .ref b) X hl ⟨_, rfl, dL_law_717⟩ rfl ⟨(some b), rfl⟩ ?_
  refine f_iload X hl ⟨_, rfl, dL_law_718⟩ rfl ?_
  refine lv_iconst (v := 1) X.1 X.2.1 dL_law_719 (by decide) ?_
  refine lv_iadd X.1 X.2.1 dL_law_720 ?_
  refine f_sld X hX hbl hG Z hin1 dL_law_721 ?_
  refine f_aload (v := .ref b) X hl ⟨_, rfl, dL_law_722⟩ rfl ⟨(some b), rfl⟩ ?_
  refine f_iload X hl ⟨_, rfl, dL_law_723⟩ rfl ?_
  refine lv_iconst (v := 2) X.1 X.2.1 dL_law_724 (by decide) ?_
  refine lv_iadd X.1 X.2.1 dL_law_725 ?_
  refine f_sld X hX hbl hG Z hin2 dL_law_726 ?_
  refine f_callVi (rest := [.int r713]) X Z hl.1 (c_X5_fetch l G w1 tg1 ad c2 n y hM1 hY (by omega) (xs (x3 + 1).toNatClampNeg) (xs (x3 + 2).toNatClampNeg)) (cwV 2 X.2.2.2.2 gL_law_X5_fetch rfl rfl rfl (by decide +kernel) ⟨(Nat.le_of_ble_eq_true rfl), (Nat.le_of_ble_eq_true rfl)⟩) rfl rfl dL_law_727 ⟨show 21 + 2 * n + 0 + 0 ≤ 600000 by omega, show 11018 + 147 * n + 0 + 0 ≤ 7302250 by omega⟩ rfl (Nat.le_of_ble_eq_true rfl) ho2 (fun r727 w2 H locs p727 Z => ?_)
  obtain ⟨hr2, ⟨c4, hc4, hM2⟩, hF2⟩ := p727
  have hC2 := hC1.frm hF2
  refine lv_icmp_eq (tgt := 979) X.1 X.2.1 dL_law_730 (by decide) (fun c730 => ?_) (fun c730 => ?_)
  · refine W.widen (k := 21 + 2 * (n + 1)) (n := 11018 + 147 * (n + 1)) (by omega) (by omega) ?_
    exact kk tg1 _ c3 c4 _ _ _ hC2 (by omega) hM2 (by omega) (Yk_fetch hY) Z
  · exact absurd (hr1.trans hr2.symm) c730
set_option maxHeartbeats 4000000 in
set_option maxRecDepth 100000 in
theorem law_plan {p : Program} {l : Launch} {e : Env} {s : State} {m : MethodId} {below : List Frame} {meth : Method} {cd : Code} {b L : Nat} {xs : Nat → Int32} {G : gT} (X : CallFix p m cd cL_law 4 s #[Value.ref b] wsL_law RL) (hX : va_X b L xs s s.heap) (hbl : b < s.heap.size) (hG : G.2.2 = s.heap.size) {n : Nat} (hn : n < 512) (hL : 5 * n + 5 ≤ L) (hL2 : L ≤ 2560) {tg : tT} {w : wT} {h0 : Nat} {ad : Nat → Nat} {c1 c2 : Nat} {y : Yd} {x3 : Int32} (hx3 : x3 = nI (5 * n)) (hC : RepC G tg w h0 c1 y) (h1n : c1 ≤ n) (hMo : RepM G tg w ad c2 y) (h2n : c2 ≤ n) (hY : Yok n y) {H : Heap} {locs : List Loc} {ls : Array Slot} (Z : wZ G w s H locs) (hl : lV ls 4 [some (.ref b), some (.ref h0), some (.ref (ad 0)), some (.int x3)])
    (kk : ∀ (tg' : tT) (w' : wT) (c1' c2' : Nat) (y' : Yd) (H' : Heap) (locs' : List Loc), RepC G tg' w' h0 c1' y' → c1' ≤ n + 1 → RepM G tg' w' ad c2' y' → c2' ≤ n + 1 → Yok (n + 1) y' → wZ G w' s H' locs' → W p l e room_1 s m #[Value.ref b] below meth cd H' locs' (21 + 2 * (n + 1)) (11018 + 147 * (n + 1)) (lw_Z below #[Value.ref b] s) (F0 m 979 ls [])) : W p l e room_1 s m #[Value.ref b] below meth cd H locs (21 + 2 * n) (11018 + 147 * n) (lw_Z below #[Value.ref b] s) (F0 m 735 ls []) := by
  obtain ⟨fs1, ho1⟩ := hC.obj
  have hin1 : vp_in (x3 + 1) L := xk_in (k := 1) hx3 rfl (by decide) hL hL2
  have hin2 : vp_in (x3 + 2) L := xk_in (k := 2) hx3 rfl (by decide) hL hL2
  have hin3 : vp_in (x3 + 3) L := xk_in (k := 3) hx3 rfl (by decide) hL hL2
  have hin4 : vp_in (x3 + 4) L := xk_in (k := 4) hx3 rfl (by decide) hL hL2
  refine f_aload (v := .ref h0) X hl ⟨_, rfl, dL_law_735⟩ rfl ⟨(some h0), rfl⟩ ?_
  refine f_aload (v := .ref b) X hl ⟨_, rfl, dL_law_736⟩ rfl ⟨(some b), rfl⟩ ?_
  refine f_iload X hl ⟨_, rfl, dL_law_737⟩ rfl ?_
  refine lv_iconst (v := 1) X.1 X.2.1 dL_law_738 (by decide) ?_
  refine lv_iadd X.1 X.2.1 dL_law_739 ?_
  refine f_sld X hX hbl hG Z hin1 dL_law_740 ?_
  refine f_aload (v := .ref b) X hl ⟨_, rfl, dL_law_741⟩ rfl ⟨(some b), rfl⟩ ?_
  refine f_iload X hl ⟨_, rfl, dL_law_742⟩ rfl ?_
  refine lv_iconst (v := 2) X.1 X.2.1 dL_law_743 (by decide) ?_
  refine lv_iadd X.1 X.2.1 dL_law_744 ?_
  refine f_sld X hX hbl hG Z hin2 dL_law_745 ?_
  refine f_callVi (rest := []) X Z hl.1 (c_X4_plan l G w tg h0 c1 n y hC hY (by omega) (xs (x3 + 1).toNatClampNeg) (xs (x3 + 2).toNatClampNeg)) (cwV 2 X.2.2.2.2 gL_law_X4_plan rfl rfl rfl (by decide +kernel) ⟨(Nat.le_of_ble_eq_true rfl), (Nat.le_of_ble_eq_true rfl)⟩) rfl rfl dL_law_746 ⟨show 21 + 2 * n + 2 ≤ 600000 by omega, show 11018 + 147 * n + 147 ≤ 7302250 by omega⟩ rfl (Nat.le_of_ble_eq_true rfl) ho1 (fun r746 w1 H locs p746 Z => ?_)
  obtain ⟨hr1, tg1, c3, hc3, hC1, hF1⟩ := p746
  have hM1 := hMo.fr hF1
  obtain ⟨fs2, ho2⟩ := hM1.obj
  refine f_aload (v := .ref (ad 0)) X hl ⟨_, rfl, dL_law_749⟩ rfl ⟨(some (ad 0)), rfl⟩ ?_
  refine f_aload (v := .ref b) X hl ⟨_, rfl, dL_law_750⟩ rfl ⟨(some b), rfl⟩ ?_
  refine f_iload X hl ⟨_, rfl, dL_law_751⟩ rfl ?_
  refine lv_iconst (v := 1) X.1 X.2.1 dL_law_752 (by decide) ?_
  refine lv_iadd X.1 X.2.1 dL_law_753 ?_
  refine f_sld X hX hbl hG Z hin1 dL_law_754 ?_
  refine f_aload (v := .ref b) X hl ⟨_, rfl, dL_law_755⟩ rfl ⟨(some b), rfl⟩ ?_
  refine f_iload X hl ⟨_, rfl, dL_law_756⟩ rfl ?_
  refine lv_iconst (v := 2) X.1 X.2.1 dL_law_757 (by decide) ?_
  refine lv_iadd X.1 X.2.1 dL_law_758 ?_
  refine f_sld X hX hbl hG Z hin2 dL_law_759 ?_
  refine f_callVi (rest := [.int r746]) X Z hl.1 (c_X5_plan l G w1 tg1 ad c2 n y hM1 hY (by omega) (xs (x3 + 1).toNatClampNeg) (xs (x3 + 2).toNatClampNeg)) (cwV 2 X.2.2.2.2 gL_law_X5_plan rfl rfl rfl (by decide +kernel) ⟨(Nat.le_of_ble_eq_true rfl), (Nat.le_of_ble_eq_true rfl)⟩) rfl rfl dL_law_760 ⟨show 21 + 2 * n + 2 + 0 ≤ 600000 by omega, show 11018 + 147 * n + 147 + 0 ≤ 7302250 by omega⟩ rfl (Nat.le_of_ble_eq_true rfl) ho2 (fun r760 w2 H locs p760 Z => ?_)
  obtain ⟨hr2, ⟨c4, hc4, hM2⟩, hF2⟩ := p760
  have hC2 := hC1.frm hF2
  refine lv_icmp_eq (tgt := 979) X.1 X.2.1 dL_law_763 (by decide) (fun c763 => ?_) (fun c763 => ?_)
  · refine W.widen (k := 21 + 2 * (n + 1)) (n := 11018 + 147 * (n + 1)) (by omega) (by omega) ?_
    exact kk tg1 _ c3 c4 _ _ _ hC2 (by omega) hM2 (by omega) (Yk_plan hY) Z
  · exact absurd (hr1.trans hr2.symm) c763
set_option maxHeartbeats 4000000 in
set_option maxRecDepth 100000 in
theorem law_note {p : Program} {l : Launch} {e : Env} {s : State} {m : MethodId} {below : List Frame} {meth : Method} {cd : Code} {b L : Nat} {xs : Nat → Int32} {G : gT} (X : CallFix p m cd cL_law 4 s #[Value.ref b] wsL_law RL) (hX : va_X b L xs s s.heap) (hbl : b < s.heap.size) (hG : G.2.2 = s.heap.size) {n : Nat} (hn : n < 512) (hL : 5 * n + 5 ≤ L) (hL2 : L ≤ 2560) {tg : tT} {w : wT} {h0 : Nat} {ad : Nat → Nat} {c1 c2 : Nat} {y : Yd} {x3 : Int32} (hx3 : x3 = nI (5 * n)) (hC : RepC G tg w h0 c1 y) (h1n : c1 ≤ n) (hMo : RepM G tg w ad c2 y) (h2n : c2 ≤ n) (hY : Yok n y) {H : Heap} {locs : List Loc} {ls : Array Slot} (Z : wZ G w s H locs) (hl : lV ls 4 [some (.ref b), some (.ref h0), some (.ref (ad 0)), some (.int x3)])
    (kk : ∀ (tg' : tT) (w' : wT) (c1' c2' : Nat) (y' : Yd) (H' : Heap) (locs' : List Loc), RepC G tg' w' h0 c1' y' → c1' ≤ n + 1 → RepM G tg' w' ad c2' y' → c2' ≤ n + 1 → Yok (n + 1) y' → wZ G w' s H' locs' → W p l e room_1 s m #[Value.ref b] below meth cd H' locs' (21 + 2 * (n + 1)) (11018 + 147 * (n + 1)) (lw_Z below #[Value.ref b] s) (F0 m 979 ls [])) : W p l e room_1 s m #[Value.ref b] below meth cd H locs (21 + 2 * n) (11018 + 147 * n) (lw_Z below #[Value.ref b] s) (F0 m 768 ls []) := by
  obtain ⟨fs1, ho1⟩ := hC.obj
  have hin1 : vp_in (x3 + 1) L := xk_in (k := 1) hx3 rfl (by decide) hL hL2
  have hin2 : vp_in (x3 + 2) L := xk_in (k := 2) hx3 rfl (by decide) hL hL2
  have hin3 : vp_in (x3 + 3) L := xk_in (k := 3) hx3 rfl (by decide) hL hL2
  have hin4 : vp_in (x3 + 4) L := xk_in (k := 4) hx3 rfl (by decide) hL hL2
  refine f_aload (v := .ref h0) X hl ⟨_, rfl, dL_law_768⟩ rfl ⟨(some h0), rfl⟩ ?_
  refine f_aload (v := .ref b) X hl ⟨_, rfl, dL_law_769⟩ rfl ⟨(some b), rfl⟩ ?_
  refine f_iload X hl ⟨_, rfl, dL_law_770⟩ rfl ?_
  refine lv_iconst (v := 1) X.1 X.2.1 dL_law_771 (by decide) ?_
  refine lv_iadd X.1 X.2.1 dL_law_772 ?_
  refine f_sld X hX hbl hG Z hin1 dL_law_773 ?_
  refine f_aload (v := .ref b) X hl ⟨_, rfl, dL_law_774⟩ rfl ⟨(some b), rfl⟩ ?_
  refine f_iload X hl ⟨_, rfl, dL_law_775⟩ rfl ?_
  refine lv_iconst (v := 2) X.1 X.2.1 dL_law_776 (by decide) ?_
  refine lv_iadd X.1 X.2.1 dL_law_777 ?_
  refine f_sld X hX hbl hG Z hin2 dL_law_778 ?_
  refine f_aload (v := .ref b) X hl ⟨_, rfl, dL_law_779⟩ rfl ⟨(some b), rfl⟩ ?_
  refine f_iload X hl ⟨_, rfl, dL_law_780⟩ rfl ?_
  refine lv_iconst (v := 3) X.1 X.2.1 dL_law_781 (by decide) ?_
  refine lv_iadd X.1 X.2.1 dL_law_782 ?_
  refine f_sld X hX hbl hG Z hin3 dL_law_783 ?_
  refine f_callVi (rest := []) X Z hl.1 (c_X4_note l G w tg h0 c1 n y hC hY (by omega) (xs (x3 + 1).toNatClampNeg) (xs (x3 + 2).toNatClampNeg) (xs (x3 + 3).toNatClampNeg)) (cwV 3 X.2.2.2.2 gL_law_X4_note rfl rfl rfl (by decide +kernel) ⟨(Nat.le_of_ble_eq_true rfl), (Nat.le_of_ble_eq_true rfl)⟩) rfl rfl dL_law_784 ⟨show 21 + 2 * n + 0 ≤ 600000 by omega, show 11018 + 147 * n + 0 ≤ 7302250 by omega⟩ rfl (Nat.le_of_ble_eq_true rfl) ho1 (fun r784 w1 H locs p784 Z => ?_)
  obtain ⟨hr1, tg1, c3, hc3, hC1, hF1⟩ := p784
  have hM1 := hMo.fr hF1
  obtain ⟨fs2, ho2⟩ := hM1.obj
  refine f_aload (v := .ref (ad 0)) X hl ⟨_, rfl, dL_law_787⟩ rfl ⟨(some (ad 0)), rfl⟩ ?_
  refine f_aload (v := .ref b) X hl ⟨_, rfl, dL_law_788⟩ rfl ⟨(some b), rfl⟩ ?_
  refine f_iload X hl ⟨_, rfl, dL_law_789⟩ rfl ?_
  refine lv_iconst (v := 1) X.1 X.2.1 dL_law_790 (by decide) ?_
  refine lv_iadd X.1 X.2.1 dL_law_791 ?_
  refine f_sld X hX hbl hG Z hin1 dL_law_792 ?_
  refine f_aload (v := .ref b) X hl ⟨_, rfl, dL_law_793⟩ rfl ⟨(some b), rfl⟩ ?_
  refine f_iload X hl ⟨_, rfl, dL_law_794⟩ rfl ?_
  refine lv_iconst (v := 2) X.1 X.2.1 dL_law_795 (by decide) ?_
  refine lv_iadd X.1 X.2.1 dL_law_796 ?_
  refine f_sld X hX hbl hG Z hin2 dL_law_797 ?_
  refine f_aload (v := .ref b) X hl ⟨_, rfl, dL_law_798⟩ rfl ⟨(some b), rfl⟩ ?_
  refine f_iload X hl ⟨_, rfl, dL_law_799⟩ rfl ?_
  refine lv_iconst (v := 3) X.1 X.2.1 dL_law_800 (by decide) ?_
  refine lv_iadd X.1 X.2.1 dL_law_801 ?_
  refine f_sld X hX hbl hG Z hin3 dL_law_802 ?_
  refine f_callVi (rest := [.int r784]) X Z hl.1 (c_X5_note l G w1 tg1 ad c2 n y hM1 hY (by omega) (xs (x3 + 1).toNatClampNeg) (xs (x3 + 2).toNatClampNeg) (xs (x3 + 3).toNatClampNeg)) (cwV 3 X.2.2.2.2 gL_law_X5_note rfl rfl rfl (by decide +kernel) ⟨(Nat.le_of_ble_eq_true rfl), (Nat.le_of_ble_eq_true rfl)⟩) rfl rfl dL_law_803 ⟨show 21 + 2 * n + 0 + 0 ≤ 600000 by omega, show 11018 + 147 * n + 0 + 0 ≤ 7302250 by omega⟩ rfl (Nat.le_of_ble_eq_true rfl) ho2 (fun r803 w2 H locs p803 Z => ?_)
  obtain ⟨hr2, ⟨c4, hc4, hM2⟩, hF2⟩ := p803
  have hC2 := hC1.frm hF2
  refine lv_icmp_eq (tgt := 979) X.1 X.2.1 dL_law_806 (by decide) (fun c806 => ?_) (fun c806 => ?_)
  · refine W.widen (k := 21 + 2 * (n + 1)) (n := 11018 + 147 * (n + 1)) (by omega) (by omega) ?_
    exact kk tg1 _ c3 c4 _ _ _ hC2 (by omega) hM2 (by omega) (Yk_note hY) Z
  · exact absurd (hr1.trans hr2.symm) c806
set_option maxHeartbeats 4000000 in
set_option maxRecDepth 100000 in
theorem law_noted {p : Program} {l : Launch} {e : Env} {s : State} {m : MethodId} {below : List Frame} {meth : Method} {cd : Code} {b L : Nat} {xs : Nat → Int32} {G : gT} (X : CallFix p m cd cL_law 4 s #[Value.ref b] wsL_law RL) (hX : va_X b L xs s s.heap) (hbl : b < s.heap.size) (hG : G.2.2 = s.heap.size) {n : Nat} (hn : n < 512) (hL : 5 * n + 5 ≤ L) (hL2 : L ≤ 2560) {tg : tT} {w : wT} {h0 : Nat} {ad : Nat → Nat} {c1 c2 : Nat} {y : Yd} {x3 : Int32} (hx3 : x3 = nI (5 * n)) (hC : RepC G tg w h0 c1 y) (h1n : c1 ≤ n) (hMo : RepM G tg w ad c2 y) (h2n : c2 ≤ n) (hY : Yok n y) {H : Heap} {locs : List Loc} {ls : Array Slot} (Z : wZ G w s H locs) (hl : lV ls 4 [some (.ref b), some (.ref h0), some (.ref (ad 0)), some (.int x3)])
    (kk : ∀ (tg' : tT) (w' : wT) (c1' c2' : Nat) (y' : Yd) (H' : Heap) (locs' : List Loc), RepC G tg' w' h0 c1' y' → c1' ≤ n + 1 → RepM G tg' w' ad c2' y' → c2' ≤ n + 1 → Yok (n + 1) y' → wZ G w' s H' locs' → W p l e room_1 s m #[Value.ref b] below meth cd H' locs' (21 + 2 * (n + 1)) (11018 + 147 * (n + 1)) (lw_Z below #[Value.ref b] s) (F0 m 979 ls [])) : W p l e room_1 s m #[Value.ref b] below meth cd H locs (21 + 2 * n) (11018 + 147 * n) (lw_Z below #[Value.ref b] s) (F0 m 811 ls []) := by
  obtain ⟨fs1, ho1⟩ := hC.obj
  have hin1 : vp_in (x3 + 1) L := xk_in (k := 1) hx3 rfl (by decide) hL hL2
  have hin2 : vp_in (x3 + 2) L := xk_in (k := 2) hx3 rfl (by decide) hL hL2
  have hin3 : vp_in (x3 + 3) L := xk_in (k := 3) hx3 rfl (by decide) hL hL2
  have hin4 : vp_in (x3 + 4) L := xk_in (k := 4) hx3 rfl (by decide) hL hL2
  refine f_aload (v := .ref h0) X hl ⟨_, rfl, dL_law_811⟩ rfl ⟨(some h0), rfl⟩ ?_
  refine f_aload (v := .ref b) X hl ⟨_, rfl, dL_law_812⟩ rfl ⟨(some b), rfl⟩ ?_
  refine f_iload X hl ⟨_, rfl, dL_law_813⟩ rfl ?_
  refine lv_iconst (v := 1) X.1 X.2.1 dL_law_814 (by decide) ?_
  refine lv_iadd X.1 X.2.1 dL_law_815 ?_
  refine f_sld X hX hbl hG Z hin1 dL_law_816 ?_
  refine f_aload (v := .ref b) X hl ⟨_, rfl, dL_law_817⟩ rfl ⟨(some b), rfl⟩ ?_
  refine f_iload X hl ⟨_, rfl, dL_law_818⟩ rfl ?_
  refine lv_iconst (v := 2) X.1 X.2.1 dL_law_819 (by decide) ?_
  refine lv_iadd X.1 X.2.1 dL_law_820 ?_
  refine f_sld X hX hbl hG Z hin2 dL_law_821 ?_
  refine f_callVi (rest := []) X Z hl.1 (c_X4_noted l G w tg h0 c1 n y hC hY (by omega) (xs (x3 + 1).toNatClampNeg) (xs (x3 + 2).toNatClampNeg)) (cwV 2 X.2.2.2.2 gL_law_X4_noted rfl rfl rfl (by decide +kernel) ⟨(Nat.le_of_ble_eq_true rfl), (Nat.le_of_ble_eq_true rfl)⟩) rfl rfl dL_law_822 ⟨show 21 + 2 * n + 0 ≤ 600000 by omega, show 11018 + 147 * n + 0 ≤ 7302250 by omega⟩ rfl (Nat.le_of_ble_eq_true rfl) ho1 (fun r822 w1 H locs p822 Z => ?_)
  obtain ⟨hr1, tg1, c3, hc3, hC1, hF1⟩ := p822
  have hM1 := hMo.fr hF1
  obtain ⟨fs2, ho2⟩ := hM1.obj
  refine f_aload (v := .ref (ad 0)) X hl ⟨_, rfl, dL_law_825⟩ rfl ⟨(some (ad 0)), rfl⟩ ?_
  refine f_aload (v := .ref b) X hl ⟨_, rfl, dL_law_826⟩ rfl ⟨(some b), rfl⟩ ?_
  refine f_iload X hl ⟨_, rfl, dL_law_827⟩ rfl ?_
  refine lv_iconst (v := 1) X.1 X.2.1 dL_law_828 (by decide) ?_
  refine lv_iadd X.1 X.2.1 dL_law_829 ?_
  refine f_sld X hX hbl hG Z hin1 dL_law_830 ?_
  refine f_aload (v := .ref b) X hl ⟨_, rfl, dL_law_831⟩ rfl ⟨(some b), rfl⟩ ?_
  refine f_iload X hl ⟨_, rfl, dL_law_832⟩ rfl ?_
  refine lv_iconst (v := 2) X.1 X.2.1 dL_law_833 (by decide) ?_
  refine lv_iadd X.1 X.2.1 dL_law_834 ?_
  refine f_sld X hX hbl hG Z hin2 dL_law_835 ?_
  refine f_callVi (rest := [.int r822]) X Z hl.1 (c_X5_noted l G w1 tg1 ad c2 n y hM1 hY (by omega) (xs (x3 + 1).toNatClampNeg) (xs (x3 + 2).toNatClampNeg)) (cwV 2 X.2.2.2.2 gL_law_X5_noted rfl rfl rfl (by decide +kernel) ⟨(Nat.le_of_ble_eq_true rfl), (Nat.le_of_ble_eq_true rfl)⟩) rfl rfl dL_law_836 ⟨show 21 + 2 * n + 0 + 0 ≤ 600000 by omega, show 11018 + 147 * n + 0 + 0 ≤ 7302250 by omega⟩ rfl (Nat.le_of_ble_eq_true rfl) ho2 (fun r836 w2 H locs p836 Z => ?_)
  obtain ⟨hr2, ⟨c4, hc4, hM2⟩, hF2⟩ := p836
  have hC2 := hC1.frm hF2
  refine lv_icmp_eq (tgt := 979) X.1 X.2.1 dL_law_839 (by decide) (fun c839 => ?_) (fun c839 => ?_)
  · refine W.widen (k := 21 + 2 * (n + 1)) (n := 11018 + 147 * (n + 1)) (by omega) (by omega) ?_
    exact kk tg1 _ c3 c4 _ _ _ hC2 (by omega) hM2 (by omega) (Yk_noted hY) Z
  · exact absurd (hr1.trans hr2.symm) c839
set_option maxHeartbeats 4000000 in
set_option maxRecDepth 100000 in
theorem law_wide {p : Program} {l : Launch} {e : Env} {s : State} {m : MethodId} {below : List Frame} {meth : Method} {cd : Code} {b L : Nat} {xs : Nat → Int32} {G : gT} (X : CallFix p m cd cL_law 4 s #[Value.ref b] wsL_law RL) (hX : va_X b L xs s s.heap) (hbl : b < s.heap.size) (hG : G.2.2 = s.heap.size) {n : Nat} (hn : n < 512) (hL : 5 * n + 5 ≤ L) (hL2 : L ≤ 2560) {tg : tT} {w : wT} {h0 : Nat} {ad : Nat → Nat} {c1 c2 : Nat} {y : Yd} {x3 : Int32} (hx3 : x3 = nI (5 * n)) (hC : RepC G tg w h0 c1 y) (h1n : c1 ≤ n) (hMo : RepM G tg w ad c2 y) (h2n : c2 ≤ n) (hY : Yok n y) {H : Heap} {locs : List Loc} {ls : Array Slot} (Z : wZ G w s H locs) (hl : lV ls 4 [some (.ref b), some (.ref h0), some (.ref (ad 0)), some (.int x3)])
    (kk : ∀ (tg' : tT) (w' : wT) (c1' c2' : Nat) (y' : Yd) (H' : Heap) (locs' : List Loc), RepC G tg' w' h0 c1' y' → c1' ≤ n + 1 → RepM G tg' w' ad c2' y' → c2' ≤ n + 1 → Yok (n + 1) y' → wZ G w' s H' locs' → W p l e room_1 s m #[Value.ref b] below meth cd H' locs' (21 + 2 * (n + 1)) (11018 + 147 * (n + 1)) (lw_Z below #[Value.ref b] s) (F0 m 979 ls [])) : W p l e room_1 s m #[Value.ref b] below meth cd H locs (21 + 2 * n) (11018 + 147 * n) (lw_Z below #[Value.ref b] s) (F0 m 844 ls []) := by
  obtain ⟨fs1, ho1⟩ := hC.obj
  have hin1 : vp_in (x3 + 1) L := xk_in (k := 1) hx3 rfl (by decide) hL hL2
  have hin2 : vp_in (x3 + 2) L := xk_in (k := 2) hx3 rfl (by decide) hL hL2
  have hin3 : vp_in (x3 + 3) L := xk_in (k := 3) hx3 rfl (by decide) hL hL2
  have hin4 : vp_in (x3 + 4) L := xk_in (k := 4) hx3 rfl (by decide) hL hL2
  refine f_aload (v := .ref h0) X hl ⟨_, rfl, dL_law_844⟩ rfl ⟨(some h0), rfl⟩ ?_
  refine f_aload (v := .ref b) X hl ⟨_, rfl, dL_law_845⟩ rfl ⟨(some b), rfl⟩ ?_
  refine f_iload X hl ⟨_, rfl, dL_law_846⟩ rfl ?_
  refine lv_iconst (v := 1) X.1 X.2.1 dL_law_847 (by decide) ?_
  refine lv_iadd X.1 X.2.1 dL_law_848 ?_
  refine f_sld X hX hbl hG Z hin1 dL_law_849 ?_
  refine f_callVi (rest := []) X Z hl.1 (c_X4_wide l G w tg h0 c1 n y hC hY (by omega) (xs (x3 + 1).toNatClampNeg)) (cwV 1 X.2.2.2.2 gL_law_X4_wide rfl rfl rfl (by decide +kernel) ⟨(Nat.le_of_ble_eq_true rfl), (Nat.le_of_ble_eq_true rfl)⟩) rfl rfl dL_law_850 ⟨show 21 + 2 * n + 0 ≤ 600000 by omega, show 11018 + 147 * n + 0 ≤ 7302250 by omega⟩ rfl (Nat.le_of_ble_eq_true rfl) ho1 (fun r850 w1 H locs p850 Z => ?_)
  obtain ⟨hr1, tg1, c3, hc3, hC1, hF1⟩ := p850
  have hM1 := hMo.fr hF1
  obtain ⟨fs2, ho2⟩ := hM1.obj
  refine f_aload (v := .ref (ad 0)) X hl ⟨_, rfl, dL_law_853⟩ rfl ⟨(some (ad 0)), rfl⟩ ?_
  refine f_aload (v := .ref b) X hl ⟨_, rfl, dL_law_854⟩ rfl ⟨(some b), rfl⟩ ?_
  refine f_iload X hl ⟨_, rfl, dL_law_855⟩ rfl ?_
  refine lv_iconst (v := 1) X.1 X.2.1 dL_law_856 (by decide) ?_
  refine lv_iadd X.1 X.2.1 dL_law_857 ?_
  refine f_sld X hX hbl hG Z hin1 dL_law_858 ?_
  refine f_callVi (rest := [.int r850]) X Z hl.1 (c_X5_wide l G w1 tg1 ad c2 n y hM1 hY (by omega) (xs (x3 + 1).toNatClampNeg)) (cwV 1 X.2.2.2.2 gL_law_X5_wide rfl rfl rfl (by decide +kernel) ⟨(Nat.le_of_ble_eq_true rfl), (Nat.le_of_ble_eq_true rfl)⟩) rfl rfl dL_law_859 ⟨show 21 + 2 * n + 0 + 0 ≤ 600000 by omega, show 11018 + 147 * n + 0 + 0 ≤ 7302250 by omega⟩ rfl (Nat.le_of_ble_eq_true rfl) ho2 (fun r859 w2 H locs p859 Z => ?_)
  obtain ⟨hr2, ⟨c4, hc4, hM2⟩, hF2⟩ := p859
  have hC2 := hC1.frm hF2
  refine lv_icmp_eq (tgt := 979) X.1 X.2.1 dL_law_862 (by decide) (fun c862 => ?_) (fun c862 => ?_)
  · refine W.widen (k := 21 + 2 * (n + 1)) (n := 11018 + 147 * (n + 1)) (by omega) (by omega) ?_
    exact kk tg1 _ c3 c4 _ _ _ hC2 (by omega) hM2 (by omega) (Yk_wide hY) Z
  · exact absurd (hr1.trans hr2.symm) c862
set_option maxHeartbeats 4000000 in
set_option maxRecDepth 100000 in
theorem law_away {p : Program} {l : Launch} {e : Env} {s : State} {m : MethodId} {below : List Frame} {meth : Method} {cd : Code} {b L : Nat} {xs : Nat → Int32} {G : gT} (X : CallFix p m cd cL_law 4 s #[Value.ref b] wsL_law RL) (hX : va_X b L xs s s.heap) (hbl : b < s.heap.size) (hG : G.2.2 = s.heap.size) {n : Nat} (hn : n < 512) (hL : 5 * n + 5 ≤ L) (hL2 : L ≤ 2560) {tg : tT} {w : wT} {h0 : Nat} {ad : Nat → Nat} {c1 c2 : Nat} {y : Yd} {x3 : Int32} (hx3 : x3 = nI (5 * n)) (hC : RepC G tg w h0 c1 y) (h1n : c1 ≤ n) (hMo : RepM G tg w ad c2 y) (h2n : c2 ≤ n) (hY : Yok n y) {H : Heap} {locs : List Loc} {ls : Array Slot} (Z : wZ G w s H locs) (hl : lV ls 4 [some (.ref b), some (.ref h0), some (.ref (ad 0)), some (.int x3)])
    (kk : ∀ (tg' : tT) (w' : wT) (c1' c2' : Nat) (y' : Yd) (H' : Heap) (locs' : List Loc), RepC G tg' w' h0 c1' y' → c1' ≤ n + 1 → RepM G tg' w' ad c2' y' → c2' ≤ n + 1 → Yok (n + 1) y' → wZ G w' s H' locs' → W p l e room_1 s m #[Value.ref b] below meth cd H' locs' (21 + 2 * (n + 1)) (11018 + 147 * (n + 1)) (lw_Z below #[Value.ref b] s) (F0 m 979 ls [])) : W p l e room_1 s m #[Value.ref b] below meth cd H locs (21 + 2 * n) (11018 + 147 * n) (lw_Z below #[Value.ref b] s) (F0 m 867 ls []) := by
  obtain ⟨fs1, ho1⟩ := hC.obj
  have hin1 : vp_in (x3 + 1) L := xk_in (k := 1) hx3 rfl (by decide) hL hL2
  have hin2 : vp_in (x3 + 2) L := xk_in (k := 2) hx3 rfl (by decide) hL hL2
  have hin3 : vp_in (x3 + 3) L := xk_in (k := 3) hx3 rfl (by decide) hL hL2
  have hin4 : vp_in (x3 + 4) L := xk_in (k := 4) hx3 rfl (by decide) hL hL2
  refine f_aload (v := .ref h0) X hl ⟨_, rfl, dL_law_867⟩ rfl ⟨(some h0), rfl⟩ ?_
  refine f_aload (v := .ref b) X hl ⟨_, rfl, dL_law_868⟩ rfl ⟨(some b), rfl⟩ ?_
  refine f_iload X hl ⟨_, rfl, dL_law_869⟩ rfl ?_
  refine lv_iconst (v := 1) X.1 X.2.1 dL_law_870 (by decide) ?_
  refine lv_iadd X.1 X.2.1 dL_law_871 ?_
  refine f_sld X hX hbl hG Z hin1 dL_law_872 ?_
  refine f_callVi (rest := []) X Z hl.1 (c_X4_away l G w tg h0 c1 n y hC hY (by omega) (xs (x3 + 1).toNatClampNeg)) (cwV 1 X.2.2.2.2 gL_law_X4_away rfl rfl rfl (by decide +kernel) ⟨(Nat.le_of_ble_eq_true rfl), (Nat.le_of_ble_eq_true rfl)⟩) rfl rfl dL_law_873 ⟨show 21 + 2 * n + 0 ≤ 600000 by omega, show 11018 + 147 * n + 0 ≤ 7302250 by omega⟩ rfl (Nat.le_of_ble_eq_true rfl) ho1 (fun r873 w1 H locs p873 Z => ?_)
  obtain ⟨hr1, tg1, c3, hc3, hC1, hF1⟩ := p873
  have hM1 := hMo.fr hF1
  obtain ⟨fs2, ho2⟩ := hM1.obj
  refine f_aload (v := .ref (ad 0)) X hl ⟨_, rfl, dL_law_876⟩ rfl ⟨(some (ad 0)), rfl⟩ ?_
  refine f_aload (v := .ref b) X hl ⟨_, rfl, dL_law_877⟩ rfl ⟨(some b), rfl⟩ ?_
  refine f_iload X hl ⟨_, rfl, dL_law_878⟩ rfl ?_
  refine lv_iconst (v := 1) X.1 X.2.1 dL_law_879 (by decide) ?_
  refine lv_iadd X.1 X.2.1 dL_law_880 ?_
  refine f_sld X hX hbl hG Z hin1 dL_law_881 ?_
  refine f_callVi (rest := [.int r873]) X Z hl.1 (c_X5_away l G w1 tg1 ad c2 n y hM1 hY (by omega) (xs (x3 + 1).toNatClampNeg)) (cwV 1 X.2.2.2.2 gL_law_X5_away rfl rfl rfl (by decide +kernel) ⟨(Nat.le_of_ble_eq_true rfl), (Nat.le_of_ble_eq_true rfl)⟩) rfl rfl dL_law_882 ⟨show 21 + 2 * n + 0 + 0 ≤ 600000 by omega, show 11018 + 147 * n + 0 + 0 ≤ 7302250 by omega⟩ rfl (Nat.le_of_ble_eq_true rfl) ho2 (fun r882 w2 H locs p882 Z => ?_)
  obtain ⟨hr2, ⟨c4, hc4, hM2⟩, hF2⟩ := p882
  have hC2 := hC1.frm hF2
  refine lv_icmp_eq (tgt := 979) X.1 X.2.1 dL_law_885 (by decide) (fun c885 => ?_) (fun c885 => ?_)
  · refine W.widen (k := 21 + 2 * (n + 1)) (n := 11018 + 147 * (n + 1)) (by omega) (by omega) ?_
    exact kk tg1 _ c3 c4 _ _ _ hC2 (by omega) hM2 (by omega) (Yk_away hY) Z
  · exact absurd (hr1.trans hr2.symm) c885
set_option maxHeartbeats 4000000 in
set_option maxRecDepth 100000 in
theorem law_about {p : Program} {l : Launch} {e : Env} {s : State} {m : MethodId} {below : List Frame} {meth : Method} {cd : Code} {b L : Nat} {xs : Nat → Int32} {G : gT} (X : CallFix p m cd cL_law 4 s #[Value.ref b] wsL_law RL) (hX : va_X b L xs s s.heap) (hbl : b < s.heap.size) (hG : G.2.2 = s.heap.size) {n : Nat} (hn : n < 512) (hL : 5 * n + 5 ≤ L) (hL2 : L ≤ 2560) {tg : tT} {w : wT} {h0 : Nat} {ad : Nat → Nat} {c1 c2 : Nat} {y : Yd} {x3 : Int32} (hx3 : x3 = nI (5 * n)) (hC : RepC G tg w h0 c1 y) (h1n : c1 ≤ n) (hMo : RepM G tg w ad c2 y) (h2n : c2 ≤ n) (hY : Yok n y) {H : Heap} {locs : List Loc} {ls : Array Slot} (Z : wZ G w s H locs) (hl : lV ls 4 [some (.ref b), some (.ref h0), some (.ref (ad 0)), some (.int x3)])
    (kk : ∀ (tg' : tT) (w' : wT) (c1' c2' : Nat) (y' : Yd) (H' : Heap) (locs' : List Loc), RepC G tg' w' h0 c1' y' → c1' ≤ n + 1 → RepM G tg' w' ad c2' y' → c2' ≤ n + 1 → Yok (n + 1) y' → wZ G w' s H' locs' → W p l e room_1 s m #[Value.ref b] below meth cd H' locs' (21 + 2 * (n + 1)) (11018 + 147 * (n + 1)) (lw_Z below #[Value.ref b] s) (F0 m 979 ls [])) : W p l e room_1 s m #[Value.ref b] below meth cd H locs (21 + 2 * n) (11018 + 147 * n) (lw_Z below #[Value.ref b] s) (F0 m 890 ls []) := by
  obtain ⟨fs1, ho1⟩ := hC.obj
  have hin1 : vp_in (x3 + 1) L := xk_in (k := 1) hx3 rfl (by decide) hL hL2
  have hin2 : vp_in (x3 + 2) L := xk_in (k := 2) hx3 rfl (by decide) hL hL2
  have hin3 : vp_in (x3 + 3) L := xk_in (k := 3) hx3 rfl (by decide) hL hL2
  have hin4 : vp_in (x3 + 4) L := xk_in (k := 4) hx3 rfl (by decide) hL hL2
  refine f_aload (v := .ref h0) X hl ⟨_, rfl, dL_law_890⟩ rfl ⟨(some h0), rfl⟩ ?_
  refine f_aload (v := .ref b) X hl ⟨_, rfl, dL_law_891⟩ rfl ⟨(some b), rfl⟩ ?_
  refine f_iload X hl ⟨_, rfl, dL_law_892⟩ rfl ?_
  refine lv_iconst (v := 1) X.1 X.2.1 dL_law_893 (by decide) ?_
  refine lv_iadd X.1 X.2.1 dL_law_894 ?_
  refine f_sld X hX hbl hG Z hin1 dL_law_895 ?_
  refine f_aload (v := .ref b) X hl ⟨_, rfl, dL_law_896⟩ rfl ⟨(some b), rfl⟩ ?_
  refine f_iload X hl ⟨_, rfl, dL_law_897⟩ rfl ?_
  refine lv_iconst (v := 2) X.1 X.2.1 dL_law_898 (by decide) ?_
  refine lv_iadd X.1 X.2.1 dL_law_899 ?_
  refine f_sld X hX hbl hG Z hin2 dL_law_900 ?_
  refine f_aload (v := .ref b) X hl ⟨_, rfl, dL_law_901⟩ rfl ⟨(some b), rfl⟩ ?_
  refine f_iload X hl ⟨_, rfl, dL_law_902⟩ rfl ?_
  refine lv_iconst (v := 3) X.1 X.2.1 dL_law_903 (by decide) ?_
  refine lv_iadd X.1 X.2.1 dL_law_904 ?_
  refine f_sld X hX hbl hG Z hin3 dL_law_905 ?_
  refine f_callVi (rest := []) X Z hl.1 (c_X4_about l G w tg h0 c1 n y hC hY (by omega) (xs (x3 + 1).toNatClampNeg) (xs (x3 + 2).toNatClampNeg) (xs (x3 + 3).toNatClampNeg)) (cwV 3 X.2.2.2.2 gL_law_X4_about rfl rfl rfl (by decide +kernel) ⟨(Nat.le_of_ble_eq_true rfl), (Nat.le_of_ble_eq_true rfl)⟩) rfl rfl dL_law_906 ⟨show 21 + 2 * n + 0 ≤ 600000 by omega, show 11018 + 147 * n + 0 ≤ 7302250 by omega⟩ rfl (Nat.le_of_ble_eq_true rfl) ho1 (fun r906 w1 H locs p906 Z => ?_)
  obtain ⟨hr1, tg1, c3, hc3, hC1, hF1⟩ := p906
  have hM1 := hMo.fr hF1
  obtain ⟨fs2, ho2⟩ := hM1.obj
  refine f_aload (v := .ref (ad 0)) X hl ⟨_, rfl, dL_law_909⟩ rfl ⟨(some (ad 0)), rfl⟩ ?_
  refine f_aload (v := .ref b) X hl ⟨_, rfl, dL_law_910⟩ rfl ⟨(some b), rfl⟩ ?_
  refine f_iload X hl ⟨_, rfl, dL_law_911⟩ rfl ?_
  refine lv_iconst (v := 1) X.1 X.2.1 dL_law_912 (by decide) ?_
  refine lv_iadd X.1 X.2.1 dL_law_913 ?_
  refine f_sld X hX hbl hG Z hin1 dL_law_914 ?_
  refine f_aload (v := .ref b) X hl ⟨_, rfl, dL_law_915⟩ rfl ⟨(some b), rfl⟩ ?_
  refine f_iload X hl ⟨_, rfl, dL_law_916⟩ rfl ?_
  refine lv_iconst (v := 2) X.1 X.2.1 dL_law_917 (by decide) ?_
  refine lv_iadd X.1 X.2.1 dL_law_918 ?_
  refine f_sld X hX hbl hG Z hin2 dL_law_919 ?_
  refine f_aload (v := .ref b) X hl ⟨_, rfl, dL_law_920⟩ rfl ⟨(some b), rfl⟩ ?_
  refine f_iload X hl ⟨_, rfl, dL_law_921⟩ rfl ?_
  refine lv_iconst (v := 3) X.1 X.2.1 dL_law_922 (by decide) ?_
  refine lv_iadd X.1 X.2.1 dL_law_923 ?_
  refine f_sld X hX hbl hG Z hin3 dL_law_924 ?_
  refine f_callVi (rest := [.int r906]) X Z hl.1 (c_X5_about l G w1 tg1 ad c2 n y hM1 hY (by omega) (xs (x3 + 1).toNatClampNeg) (xs (x3 + 2).toNatClampNeg) (xs (x3 + 3).toNatClampNeg)) (cwV 3 X.2.2.2.2 gL_law_X5_about rfl rfl rfl (by decide +kernel) ⟨(Nat.le_of_ble_eq_true rfl), (Nat.le_of_ble_eq_true rfl)⟩) rfl rfl dL_law_925 ⟨show 21 + 2 * n + 0 + 0 ≤ 600000 by omega, show 11018 + 147 * n + 0 + 0 ≤ 7302250 by omega⟩ rfl (Nat.le_of_ble_eq_true rfl) ho2 (fun r925 w2 H locs p925 Z => ?_)
  obtain ⟨hr2, ⟨c4, hc4, hM2⟩, hF2⟩ := p925
  have hC2 := hC1.frm hF2
  refine lv_icmp_eq (tgt := 979) X.1 X.2.1 dL_law_928 (by decide) (fun c928 => ?_) (fun c928 => ?_)
  · refine W.widen (k := 21 + 2 * (n + 1)) (n := 11018 + 147 * (n + 1)) (by omega) (by omega) ?_
    exact kk tg1 _ c3 c4 _ _ _ hC2 (by omega) hM2 (by omega) (Yk_about hY) Z
  · exact absurd (hr1.trans hr2.symm) c928
set_option maxHeartbeats 4000000 in
set_option maxRecDepth 100000 in
theorem law_count {p : Program} {l : Launch} {e : Env} {s : State} {m : MethodId} {below : List Frame} {meth : Method} {cd : Code} {b L : Nat} {xs : Nat → Int32} {G : gT} (X : CallFix p m cd cL_law 4 s #[Value.ref b] wsL_law RL) (hX : va_X b L xs s s.heap) (hbl : b < s.heap.size) (hG : G.2.2 = s.heap.size) {n : Nat} (hn : n < 512) (hL : 5 * n + 5 ≤ L) (hL2 : L ≤ 2560) {tg : tT} {w : wT} {h0 : Nat} {ad : Nat → Nat} {c1 c2 : Nat} {y : Yd} {x3 : Int32} (hx3 : x3 = nI (5 * n)) (hC : RepC G tg w h0 c1 y) (h1n : c1 ≤ n) (hMo : RepM G tg w ad c2 y) (h2n : c2 ≤ n) (hY : Yok n y) {H : Heap} {locs : List Loc} {ls : Array Slot} (Z : wZ G w s H locs) (hl : lV ls 4 [some (.ref b), some (.ref h0), some (.ref (ad 0)), some (.int x3)])
    (kk : ∀ (tg' : tT) (w' : wT) (c1' c2' : Nat) (y' : Yd) (H' : Heap) (locs' : List Loc), RepC G tg' w' h0 c1' y' → c1' ≤ n + 1 → RepM G tg' w' ad c2' y' → c2' ≤ n + 1 → Yok (n + 1) y' → wZ G w' s H' locs' → W p l e room_1 s m #[Value.ref b] below meth cd H' locs' (21 + 2 * (n + 1)) (11018 + 147 * (n + 1)) (lw_Z below #[Value.ref b] s) (F0 m 979 ls [])) : W p l e room_1 s m #[Value.ref b] below meth cd H locs (21 + 2 * n) (11018 + 147 * n) (lw_Z below #[Value.ref b] s) (F0 m 933 ls []) := by
  obtain ⟨fs1, ho1⟩ := hC.obj
  have hin1 : vp_in (x3 + 1) L := xk_in (k := 1) hx3 rfl (by decide) hL hL2
  have hin2 : vp_in (x3 + 2) L := xk_in (k := 2) hx3 rfl (by decide) hL hL2
  have hin3 : vp_in (x3 + 3) L := xk_in (k := 3) hx3 rfl (by decide) hL hL2
  have hin4 : vp_in (x3 + 4) L := xk_in (k := 4) hx3 rfl (by decide) hL hL2
  refine f_aload (v := .ref h0) X hl ⟨_, rfl, dL_law_933⟩ rfl ⟨(some h0), rfl⟩ ?_
  refine f_aload (v := .ref b) X hl ⟨_, rfl, dL_law_934⟩ rfl ⟨(some b), rfl⟩ ?_
  refine f_iload X hl ⟨_, rfl, dL_law_935⟩ rfl ?_
  refine lv_iconst (v := 1) X.1 X.2.1 dL_law_936 (by decide) ?_
  refine lv_iadd X.1 X.2.1 dL_law_937 ?_
  refine f_sld X hX hbl hG Z hin1 dL_law_938 ?_
  refine f_callVi (rest := []) X Z hl.1 (c_X4_count l G w tg h0 c1 n y hC hY (by omega) (xs (x3 + 1).toNatClampNeg)) (cwV 1 X.2.2.2.2 gL_law_X4_count rfl rfl rfl (by decide +kernel) ⟨(Nat.le_of_ble_eq_true rfl), (Nat.le_of_ble_eq_true rfl)⟩) rfl rfl dL_law_939 ⟨show 21 + 2 * n + 0 ≤ 600000 by omega, show 11018 + 147 * n + 0 ≤ 7302250 by omega⟩ rfl (Nat.le_of_ble_eq_true rfl) ho1 (fun r939 w1 H locs p939 Z => ?_)
  obtain ⟨hr1, tg1, c3, hc3, hC1, hF1⟩ := p939
  have hM1 := hMo.fr hF1
  obtain ⟨fs2, ho2⟩ := hM1.obj
  refine f_aload (v := .ref (ad 0)) X hl ⟨_, rfl, dL_law_942⟩ rfl ⟨(some (ad 0)), rfl⟩ ?_
  refine f_aload (v := .ref b) X hl ⟨_, rfl, dL_law_943⟩ rfl ⟨(some b), rfl⟩ ?_
  refine f_iload X hl ⟨_, rfl, dL_law_944⟩ rfl ?_
  refine lv_iconst (v := 1) X.1 X.2.1 dL_law_945 (by decide) ?_
  refine lv_iadd X.1 X.2.1 dL_law_946 ?_
  refine f_sld X hX hbl hG Z hin1 dL_law_947 ?_
  refine f_callVi (rest := [.int r939]) X Z hl.1 (c_X5_count l G w1 tg1 ad c2 n y hM1 hY (by omega) (xs (x3 + 1).toNatClampNeg)) (cwV 1 X.2.2.2.2 gL_law_X5_count rfl rfl rfl (by decide +kernel) ⟨(Nat.le_of_ble_eq_true rfl), (Nat.le_of_ble_eq_true rfl)⟩) rfl rfl dL_law_948 ⟨show 21 + 2 * n + 0 + 0 ≤ 600000 by omega, show 11018 + 147 * n + 0 + 0 ≤ 7302250 by omega⟩ rfl (Nat.le_of_ble_eq_true rfl) ho2 (fun r948 w2 H locs p948 Z => ?_)
  obtain ⟨hr2, ⟨c4, hc4, hM2⟩, hF2⟩ := p948
  have hC2 := hC1.frm hF2
  refine lv_icmp_eq (tgt := 979) X.1 X.2.1 dL_law_951 (by decide) (fun c951 => ?_) (fun c951 => ?_)
  · refine W.widen (k := 21 + 2 * (n + 1)) (n := 11018 + 147 * (n + 1)) (by omega) (by omega) ?_
    exact kk tg1 _ c3 c4 _ _ _ hC2 (by omega) hM2 (by omega) (Yk_count hY) Z
  · exact absurd (hr1.trans hr2.symm) c951
set_option maxHeartbeats 4000000 in
set_option maxRecDepth 100000 in
theorem law_reasons {p : Program} {l : Launch} {e : Env} {s : State} {m : MethodId} {below : List Frame} {meth : Method} {cd : Code} {b L : Nat} {xs : Nat → Int32} {G : gT} (X : CallFix p m cd cL_law 4 s #[Value.ref b] wsL_law RL) (hX : va_X b L xs s s.heap) (hbl : b < s.heap.size) (hG : G.2.2 = s.heap.size) {n : Nat} (hn : n < 512) (hL : 5 * n + 5 ≤ L) (hL2 : L ≤ 2560) {tg : tT} {w : wT} {h0 : Nat} {ad : Nat → Nat} {c1 c2 : Nat} {y : Yd} {x3 : Int32} (hx3 : x3 = nI (5 * n)) (hC : RepC G tg w h0 c1 y) (h1n : c1 ≤ n) (hMo : RepM G tg w ad c2 y) (h2n : c2 ≤ n) (hY : Yok n y) {H : Heap} {locs : List Loc} {ls : Array Slot} (Z : wZ G w s H locs) (hl : lV ls 4 [some (.ref b), some (.ref h0), some (.ref (ad 0)), some (.int x3)])
    (kk : ∀ (tg' : tT) (w' : wT) (c1' c2' : Nat) (y' : Yd) (H' : Heap) (locs' : List Loc), RepC G tg' w' h0 c1' y' → c1' ≤ n + 1 → RepM G tg' w' ad c2' y' → c2' ≤ n + 1 → Yok (n + 1) y' → wZ G w' s H' locs' → W p l e room_1 s m #[Value.ref b] below meth cd H' locs' (21 + 2 * (n + 1)) (11018 + 147 * (n + 1)) (lw_Z below #[Value.ref b] s) (F0 m 979 ls [])) : W p l e room_1 s m #[Value.ref b] below meth cd H locs (21 + 2 * n) (11018 + 147 * n) (lw_Z below #[Value.ref b] s) (F0 m 956 ls []) := by
  obtain ⟨fs1, ho1⟩ := hC.obj
  have hin1 : vp_in (x3 + 1) L := xk_in (k := 1) hx3 rfl (by decide) hL hL2
  have hin2 : vp_in (x3 + 2) L := xk_in (k := 2) hx3 rfl (by decide) hL hL2
  have hin3 : vp_in (x3 + 3) L := xk_in (k := 3) hx3 rfl (by decide) hL hL2
  have hin4 : vp_in (x3 + 4) L := xk_in (k := 4) hx3 rfl (by decide) hL hL2
  refine f_aload (v := .ref h0) X hl ⟨_, rfl, dL_law_956⟩ rfl ⟨(some h0), rfl⟩ ?_
  refine f_aload (v := .ref b) X hl ⟨_, rfl, dL_law_957⟩ rfl ⟨(some b), rfl⟩ ?_
  refine f_iload X hl ⟨_, rfl, dL_law_958⟩ rfl ?_
  refine lv_iconst (v := 1) X.1 X.2.1 dL_law_959 (by decide) ?_
  refine lv_iadd X.1 X.2.1 dL_law_960 ?_
  refine f_sld X hX hbl hG Z hin1 dL_law_961 ?_
  refine f_callVi (rest := []) X Z hl.1 (c_X4_reasons l G w tg h0 c1 n y hC hY (by omega) (xs (x3 + 1).toNatClampNeg)) (cwV 1 X.2.2.2.2 gL_law_X4_reasons rfl rfl rfl (by decide +kernel) ⟨(Nat.le_of_ble_eq_true rfl), (Nat.le_of_ble_eq_true rfl)⟩) rfl rfl dL_law_962 ⟨show 21 + 2 * n + 0 ≤ 600000 by omega, show 11018 + 147 * n + 0 ≤ 7302250 by omega⟩ rfl (Nat.le_of_ble_eq_true rfl) ho1 (fun r962 w1 H locs p962 Z => ?_)
  obtain ⟨hr1, tg1, c3, hc3, hC1, hF1⟩ := p962
  have hM1 := hMo.fr hF1
  obtain ⟨fs2, ho2⟩ := hM1.obj
  refine f_aload (v := .ref (ad 0)) X hl ⟨_, rfl, dL_law_965⟩ rfl ⟨(some (ad 0)), rfl⟩ ?_
  refine f_aload (v := .ref b) X hl ⟨_, rfl, dL_law_966⟩ rfl ⟨(some b), rfl⟩ ?_
  refine f_iload X hl ⟨_, rfl, dL_law_967⟩ rfl ?_
  refine lv_iconst (v := 1) X.1 X.2.1 dL_law_968 (by decide) ?_
  refine lv_iadd X.1 X.2.1 dL_law_969 ?_
  refine f_sld X hX hbl hG Z hin1 dL_law_970 ?_
  refine f_callVi (rest := [.int r962]) X Z hl.1 (c_X5_reasons l G w1 tg1 ad c2 n y hM1 hY (by omega) (xs (x3 + 1).toNatClampNeg)) (cwV 1 X.2.2.2.2 gL_law_X5_reasons rfl rfl rfl (by decide +kernel) ⟨(Nat.le_of_ble_eq_true rfl), (Nat.le_of_ble_eq_true rfl)⟩) rfl rfl dL_law_971 ⟨show 21 + 2 * n + 0 + 0 ≤ 600000 by omega, show 11018 + 147 * n + 0 + 0 ≤ 7302250 by omega⟩ rfl (Nat.le_of_ble_eq_true rfl) ho2 (fun r971 w2 H locs p971 Z => ?_)
  obtain ⟨hr2, ⟨c4, hc4, hM2⟩, hF2⟩ := p971
  have hC2 := hC1.frm hF2
  refine lv_icmp_eq (tgt := 979) X.1 X.2.1 dL_law_974 (by decide) (fun c974 => ?_) (fun c974 => ?_)
  · refine W.widen (k := 21 + 2 * (n + 1)) (n := 11018 + 147 * (n + 1)) (by omega) (by omega) ?_
    exact kk tg1 _ c3 c4 _ _ _ hC2 (by omega) hM2 (by omega) (Yk_reasons hY) Z
  · exact absurd (hr1.trans hr2.symm) c974
