theorem find_snd {L : LV} : (L.map Prod.snd).find? gV = (L.find? gP).map Prod.snd := by
  induction L with
  | nil => rfl
  | cons q L ih =>
    simp only [List.map_cons, List.find?_cons]
    have : gV q.2 = gP q := rfl
    rw [this]
    cases gP q
    · exact ih
    · rfl
theorem find_at {L : LV} {q : Nat × VR} (h : L.find? gP = some q) : ∃ i : Nat, L[i]? = some q := List.getElem?_of_mem (List.mem_of_find?_eq_some h)
theorem whyN_0 {op : OP} {i j : Int32} (h : whyN op i j = 0) : ∃ r k : Nat, op = some (r, k) ∧ (0 ≤ i.toInt ∧ i.toInt < r) ∧ 0 ≤ j.toInt ∧ j.toInt < k := by
  unfold whyN at h
  split at h
  · cases h
  · rename_i q
    split at h
    · rename_i hq; exact ⟨q.1, q.2, rfl, hq.1, hq.2⟩
    · cases h
theorem whyL_0 {op : OP} {i : Int32} (h : whyL op i = 0) : ∃ r k : Nat, op = some (r, k) ∧ (0 ≤ i.toInt ∧ i.toInt < r) := by
  unfold whyL at h
  split at h
  · cases h
  · rename_i q
    split at h
    · rename_i hq; exact ⟨q.1, q.2, rfl, hq⟩
    · cases h
theorem whyP_0 {os : OS} {p : Int32} (h : whyP os p = 0) : ∃ (n : Nat) (b : Int32), os = some (n, b) ∧ 0 ≤ p.toInt ∧ p.toInt < n := by
  unfold whyP at h
  split at h
  · cases h
  · rename_i q
    split at h
    · rename_i hq; exact ⟨q.1, q.2, rfl, hq⟩
    · cases h
theorem PP.some {G : gT} {w : wT} {tg : tT} {pl : Option Nat} {op : OP} {N : Nat → Nat → Int32} {r k : Nat} (h : PP G w tg pl op N) (ho : op = .some (r, k)) : ∃ pa nu f, pl = .some pa ∧ w pa = .some (cPln (nI r) (nI k) (.some nu)) ∧ (w nu = .some (aI G (r * k) f) ∧ tg nu = (9, 0)) ∧ r ≤ 12 ∧ k ≤ 12 ∧ ∀ i j, i < r → j < k → f (i * k + j) = N i j := by
  rcases h with ⟨-, z⟩ | ⟨pa, nu, r', k', f, h1, h2, h3, h4, h5⟩
  · rw [ho] at z; cases z
  · rw [ho] at h4; cases h4; exact ⟨pa, nu, f, h1, h2.1, h3, h5⟩
theorem SC.some {G : gT} {w : wT} {tg : tT} {sd : Option Nat} {os : OS} {T : Nat → LV} {n : Nat} {b : Int32} (h : SC G w tg sd os T) (ho : os = .some (n, b)) : ∃ sa pa f, sd = .some sa ∧ w sa = .some (cSid (.some pa) b) ∧ (w pa = .some (aV G n f) ∧ tg pa = (7, 0)) ∧ n ≤ 12 ∧ ∀ p, p < n → f p = hd (T (6 + p)) := by
  rcases h with ⟨-, z⟩ | ⟨sa, pa, n', b', f, h1, h2, h3, h4, h5⟩
  · rw [ho] at z; cases z
  · rw [ho] at h4; cases h4; exact ⟨sa, pa, f, h1, h2.1, h3, h5⟩
theorem ix_lt {i j r k : Nat} (hi : i < r) (hj : j < k) : i * k + j < r * k := by
  have h1 : (i + 1) * k ≤ r * k := Nat.mul_le_mul_right k hi
  have h2 : (i + 1) * k = i * k + k := Nat.succ_mul i k
  omega
theorem slot_ix {i j : Int32} {k : Nat} (hi : 0 ≤ i.toInt) (hj : 0 ≤ j.toInt) : i * nI k + j = nI (i.toNatClampNeg * k + j.toNatClampNeg) := by
  rw [← nI_add, ← pk_mul, nI_tn hi, nI_tn hj]
theorem SC.none {G : gT} {w : wT} {tg : tT} {os : OS} {T : Nat → LV} (h : SC G w tg none os T) : os = .none := sopt_none h.opt
theorem PP.none {G : gT} {w : wT} {tg : tT} {op : OP} {N : Nat → Nat → Int32} (h : PP G w tg none op N) : op = .none := popt_none h.opt
set_option maxHeartbeats 4000000 in
set_option maxRecDepth 100000 in
theorem c_X4_draw (l : Launch) (G : gT) (w : wT) (tg : tT) (h0 c nb : Nat) (y : Yd) (hR : RepC G tg w h0 c y) (hY : Yok nb y) (hn : nb ≤ 512) (t : Int32) : Met l yX4_draw wsX4_draw ({ frames := 2, cells := 0, slots := 0, locals := 48 }) (va_Pc [.ref h0, .int t] (wG G w)) (Qi G (OutC G tg w h0 c (sp_draw t y))) 0 0 (fr G) := by
  refine f_met (cc := cX4_draw) (maxL := 6) (ret := (some .int)) (by decide) rfl rfl (Nat.le_of_ble_eq_true rfl) ?_
  intro p e s m below meth cd X hr hlk hnm Z ls hl
  have X : CallFix p m cd cX4_draw 6 s [.ref h0, .int t].toArray wsX4_draw RX4 := X
  have hl : lV ls _ [some (.ref h0), some (.int t), none, none, none, none] := hl
  have i2 : ∀ w ∈ wsX20, w ∈ wsX4_draw := by decide +kernel
  have i3 : ∀ w ∈ wsX30, w ∈ wsX4_draw := by decide +kernel
  have i4 : ∀ w ∈ wsX40, w ∈ wsX4_draw := by decide +kernel
  obtain ⟨ta, to, tf, tk, sd, pl, T, hx⟩ := id hR
  obtain ⟨h1, h2, h3, h4, h5, h6, h7, h8, h9⟩ := id hx
  refine f_iload X hl ⟨_, rfl, dX4_draw_0⟩ rfl ?_
  refine f_callSi (rest := []) X Z hl.1 (c_X4_isTrack l G _ _) (va_cwS 1 X.2.2.2.2 gX4_draw_X4_isTrack rfl rfl rfl (by decide +kernel) ⟨(Nat.le_of_ble_eq_true rfl), (Nat.le_of_ble_eq_true rfl)⟩) rfl dX4_draw_1 ⟨(Nat.le_of_ble_eq_true rfl), (Nat.le_of_ble_eq_true rfl)⟩ rfl (Nat.le_of_ble_eq_true rfl) (fun r1 w1 H locs p1 Z => ?_)
  obtain ⟨w1e, hr1⟩ := p1
  have w1e := w1e.symm
  subst w1e
  refine lv_if_ne (tgt := 9) X.1 X.2.1 dX4_draw_4 (by decide) (fun c4 => ?_) (fun c4 => ?_)
  · rw [hr1, bI_0, Classical.not_not] at c4
    obtain ⟨j, hjt_j⟩ : ∃ j, t.toNatClampNeg = j := ⟨_, rfl⟩
    have hj_j : j < 6 := hjt_j ▸ tn_lt c4
    have hin_j : vp_in t 6 := vp_in_iff.mpr c4
    refine f_aload (v := .ref h0) X hl ⟨_, rfl, dX4_draw_9⟩ rfl ⟨(some h0), rfl⟩ ?_
    refine f_get (v := .ref ta) (k := 0) X Z i4 rfl (by decide) (by decide +kernel) dX4_draw_10 h1.1 rfl ?_
    refine f_iload X hl ⟨_, rfl, dX4_draw_13⟩ rfl ?_
    refine f_tald X Z dX4_draw_14 h2.1 hin_j ?_
    rw [hjt_j, h3 j hj_j]
    rcases hTj : T j with _ | ⟨⟨a, d⟩, L⟩
    · have hcl : w (tk j) = some (cTrk none (nI 0)) := by have q := (h5 j hj_j).1; rw [hTj] at q; exact q
      have hyj : y.1 j = [] := by rw [← h7 j, hTj]; rfl
      refine f_get (v := .null) (k := 0) X Z i2 rfl (by decide) (by decide +kernel) dX4_draw_15 hcl rfl ?_
      refine f_astore X hl ⟨_, rfl, dX4_draw_18⟩ (by decide) ⟨none, rfl⟩ (fun ls hl => ?_)
      have hl : lV ls _ [some (.ref h0), some (.int t), some (.null), none, none, none] := hl
      refine f_aload (v := .null) X hl ⟨_, rfl, dX4_draw_19⟩ rfl ⟨none, rfl⟩ ?_
      refine lv_ifnonnullN X.1 X.2.1 dX4_draw_20 ?_
      refine f_aload (v := .ref h0) X hl ⟨_, rfl, dX4_draw_23⟩ rfl ⟨(some h0), rfl⟩ ?_
      refine lv_iconst (v := 1) X.1 X.2.1 dX4_draw_24 (by decide) ?_
      refine f_callVi (rest := []) X Z hl.1 (c_X4_tell l G w h0 ta to sd pl y.2.2.2.2.1 (nI c) h1.1 y.2.2.2.2.2 1 (by decide) h4.1) (cwV 1 X.2.2.2.2 gX4_draw_X4_tell rfl rfl rfl (by decide +kernel) ⟨(Nat.le_of_ble_eq_true rfl), (Nat.le_of_ble_eq_true rfl)⟩) rfl rfl dX4_draw_25 ⟨(Nat.le_of_ble_eq_true rfl), (Nat.le_of_ble_eq_true rfl)⟩ rfl (Nat.le_of_ble_eq_true rfl) h1.1 (fun r25 w2 H locs p25 Z => ?_)
      obtain ⟨hrT, hwT⟩ := p25
      exact f_iret X hr hlk Z (Nat.le_of_ble_eq_true rfl) (Nat.le_of_ble_eq_true rfl) dX4_draw_28 (out_tell hx Fr.rf hrT hwT (by unfold sp_draw tn; rw [if_pos c4, hjt_j, hyj]))
    · have hd1 : (T j)[0]? = some (a, d) := by rw [hTj]; rfl
      have hcl : w (tk j) = some (cTrk (some a) (nI (L.length + 1))) := by have q := (h5 j hj_j).1; rw [hTj] at q; exact q
      have hyj : y.1 j = d :: L.map Prod.snd := by rw [← h7 j, hTj]; rfl
      obtain ⟨gA, ro, hcA, hro, hrt⟩ := h6.1 j _ a d hd1
      have hnx : nx (T j) 0 = hd L := by rw [hTj]; rfl
      rw [hnx] at hcA
      refine f_get (v := .ref a) (k := 0) X Z i2 rfl (by decide) (by decide +kernel) dX4_draw_15 hcl rfl ?_
      refine f_astore X hl ⟨_, rfl, dX4_draw_18⟩ (by decide) ⟨(some a), rfl⟩ (fun ls hl => ?_)
      have hl : lV ls _ [some (.ref h0), some (.int t), some (.ref a), none, none, none] := hl
      refine f_aload (v := .ref a) X hl ⟨_, rfl, dX4_draw_19⟩ rfl ⟨(some a), rfl⟩ ?_
      refine lv_ifnonnull (tgt := 29) X.1 X.2.1 dX4_draw_20 (by decide) ?_
      refine f_aload (v := .ref a) X hl ⟨_, rfl, dX4_draw_29⟩ rfl ⟨(some a), rfl⟩ ?_
      refine f_callSi (rest := []) X Z hl.1 (c_X4_isEngine2 l G w (some a) (some d) (Or.inr ⟨a, d, _, rfl, rfl, ro, hcA, hro⟩)) (va_cwS 1 X.2.2.2.2 gX4_draw_X4_isEngine rfl rfl rfl (by decide +kernel) ⟨(Nat.le_of_ble_eq_true rfl), (Nat.le_of_ble_eq_true rfl)⟩) rfl dX4_draw_30 ⟨(Nat.le_of_ble_eq_true rfl), (Nat.le_of_ble_eq_true rfl)⟩ rfl (Nat.le_of_ble_eq_true rfl) (fun r30 w3 H locs p30 Z => ?_)
      obtain ⟨w3e, hr30⟩ := p30
      have w3e := w3e.symm
      subst w3e
      refine lv_if_ne (tgt := 42) X.1 X.2.1 dX4_draw_33 (by decide) (fun c33 => ?_) (fun c33 => ?_)
      · rw [hr30, bI_0, Classical.not_not] at c33
        refine f_aload (v := .ref h0) X hl ⟨_, rfl, dX4_draw_42⟩ rfl ⟨(some h0), rfl⟩ ?_
        refine f_get (v := .ref ta) (k := 0) X Z i4 rfl (by decide) (by decide +kernel) dX4_draw_43 h1.1 rfl ?_
        refine f_iload X hl ⟨_, rfl, dX4_draw_46⟩ rfl ?_
        refine f_tald X Z dX4_draw_47 h2.1 hin_j ?_
        rw [hjt_j, h3 j hj_j]
        refine f_callVq (rest := []) X Z hl.1 (c_X2_firstGraveBehindFront l G w (tk j) (T j) (hx.trk hY hn hj_j)) (cwV 0 X.2.2.2.2 gX4_draw_X2_firstGraveBehindFront rfl rfl rfl (by decide +kernel) ⟨(Nat.le_of_ble_eq_true rfl), (Nat.le_of_ble_eq_true rfl)⟩) rfl rfl dX4_draw_48 ⟨(Nat.le_of_ble_eq_true rfl), (Nat.le_of_ble_eq_true rfl)⟩ rfl (Nat.le_of_ble_eq_true rfl) hcl (fun r48 w4 H locs p48 Z => ?_)
        obtain ⟨w4e, hr48⟩ := p48
        have w4e := w4e.symm
        subst w4e
        refine f_astore X hl ⟨_, rfl, dX4_draw_51⟩ (by decide) ⟨r48, rfl⟩ (fun ls hl => ?_)
        have hl : lV ls _ [some (.ref h0), some (.int t), some (.ref a), some (va_rf r48), none, none] := hl
        refine f_aload (v := va_rf r48) X hl ⟨_, rfl, dX4_draw_52⟩ rfl ⟨r48, rfl⟩ ?_
        refine f_ifnull (tgt := 67) X dX4_draw_53 (by decide) (fun c53 => ?_) (fun a53 c53 => ?_)
        · subst c53
          have hfq : L.find? gP = none := by
            rw [hTj, show ((a, d) :: L).drop 1 = L from rfl] at hr48
            cases hq : L.find? gP with
            | none => rfl
            | some q => rw [hq] at hr48; cases hr48
          refine f_aload (v := .ref h0) X hl ⟨_, rfl, dX4_draw_67⟩ rfl ⟨(some h0), rfl⟩ ?_
          refine f_get (v := .ref ta) (k := 0) X Z i4 rfl (by decide) (by decide +kernel) dX4_draw_68 h1.1 rfl ?_
          refine f_iload X hl ⟨_, rfl, dX4_draw_71⟩ rfl ?_
          refine f_tald X Z dX4_draw_72 h2.1 hin_j ?_
          rw [hjt_j, h3 j hj_j]
          refine f_callVi (rest := []) X Z hl.1 (c_X2_weightBehindFront l G w (tk j) (T j) (hx.trk hY hn hj_j)) (cwV 0 X.2.2.2.2 gX4_draw_X2_weightBehindFront rfl rfl rfl (by decide +kernel) ⟨(Nat.le_of_ble_eq_true rfl), (Nat.le_of_ble_eq_true rfl)⟩) rfl rfl dX4_draw_73 ⟨(Nat.le_of_ble_eq_true rfl), (Nat.le_of_ble_eq_true rfl)⟩ rfl (Nat.le_of_ble_eq_true rfl) hcl (fun r73 w5 H locs p73 Z => ?_)
          obtain ⟨w5e, hr73⟩ := p73
          have w5e := w5e.symm
          subst w5e
          refine f_istore2 X hl dX4_draw_76 (by decide) (fun ls hl => ?_)
          have hl : lV ls _ [some (.ref h0), some (.int t), some (.ref a), some (.null), some (.int r73), none] := hl
          refine f_iload2 X hl dX4_draw_78 rfl ?_
          refine lv_bipush (v := 10) X.1 X.2.1 dX4_draw_80 (by decide) ?_
          refine f_aload (v := .ref a) X hl ⟨_, rfl, dX4_draw_82⟩ rfl ⟨(some a), rfl⟩ ?_
          refine f_get (v := .int d.2.1) (k := 1) X Z i3 rfl (by decide) (by decide +kernel) dX4_draw_83 hcA rfl ?_
          refine lv_imul X.1 X.2.1 dX4_draw_86 ?_
          refine lv_isub X.1 X.2.1 dX4_draw_87 ?_
          refine f_istore2 X hl dX4_draw_88 (by decide) (fun ls hl => ?_)
          have hl : lV ls _ [some (.ref h0), some (.int t), some (.ref a), some (.null), some (.int r73), some (.int (r73 - (10 * d.2.1)))] := hl
          refine f_iload2 X hl dX4_draw_90 rfl ?_
          refine lv_if_le (tgt := 106) X.1 X.2.1 dX4_draw_92 (by decide) (fun c92 => ?_) (fun c92 => ?_)
          · refine f_iload2 X hl dX4_draw_106 rfl ?_
            exact f_iret X hr hlk Z (Nat.le_of_ble_eq_true rfl) (Nat.le_of_ble_eq_true rfl) dX4_draw_108 (by
                have hl3 : r73 = sLd 0 (L.map Prod.snd) := by rw [hr73, hTj]; rfl
                subst hl3
                exact out_same hR (by unfold sp_draw tn; rw [if_pos c4, hjt_j, hyj]; simp only [isE, decide_eq_true_eq] at c33; simp only [if_pos c33, find_snd, hfq, Option.map_none]; exact if_neg (by rw [Int32.le_iff_toInt_le, kc_0] at c92; omega)))
          · refine f_aload (v := .ref h0) X hl ⟨_, rfl, dX4_draw_95⟩ rfl ⟨(some h0), rfl⟩ ?_
            refine lv_bipush (v := 6) X.1 X.2.1 dX4_draw_96 (by decide) ?_
            refine f_iload2 X hl dX4_draw_98 rfl ?_
            refine f_callVi (rest := []) X Z hl.1 (c_X4_tellLevel l G w h0 ta to sd pl y.2.2.2.2.1 (nI c) h1.1 y.2.2.2.2.2 6 (r73 - (10 * d.2.1)) (by decide) h4.1) (cwV 2 X.2.2.2.2 gX4_draw_X4_tellLevel rfl rfl rfl (by decide +kernel) ⟨(Nat.le_of_ble_eq_true rfl), (Nat.le_of_ble_eq_true rfl)⟩) rfl rfl dX4_draw_100 ⟨(Nat.le_of_ble_eq_true rfl), (Nat.le_of_ble_eq_true rfl)⟩ rfl (Nat.le_of_ble_eq_true rfl) h1.1 (fun r100 w6 H locs p100 Z => ?_)
            obtain ⟨hrT, hwT⟩ := p100
            refine lv_goto (tgt := 108) X.1 X.2.1 dX4_draw_103 (by decide) ?_
            exact f_iret X hr hlk Z (Nat.le_of_ble_eq_true rfl) (Nat.le_of_ble_eq_true rfl) dX4_draw_108 (by
                have hl3 : r73 = sLd 0 (L.map Prod.snd) := by rw [hr73, hTj]; rfl
                subst hl3
                exact out_lev hx hrT hwT (by unfold sp_draw tn; rw [if_pos c4, hjt_j, hyj]; simp only [isE, decide_eq_true_eq] at c33; simp only [if_pos c33, find_snd, hfq, Option.map_none]; exact if_pos (by rw [Int32.le_iff_toInt_le, kc_0] at c92; omega)))
        · subst c53
          obtain ⟨q, hfq, hqa⟩ := Option.map_eq_some_iff.mp hr48.symm
          obtain ⟨b1, db⟩ := q
          have hqa : b1 = a53 := hqa
          subst hqa
          rw [hTj, show ((a, d) :: L).drop 1 = L from rfl] at hfq
          obtain ⟨ix, hix⟩ := find_at hfq
          obtain ⟨-, rb, hcB, -, -⟩ := h6.1 j (ix + 1) b1 db (by rw [hTj]; exact hix)
          refine f_aload (v := .ref h0) X hl ⟨_, rfl, dX4_draw_56⟩ rfl ⟨(some h0), rfl⟩ ?_
          refine lv_bipush (v := 7) X.1 X.2.1 dX4_draw_57 (by decide) ?_
          refine f_aload (v := .ref b1) X hl ⟨_, rfl, dX4_draw_59⟩ rfl ⟨(some b1), rfl⟩ ?_
          refine f_get (v := .int db.2.2.1) (k := 2) X Z i3 rfl (by decide) (by decide +kernel) dX4_draw_60 hcB rfl ?_
          refine f_callVi (rest := []) X Z hl.1 (c_X4_tellLevel l G w h0 ta to sd pl y.2.2.2.2.1 (nI c) h1.1 y.2.2.2.2.2 7 db.2.2.1 (by decide) h4.1) (cwV 2 X.2.2.2.2 gX4_draw_X4_tellLevel rfl rfl rfl (by decide +kernel) ⟨(Nat.le_of_ble_eq_true rfl), (Nat.le_of_ble_eq_true rfl)⟩) rfl rfl dX4_draw_63 ⟨(Nat.le_of_ble_eq_true rfl), (Nat.le_of_ble_eq_true rfl)⟩ rfl (Nat.le_of_ble_eq_true rfl) h1.1 (fun r63 w7 H locs p63 Z => ?_)
          obtain ⟨hrT, hwT⟩ := p63
          exact f_iret X hr hlk Z (Nat.le_of_ble_eq_true rfl) (Nat.le_of_ble_eq_true rfl) dX4_draw_66 (out_lev hx hrT hwT (by unfold sp_draw tn; rw [if_pos c4, hjt_j, hyj]; simp only [isE, decide_eq_true_eq] at c33; simp only [if_pos c33, find_snd, hfq, Option.map_some]))
      · rw [hr30, bI_0] at c33
        refine f_aload (v := .ref h0) X hl ⟨_, rfl, dX4_draw_36⟩ rfl ⟨(some h0), rfl⟩ ?_
        refine lv_iconst (v := 2) X.1 X.2.1 dX4_draw_37 (by decide) ?_
        refine f_callVi (rest := []) X Z hl.1 (c_X4_tell l G w h0 ta to sd pl y.2.2.2.2.1 (nI c) h1.1 y.2.2.2.2.2 2 (by decide) h4.1) (cwV 1 X.2.2.2.2 gX4_draw_X4_tell rfl rfl rfl (by decide +kernel) ⟨(Nat.le_of_ble_eq_true rfl), (Nat.le_of_ble_eq_true rfl)⟩) rfl rfl dX4_draw_38 ⟨(Nat.le_of_ble_eq_true rfl), (Nat.le_of_ble_eq_true rfl)⟩ rfl (Nat.le_of_ble_eq_true rfl) h1.1 (fun r38 w8 H locs p38 Z => ?_)
        obtain ⟨hrT, hwT⟩ := p38
        exact f_iret X hr hlk Z (Nat.le_of_ble_eq_true rfl) (Nat.le_of_ble_eq_true rfl) dX4_draw_41 (out_tell hx Fr.rf hrT hwT (by unfold sp_draw tn; rw [if_pos c4, hjt_j, hyj]; exact if_neg (fun z => c33 (by simp only [isE, decide_eq_true_eq]; exact z))))
  · rw [hr1, bI_0] at c4
    refine lv_iconst (v := (-1)) X.1 X.2.1 dX4_draw_7 (by decide) ?_
    exact f_iret X hr hlk Z (Nat.le_of_ble_eq_true rfl) (Nat.le_of_ble_eq_true rfl) dX4_draw_8 (out_same hR (if_neg c4))
set_option maxHeartbeats 4000000 in
set_option maxRecDepth 100000 in
theorem c_X4_siding (l : Launch) (G : gT) (w : wT) (tg : tT) (h0 c nb : Nat) (y : Yd) (hR : RepC G tg w h0 c y) (hY : Yok nb y) (hn : nb ≤ 512) (n b : Int32) (hb : b = 0 ∨ b = 1) : Met l yX4_siding wsX4_siding ({ frames := 2, cells := 2, slots := 14, locals := 38 }) (va_Pc [.ref h0, .int n, .int b] (wG G w)) (Qi G (OutC G tg w h0 c (sp_siding n b y))) 2 14 (fr G) := by
  refine f_met (cc := cX4_siding) (maxL := 3) (ret := (some .int)) (by decide) rfl rfl (Nat.le_of_ble_eq_true rfl) ?_
  intro p e s m below meth cd X hr hlk hnm Z ls hl
  have X : CallFix p m cd cX4_siding 3 s [.ref h0, .int n, .int b].toArray wsX4_siding RX4 := X
  have hl : lV ls _ [some (.ref h0), some (.int n), some (.int b)] := hl
  have i1 : ∀ w ∈ wsX10, w ∈ wsX4_siding := by decide +kernel
  have i4 : ∀ w ∈ wsX40, w ∈ wsX4_siding := by decide +kernel
  obtain ⟨ta, to, tf, tk, sd, pl, T, hx⟩ := id hR
  obtain ⟨h1, h2, h3, h4, h5, h6, h7, h8, h9⟩ := id hx
  refine f_iload X hl ⟨_, rfl, dX4_siding_0⟩ rfl ?_
  refine lv_bipush (v := 12) X.1 X.2.1 dX4_siding_1 (by decide) ?_
  refine lv_icmp_le (tgt := 8) X.1 X.2.1 dX4_siding_3 (by decide) (fun c3 => ?_) (fun c3 => ?_)
  · refine f_iload X hl ⟨_, rfl, dX4_siding_8⟩ rfl ?_
    refine lv_if_ge (tgt := 18) X.1 X.2.1 dX4_siding_9 (by decide) (fun c9 => ?_) (fun c9 => ?_)
    · have c9 : ¬ n < 0 := fun h => by rw [Int32.lt_iff_toInt_lt, kc_0] at h; rw [Int32.le_iff_toInt_le, kc_0] at c9; omega
      obtain ⟨nn, hnn, rfl⟩ := nI_of c9
      have hn12 : nn ≤ 12 := by have := le12 c3; rw [nI_toInt hnn] at this; omega
      refine f_aload (v := .ref h0) X hl ⟨_, rfl, dX4_siding_18⟩ rfl ⟨(some h0), rfl⟩ ?_
      refine f_new (ci := 1) (ty := tyX1) (fs := [.null, .int 0]) X Z i1 tyX1_ok rfl (by decide +kernel) (by decide +kernel) (by decide +kernel) (fun j hj => by rcases (show j = 0 ∨ j = 1 by omega) with rfl | rfl <;> rfl) dX4_siding_19 (Nat.le_of_ble_eq_true rfl) (Nat.le_of_ble_eq_true rfl) (fun q19 H w1 hq19 e2 Z => ?_)
      have e2 : w1 = va_up w q19 (some (cSid none 0)) := e2
      have k3 : w1 h0 = some (cTs (some ta) (some to) sd pl y.2.2.2.2.1 (nI c)) := by rw [e2]; exact lk_ne (ad_new h1.1 hq19) h1.1
      have k4 : w1 ta = some (aT G 6 tf) := by rw [e2]; exact lk_ne (ad_new h2.1 hq19) h2.1
      have k5 : w1 to = some (aI G 8 y.2.2.2.2.2) := by rw [e2]; exact lk_ne (ad_new h4.1 hq19) h4.1
      have k6 : w1 q19 = some (cSid none 0) := by rw [e2]; exact up_eq
      refine lv_dup X.1 X.2.1 dX4_siding_22 rfl ?_
      refine f_iload X hl ⟨_, rfl, dX4_siding_23⟩ rfl ?_
      refine f_iload X hl ⟨_, rfl, dX4_siding_24⟩ rfl ?_
      refine f_callIv (rest := [.ref q19, .ref h0]) X Z hl.1 (c_X1_init l G w1 q19 nn b hn12 hb k6) (cwI 2 X.2.2.2.2 gX4_siding_X1_init rfl rfl rfl (X.2.2.2.2 (.initialized RX1) (by decide +kernel)) (X.2.2.2.2 (.methodLink RX4 115 yX1_init) (by decide +kernel)) (X.2.2.2.2 (.instanceMethod yX1_init) (by decide +kernel)) rfl (by decide +kernel) ⟨(Nat.le_of_ble_eq_true rfl), (Nat.le_of_ble_eq_true rfl)⟩) rfl dX4_siding_25 ⟨(Nat.le_of_ble_eq_true rfl), (Nat.le_of_ble_eq_true rfl)⟩ rfl (Nat.le_of_ble_eq_true rfl) (fun w7 H locs p25 Z => ?_)
      obtain ⟨q2, hqn, hwI⟩ := p25
      have hqq : q2 ≠ q19 := (ad_new k6 hqn).symm
      have hwq : w q2 = none := by rw [e2, up_ne hqq] at hqn; exact hqn
      have k8 : w7 h0 = some (cTs (some ta) (some to) sd pl y.2.2.2.2.1 (nI c)) := by rw [hwI, up_ne (ad_ne k3 k6 (dx_oo (by decide))), up_ne (ad_new k3 hqn)]; exact k3
      have k9 : w7 ta = some (aT G 6 tf) := by rw [hwI, up_ne (ad_ne k4 k6 dx_io), up_ne (ad_new k4 hqn)]; exact k4
      have k10 : w7 to = some (aI G 8 y.2.2.2.2.2) := by rw [hwI, up_ne (ad_ne k5 k6 dx_io), up_ne (ad_new k5 hqn)]; exact k5
      have k11 : w7 q19 = some (cSid (some q2) b) := by rw [hwI]; exact up_eq
      have k12 : w7 q2 = some (aV G nn (fun _ => none)) := by rw [hwI, up_ne (Ne.symm (ad_new k6 hqn))]; exact up_eq
      refine f_put (v := .ref q19) (ty0 := tyX4) (k := 2) X Z i4 tyX4_ok nmX4 rfl (by decide) (by decide +kernel) rfl dX4_siding_28 k8 (nr_o _ (some q19)) (ft_o _ (some q19)) (Nat.le_of_ble_eq_true rfl) (fun H locs w13 e14 Z => ?_)
      have e14 : w13 = va_up w7 h0 (some (cTs (some ta) (some to) (some q19) pl y.2.2.2.2.1 (nI c))) := e14
      have k15 : w13 ta = some (aT G 6 tf) := by rw [e14]; exact lk_ne (ad_ne k9 k8 dx_io) k9
      have k16 : w13 to = some (aI G 8 y.2.2.2.2.2) := by rw [e14]; exact lk_ne (ad_ne k10 k8 dx_io) k10
      have k17 : w13 q19 = some (cSid (some q2) b) := by rw [e14]; exact lk_ne (ad_ne k11 k8 (dx_oo (by decide))) k11
      have k18 : w13 q2 = some (aV G nn (fun _ => none)) := by rw [e14]; exact lk_ne (ad_ne k12 k8 dx_io) k12
      have k19 : w13 h0 = some (cTs (some ta) (some to) (some q19) pl y.2.2.2.2.1 (nI c)) := by rw [e14]; exact up_eq
      refine f_iload X hl ⟨_, rfl, dX4_siding_31⟩ rfl ?_
      exact f_iret X hr hlk Z (Nat.le_of_ble_eq_true rfl) (Nat.le_of_ble_eq_true rfl) dX4_siding_32 (out_of (hx.siding hn12 hq19 hwq hqq.symm k19 k17 k18 (fun b n1 n2 n3 => by rw [e14, hwI, e2, up_ne n1, up_ne n2, up_ne n3, up_ne n2])) (by rw [e14, hwI, e2]; exact (((Fr.rf.new hq19).new hwq).put (τ := (6, 0)) (by rw [up_off hqq.symm, up_at]) (by decide)).put (τ := (0, 0)) (by rw [up_off (ad_new h1.1 hwq), up_off (ad_new h1.1 hq19)]; exact h1.2) (by decide)) (by omega) (by unfold sp_siding tn; rw [if_pos (le12 c3), if_neg (by rw [nI_toInt hnn]; omega), nI_clamp hnn]))
    · refine f_aload (v := .ref h0) X hl ⟨_, rfl, dX4_siding_12⟩ rfl ⟨(some h0), rfl⟩ ?_
      refine lv_iconst (v := 4) X.1 X.2.1 dX4_siding_13 (by decide) ?_
      refine f_callVi (rest := []) X Z hl.1 (c_X4_tell l G w h0 ta to sd pl y.2.2.2.2.1 (nI c) h1.1 y.2.2.2.2.2 4 (by decide) h4.1) (cwV 1 X.2.2.2.2 gX4_siding_X4_tell rfl rfl rfl (by decide +kernel) ⟨(Nat.le_of_ble_eq_true rfl), (Nat.le_of_ble_eq_true rfl)⟩) rfl rfl dX4_siding_14 ⟨(Nat.le_of_ble_eq_true rfl), (Nat.le_of_ble_eq_true rfl)⟩ rfl (Nat.le_of_ble_eq_true rfl) h1.1 (fun r14 w20 H locs p14 Z => ?_)
      obtain ⟨hrT, hwT⟩ := p14
      exact f_iret X hr hlk Z (Nat.le_of_ble_eq_true rfl) (Nat.le_of_ble_eq_true rfl) dX4_siding_17 (out_tell hx Fr.rf hrT hwT (by unfold sp_siding; rw [if_pos (le12 c3), if_pos (by rw [Int32.le_iff_toInt_le, kc_0] at c9; omega)]))
  · refine lv_iconst (v := (-1)) X.1 X.2.1 dX4_siding_6 (by decide) ?_
    exact f_iret X hr hlk Z (Nat.le_of_ble_eq_true rfl) (Nat.le_of_ble_eq_true rfl) dX4_siding_7 (out_same hR (if_neg (nle12 c3)))
set_option maxHeartbeats 4000000 in
set_option maxRecDepth 100000 in
theorem c_X4_plan (l : Launch) (G : gT) (w : wT) (tg : tT) (h0 c nb : Nat) (y : Yd) (hR : RepC G tg w h0 c y) (hY : Yok nb y) (hn : nb ≤ 512) (n k : Int32) : Met l yX4_plan wsX4_plan ({ frames := 2, cells := 2, slots := 147, locals := 38 }) (va_Pc [.ref h0, .int n, .int k] (wG G w)) (Qi G (OutC G tg w h0 c (sp_plan n k y))) 2 147 (fr G) := by
  refine f_met (cc := cX4_plan) (maxL := 3) (ret := (some .int)) (by decide) rfl rfl (Nat.le_of_ble_eq_true rfl) ?_
  intro p e s m below meth cd X hr hlk hnm Z ls hl
  have X : CallFix p m cd cX4_plan 3 s [.ref h0, .int n, .int k].toArray wsX4_plan RX4 := X
  have hl : lV ls _ [some (.ref h0), some (.int n), some (.int k)] := hl
  have i0 : ∀ w ∈ wsX00, w ∈ wsX4_plan := by decide +kernel
  have i4 : ∀ w ∈ wsX40, w ∈ wsX4_plan := by decide +kernel
  obtain ⟨ta, to, tf, tk, sd, pl, T, hx⟩ := id hR
  obtain ⟨h1, h2, h3, h4, h5, h6, h7, h8, h9⟩ := id hx
  refine f_iload X hl ⟨_, rfl, dX4_plan_0⟩ rfl ?_
  refine lv_bipush (v := 12) X.1 X.2.1 dX4_plan_1 (by decide) ?_
  refine lv_icmp_gt (tgt := 12) X.1 X.2.1 dX4_plan_3 (by decide) (fun c3 => ?_) (fun c3 => ?_)
  · refine lv_iconst (v := (-1)) X.1 X.2.1 dX4_plan_12 (by decide) ?_
    exact f_iret X hr hlk Z (Nat.le_of_ble_eq_true rfl) (Nat.le_of_ble_eq_true rfl) dX4_plan_13 (out_same hR (if_neg (fun h => nle12 (Int32.not_le.mpr c3) h.1)))
  · refine f_iload X hl ⟨_, rfl, dX4_plan_6⟩ rfl ?_
    refine lv_bipush (v := 12) X.1 X.2.1 dX4_plan_7 (by decide) ?_
    refine lv_icmp_le (tgt := 14) X.1 X.2.1 dX4_plan_9 (by decide) (fun c9 => ?_) (fun c9 => ?_)
    · refine f_iload X hl ⟨_, rfl, dX4_plan_14⟩ rfl ?_
      refine lv_if_lt (tgt := 22) X.1 X.2.1 dX4_plan_15 (by decide) (fun c15 => ?_) (fun c15 => ?_)
      · refine f_aload (v := .ref h0) X hl ⟨_, rfl, dX4_plan_22⟩ rfl ⟨(some h0), rfl⟩ ?_
        refine lv_iconst (v := 4) X.1 X.2.1 dX4_plan_23 (by decide) ?_
        refine f_callVi (rest := []) X Z hl.1 (c_X4_tell l G w h0 ta to sd pl y.2.2.2.2.1 (nI c) h1.1 y.2.2.2.2.2 4 (by decide) h4.1) (cwV 1 X.2.2.2.2 gX4_plan_X4_tell rfl rfl rfl (by decide +kernel) ⟨(Nat.le_of_ble_eq_true rfl), (Nat.le_of_ble_eq_true rfl)⟩) rfl rfl dX4_plan_24 ⟨(Nat.le_of_ble_eq_true rfl), (Nat.le_of_ble_eq_true rfl)⟩ rfl (Nat.le_of_ble_eq_true rfl) h1.1 (fun r24 w1 H locs p24 Z => ?_)
        obtain ⟨hrT, hwT⟩ := p24
        exact f_iret X hr hlk Z (Nat.le_of_ble_eq_true rfl) (Nat.le_of_ble_eq_true rfl) dX4_plan_27 (out_tell hx Fr.rf hrT hwT (by unfold sp_plan; rw [if_pos ⟨le12 (Int32.not_lt.mp c3), le12 c9⟩, if_pos (Or.inl (isneg c15))]))
      · refine f_iload X hl ⟨_, rfl, dX4_plan_18⟩ rfl ?_
        refine lv_if_ge (tgt := 28) X.1 X.2.1 dX4_plan_19 (by decide) (fun c19 => ?_) (fun c19 => ?_)
        · have c19 : ¬ k < 0 := fun h => by rw [Int32.lt_iff_toInt_lt, kc_0] at h; rw [Int32.le_iff_toInt_le, kc_0] at c19; omega
          have c3 := Int32.not_lt.mp c3
          obtain ⟨r, hr31, rfl⟩ := nI_of c15
          obtain ⟨kk, hk31, rfl⟩ := nI_of c19
          have hr12 : r ≤ 12 := by have := le12 c3; rw [nI_toInt hr31] at this; omega
          have hk12 : kk ≤ 12 := by have := le12 c9; rw [nI_toInt hk31] at this; omega
          have hrk : r * kk ≤ 144 := Nat.mul_le_mul hr12 hk12
          refine f_aload (v := .ref h0) X hl ⟨_, rfl, dX4_plan_28⟩ rfl ⟨(some h0), rfl⟩ ?_
          refine f_new (ci := 0) (ty := tyX0) (fs := [.int 0, .int 0, .null]) X Z i0 tyX0_ok rfl (by decide +kernel) (by decide +kernel) (by decide +kernel) (fun j hj => by rcases (show j = 0 ∨ j = 1 ∨ j = 2 by omega) with rfl | rfl | rfl <;> rfl) dX4_plan_29 (Nat.le_of_ble_eq_true rfl) (Nat.le_of_ble_eq_true rfl) (fun q29 H w2 hq29 e3 Z => ?_)
          have e3 : w2 = va_up w q29 (some (cPln 0 0 none)) := e3
          have k4 : w2 h0 = some (cTs (some ta) (some to) sd pl y.2.2.2.2.1 (nI c)) := by rw [e3]; exact lk_ne (ad_new h1.1 hq29) h1.1
          have k5 : w2 ta = some (aT G 6 tf) := by rw [e3]; exact lk_ne (ad_new h2.1 hq29) h2.1
          have k6 : w2 to = some (aI G 8 y.2.2.2.2.2) := by rw [e3]; exact lk_ne (ad_new h4.1 hq29) h4.1
          have k7 : w2 q29 = some (cPln 0 0 none) := by rw [e3]; exact up_eq
          refine lv_dup X.1 X.2.1 dX4_plan_32 rfl ?_
          refine f_iload X hl ⟨_, rfl, dX4_plan_33⟩ rfl ?_
          refine f_iload X hl ⟨_, rfl, dX4_plan_34⟩ rfl ?_
          refine f_callIv (rest := [.ref q29, .ref h0]) X Z hl.1 (c_X0_init l G w2 q29 r kk hr12 hk12 hrk k7) (cwI 2 X.2.2.2.2 gX4_plan_X0_init rfl rfl rfl (X.2.2.2.2 (.initialized RX0) (by decide +kernel)) (X.2.2.2.2 (.methodLink RX4 134 yX0_init) (by decide +kernel)) (X.2.2.2.2 (.instanceMethod yX0_init) (by decide +kernel)) rfl (by decide +kernel) ⟨(Nat.le_of_ble_eq_true rfl), (Nat.le_of_ble_eq_true rfl)⟩) rfl dX4_plan_35 ⟨(Nat.le_of_ble_eq_true rfl), (Nat.le_of_ble_eq_true rfl)⟩ rfl (Nat.le_of_ble_eq_true rfl) (fun w8 H locs p35 Z => ?_)
          obtain ⟨q2, hqn, hwI⟩ := p35
          have hqq : q2 ≠ q29 := (ad_new k7 hqn).symm
          have hwq : w q2 = none := by rw [e3, up_ne hqq] at hqn; exact hqn
          have k9 : w8 h0 = some (cTs (some ta) (some to) sd pl y.2.2.2.2.1 (nI c)) := by rw [hwI, up_ne (ad_ne k4 k7 (dx_oo (by decide))), up_ne (ad_new k4 hqn)]; exact k4
          have k10 : w8 ta = some (aT G 6 tf) := by rw [hwI, up_ne (ad_ne k5 k7 dx_io), up_ne (ad_new k5 hqn)]; exact k5
          have k11 : w8 to = some (aI G 8 y.2.2.2.2.2) := by rw [hwI, up_ne (ad_ne k6 k7 dx_io), up_ne (ad_new k6 hqn)]; exact k6
          have k12 : w8 q29 = some (cPln (nI r) (nI kk) (some q2)) := by rw [hwI]; exact up_eq
          have k13 : w8 q2 = some (aI G (r * kk) (fun _ => 0)) := by rw [hwI, up_ne (Ne.symm (ad_new k7 hqn))]; exact up_eq
          refine f_put (v := .ref q29) (ty0 := tyX4) (k := 3) X Z i4 tyX4_ok nmX4 rfl (by decide) (by decide +kernel) rfl dX4_plan_38 k9 (nr_o _ (some q29)) (ft_o _ (some q29)) (Nat.le_of_ble_eq_true rfl) (fun H locs w14 e15 Z => ?_)
          have e15 : w14 = va_up w8 h0 (some (cTs (some ta) (some to) sd (some q29) y.2.2.2.2.1 (nI c))) := e15
          have k16 : w14 ta = some (aT G 6 tf) := by rw [e15]; exact lk_ne (ad_ne k10 k9 dx_io) k10
          have k17 : w14 to = some (aI G 8 y.2.2.2.2.2) := by rw [e15]; exact lk_ne (ad_ne k11 k9 dx_io) k11
          have k18 : w14 q29 = some (cPln (nI r) (nI kk) (some q2)) := by rw [e15]; exact lk_ne (ad_ne k12 k9 (dx_oo (by decide))) k12
          have k19 : w14 q2 = some (aI G (r * kk) (fun _ => 0)) := by rw [e15]; exact lk_ne (ad_ne k13 k9 dx_io) k13
          have k20 : w14 h0 = some (cTs (some ta) (some to) sd (some q29) y.2.2.2.2.1 (nI c)) := by rw [e15]; exact up_eq
          refine f_iload X hl ⟨_, rfl, dX4_plan_41⟩ rfl ?_
          refine f_iload X hl ⟨_, rfl, dX4_plan_42⟩ rfl ?_
          refine lv_imul X.1 X.2.1 dX4_plan_43 ?_
          exact f_iret X hr hlk Z (Nat.le_of_ble_eq_true rfl) (Nat.le_of_ble_eq_true rfl) dX4_plan_44 (out_of (hx.plan hr12 hk12 hq29 hwq hqq.symm k20 k18 k19 (fun b n1 n2 n3 => by rw [e15, hwI, e3, up_ne n1, up_ne n2, up_ne n3, up_ne n2])) (by rw [e15, hwI, e3]; exact (((Fr.rf.new hq29).new hwq).put (τ := (8, 0)) (by rw [up_off hqq.symm, up_at]) (by decide)).put (τ := (0, 0)) (by rw [up_off (ad_new h1.1 hwq), up_off (ad_new h1.1 hq29)]; exact h1.2) (by decide)) (by omega) (by unfold sp_plan tn; rw [if_pos ⟨le12 c3, le12 c9⟩, if_neg (by rw [nI_toInt hr31, nI_toInt hk31]; omega), nI_clamp hr31, nI_clamp hk31]))
        · refine f_aload (v := .ref h0) X hl ⟨_, rfl, dX4_plan_22⟩ rfl ⟨(some h0), rfl⟩ ?_
          refine lv_iconst (v := 4) X.1 X.2.1 dX4_plan_23 (by decide) ?_
          refine f_callVi (rest := []) X Z hl.1 (c_X4_tell l G w h0 ta to sd pl y.2.2.2.2.1 (nI c) h1.1 y.2.2.2.2.2 4 (by decide) h4.1) (cwV 1 X.2.2.2.2 gX4_plan_X4_tell rfl rfl rfl (by decide +kernel) ⟨(Nat.le_of_ble_eq_true rfl), (Nat.le_of_ble_eq_true rfl)⟩) rfl rfl dX4_plan_24 ⟨(Nat.le_of_ble_eq_true rfl), (Nat.le_of_ble_eq_true rfl)⟩ rfl (Nat.le_of_ble_eq_true rfl) h1.1 (fun r24 w21 H locs p24 Z => ?_)
          obtain ⟨hrT, hwT⟩ := p24
          exact f_iret X hr hlk Z (Nat.le_of_ble_eq_true rfl) (Nat.le_of_ble_eq_true rfl) dX4_plan_27 (out_tell hx Fr.rf hrT hwT (by unfold sp_plan; rw [if_pos ⟨le12 (Int32.not_lt.mp c3), le12 c9⟩, if_pos (Or.inr (by rw [Int32.le_iff_toInt_le, kc_0] at c19; omega))]))
    · refine lv_iconst (v := (-1)) X.1 X.2.1 dX4_plan_12 (by decide) ?_
      exact f_iret X hr hlk Z (Nat.le_of_ble_eq_true rfl) (Nat.le_of_ble_eq_true rfl) dX4_plan_13 (out_same hR (if_neg (fun h => nle12 c9 h.2)))
set_option maxHeartbeats 4000000 in
set_option maxRecDepth 100000 in
theorem c_X4_note (l : Launch) (G : gT) (w : wT) (tg : tT) (h0 c nb : Nat) (y : Yd) (hR : RepC G tg w h0 c y) (hY : Yok nb y) (hn : nb ≤ 512) (i j x : Int32) : Met l yX4_note wsX4_note ({ frames := 2, cells := 0, slots := 0, locals := 44 }) (va_Pc [.ref h0, .int i, .int j, .int x] (wG G w)) (Qi G (OutC G tg w h0 c (sp_note i j x y))) 0 0 (fr G) := by
  refine f_met (cc := cX4_note) (maxL := 5) (ret := (some .int)) (by decide) rfl rfl (Nat.le_of_ble_eq_true rfl) ?_
  intro p e s m below meth cd X hr hlk hnm Z ls hl
  have X : CallFix p m cd cX4_note 5 s [.ref h0, .int i, .int j, .int x].toArray wsX4_note RX4 := X
  have hl : lV ls _ [some (.ref h0), some (.int i), some (.int j), some (.int x), none] := hl
  have i0 : ∀ w ∈ wsX00, w ∈ wsX4_note := by decide +kernel
  have i4 : ∀ w ∈ wsX40, w ∈ wsX4_note := by decide +kernel
  obtain ⟨ta, to, tf, tk, sd, pl, T, hx⟩ := id hR
  obtain ⟨h1, h2, h3, h4, h5, h6, h7, h8, h9⟩ := id hx
  refine f_iload X hl ⟨_, rfl, dX4_note_0⟩ rfl ?_
  refine lv_iconst (v := 0) X.1 X.2.1 dX4_note_1 (by decide) ?_
  refine lv_bipush (v := 99) X.1 X.2.1 dX4_note_2 (by decide) ?_
  refine f_callSi (rest := []) X Z hl.1 (c_X4_isWithin l G _ _ _ _) (va_cwS 3 X.2.2.2.2 gX4_note_X4_isWithin rfl rfl rfl (by decide +kernel) ⟨(Nat.le_of_ble_eq_true rfl), (Nat.le_of_ble_eq_true rfl)⟩) rfl dX4_note_4 ⟨(Nat.le_of_ble_eq_true rfl), (Nat.le_of_ble_eq_true rfl)⟩ rfl (Nat.le_of_ble_eq_true rfl) (fun r4 w1 H locs p4 Z => ?_)
  obtain ⟨w1e, hr4⟩ := p4
  have w1e := w1e.symm
  subst w1e
  refine lv_if_ne (tgt := 12) X.1 X.2.1 dX4_note_7 (by decide) (fun c7 => ?_) (fun c7 => ?_)
  · rw [hr4, bI_0, Classical.not_not] at c7
    refine f_aload (v := .ref h0) X hl ⟨_, rfl, dX4_note_12⟩ rfl ⟨(some h0), rfl⟩ ?_
    refine f_iload X hl ⟨_, rfl, dX4_note_13⟩ rfl ?_
    refine f_iload X hl ⟨_, rfl, dX4_note_14⟩ rfl ?_
    refine f_callVi (rest := []) X Z hl.1 (c_X4_whyNoNumber l G w h0 ta to sd pl y.2.2.2.2.1 (nI c) h1.1 y.2.2.1 i j h9.opt) (cwV 2 X.2.2.2.2 gX4_note_X4_whyNoNumber rfl rfl rfl (by decide +kernel) ⟨(Nat.le_of_ble_eq_true rfl), (Nat.le_of_ble_eq_true rfl)⟩) rfl rfl dX4_note_15 ⟨(Nat.le_of_ble_eq_true rfl), (Nat.le_of_ble_eq_true rfl)⟩ rfl (Nat.le_of_ble_eq_true rfl) h1.1 (fun r15 w2 H locs p15 Z => ?_)
    obtain ⟨w2e, hr15⟩ := p15
    have w2e := w2e.symm
    subst w2e
    subst hr15
    refine f_istore2 X hl dX4_note_18 (by decide) (fun ls hl => ?_)
    have hl : lV ls _ [some (.ref h0), some (.int i), some (.int j), some (.int x), some (.int (nI (whyN y.2.2.1 i j)))] := hl
    refine f_iload2 X hl dX4_note_20 rfl ?_
    refine lv_if_eq (tgt := 32) X.1 X.2.1 dX4_note_22 (by decide) (fun c22 => ?_) (fun c22 => ?_)
    · have hz := (nI_z (whyN_lt _ _ _)).mp c22
      obtain ⟨r, kk, hop, hi, hj0, hj1⟩ := whyN_0 hz
      obtain ⟨pa, nu, f, hpl, hcP, hcN, hr12, hk12, hfN⟩ := h9.some hop
      subst hpl
      have hin : i.toNatClampNeg < r := tn_lt hi
      have hjn : j.toNatClampNeg < kk := tn_lt ⟨hj0, hj1⟩
      have hlt := ix_lt hin hjn
      have hrk : r * kk ≤ 144 := Nat.mul_le_mul hr12 hk12
      refine f_aload (v := .ref h0) X hl ⟨_, rfl, dX4_note_32⟩ rfl ⟨(some h0), rfl⟩ ?_
      refine f_get (v := .ref pa) (k := 3) X Z i4 rfl (by decide) (by decide +kernel) dX4_note_33 h1.1 rfl ?_
      refine f_get (v := .ref nu) (k := 2) X Z i0 rfl (by decide) (by decide +kernel) dX4_note_36 hcP rfl ?_
      refine f_aload (v := .ref h0) X hl ⟨_, rfl, dX4_note_39⟩ rfl ⟨(some h0), rfl⟩ ?_
      refine f_get (v := .ref pa) (k := 3) X Z i4 rfl (by decide) (by decide +kernel) dX4_note_40 h1.1 rfl ?_
      refine f_iload X hl ⟨_, rfl, dX4_note_43⟩ rfl ?_
      refine f_iload X hl ⟨_, rfl, dX4_note_44⟩ rfl ?_
      refine f_callVi (rest := [.ref nu]) X Z hl.1 (c_X0_slot l G w pa (nI r) (nI kk) i j (some nu) hcP) (cwV 2 X.2.2.2.2 gX4_note_X0_slot rfl rfl rfl (by decide +kernel) ⟨(Nat.le_of_ble_eq_true rfl), (Nat.le_of_ble_eq_true rfl)⟩) rfl rfl dX4_note_45 ⟨(Nat.le_of_ble_eq_true rfl), (Nat.le_of_ble_eq_true rfl)⟩ rfl (Nat.le_of_ble_eq_true rfl) hcP (fun r45 w3 H locs p45 Z => ?_)
      obtain ⟨w3e, hr45⟩ := p45
      have w3e := w3e.symm
      subst w3e
      rw [slot_ix hi.1 hj0] at hr45
      subst hr45
      refine f_iload X hl ⟨_, rfl, dX4_note_48⟩ rfl ?_
      refine f_iast X Z dX4_note_49 hcN.1 (vp_in_nI hlt (by omega)) (fun H locs w4 e5 Z => ?_)
      have e5 : w4 = va_up w nu (some (aI G (r * kk) (upd f (nI (i.toNatClampNeg * kk + j.toNatClampNeg)).toNatClampNeg x))) := e5
      have k6 : w4 h0 = some (cTs (some ta) (some to) sd (some pa) y.2.2.2.2.1 (nI c)) := by rw [e5]; exact lk_ne (ad_ne h1.1 hcN.1 dx_oi) h1.1
      have k7 : w4 ta = some (aT G 6 tf) := by rw [e5]; exact lk_ne (ad_ne h2.1 hcN.1 dx_ri) h2.1
      have k8 : w4 to = some (aI G 8 y.2.2.2.2.2) := by rw [e5]; exact lk_ne (tgne h4.2 hcN.2 (by simp)) h4.1
      have k9 : w4 pa = some (cPln (nI r) (nI kk) (some nu)) := by rw [e5]; exact lk_ne (ad_ne hcP hcN.1 dx_oi) hcP
      have k10 : w4 nu = some (aI G (r * kk) (upd f (nI (i.toNatClampNeg * kk + j.toNatClampNeg)).toNatClampNeg x)) := by rw [e5]; exact up_eq
      refine f_iload X hl ⟨_, rfl, dX4_note_50⟩ rfl ?_
      exact f_iret X hr hlk Z (Nat.le_of_ble_eq_true rfl) (Nat.le_of_ble_eq_true rfl) dX4_note_51 (out_of (hx.note hop rfl hcP hcN.1 hin hjn (by rw [e5, nI_clamp (by omega)])) (by rw [e5]; exact Fr.rf.put hcN.2 (by decide)) (by omega) (by unfold sp_note; rw [if_pos c7, if_neg (fun z => z hz)]))
    · refine f_aload (v := .ref h0) X hl ⟨_, rfl, dX4_note_25⟩ rfl ⟨(some h0), rfl⟩ ?_
      refine f_iload2 X hl dX4_note_26 rfl ?_
      refine f_callVi (rest := []) X Z hl.1 (c_X4_tell l G w h0 ta to sd pl y.2.2.2.2.1 (nI c) h1.1 y.2.2.2.2.2 (whyN y.2.2.1 i j) (whyN_lt _ _ _) h4.1) (cwV 1 X.2.2.2.2 gX4_note_X4_tell rfl rfl rfl (by decide +kernel) ⟨(Nat.le_of_ble_eq_true rfl), (Nat.le_of_ble_eq_true rfl)⟩) rfl rfl dX4_note_28 ⟨(Nat.le_of_ble_eq_true rfl), (Nat.le_of_ble_eq_true rfl)⟩ rfl (Nat.le_of_ble_eq_true rfl) h1.1 (fun r28 w11 H locs p28 Z => ?_)
      obtain ⟨hrT, hwT⟩ := p28
      exact f_iret X hr hlk Z (Nat.le_of_ble_eq_true rfl) (Nat.le_of_ble_eq_true rfl) dX4_note_31 (out_tell hx Fr.rf hrT hwT (by unfold sp_note; rw [if_pos c7, if_pos (fun z => c22 (by rw [z]; rfl))]))
  · rw [hr4, bI_0] at c7
    refine lv_iconst (v := (-1)) X.1 X.2.1 dX4_note_10 (by decide) ?_
    exact f_iret X hr hlk Z (Nat.le_of_ble_eq_true rfl) (Nat.le_of_ble_eq_true rfl) dX4_note_11 (out_same hR (if_neg c7))
set_option maxHeartbeats 4000000 in
set_option maxRecDepth 100000 in
theorem c_X4_noted (l : Launch) (G : gT) (w : wT) (tg : tT) (h0 c nb : Nat) (y : Yd) (hR : RepC G tg w h0 c y) (hY : Yok nb y) (hn : nb ≤ 512) (i j : Int32) : Met l yX4_noted wsX4_noted ({ frames := 2, cells := 0, slots := 0, locals := 44 }) (va_Pc [.ref h0, .int i, .int j] (wG G w)) (Qi G (OutC G tg w h0 c (sp_noted i j y))) 0 0 (fr G) := by
  refine f_met (cc := cX4_noted) (maxL := 4) (ret := (some .int)) (by decide) rfl rfl (Nat.le_of_ble_eq_true rfl) ?_
  intro p e s m below meth cd X hr hlk hnm Z ls hl
  have X : CallFix p m cd cX4_noted 4 s [.ref h0, .int i, .int j].toArray wsX4_noted RX4 := X
  have hl : lV ls _ [some (.ref h0), some (.int i), some (.int j), none] := hl
  have i0 : ∀ w ∈ wsX00, w ∈ wsX4_noted := by decide +kernel
  have i4 : ∀ w ∈ wsX40, w ∈ wsX4_noted := by decide +kernel
  obtain ⟨ta, to, tf, tk, sd, pl, T, hx⟩ := id hR
  obtain ⟨h1, h2, h3, h4, h5, h6, h7, h8, h9⟩ := id hx
  refine f_aload (v := .ref h0) X hl ⟨_, rfl, dX4_noted_0⟩ rfl ⟨(some h0), rfl⟩ ?_
  refine f_iload X hl ⟨_, rfl, dX4_noted_1⟩ rfl ?_
  refine f_iload X hl ⟨_, rfl, dX4_noted_2⟩ rfl ?_
  refine f_callVi (rest := []) X Z hl.1 (c_X4_whyNoNumber l G w h0 ta to sd pl y.2.2.2.2.1 (nI c) h1.1 y.2.2.1 i j h9.opt) (cwV 2 X.2.2.2.2 gX4_noted_X4_whyNoNumber rfl rfl rfl (by decide +kernel) ⟨(Nat.le_of_ble_eq_true rfl), (Nat.le_of_ble_eq_true rfl)⟩) rfl rfl dX4_noted_3 ⟨(Nat.le_of_ble_eq_true rfl), (Nat.le_of_ble_eq_true rfl)⟩ rfl (Nat.le_of_ble_eq_true rfl) h1.1 (fun r3 w1 H locs p3 Z => ?_)
  obtain ⟨w1e, hr3⟩ := p3
  have w1e := w1e.symm
  subst w1e
  subst hr3
  refine f_istore X hl ⟨_, rfl, dX4_noted_6⟩ (by decide) (fun ls hl => ?_)
  have hl : lV ls _ [some (.ref h0), some (.int i), some (.int j), some (.int (nI (whyN y.2.2.1 i j)))] := hl
  refine f_iload X hl ⟨_, rfl, dX4_noted_7⟩ rfl ?_
  refine lv_if_eq (tgt := 19) X.1 X.2.1 dX4_noted_8 (by decide) (fun c8 => ?_) (fun c8 => ?_)
  · have hz := (nI_z (whyN_lt _ _ _)).mp c8
    obtain ⟨r, kk, hop, hi, hj0, hj1⟩ := whyN_0 hz
    obtain ⟨pa, nu, f, hpl, hcP, hcN, hr12, hk12, hfN⟩ := h9.some hop
    subst hpl
    have hin : i.toNatClampNeg < r := tn_lt hi
    have hjn : j.toNatClampNeg < kk := tn_lt ⟨hj0, hj1⟩
    have hlt := ix_lt hin hjn
    have hrk : r * kk ≤ 144 := Nat.mul_le_mul hr12 hk12
    refine f_aload (v := .ref h0) X hl ⟨_, rfl, dX4_noted_19⟩ rfl ⟨(some h0), rfl⟩ ?_
    refine f_get (v := .ref pa) (k := 3) X Z i4 rfl (by decide) (by decide +kernel) dX4_noted_20 h1.1 rfl ?_
    refine f_get (v := .ref nu) (k := 2) X Z i0 rfl (by decide) (by decide +kernel) dX4_noted_23 hcP rfl ?_
    refine f_aload (v := .ref h0) X hl ⟨_, rfl, dX4_noted_26⟩ rfl ⟨(some h0), rfl⟩ ?_
    refine f_get (v := .ref pa) (k := 3) X Z i4 rfl (by decide) (by decide +kernel) dX4_noted_27 h1.1 rfl ?_
    refine f_iload X hl ⟨_, rfl, dX4_noted_30⟩ rfl ?_
    refine f_iload X hl ⟨_, rfl, dX4_noted_31⟩ rfl ?_
    refine f_callVi (rest := [.ref nu]) X Z hl.1 (c_X0_slot l G w pa (nI r) (nI kk) i j (some nu) hcP) (cwV 2 X.2.2.2.2 gX4_noted_X0_slot rfl rfl rfl (by decide +kernel) ⟨(Nat.le_of_ble_eq_true rfl), (Nat.le_of_ble_eq_true rfl)⟩) rfl rfl dX4_noted_32 ⟨(Nat.le_of_ble_eq_true rfl), (Nat.le_of_ble_eq_true rfl)⟩ rfl (Nat.le_of_ble_eq_true rfl) hcP (fun r32 w2 H locs p32 Z => ?_)
    obtain ⟨w2e, hr32⟩ := p32
    have w2e := w2e.symm
    subst w2e
    rw [slot_ix hi.1 hj0] at hr32
    subst hr32
    refine f_iald X Z dX4_noted_35 hcN.1 (vp_in_nI hlt (by omega)) ?_
    exact f_iret X hr hlk Z (Nat.le_of_ble_eq_true rfl) (Nat.le_of_ble_eq_true rfl) dX4_noted_36 (by
        rw [nI_clamp (by omega), hfN _ _ hin hjn]
        exact out_same hR (by unfold sp_noted; rw [if_neg (fun z => z hz)]))
  · refine f_aload (v := .ref h0) X hl ⟨_, rfl, dX4_noted_11⟩ rfl ⟨(some h0), rfl⟩ ?_
    refine f_iload X hl ⟨_, rfl, dX4_noted_12⟩ rfl ?_
    refine f_callVi (rest := []) X Z hl.1 (c_X4_tell l G w h0 ta to sd pl y.2.2.2.2.1 (nI c) h1.1 y.2.2.2.2.2 (whyN y.2.2.1 i j) (whyN_lt _ _ _) h4.1) (cwV 1 X.2.2.2.2 gX4_noted_X4_tell rfl rfl rfl (by decide +kernel) ⟨(Nat.le_of_ble_eq_true rfl), (Nat.le_of_ble_eq_true rfl)⟩) rfl rfl dX4_noted_13 ⟨(Nat.le_of_ble_eq_true rfl), (Nat.le_of_ble_eq_true rfl)⟩ rfl (Nat.le_of_ble_eq_true rfl) h1.1 (fun r13 w3 H locs p13 Z => ?_)
    obtain ⟨hrT, hwT⟩ := p13
    refine lv_goto (tgt := 36) X.1 X.2.1 dX4_noted_16 (by decide) ?_
    exact f_iret X hr hlk Z (Nat.le_of_ble_eq_true rfl) (Nat.le_of_ble_eq_true rfl) dX4_noted_36 (out_tell hx Fr.rf hrT hwT (by unfold sp_noted; rw [if_pos (fun z => c8 (by rw [z]; rfl))]))
set_option maxHeartbeats 4000000 in
set_option maxRecDepth 100000 in
theorem c_X4_wide (l : Launch) (G : gT) (w : wT) (tg : tT) (h0 c nb : Nat) (y : Yd) (hR : RepC G tg w h0 c y) (hY : Yok nb y) (hn : nb ≤ 512) (i : Int32) : Met l yX4_wide wsX4_wide ({ frames := 1, cells := 0, slots := 0, locals := 21 }) (va_Pc [.ref h0, .int i] (wG G w)) (Qi G (OutC G tg w h0 c (sp_wide i y))) 0 0 (fr G) := by
  refine f_met (cc := cX4_wide) (maxL := 3) (ret := (some .int)) (by decide) rfl rfl (Nat.le_of_ble_eq_true rfl) ?_
  intro p e s m below meth cd X hr hlk hnm Z ls hl
  have X : CallFix p m cd cX4_wide 3 s [.ref h0, .int i].toArray wsX4_wide RX4 := X
  have hl : lV ls _ [some (.ref h0), some (.int i), none] := hl
  have i0 : ∀ w ∈ wsX00, w ∈ wsX4_wide := by decide +kernel
  have i4 : ∀ w ∈ wsX40, w ∈ wsX4_wide := by decide +kernel
  obtain ⟨ta, to, tf, tk, sd, pl, T, hx⟩ := id hR
  obtain ⟨h1, h2, h3, h4, h5, h6, h7, h8, h9⟩ := id hx
  refine f_aload (v := .ref h0) X hl ⟨_, rfl, dX4_wide_0⟩ rfl ⟨(some h0), rfl⟩ ?_
  refine f_iload X hl ⟨_, rfl, dX4_wide_1⟩ rfl ?_
  refine f_callVi (rest := []) X Z hl.1 (c_X4_whyNoPlanRow l G w h0 ta to sd pl y.2.2.2.2.1 (nI c) h1.1 y.2.2.1 i h9.opt) (cwV 1 X.2.2.2.2 gX4_wide_X4_whyNoPlanRow rfl rfl rfl (by decide +kernel) ⟨(Nat.le_of_ble_eq_true rfl), (Nat.le_of_ble_eq_true rfl)⟩) rfl rfl dX4_wide_2 ⟨(Nat.le_of_ble_eq_true rfl), (Nat.le_of_ble_eq_true rfl)⟩ rfl (Nat.le_of_ble_eq_true rfl) h1.1 (fun r2 w1 H locs p2 Z => ?_)
  obtain ⟨w1e, hr2⟩ := p2
  have w1e := w1e.symm
  subst w1e
  subst hr2
  refine f_istore X hl ⟨_, rfl, dX4_wide_5⟩ (by decide) (fun ls hl => ?_)
  have hl : lV ls _ [some (.ref h0), some (.int i), some (.int (nI (whyL y.2.2.1 i)))] := hl
  refine f_iload X hl ⟨_, rfl, dX4_wide_6⟩ rfl ?_
  refine lv_if_eq (tgt := 18) X.1 X.2.1 dX4_wide_7 (by decide) (fun c7 => ?_) (fun c7 => ?_)
  · have hz := (nI_z (whyL_lt _ _)).mp c7
    obtain ⟨r, kk, hop, hi⟩ := whyL_0 hz
    obtain ⟨pa, nu, f, hpl, hcP, hcN, hr12, hk12, hfN⟩ := h9.some hop
    subst hpl
    refine f_aload (v := .ref h0) X hl ⟨_, rfl, dX4_wide_18⟩ rfl ⟨(some h0), rfl⟩ ?_
    refine f_get (v := .ref pa) (k := 3) X Z i4 rfl (by decide) (by decide +kernel) dX4_wide_19 h1.1 rfl ?_
    refine f_get (v := .int (nI kk)) (k := 1) X Z i0 rfl (by decide) (by decide +kernel) dX4_wide_22 hcP rfl ?_
    exact f_iret X hr hlk Z (Nat.le_of_ble_eq_true rfl) (Nat.le_of_ble_eq_true rfl) dX4_wide_25 (out_same hR (by unfold sp_wide; rw [if_neg (fun z => z hz), hop]))
  · refine f_aload (v := .ref h0) X hl ⟨_, rfl, dX4_wide_10⟩ rfl ⟨(some h0), rfl⟩ ?_
    refine f_iload X hl ⟨_, rfl, dX4_wide_11⟩ rfl ?_
    refine f_callVi (rest := []) X Z hl.1 (c_X4_tell l G w h0 ta to sd pl y.2.2.2.2.1 (nI c) h1.1 y.2.2.2.2.2 (whyL y.2.2.1 i) (whyL_lt _ _) h4.1) (cwV 1 X.2.2.2.2 gX4_wide_X4_tell rfl rfl rfl (by decide +kernel) ⟨(Nat.le_of_ble_eq_true rfl), (Nat.le_of_ble_eq_true rfl)⟩) rfl rfl dX4_wide_12 ⟨(Nat.le_of_ble_eq_true rfl), (Nat.le_of_ble_eq_true rfl)⟩ rfl (Nat.le_of_ble_eq_true rfl) h1.1 (fun r12 w2 H locs p12 Z => ?_)
    obtain ⟨hrT, hwT⟩ := p12
    refine lv_goto (tgt := 25) X.1 X.2.1 dX4_wide_15 (by decide) ?_
    exact f_iret X hr hlk Z (Nat.le_of_ble_eq_true rfl) (Nat.le_of_ble_eq_true rfl) dX4_wide_25 (out_tell hx Fr.rf hrT hwT (by unfold sp_wide; rw [if_pos (fun z => c7 (by rw [z]; rfl))]))
set_option maxHeartbeats 4000000 in
set_option maxRecDepth 100000 in
theorem c_X4_away (l : Launch) (G : gT) (w : wT) (tg : tT) (h0 c nb : Nat) (y : Yd) (hR : RepC G tg w h0 c y) (hY : Yok nb y) (hn : nb ≤ 512) (x : Int32) : Met l yX4_away wsX4_away ({ frames := 0, cells := 0, slots := 0, locals := 0 }) (va_Pc [.ref h0, .int x] (wG G w)) (Qi G (OutC G tg w h0 c (sp_away x y))) 0 0 (fr G) := by
  refine f_met (cc := cX4_away) (maxL := 3) (ret := (some .int)) (by decide) rfl rfl (Nat.le_of_ble_eq_true rfl) ?_
  intro p e s m below meth cd X hr hlk hnm Z ls hl
  have X : CallFix p m cd cX4_away 3 s [.ref h0, .int x].toArray wsX4_away RX4 := X
  have hl : lV ls _ [some (.ref h0), some (.int x), none] := hl
  have i4 : ∀ w ∈ wsX40, w ∈ wsX4_away := by decide +kernel
  obtain ⟨ta, to, tf, tk, sd, pl, T, hx⟩ := id hR
  obtain ⟨h1, h2, h3, h4, h5, h6, h7, h8, h9⟩ := id hx
  refine f_iload X hl ⟨_, rfl, dX4_away_0⟩ rfl ?_
  refine lv_if_ne (tgt := 25) X.1 X.2.1 dX4_away_1 (by decide) (fun c1 => ?_) (fun c1 => ?_)
  · refine f_iload X hl ⟨_, rfl, dX4_away_25⟩ rfl ?_
    refine lv_iconst (v := 1) X.1 X.2.1 dX4_away_26 (by decide) ?_
    refine lv_icmp_ne (tgt := 51) X.1 X.2.1 dX4_away_27 (by decide) (fun c27 => ?_) (fun c27 => ?_)
    · refine lv_iconst (v := (-1)) X.1 X.2.1 dX4_away_51 (by decide) ?_
      exact f_iret X hr hlk Z (Nat.le_of_ble_eq_true rfl) (Nat.le_of_ble_eq_true rfl) dX4_away_52 (out_same hR (by unfold sp_away; rw [if_neg c1, if_neg c27]))
    · refine f_aload (v := .ref h0) X hl ⟨_, rfl, dX4_away_30⟩ rfl ⟨(some h0), rfl⟩ ?_
      refine f_get (v := va_rf pl) (k := 3) X Z i4 rfl (by decide) (by decide +kernel) dX4_away_31 h1.1 rfl ?_
      refine f_ifnull (tgt := 41) X dX4_away_34 (by decide) (fun c34 => ?_) (fun a34 c34 => ?_)
      · subst c34
        refine lv_iconst (v := 0) X.1 X.2.1 dX4_away_41 (by decide) ?_
        refine f_istore X hl ⟨_, rfl, dX4_away_42⟩ (by decide) (fun ls hl => ?_)
        have hl : lV ls _ [some (.ref h0), some (.int x), some (.int 0)] := hl
        refine f_aload (v := .ref h0) X hl ⟨_, rfl, dX4_away_43⟩ rfl ⟨(some h0), rfl⟩ ?_
        refine lv_null X.1 X.2.1 dX4_away_44 ?_
        refine f_put (v := .null) (ty0 := tyX4) (k := 3) X Z i4 tyX4_ok nmX4 rfl (by decide) (by decide +kernel) rfl dX4_away_45 h1.1 (nr_o _ none) (ft_o _ none) (Nat.le_of_ble_eq_true rfl) (fun H locs w1 e2 Z => ?_)
        have e2 : w1 = va_up w h0 (some (cTs (some ta) (some to) sd none y.2.2.2.2.1 (nI c))) := e2
        have k3 : w1 ta = some (aT G 6 tf) := by rw [e2]; exact lk_ne (ad_ne h2.1 h1.1 dx_io) h2.1
        have k4 : w1 to = some (aI G 8 y.2.2.2.2.2) := by rw [e2]; exact lk_ne (ad_ne h4.1 h1.1 dx_io) h4.1
        have k5 : w1 h0 = some (cTs (some ta) (some to) sd none y.2.2.2.2.1 (nI c)) := by rw [e2]; exact up_eq
        refine lv_goto (tgt := 53) X.1 X.2.1 dX4_away_48 (by decide) ?_
        refine f_iload X hl ⟨_, rfl, dX4_away_53⟩ rfl ?_
        refine lv_if_eq (tgt := 61) X.1 X.2.1 dX4_away_54 (by decide) (fun c54 => ?_) (fun c54 => ?_)
        · refine lv_iconst (v := 0) X.1 X.2.1 dX4_away_61 (by decide) ?_
          exact f_iret X hr hlk Z (Nat.le_of_ble_eq_true rfl) (Nat.le_of_ble_eq_true rfl) dX4_away_62 (out_of (hx.awayP e2) (by rw [e2]; exact Fr.rf.put h1.2 (by decide)) (by omega) (by unfold sp_away; rw [if_neg c1, if_pos c27, bI_f (c := y.2.2.1 ≠ none) (fun z => z h9.none)]))
        · exact absurd rfl c54
      · subst c34
        refine lv_iconst (v := 1) X.1 X.2.1 dX4_away_37 (by decide) ?_
        refine lv_goto (tgt := 42) X.1 X.2.1 dX4_away_38 (by decide) ?_
        refine f_istore X hl ⟨_, rfl, dX4_away_42⟩ (by decide) (fun ls hl => ?_)
        have hl : lV ls _ [some (.ref h0), some (.int x), some (.int 1)] := hl
        refine f_aload (v := .ref h0) X hl ⟨_, rfl, dX4_away_43⟩ rfl ⟨(some h0), rfl⟩ ?_
        refine lv_null X.1 X.2.1 dX4_away_44 ?_
        refine f_put (v := .null) (ty0 := tyX4) (k := 3) X Z i4 tyX4_ok nmX4 rfl (by decide) (by decide +kernel) rfl dX4_away_45 h1.1 (nr_o _ none) (ft_o _ none) (Nat.le_of_ble_eq_true rfl) (fun H locs w6 e7 Z => ?_)
        have e7 : w6 = va_up w h0 (some (cTs (some ta) (some to) sd none y.2.2.2.2.1 (nI c))) := e7
        have k8 : w6 ta = some (aT G 6 tf) := by rw [e7]; exact lk_ne (ad_ne h2.1 h1.1 dx_io) h2.1
        have k9 : w6 to = some (aI G 8 y.2.2.2.2.2) := by rw [e7]; exact lk_ne (ad_ne h4.1 h1.1 dx_io) h4.1
        have k10 : w6 h0 = some (cTs (some ta) (some to) sd none y.2.2.2.2.1 (nI c)) := by rw [e7]; exact up_eq
        refine lv_goto (tgt := 53) X.1 X.2.1 dX4_away_48 (by decide) ?_
        refine f_iload X hl ⟨_, rfl, dX4_away_53⟩ rfl ?_
        refine lv_if_eq (tgt := 61) X.1 X.2.1 dX4_away_54 (by decide) (fun c54 => ?_) (fun c54 => ?_)
        · exact absurd c54 (by decide)
        · refine lv_iconst (v := 1) X.1 X.2.1 dX4_away_57 (by decide) ?_
          refine lv_goto (tgt := 62) X.1 X.2.1 dX4_away_58 (by decide) ?_
          exact f_iret X hr hlk Z (Nat.le_of_ble_eq_true rfl) (Nat.le_of_ble_eq_true rfl) dX4_away_62 (out_of (hx.awayP e7) (by rw [e7]; exact Fr.rf.put h1.2 (by decide)) (by omega) (by unfold sp_away; rw [if_neg c1, if_pos c27, bI_t (c := y.2.2.1 ≠ none) (fun z => by obtain ⟨nu, r, kk, f, -, -, hop, -⟩ := popt_some h9.opt; rw [hop] at z; cases z)]))
  · refine f_aload (v := .ref h0) X hl ⟨_, rfl, dX4_away_4⟩ rfl ⟨(some h0), rfl⟩ ?_
    refine f_get (v := va_rf sd) (k := 2) X Z i4 rfl (by decide) (by decide +kernel) dX4_away_5 h1.1 rfl ?_
    refine f_ifnull (tgt := 15) X dX4_away_8 (by decide) (fun c8 => ?_) (fun a8 c8 => ?_)
    · subst c8
      refine lv_iconst (v := 0) X.1 X.2.1 dX4_away_15 (by decide) ?_
      refine f_istore X hl ⟨_, rfl, dX4_away_16⟩ (by decide) (fun ls hl => ?_)
      have hl : lV ls _ [some (.ref h0), some (.int x), some (.int 0)] := hl
      refine f_aload (v := .ref h0) X hl ⟨_, rfl, dX4_away_17⟩ rfl ⟨(some h0), rfl⟩ ?_
      refine lv_null X.1 X.2.1 dX4_away_18 ?_
      refine f_put (v := .null) (ty0 := tyX4) (k := 2) X Z i4 tyX4_ok nmX4 rfl (by decide) (by decide +kernel) rfl dX4_away_19 h1.1 (nr_o _ none) (ft_o _ none) (Nat.le_of_ble_eq_true rfl) (fun H locs w11 e12 Z => ?_)
      have e12 : w11 = va_up w h0 (some (cTs (some ta) (some to) none pl y.2.2.2.2.1 (nI c))) := e12
      have k13 : w11 ta = some (aT G 6 tf) := by rw [e12]; exact lk_ne (ad_ne h2.1 h1.1 dx_io) h2.1
      have k14 : w11 to = some (aI G 8 y.2.2.2.2.2) := by rw [e12]; exact lk_ne (ad_ne h4.1 h1.1 dx_io) h4.1
      have k15 : w11 h0 = some (cTs (some ta) (some to) none pl y.2.2.2.2.1 (nI c)) := by rw [e12]; exact up_eq
      refine lv_goto (tgt := 53) X.1 X.2.1 dX4_away_22 (by decide) ?_
      refine f_iload X hl ⟨_, rfl, dX4_away_53⟩ rfl ?_
      refine lv_if_eq (tgt := 61) X.1 X.2.1 dX4_away_54 (by decide) (fun c54 => ?_) (fun c54 => ?_)
      · refine lv_iconst (v := 0) X.1 X.2.1 dX4_away_61 (by decide) ?_
        exact f_iret X hr hlk Z (Nat.le_of_ble_eq_true rfl) (Nat.le_of_ble_eq_true rfl) dX4_away_62 (out_of (hx.awayS e12) (by rw [e12]; exact Fr.rf.put h1.2 (by decide)) (by omega) (by unfold sp_away; rw [if_pos c1, bI_f (c := y.2.1 ≠ none) (fun z => z h8.none)]))
      · exact absurd rfl c54
    · subst c8
      refine lv_iconst (v := 1) X.1 X.2.1 dX4_away_11 (by decide) ?_
      refine lv_goto (tgt := 16) X.1 X.2.1 dX4_away_12 (by decide) ?_
      refine f_istore X hl ⟨_, rfl, dX4_away_16⟩ (by decide) (fun ls hl => ?_)
      have hl : lV ls _ [some (.ref h0), some (.int x), some (.int 1)] := hl
      refine f_aload (v := .ref h0) X hl ⟨_, rfl, dX4_away_17⟩ rfl ⟨(some h0), rfl⟩ ?_
      refine lv_null X.1 X.2.1 dX4_away_18 ?_
      refine f_put (v := .null) (ty0 := tyX4) (k := 2) X Z i4 tyX4_ok nmX4 rfl (by decide) (by decide +kernel) rfl dX4_away_19 h1.1 (nr_o _ none) (ft_o _ none) (Nat.le_of_ble_eq_true rfl) (fun H locs w16 e17 Z => ?_)
      have e17 : w16 = va_up w h0 (some (cTs (some ta) (some to) none pl y.2.2.2.2.1 (nI c))) := e17
      have k18 : w16 ta = some (aT G 6 tf) := by rw [e17]; exact lk_ne (ad_ne h2.1 h1.1 dx_io) h2.1
      have k19 : w16 to = some (aI G 8 y.2.2.2.2.2) := by rw [e17]; exact lk_ne (ad_ne h4.1 h1.1 dx_io) h4.1
      have k20 : w16 h0 = some (cTs (some ta) (some to) none pl y.2.2.2.2.1 (nI c)) := by rw [e17]; exact up_eq
      refine lv_goto (tgt := 53) X.1 X.2.1 dX4_away_22 (by decide) ?_
      refine f_iload X hl ⟨_, rfl, dX4_away_53⟩ rfl ?_
      refine lv_if_eq (tgt := 61) X.1 X.2.1 dX4_away_54 (by decide) (fun c54 => ?_) (fun c54 => ?_)
      · exact absurd c54 (by decide)
      · refine lv_iconst (v := 1) X.1 X.2.1 dX4_away_57 (by decide) ?_
        refine lv_goto (tgt := 62) X.1 X.2.1 dX4_away_58 (by decide) ?_
        exact f_iret X hr hlk Z (Nat.le_of_ble_eq_true rfl) (Nat.le_of_ble_eq_true rfl) dX4_away_62 (out_of (hx.awayS e17) (by rw [e17]; exact Fr.rf.put h1.2 (by decide)) (by omega) (by unfold sp_away; rw [if_pos c1, bI_t (c := y.2.1 ≠ none) (fun z => by obtain ⟨pa, sn, sb, sf, -, -, hos, -⟩ := sopt_some h8.opt; rw [hos] at z; cases z)]))
