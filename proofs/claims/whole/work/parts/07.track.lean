theorem mf {L : LV} {i a : Nat} (h : some a = L[i]?.map Prod.fst) : ∃ d, L[i]? = some (a, d) := by
  cases hq : L[i]? with
  | none => rw [hq] at h; cases h
  | some q => rw [hq] at h; obtain ⟨b, d⟩ := q; cases h; exact ⟨d, rfl⟩
theorem mfn {L : LV} {i : Nat} (h : none = L[i]?.map Prod.fst) : L.length ≤ i := by
  cases hq : L[i]? with
  | none => simpa using hq
  | some q => rw [hq] at h; cases h
theorem vix_n {L : LV} {kn : Nat} (h : kn < 2 ^ 31) : vix L (nI kn) = L[kn]? := by
  have : ¬ ((kn : Int) < 0) := by omega
  simp [vix, nI_toInt h, nI_clamp h, this]
theorem vix_neg {L : LV} {k : Int32} (h : k < 0) : vix L k = none := by
  have : k.toInt < 0 := by simpa [Int32.lt_iff_toInt_lt] using h
  simp [vix, this]
def sLd (a : Int32) : List VR → Int32
  | [] => a
  | v :: l => sLd (a + ldOf v.2.1 v.2.2.2) l
def gP (q : Nat × VR) : Bool := decide (50 ≤ q.2.2.2.1.toInt)
theorem drop_at {α : Type} {l : List α} {i : Nat} {x : α} (h : l[i]? = some x) : l.drop i = x :: l.drop (i + 1) := by
  obtain ⟨h1, h2⟩ := List.getElem?_eq_some_iff.mp h
  rw [List.drop_eq_getElem_cons h1, h2]
theorem drop_off {α : Type} {l : List α} {i : Nat} (h : l.length ≤ i) : l.drop i = [] := List.drop_eq_nil_of_le h
set_option maxHeartbeats 4000000 in
set_option maxRecDepth 100000 in
theorem c_X2_vehicleAt (l : Launch) (G : gT) (w : wT) (tr : Nat) (L : LV) (k : Int32) (ht : trk G w tr L) : Met l yX2_vehicleAt wsX2_vehicleAt ({ frames := 0, cells := 0, slots := 0, locals := 0 }) (va_Pc [.ref tr, .int k] (wG G w)) (Qq G (fun r w' => w' = w ∧ r = (vix L k).map Prod.fst)) 0 0 (fr G) := by
  refine f_met (cc := cX2_vehicleAt) (maxL := 4) (ret := (some (.object "TankSidings$Vehicle"))) (by decide) rfl rfl (Nat.le_of_ble_eq_true rfl) ?_
  intro p e s m below meth cd X hr hlk hnm Z ls hl
  have X : CallFix p m cd cX2_vehicleAt 4 s [.ref tr, .int k].toArray wsX2_vehicleAt RX2 := X
  have hl : lV ls _ [some (.ref tr), some (.int k), none, none] := hl
  have i2 : ∀ w ∈ wsX20, w ∈ wsX2_vehicleAt := by decide +kernel
  have i3 : ∀ w ∈ wsX30, w ∈ wsX2_vehicleAt := by decide +kernel
  obtain ⟨h1, hL, hn⟩ := ht
  refine f_iload X hl ⟨_, rfl, dX2_vehicleAt_0⟩ rfl ?_
  refine lv_if_lt (tgt := 12) X.1 X.2.1 dX2_vehicleAt_1 (by decide) (fun c1 => ?_) (fun c1 => ?_)
  · refine lv_null X.1 X.2.1 dX2_vehicleAt_12 ?_
    exact f_aret (v := .null) (r := none) X hr hlk Z (Nat.le_of_ble_eq_true rfl) (Nat.le_of_ble_eq_true rfl) dX2_vehicleAt_13 rfl ⟨rfl, by rw [vix_neg c1]; rfl⟩
  · refine f_iload X hl ⟨_, rfl, dX2_vehicleAt_4⟩ rfl ?_
    refine f_aload (v := .ref tr) X hl ⟨_, rfl, dX2_vehicleAt_5⟩ rfl ⟨(some tr), rfl⟩ ?_
    refine f_get (v := .int (nI L.length)) (k := 1) X Z i2 rfl (by decide) (by decide +kernel) dX2_vehicleAt_6 h1 rfl ?_
    refine lv_icmp_lt (tgt := 14) X.1 X.2.1 dX2_vehicleAt_9 (by decide) (fun c9 => ?_) (fun c9 => ?_)
    · obtain ⟨kn, hkn, hk⟩ := nI_of c1
      refine f_aload (v := .ref tr) X hl ⟨_, rfl, dX2_vehicleAt_14⟩ rfl ⟨(some tr), rfl⟩ ?_
      refine f_get (v := va_rf (hd L)) (k := 0) X Z i2 rfl (by decide) (by decide +kernel) dX2_vehicleAt_15 h1 rfl ?_
      refine f_astore X hl ⟨_, rfl, dX2_vehicleAt_18⟩ (by decide) ⟨(hd L), rfl⟩ (fun ls hl => ?_)
      have hl : lV ls _ [some (.ref tr), some (.int k), some (va_rf (hd L)), none] := hl
      refine lv_iconst (v := 0) X.1 X.2.1 dX2_vehicleAt_19 (by decide) ?_
      refine f_istore X hl ⟨_, rfl, dX2_vehicleAt_20⟩ (by decide) (fun ls hl => ?_)
      have hl : lV ls _ [some (.ref tr), some (.int k), some (va_rf (hd L)), some (.int 0)] := hl
      have hloop : ∀ (fu : Nat) (i : Nat) (x3 : Int32) (fo : Option Nat), (x3 = nI i) → (fo = L[i]?.map Prod.fst) → (i ≤ kn) → (kn < i + fu) → ∀ (H : Heap) (locs : List Loc) (ls : Array Slot), wZ G w s H locs → lV ls 4 [some (.ref tr), some (.int k), some (va_rf fo), some (.int x3)] → W p l e ({ frames := 0, cells := 0, slots := 0, locals := 0 }) s m [.ref tr, .int k].toArray below meth cd H locs 0 0 (MQ below (Qq G (fun r w' => w' = w ∧ r = (vix L k).map Prod.fst)) [.ref tr, .int k].toArray s 0 0 (fr G)) (F0 m 21 ls []) := by
        clear hl Z
        intro fu
        induction fu with
        | zero => intro i x3 fo hi hfo hle hfu H locs ls Z hl; exact absurd hfu (by omega)
        | succ fu ih =>
          intro i x3 fo hi hfo hle hfu H locs ls Z hl
          refine f_iload X hl ⟨_, rfl, dX2_vehicleAt_21⟩ rfl ?_
          refine f_iload X hl ⟨_, rfl, dX2_vehicleAt_22⟩ rfl ?_
          refine lv_icmp_ge (tgt := 41) X.1 X.2.1 dX2_vehicleAt_23 (by decide) (fun c23 => ?_) (fun c23 => ?_)
          · refine f_aload (v := va_rf fo) X hl ⟨_, rfl, dX2_vehicleAt_41⟩ rfl ⟨fo, rfl⟩ ?_
            exact f_aret (v := va_rf fo) (r := fo) X hr hlk Z (Nat.le_of_ble_eq_true rfl) (Nat.le_of_ble_eq_true rfl) dX2_vehicleAt_42 rfl ⟨rfl, by rw [hfo, hk, vix_n hkn, show i = kn from by have := (nI_leI (by omega) (by omega)).mp (hk ▸ hi ▸ c23); omega]⟩
          · refine f_aload (v := va_rf fo) X hl ⟨_, rfl, dX2_vehicleAt_26⟩ rfl ⟨fo, rfl⟩ ?_
            refine f_ifnull (tgt := 41) X dX2_vehicleAt_27 (by decide) (fun c27 => ?_) (fun a27 c27 => ?_)
            · subst c27
              refine f_aload (v := .null) X hl ⟨_, rfl, dX2_vehicleAt_41⟩ rfl ⟨none, rfl⟩ ?_
              exact f_aret (v := .null) (r := none) X hr hlk Z (Nat.le_of_ble_eq_true rfl) (Nat.le_of_ble_eq_true rfl) dX2_vehicleAt_42 rfl ⟨rfl, by rw [hk, vix_n hkn, List.getElem?_eq_none (Nat.le_trans (mfn hfo) hle)]; rfl⟩
            · subst c27
              obtain ⟨d, hd1⟩ := mf hfo
              obtain ⟨ro, hc, hro⟩ := hn i a27 d hd1
              refine f_aload (v := .ref a27) X hl ⟨_, rfl, dX2_vehicleAt_30⟩ rfl ⟨(some a27), rfl⟩ ?_
              refine f_get (v := va_rf (nx L i)) (k := 4) X Z i3 rfl (by decide) (by decide +kernel) dX2_vehicleAt_31 hc rfl ?_
              refine f_astore X hl ⟨_, rfl, dX2_vehicleAt_34⟩ (by decide) ⟨(nx L i), rfl⟩ (fun ls hl => ?_)
              have hl : lV ls _ [some (.ref tr), some (.int k), some (va_rf (nx L i)), some (.int x3)] := hl
              refine f_iinc (v := 1) X hl dX2_vehicleAt_35 (by decide) rfl (by decide) (fun ls hl => ?_)
              have hl : lV ls _ [some (.ref tr), some (.int k), some (va_rf (nx L i)), some (.int (x3 + 1))] := hl
              refine lv_goto (tgt := 21) X.1 X.2.1 dX2_vehicleAt_38 (by decide) ?_
              exact ih (i + 1) _ _ (by rw [hi]; exact nI_1 i) rfl (by have : i < kn := Nat.lt_of_not_le (fun q => c23 (by rw [hk, hi]; exact nI_le q (by omega))); omega) (by omega) _ _ _ Z hl
      exact hloop (kn + 1) 0 _ _ nI_0.symm rfl (Nat.zero_le _) (by omega) _ _ _ Z hl
    · obtain ⟨kn, hkn, hk⟩ := nI_of c1
      refine lv_null X.1 X.2.1 dX2_vehicleAt_12 ?_
      exact f_aret (v := .null) (r := none) X hr hlk Z (Nat.le_of_ble_eq_true rfl) (Nat.le_of_ble_eq_true rfl) dX2_vehicleAt_13 rfl ⟨rfl, by rw [hk, vix_n hkn, List.getElem?_eq_none (Nat.le_of_not_lt (fun q => c9 (by rw [hk]; exact nI_lt q (by omega))))]; rfl⟩
set_option maxHeartbeats 4000000 in
set_option maxRecDepth 100000 in
theorem c_X2_firstGraveBehindFront (l : Launch) (G : gT) (w : wT) (tr : Nat) (L : LV) (ht : trk G w tr L) : Met l yX2_firstGraveBehindFront wsX2_firstGraveBehindFront ({ frames := 1, cells := 0, slots := 0, locals := 23 }) (va_Pc [.ref tr] (wG G w)) (Qq G (fun r w' => w' = w ∧ r = ((L.drop 1).find? gP).map Prod.fst)) 0 0 (fr G) := by
  refine f_met (cc := cX2_firstGraveBehindFront) (maxL := 3) (ret := (some (.object "TankSidings$Vehicle"))) (by decide) rfl rfl (Nat.le_of_ble_eq_true rfl) ?_
  intro p e s m below meth cd X hr hlk hnm Z ls hl
  have X : CallFix p m cd cX2_firstGraveBehindFront 3 s [.ref tr].toArray wsX2_firstGraveBehindFront RX2 := X
  have hl : lV ls _ [some (.ref tr), none, none] := hl
  have i2 : ∀ w ∈ wsX20, w ∈ wsX2_firstGraveBehindFront := by decide +kernel
  have i3 : ∀ w ∈ wsX30, w ∈ wsX2_firstGraveBehindFront := by decide +kernel
  obtain ⟨h1, hL, hn⟩ := id ht
  refine f_aload (v := .ref tr) X hl ⟨_, rfl, dX2_firstGraveBehindFront_0⟩ rfl ⟨(some tr), rfl⟩ ?_
  refine lv_iconst (v := 1) X.1 X.2.1 dX2_firstGraveBehindFront_1 (by decide) ?_
  refine f_callVq (rest := []) X Z hl.1 (c_X2_vehicleAt l G w tr L _ ht) (cwV 1 X.2.2.2.2 gX2_firstGraveBehindFront_X2_vehicleAt rfl rfl rfl (by decide +kernel) ⟨(Nat.le_of_ble_eq_true rfl), (Nat.le_of_ble_eq_true rfl)⟩) rfl rfl dX2_firstGraveBehindFront_2 ⟨(Nat.le_of_ble_eq_true rfl), (Nat.le_of_ble_eq_true rfl)⟩ rfl (Nat.le_of_ble_eq_true rfl) h1 (fun r2 w1 H locs p2 Z => ?_)
  obtain ⟨w1e, hr2⟩ := p2
  have w1e := w1e.symm
  subst w1e
  refine f_astore X hl ⟨_, rfl, dX2_firstGraveBehindFront_5⟩ (by decide) ⟨r2, rfl⟩ (fun ls hl => ?_)
  have hl : lV ls _ [some (.ref tr), some (va_rf r2), none] := hl
  refine lv_iconst (v := 1) X.1 X.2.1 dX2_firstGraveBehindFront_6 (by decide) ?_
  refine f_istore X hl ⟨_, rfl, dX2_firstGraveBehindFront_7⟩ (by decide) (fun ls hl => ?_)
  have hl : lV ls _ [some (.ref tr), some (va_rf r2), some (.int 1)] := hl
  have hloop : ∀ (fu : Nat) (i : Nat) (x2 : Int32) (v : Option Nat), (x2 = nI i) → (v = L[i]?.map Prod.fst) → (((L.drop 1).find? gP) = ((L.drop i).find? gP)) → (i ≤ L.length + 1) → (L.length + 1 < i + fu) → ∀ (H : Heap) (locs : List Loc) (ls : Array Slot), wZ G w s H locs → lV ls 3 [some (.ref tr), some (va_rf v), some (.int x2)] → W p l e ({ frames := 1, cells := 0, slots := 0, locals := 23 }) s m [.ref tr].toArray below meth cd H locs 0 0 (MQ below (Qq G (fun r w' => w' = w ∧ r = ((L.drop 1).find? gP).map Prod.fst)) [.ref tr].toArray s 0 0 (fr G)) (F0 m 8 ls []) := by
    clear hl Z
    intro fu
    induction fu with
    | zero => intro i x2 v hi hfo hf hle hfu H locs ls Z hl; exact absurd hfu (by omega)
    | succ fu ih =>
      intro i x2 v hi hfo hf hle hfu H locs ls Z hl
      refine f_iload X hl ⟨_, rfl, dX2_firstGraveBehindFront_8⟩ rfl ?_
      refine f_aload (v := .ref tr) X hl ⟨_, rfl, dX2_firstGraveBehindFront_9⟩ rfl ⟨(some tr), rfl⟩ ?_
      refine f_get (v := .int (nI L.length)) (k := 1) X Z i2 rfl (by decide) (by decide +kernel) dX2_firstGraveBehindFront_10 h1 rfl ?_
      refine lv_icmp_ge (tgt := 42) X.1 X.2.1 dX2_firstGraveBehindFront_13 (by decide) (fun c13 => ?_) (fun c13 => ?_)
      · refine lv_null X.1 X.2.1 dX2_firstGraveBehindFront_42 ?_
        exact f_aret (v := .null) (r := none) X hr hlk Z (Nat.le_of_ble_eq_true rfl) (Nat.le_of_ble_eq_true rfl) dX2_firstGraveBehindFront_43 rfl ⟨rfl, by rw [hf, drop_off ((nI_leI (by omega) (by omega)).mp (hi ▸ c13))]; rfl⟩
      · have hlt : i < L.length := by
          rcases Nat.lt_or_ge i L.length with q | q
          · exact q
          · exact absurd (by rw [hi]; exact nI_le q (by omega)) c13
        refine f_aload (v := va_rf v) X hl ⟨_, rfl, dX2_firstGraveBehindFront_16⟩ rfl ⟨v, rfl⟩ ?_
        refine f_ifnull (tgt := 42) X dX2_firstGraveBehindFront_17 (by decide) (fun c17 => ?_) (fun a17 c17 => ?_)
        · subst c17
          refine lv_null X.1 X.2.1 dX2_firstGraveBehindFront_42 ?_
          exact f_aret (v := .null) (r := none) X hr hlk Z (Nat.le_of_ble_eq_true rfl) (Nat.le_of_ble_eq_true rfl) dX2_firstGraveBehindFront_43 rfl ⟨rfl, by rw [hf, drop_off (mfn hfo)]; rfl⟩
        · subst c17
          obtain ⟨d, hd1⟩ := mf hfo
          obtain ⟨ro, hc, hro⟩ := hn i a17 d hd1
          refine f_aload (v := .ref a17) X hl ⟨_, rfl, dX2_firstGraveBehindFront_20⟩ rfl ⟨(some a17), rfl⟩ ?_
          refine f_get (v := .int d.2.2.1) (k := 2) X Z i3 rfl (by decide) (by decide +kernel) dX2_firstGraveBehindFront_21 hc rfl ?_
          refine lv_bipush (v := 50) X.1 X.2.1 dX2_firstGraveBehindFront_24 (by decide) ?_
          refine lv_icmp_lt (tgt := 31) X.1 X.2.1 dX2_firstGraveBehindFront_26 (by decide) (fun c26 => ?_) (fun c26 => ?_)
          · refine f_aload (v := .ref a17) X hl ⟨_, rfl, dX2_firstGraveBehindFront_31⟩ rfl ⟨(some a17), rfl⟩ ?_
            refine f_get (v := va_rf (nx L i)) (k := 4) X Z i3 rfl (by decide) (by decide +kernel) dX2_firstGraveBehindFront_32 hc rfl ?_
            refine f_astore X hl ⟨_, rfl, dX2_firstGraveBehindFront_35⟩ (by decide) ⟨(nx L i), rfl⟩ (fun ls hl => ?_)
            have hl : lV ls _ [some (.ref tr), some (va_rf (nx L i)), some (.int x2)] := hl
            refine f_iinc (v := 1) X hl dX2_firstGraveBehindFront_36 (by decide) rfl (by decide) (fun ls hl => ?_)
            have hl : lV ls _ [some (.ref tr), some (va_rf (nx L i)), some (.int (x2 + 1))] := hl
            refine lv_goto (tgt := 8) X.1 X.2.1 dX2_firstGraveBehindFront_39 (by decide) ?_
            exact ih (i + 1) _ _ (by rw [hi]; exact nI_1 i) rfl (by rw [hf, drop_at hd1, List.find?_cons, show gP (a17, d) = false from by simp only [gP, decide_eq_false_iff_not]; simp only [Int32.lt_iff_toInt_lt, kc_50] at c26; omega]) (by omega) (by omega) _ _ _ Z hl
          · refine f_aload (v := .ref a17) X hl ⟨_, rfl, dX2_firstGraveBehindFront_29⟩ rfl ⟨(some a17), rfl⟩ ?_
            exact f_aret (v := .ref a17) (r := (some a17)) X hr hlk Z (Nat.le_of_ble_eq_true rfl) (Nat.le_of_ble_eq_true rfl) dX2_firstGraveBehindFront_30 rfl ⟨rfl, by rw [hf, drop_at hd1, List.find?_cons, show gP (a17, d) = true from by simp only [gP, decide_eq_true_eq]; simp only [Int32.lt_iff_toInt_lt, kc_50] at c26; omega]; rfl⟩
  exact hloop (L.length + 1) 1 _ _ rfl (by rw [hr2]; exact congrArg _ (vix_n (L := L) (kn := 1) (by decide))) rfl (by omega) (by omega) _ _ _ Z hl
set_option maxHeartbeats 4000000 in
set_option maxRecDepth 100000 in
theorem c_X2_weightBehindFront (l : Launch) (G : gT) (w : wT) (tr : Nat) (L : LV) (ht : trk G w tr L) : Met l yX2_weightBehindFront wsX2_weightBehindFront ({ frames := 1, cells := 0, slots := 0, locals := 25 }) (va_Pc [.ref tr] (wG G w)) (Qi G (fun r w' => w' = w ∧ r = sLd 0 ((L.drop 1).map Prod.snd))) 0 0 (fr G) := by
  refine f_met (cc := cX2_weightBehindFront) (maxL := 4) (ret := (some .int)) (by decide) rfl rfl (Nat.le_of_ble_eq_true rfl) ?_
  intro p e s m below meth cd X hr hlk hnm Z ls hl
  have X : CallFix p m cd cX2_weightBehindFront 4 s [.ref tr].toArray wsX2_weightBehindFront RX2 := X
  have hl : lV ls _ [some (.ref tr), none, none, none] := hl
  have i2 : ∀ w ∈ wsX20, w ∈ wsX2_weightBehindFront := by decide +kernel
  have i3 : ∀ w ∈ wsX30, w ∈ wsX2_weightBehindFront := by decide +kernel
  obtain ⟨h1, hL, hn⟩ := id ht
  refine lv_iconst (v := 0) X.1 X.2.1 dX2_weightBehindFront_0 (by decide) ?_
  refine f_istore X hl ⟨_, rfl, dX2_weightBehindFront_1⟩ (by decide) (fun ls hl => ?_)
  have hl : lV ls _ [some (.ref tr), some (.int 0), none, none] := hl
  refine f_aload (v := .ref tr) X hl ⟨_, rfl, dX2_weightBehindFront_2⟩ rfl ⟨(some tr), rfl⟩ ?_
  refine lv_iconst (v := 1) X.1 X.2.1 dX2_weightBehindFront_3 (by decide) ?_
  refine f_callVq (rest := []) X Z hl.1 (c_X2_vehicleAt l G w tr L _ ht) (cwV 1 X.2.2.2.2 gX2_weightBehindFront_X2_vehicleAt rfl rfl rfl (by decide +kernel) ⟨(Nat.le_of_ble_eq_true rfl), (Nat.le_of_ble_eq_true rfl)⟩) rfl rfl dX2_weightBehindFront_4 ⟨(Nat.le_of_ble_eq_true rfl), (Nat.le_of_ble_eq_true rfl)⟩ rfl (Nat.le_of_ble_eq_true rfl) h1 (fun r4 w1 H locs p4 Z => ?_)
  obtain ⟨w1e, hr4⟩ := p4
  have w1e := w1e.symm
  subst w1e
  refine f_astore X hl ⟨_, rfl, dX2_weightBehindFront_7⟩ (by decide) ⟨r4, rfl⟩ (fun ls hl => ?_)
  have hl : lV ls _ [some (.ref tr), some (.int 0), some (va_rf r4), none] := hl
  refine lv_iconst (v := 1) X.1 X.2.1 dX2_weightBehindFront_8 (by decide) ?_
  refine f_istore X hl ⟨_, rfl, dX2_weightBehindFront_9⟩ (by decide) (fun ls hl => ?_)
  have hl : lV ls _ [some (.ref tr), some (.int 0), some (va_rf r4), some (.int 1)] := hl
  have hloop : ∀ (fu : Nat) (i : Nat) (x1 x3 : Int32) (v : Option Nat), (x3 = nI i) → (v = L[i]?.map Prod.fst) → (sLd 0 ((L.drop 1).map Prod.snd) = sLd x1 ((L.drop i).map Prod.snd)) → (i ≤ L.length + 1) → (L.length + 1 < i + fu) → ∀ (H : Heap) (locs : List Loc) (ls : Array Slot), wZ G w s H locs → lV ls 4 [some (.ref tr), some (.int x1), some (va_rf v), some (.int x3)] → W p l e ({ frames := 1, cells := 0, slots := 0, locals := 25 }) s m [.ref tr].toArray below meth cd H locs 0 0 (MQ below (Qi G (fun r w' => w' = w ∧ r = sLd 0 ((L.drop 1).map Prod.snd))) [.ref tr].toArray s 0 0 (fr G)) (F0 m 10 ls []) := by
    clear hl Z
    intro fu
    induction fu with
    | zero => intro i x1 x3 v hi hfo hf hle hfu H locs ls Z hl; exact absurd hfu (by omega)
    | succ fu ih =>
      intro i x1 x3 v hi hfo hf hle hfu H locs ls Z hl
      refine f_iload X hl ⟨_, rfl, dX2_weightBehindFront_10⟩ rfl ?_
      refine f_aload (v := .ref tr) X hl ⟨_, rfl, dX2_weightBehindFront_11⟩ rfl ⟨(some tr), rfl⟩ ?_
      refine f_get (v := .int (nI L.length)) (k := 1) X Z i2 rfl (by decide) (by decide +kernel) dX2_weightBehindFront_12 h1 rfl ?_
      refine lv_icmp_ge (tgt := 40) X.1 X.2.1 dX2_weightBehindFront_15 (by decide) (fun c15 => ?_) (fun c15 => ?_)
      · refine f_iload X hl ⟨_, rfl, dX2_weightBehindFront_40⟩ rfl ?_
        exact f_iret X hr hlk Z (Nat.le_of_ble_eq_true rfl) (Nat.le_of_ble_eq_true rfl) dX2_weightBehindFront_41 ⟨rfl, by rw [hf, drop_off ((nI_leI (by omega) (by omega)).mp (hi ▸ c15))]; rfl⟩
      · have hlt : i < L.length := by
          rcases Nat.lt_or_ge i L.length with q | q
          · exact q
          · exact absurd (by rw [hi]; exact nI_le q (by omega)) c15
        refine f_aload (v := va_rf v) X hl ⟨_, rfl, dX2_weightBehindFront_18⟩ rfl ⟨v, rfl⟩ ?_
        refine f_ifnull (tgt := 40) X dX2_weightBehindFront_19 (by decide) (fun c19 => ?_) (fun a19 c19 => ?_)
        · subst c19
          refine f_iload X hl ⟨_, rfl, dX2_weightBehindFront_40⟩ rfl ?_
          exact f_iret X hr hlk Z (Nat.le_of_ble_eq_true rfl) (Nat.le_of_ble_eq_true rfl) dX2_weightBehindFront_41 ⟨rfl, by rw [hf, drop_off (mfn hfo)]; rfl⟩
        · subst c19
          obtain ⟨d, hd1⟩ := mf hfo
          obtain ⟨ro, hc, hro⟩ := hn i a19 d hd1
          refine f_iload X hl ⟨_, rfl, dX2_weightBehindFront_22⟩ rfl ?_
          refine f_aload (v := .ref a19) X hl ⟨_, rfl, dX2_weightBehindFront_23⟩ rfl ⟨(some a19), rfl⟩ ?_
          refine f_callVi (rest := [.int x1]) X Z hl.1 (c_X3_fullWeight l G w a19 d _ (hn i a19 d hd1)) (cwV 0 X.2.2.2.2 gX2_weightBehindFront_X3_fullWeight rfl rfl rfl (by decide +kernel) ⟨(Nat.le_of_ble_eq_true rfl), (Nat.le_of_ble_eq_true rfl)⟩) rfl rfl dX2_weightBehindFront_24 ⟨(Nat.le_of_ble_eq_true rfl), (Nat.le_of_ble_eq_true rfl)⟩ rfl (Nat.le_of_ble_eq_true rfl) hc (fun r24 w2 H locs p24 Z => ?_)
          obtain ⟨w2e, hr24⟩ := p24
          have w2e := w2e.symm
          subst w2e
          refine lv_iadd X.1 X.2.1 dX2_weightBehindFront_27 ?_
          refine f_istore X hl ⟨_, rfl, dX2_weightBehindFront_28⟩ (by decide) (fun ls hl => ?_)
          have hl : lV ls _ [some (.ref tr), some (.int (x1 + r24)), some (.ref a19), some (.int x3)] := hl
          refine f_aload (v := .ref a19) X hl ⟨_, rfl, dX2_weightBehindFront_29⟩ rfl ⟨(some a19), rfl⟩ ?_
          refine f_get (v := va_rf (nx L i)) (k := 4) X Z i3 rfl (by decide) (by decide +kernel) dX2_weightBehindFront_30 hc rfl ?_
          refine f_astore X hl ⟨_, rfl, dX2_weightBehindFront_33⟩ (by decide) ⟨(nx L i), rfl⟩ (fun ls hl => ?_)
          have hl : lV ls _ [some (.ref tr), some (.int (x1 + r24)), some (va_rf (nx L i)), some (.int x3)] := hl
          refine f_iinc (v := 1) X hl dX2_weightBehindFront_34 (by decide) rfl (by decide) (fun ls hl => ?_)
          have hl : lV ls _ [some (.ref tr), some (.int (x1 + r24)), some (va_rf (nx L i)), some (.int (x3 + 1))] := hl
          refine lv_goto (tgt := 10) X.1 X.2.1 dX2_weightBehindFront_37 (by decide) ?_
          exact ih (i + 1) _ _ _ (by rw [hi]; exact nI_1 i) rfl (by rw [hf, drop_at hd1, hr24]; rfl) (by omega) (by omega) _ _ _ Z hl
  exact hloop (L.length + 1) 1 _ _ _ rfl (by rw [hr4]; exact congrArg _ (vix_n (L := L) (kn := 1) (by decide))) rfl (by omega) (by omega) _ _ _ Z hl
set_option maxHeartbeats 4000000 in
set_option maxRecDepth 100000 in
theorem c_X2_putAhead (l : Launch) (G : gT) (w : wT) (tr v : Nat) (fo : Option Nat) (sz so we de : Int32) (ro bh : Option Nat) (h1 : w tr = some (cTrk fo sz)) (h2 : w v = some (cVeh so we de ro bh)) : Met l yX2_putAhead wsX2_putAhead ({ frames := 0, cells := 0, slots := 0, locals := 0 }) (va_Pc [.ref tr, .ref v] (wG G w)) (Qv G (fun w' => w' = va_up (va_up w v (some (cVeh so we de ro fo))) tr (some (cTrk (some v) (sz + 1))))) 0 0 (fr G) := by
  refine f_met (cc := cX2_putAhead) (maxL := 2) (ret := none) (by decide) rfl rfl (Nat.le_of_ble_eq_true rfl) ?_
  intro p e s m below meth cd X hr hlk hnm Z ls hl
  have X : CallFix p m cd cX2_putAhead 2 s [.ref tr, .ref v].toArray wsX2_putAhead RX2 := X
  have hl : lV ls _ [some (.ref tr), some (.ref v)] := hl
  have i2 : ∀ w ∈ wsX20, w ∈ wsX2_putAhead := by decide +kernel
  have i3 : ∀ w ∈ wsX30, w ∈ wsX2_putAhead := by decide +kernel
  refine f_aload (v := .ref v) X hl ⟨_, rfl, dX2_putAhead_0⟩ rfl ⟨(some v), rfl⟩ ?_
  refine f_aload (v := .ref tr) X hl ⟨_, rfl, dX2_putAhead_1⟩ rfl ⟨(some tr), rfl⟩ ?_
  refine f_get (v := va_rf fo) (k := 0) X Z i2 rfl (by decide) (by decide +kernel) dX2_putAhead_2 h1 rfl ?_
  refine f_put (v := va_rf fo) (ty0 := tyX3) (k := 4) X Z i3 tyX3_ok nmX3 rfl (by decide) (by decide +kernel) rfl dX2_putAhead_5 h2 (nr_o _ fo) (ft_o _ fo) (Nat.le_of_ble_eq_true rfl) (fun H locs w1 e2 Z => ?_)
  have e2 : w1 = va_up w v (some (cVeh so we de ro fo)) := e2
  have k3 : w1 tr = some (cTrk fo sz) := by rw [e2]; exact lk_ne (ad_ne h1 h2 (dx_oo (by decide))) h1
  have k4 : w1 v = some (cVeh so we de ro fo) := by rw [e2]; exact up_eq
  refine f_aload (v := .ref tr) X hl ⟨_, rfl, dX2_putAhead_8⟩ rfl ⟨(some tr), rfl⟩ ?_
  refine f_aload (v := .ref v) X hl ⟨_, rfl, dX2_putAhead_9⟩ rfl ⟨(some v), rfl⟩ ?_
  refine f_put (v := .ref v) (ty0 := tyX2) (k := 0) X Z i2 tyX2_ok nmX2 rfl (by decide) (by decide +kernel) rfl dX2_putAhead_10 k3 (nr_o _ (some v)) (ft_o _ (some v)) (Nat.le_of_ble_eq_true rfl) (fun H locs w5 e6 Z => ?_)
  have e6 : w5 = va_up w1 tr (some (cTrk (some v) sz)) := e6
  have k7 : w5 v = some (cVeh so we de ro fo) := by rw [e6]; exact lk_ne (ad_ne k4 k3 (dx_oo (by decide))) k4
  have k8 : w5 tr = some (cTrk (some v) sz) := by rw [e6]; exact up_eq
  refine f_aload (v := .ref tr) X hl ⟨_, rfl, dX2_putAhead_13⟩ rfl ⟨(some tr), rfl⟩ ?_
  refine lv_dup X.1 X.2.1 dX2_putAhead_14 rfl ?_
  refine f_get (v := .int sz) (k := 1) X Z i2 rfl (by decide) (by decide +kernel) dX2_putAhead_15 k8 rfl ?_
  refine lv_iconst (v := 1) X.1 X.2.1 dX2_putAhead_18 (by decide) ?_
  refine lv_iadd X.1 X.2.1 dX2_putAhead_19 ?_
  refine f_put (v := .int (sz + 1)) (ty0 := tyX2) (k := 1) X Z i2 tyX2_ok nmX2 rfl (by decide) (by decide +kernel) rfl dX2_putAhead_20 k8 rfl rfl (Nat.le_of_ble_eq_true rfl) (fun H locs w9 e10 Z => ?_)
  have e10 : w9 = va_up w5 tr (some (cTrk (some v) (sz + 1))) := e10
  have k11 : w9 v = some (cVeh so we de ro fo) := by rw [e10]; exact lk_ne (ad_ne k7 k8 (dx_oo (by decide))) k7
  have k12 : w9 tr = some (cTrk (some v) (sz + 1)) := by rw [e10]; exact up_eq
  exact f_vret X hr hlk Z (Nat.le_of_ble_eq_true rfl) (Nat.le_of_ble_eq_true rfl) dX2_putAhead_23 (by rw [e10, e6, e2, va_uu])
set_option maxHeartbeats 4000000 in
set_option maxRecDepth 100000 in
theorem c_X2_removeFront (l : Launch) (G : gT) (w : wT) (tr : Nat) (fo : Option Nat) (sz so we de : Int32) (ro bh : Option Nat) (h1 : w tr = some (cTrk fo sz)) (hv : ∀ a, fo = some a → w a = some (cVeh so we de ro bh)) : Met l yX2_removeFront wsX2_removeFront ({ frames := 0, cells := 0, slots := 0, locals := 0 }) (va_Pc [.ref tr] (wG G w)) (Qq G (fun r w' => r = fo ∧ (fo = none → w' = w) ∧ ∀ a, fo = some a → w' = va_up (va_up w a (some (cVeh so we de ro none))) tr (some (cTrk bh (sz - 1))))) 0 0 (fr G) := by
  refine f_met (cc := cX2_removeFront) (maxL := 2) (ret := (some (.object "TankSidings$Vehicle"))) (by decide) rfl rfl (Nat.le_of_ble_eq_true rfl) ?_
  intro p e s m below meth cd X hr hlk hnm Z ls hl
  have X : CallFix p m cd cX2_removeFront 2 s [.ref tr].toArray wsX2_removeFront RX2 := X
  have hl : lV ls _ [some (.ref tr), none] := hl
  have i2 : ∀ w ∈ wsX20, w ∈ wsX2_removeFront := by decide +kernel
  have i3 : ∀ w ∈ wsX30, w ∈ wsX2_removeFront := by decide +kernel
  refine f_aload (v := .ref tr) X hl ⟨_, rfl, dX2_removeFront_0⟩ rfl ⟨(some tr), rfl⟩ ?_
  refine f_get (v := va_rf fo) (k := 0) X Z i2 rfl (by decide) (by decide +kernel) dX2_removeFront_1 h1 rfl ?_
  refine f_astore X hl ⟨_, rfl, dX2_removeFront_4⟩ (by decide) ⟨fo, rfl⟩ (fun ls hl => ?_)
  have hl : lV ls _ [some (.ref tr), some (va_rf fo)] := hl
  refine f_aload (v := va_rf fo) X hl ⟨_, rfl, dX2_removeFront_5⟩ rfl ⟨fo, rfl⟩ ?_
  refine f_ifnull (tgt := 32) X dX2_removeFront_6 (by decide) (fun c6 => ?_) (fun a6 c6 => ?_)
  · subst c6
    refine f_aload (v := .null) X hl ⟨_, rfl, dX2_removeFront_32⟩ rfl ⟨none, rfl⟩ ?_
    exact f_aret (v := .null) (r := none) X hr hlk Z (Nat.le_of_ble_eq_true rfl) (Nat.le_of_ble_eq_true rfl) dX2_removeFront_33 rfl ⟨rfl, (fun _ => rfl), fun a h => by cases h⟩
  · subst c6
    have h2 := hv a6 rfl
    refine f_aload (v := .ref tr) X hl ⟨_, rfl, dX2_removeFront_9⟩ rfl ⟨(some tr), rfl⟩ ?_
    refine f_aload (v := .ref a6) X hl ⟨_, rfl, dX2_removeFront_10⟩ rfl ⟨(some a6), rfl⟩ ?_
    refine f_get (v := va_rf bh) (k := 4) X Z i3 rfl (by decide) (by decide +kernel) dX2_removeFront_11 h2 rfl ?_
    refine f_put (v := va_rf bh) (ty0 := tyX2) (k := 0) X Z i2 tyX2_ok nmX2 rfl (by decide) (by decide +kernel) rfl dX2_removeFront_14 h1 (nr_o _ bh) (ft_o _ bh) (Nat.le_of_ble_eq_true rfl) (fun H locs w1 e2 Z => ?_)
    have e2 : w1 = va_up w tr (some (cTrk bh sz)) := e2
    have k3 : w1 a6 = some (cVeh so we de ro bh) := by rw [e2]; exact lk_ne (ad_ne h2 h1 (dx_oo (by decide))) h2
    have k4 : w1 tr = some (cTrk bh sz) := by rw [e2]; exact up_eq
    refine f_aload (v := .ref a6) X hl ⟨_, rfl, dX2_removeFront_17⟩ rfl ⟨(some a6), rfl⟩ ?_
    refine lv_null X.1 X.2.1 dX2_removeFront_18 ?_
    refine f_put (v := .null) (ty0 := tyX3) (k := 4) X Z i3 tyX3_ok nmX3 rfl (by decide) (by decide +kernel) rfl dX2_removeFront_19 k3 (nr_o _ none) (ft_o _ none) (Nat.le_of_ble_eq_true rfl) (fun H locs w5 e6 Z => ?_)
    have e6 : w5 = va_up w1 a6 (some (cVeh so we de ro none)) := e6
    have k7 : w5 tr = some (cTrk bh sz) := by rw [e6]; exact lk_ne (ad_ne k4 k3 (dx_oo (by decide))) k4
    have k8 : w5 a6 = some (cVeh so we de ro none) := by rw [e6]; exact up_eq
    refine f_aload (v := .ref tr) X hl ⟨_, rfl, dX2_removeFront_22⟩ rfl ⟨(some tr), rfl⟩ ?_
    refine lv_dup X.1 X.2.1 dX2_removeFront_23 rfl ?_
    refine f_get (v := .int sz) (k := 1) X Z i2 rfl (by decide) (by decide +kernel) dX2_removeFront_24 k7 rfl ?_
    refine lv_iconst (v := 1) X.1 X.2.1 dX2_removeFront_27 (by decide) ?_
    refine lv_isub X.1 X.2.1 dX2_removeFront_28 ?_
    refine f_put (v := .int (sz - 1)) (ty0 := tyX2) (k := 1) X Z i2 tyX2_ok nmX2 rfl (by decide) (by decide +kernel) rfl dX2_removeFront_29 k7 rfl rfl (Nat.le_of_ble_eq_true rfl) (fun H locs w9 e10 Z => ?_)
    have e10 : w9 = va_up w5 tr (some (cTrk bh (sz - 1))) := e10
    have k11 : w9 a6 = some (cVeh so we de ro none) := by rw [e10]; exact lk_ne (ad_ne k8 k7 (dx_oo (by decide))) k8
    have k12 : w9 tr = some (cTrk bh (sz - 1)) := by rw [e10]; exact up_eq
    refine f_aload (v := .ref a6) X hl ⟨_, rfl, dX2_removeFront_32⟩ rfl ⟨(some a6), rfl⟩ ?_
    exact f_aret (v := .ref a6) (r := (some a6)) X hr hlk Z (Nat.le_of_ble_eq_true rfl) (Nat.le_of_ble_eq_true rfl) dX2_removeFront_33 rfl ⟨rfl, (fun h => by cases h), fun a h => by cases h; rw [e10, e6, e2, va_comm (ad_ne h1 h2 (dx_oo (by decide))), va_uu]⟩
set_option maxHeartbeats 4000000 in
set_option maxRecDepth 100000 in
theorem c_X2_moveFirst (l : Launch) (G : gT) (w : wT) (tr to : Nat) (L : LV) (fo2 : Option Nat) (sz2 : Int32) (kn : Nat) (hkn : kn < 2 ^ 30) (ht : trk G w tr L) (h2 : w to = some (cTrk fo2 sz2)) (hne : tr ≠ to) : Met l yX2_moveFirst wsX2_moveFirst ({ frames := 1, cells := 0, slots := 0, locals := 23 }) (va_Pc [.ref tr, .int (nI (kn + 1)), .ref to] (wG G w)) (Qi G (fun r w' => (L[kn]? = none ∧ r = 0 ∧ w' = w) ∨ ∃ a d ro, L[kn]? = some (a, d) ∧ w a = some (cVeh d.1 d.2.1 d.2.2.1 ro (nx L kn)) ∧ r = 1 ∧ w' = va_up (va_up (va_up w a (some (cVeh d.1 d.2.1 d.2.2.1 ro fo2))) to (some (cTrk (hd L) (sz2 + nI (kn + 1))))) tr (some (cTrk (nx L kn) (nI L.length - nI (kn + 1)))))) 0 0 (fr G) := by
  refine f_met (cc := cX2_moveFirst) (maxL := 5) (ret := (some .boolean)) (by decide) rfl rfl (Nat.le_of_ble_eq_true rfl) ?_
  intro p e s m below meth cd X hr hlk hnm Z ls hl
  have X : CallFix p m cd cX2_moveFirst 5 s [.ref tr, .int (nI (kn + 1)), .ref to].toArray wsX2_moveFirst RX2 := X
  have hl : lV ls _ [some (.ref tr), some (.int (nI (kn + 1))), some (.ref to), none, none] := hl
  have i2 : ∀ w ∈ wsX20, w ∈ wsX2_moveFirst := by decide +kernel
  have i3 : ∀ w ∈ wsX30, w ∈ wsX2_moveFirst := by decide +kernel
  obtain ⟨h1, hL, hn⟩ := id ht
  refine f_aload (v := .ref tr) X hl ⟨_, rfl, dX2_moveFirst_0⟩ rfl ⟨(some tr), rfl⟩ ?_
  refine f_iload X hl ⟨_, rfl, dX2_moveFirst_1⟩ rfl ?_
  refine lv_iconst (v := 1) X.1 X.2.1 dX2_moveFirst_2 (by decide) ?_
  refine lv_isub X.1 X.2.1 dX2_moveFirst_3 ?_
  refine f_callVq (rest := []) X Z hl.1 (c_X2_vehicleAt l G w tr L _ ht) (cwV 1 X.2.2.2.2 gX2_moveFirst_X2_vehicleAt rfl rfl rfl (by decide +kernel) ⟨(Nat.le_of_ble_eq_true rfl), (Nat.le_of_ble_eq_true rfl)⟩) rfl rfl dX2_moveFirst_4 ⟨(Nat.le_of_ble_eq_true rfl), (Nat.le_of_ble_eq_true rfl)⟩ rfl (Nat.le_of_ble_eq_true rfl) h1 (fun r4 w1 H locs p4 Z => ?_)
  obtain ⟨w1e, hr4⟩ := p4
  have w1e := w1e.symm
  subst w1e
  refine f_astore X hl ⟨_, rfl, dX2_moveFirst_7⟩ (by decide) ⟨r4, rfl⟩ (fun ls hl => ?_)
  have hl : lV ls _ [some (.ref tr), some (.int (nI (kn + 1))), some (.ref to), some (va_rf r4), none] := hl
  refine f_aload (v := va_rf r4) X hl ⟨_, rfl, dX2_moveFirst_8⟩ rfl ⟨r4, rfl⟩ ?_
  refine f_ifnonnull (tgt := 14) X dX2_moveFirst_9 (by decide) (fun a9 c9 => ?_) (fun c9 => ?_)
  · subst c9
    rw [nI_pred, vix_n (by omega)] at hr4
    obtain ⟨d, hd1⟩ := mf (hr4)
    obtain ⟨ro, hc, hro⟩ := hn kn a9 d hd1
    refine f_aload (v := .ref a9) X hl ⟨_, rfl, dX2_moveFirst_14⟩ rfl ⟨(some a9), rfl⟩ ?_
    refine f_get (v := va_rf (nx L kn)) (k := 4) X Z i3 rfl (by decide) (by decide +kernel) dX2_moveFirst_15 hc rfl ?_
    refine f_astore2 X hl dX2_moveFirst_18 (by decide) ⟨(nx L kn), rfl⟩ (fun ls hl => ?_)
    have hl : lV ls _ [some (.ref tr), some (.int (nI (kn + 1))), some (.ref to), some (.ref a9), some (va_rf (nx L kn))] := hl
    refine f_aload (v := .ref a9) X hl ⟨_, rfl, dX2_moveFirst_20⟩ rfl ⟨(some a9), rfl⟩ ?_
    refine f_aload (v := .ref to) X hl ⟨_, rfl, dX2_moveFirst_21⟩ rfl ⟨(some to), rfl⟩ ?_
    refine f_get (v := va_rf fo2) (k := 0) X Z i2 rfl (by decide) (by decide +kernel) dX2_moveFirst_22 h2 rfl ?_
    refine f_put (v := va_rf fo2) (ty0 := tyX3) (k := 4) X Z i3 tyX3_ok nmX3 rfl (by decide) (by decide +kernel) rfl dX2_moveFirst_25 hc (nr_o _ fo2) (ft_o _ fo2) (Nat.le_of_ble_eq_true rfl) (fun H locs w2 e3 Z => ?_)
    have e3 : w2 = va_up w a9 (some (cVeh d.1 d.2.1 d.2.2.1 ro fo2)) := e3
    have k4 : w2 tr = some (cTrk (hd L) (nI L.length)) := by rw [e3]; exact lk_ne (ad_ne h1 hc (dx_oo (by decide))) h1
    have k5 : w2 to = some (cTrk fo2 sz2) := by rw [e3]; exact lk_ne (ad_ne h2 hc (dx_oo (by decide))) h2
    have k6 : w2 a9 = some (cVeh d.1 d.2.1 d.2.2.1 ro fo2) := by rw [e3]; exact up_eq
    refine f_aload (v := .ref to) X hl ⟨_, rfl, dX2_moveFirst_28⟩ rfl ⟨(some to), rfl⟩ ?_
    refine f_aload (v := .ref tr) X hl ⟨_, rfl, dX2_moveFirst_29⟩ rfl ⟨(some tr), rfl⟩ ?_
    refine f_get (v := va_rf (hd L)) (k := 0) X Z i2 rfl (by decide) (by decide +kernel) dX2_moveFirst_30 k4 rfl ?_
    refine f_put (v := va_rf (hd L)) (ty0 := tyX2) (k := 0) X Z i2 tyX2_ok nmX2 rfl (by decide) (by decide +kernel) rfl dX2_moveFirst_33 k5 (nr_o _ (hd L)) (ft_o _ (hd L)) (Nat.le_of_ble_eq_true rfl) (fun H locs w7 e8 Z => ?_)
    have e8 : w7 = va_up w2 to (some (cTrk (hd L) sz2)) := e8
    have k9 : w7 tr = some (cTrk (hd L) (nI L.length)) := by rw [e8]; exact lk_ne hne k4
    have k10 : w7 a9 = some (cVeh d.1 d.2.1 d.2.2.1 ro fo2) := by rw [e8]; exact lk_ne (ad_ne k6 k5 (dx_oo (by decide))) k6
    have k11 : w7 to = some (cTrk (hd L) sz2) := by rw [e8]; exact up_eq
    refine f_aload (v := .ref to) X hl ⟨_, rfl, dX2_moveFirst_36⟩ rfl ⟨(some to), rfl⟩ ?_
    refine lv_dup X.1 X.2.1 dX2_moveFirst_37 rfl ?_
    refine f_get (v := .int sz2) (k := 1) X Z i2 rfl (by decide) (by decide +kernel) dX2_moveFirst_38 k11 rfl ?_
    refine f_iload X hl ⟨_, rfl, dX2_moveFirst_41⟩ rfl ?_
    refine lv_iadd X.1 X.2.1 dX2_moveFirst_42 ?_
    refine f_put (v := .int (sz2 + (nI (kn + 1)))) (ty0 := tyX2) (k := 1) X Z i2 tyX2_ok nmX2 rfl (by decide) (by decide +kernel) rfl dX2_moveFirst_43 k11 rfl rfl (Nat.le_of_ble_eq_true rfl) (fun H locs w12 e13 Z => ?_)
    have e13 : w12 = va_up w7 to (some (cTrk (hd L) (sz2 + (nI (kn + 1))))) := e13
    have k14 : w12 tr = some (cTrk (hd L) (nI L.length)) := by rw [e13]; exact lk_ne hne k9
    have k15 : w12 a9 = some (cVeh d.1 d.2.1 d.2.2.1 ro fo2) := by rw [e13]; exact lk_ne (ad_ne k10 k11 (dx_oo (by decide))) k10
    have k16 : w12 to = some (cTrk (hd L) (sz2 + (nI (kn + 1)))) := by rw [e13]; exact up_eq
    refine f_aload (v := .ref tr) X hl ⟨_, rfl, dX2_moveFirst_46⟩ rfl ⟨(some tr), rfl⟩ ?_
    refine f_aload2 (v := va_rf (nx L kn)) X hl dX2_moveFirst_47 rfl ⟨(nx L kn), rfl⟩ ?_
    refine f_put (v := va_rf (nx L kn)) (ty0 := tyX2) (k := 0) X Z i2 tyX2_ok nmX2 rfl (by decide) (by decide +kernel) rfl dX2_moveFirst_49 k14 (nr_o _ (nx L kn)) (ft_o _ (nx L kn)) (Nat.le_of_ble_eq_true rfl) (fun H locs w17 e18 Z => ?_)
    have e18 : w17 = va_up w12 tr (some (cTrk (nx L kn) (nI L.length))) := e18
    have k19 : w17 a9 = some (cVeh d.1 d.2.1 d.2.2.1 ro fo2) := by rw [e18]; exact lk_ne (ad_ne k15 k14 (dx_oo (by decide))) k15
    have k20 : w17 to = some (cTrk (hd L) (sz2 + (nI (kn + 1)))) := by rw [e18]; exact lk_ne (Ne.symm hne) k16
    have k21 : w17 tr = some (cTrk (nx L kn) (nI L.length)) := by rw [e18]; exact up_eq
    refine f_aload (v := .ref tr) X hl ⟨_, rfl, dX2_moveFirst_52⟩ rfl ⟨(some tr), rfl⟩ ?_
    refine lv_dup X.1 X.2.1 dX2_moveFirst_53 rfl ?_
    refine f_get (v := .int (nI L.length)) (k := 1) X Z i2 rfl (by decide) (by decide +kernel) dX2_moveFirst_54 k21 rfl ?_
    refine f_iload X hl ⟨_, rfl, dX2_moveFirst_57⟩ rfl ?_
    refine lv_isub X.1 X.2.1 dX2_moveFirst_58 ?_
    refine f_put (v := .int ((nI L.length) - (nI (kn + 1)))) (ty0 := tyX2) (k := 1) X Z i2 tyX2_ok nmX2 rfl (by decide) (by decide +kernel) rfl dX2_moveFirst_59 k21 rfl rfl (Nat.le_of_ble_eq_true rfl) (fun H locs w22 e23 Z => ?_)
    have e23 : w22 = va_up w17 tr (some (cTrk (nx L kn) ((nI L.length) - (nI (kn + 1))))) := e23
    have k24 : w22 a9 = some (cVeh d.1 d.2.1 d.2.2.1 ro fo2) := by rw [e23]; exact lk_ne (ad_ne k19 k21 (dx_oo (by decide))) k19
    have k25 : w22 to = some (cTrk (hd L) (sz2 + (nI (kn + 1)))) := by rw [e23]; exact lk_ne (Ne.symm hne) k20
    have k26 : w22 tr = some (cTrk (nx L kn) ((nI L.length) - (nI (kn + 1)))) := by rw [e23]; exact up_eq
    refine lv_iconst (v := 1) X.1 X.2.1 dX2_moveFirst_62 (by decide) ?_
    exact f_zret X hr hlk Z (Nat.le_of_ble_eq_true rfl) (Nat.le_of_ble_eq_true rfl) dX2_moveFirst_63 (by decide) (Or.inr ⟨a9, d, ro, hd1, hc, rfl, by rw [e23, e18, e13, e8, e3, va_uu, va_uu]⟩)
  · subst c9
    rw [nI_pred, vix_n (by omega)] at hr4
    refine lv_iconst (v := 0) X.1 X.2.1 dX2_moveFirst_12 (by decide) ?_
    exact f_zret X hr hlk Z (Nat.le_of_ble_eq_true rfl) (Nat.le_of_ble_eq_true rfl) dX2_moveFirst_13 (by decide) (Or.inl ⟨by have := mfn hr4; exact List.getElem?_eq_none this, rfl, rfl⟩)
set_option maxHeartbeats 4000000 in
set_option maxRecDepth 100000 in
theorem c_X2_appendAll (l : Launch) (G : gT) (w : wT) (tr ot : Nat) (L : LV) (fo2 : Option Nat) (sz2 : Int32) (ht : trk G w tr L) (h2 : w ot = some (cTrk fo2 sz2)) (hne : tr ≠ ot) : Met l yX2_appendAll wsX2_appendAll ({ frames := 1, cells := 0, slots := 0, locals := 23 }) (va_Pc [.ref tr, .ref ot] (wG G w)) (Qi G (fun r w' => (L = [] ∧ r = 0 ∧ w' = w) ∨ ∃ kn a d ro, L.length = kn + 1 ∧ L[kn]? = some (a, d) ∧ w a = some (cVeh d.1 d.2.1 d.2.2.1 ro (nx L kn)) ∧ r = 1 ∧ w' = va_up (va_up (va_up w a (some (cVeh d.1 d.2.1 d.2.2.1 ro fo2))) tr (some (cTrk (hd L) (nI L.length + sz2)))) ot (some (cTrk none 0)))) 0 0 (fr G) := by
  refine f_met (cc := cX2_appendAll) (maxL := 3) (ret := (some .boolean)) (by decide) rfl rfl (Nat.le_of_ble_eq_true rfl) ?_
  intro p e s m below meth cd X hr hlk hnm Z ls hl
  have X : CallFix p m cd cX2_appendAll 3 s [.ref tr, .ref ot].toArray wsX2_appendAll RX2 := X
  have hl : lV ls _ [some (.ref tr), some (.ref ot), none] := hl
  have i2 : ∀ w ∈ wsX20, w ∈ wsX2_appendAll := by decide +kernel
  have i3 : ∀ w ∈ wsX30, w ∈ wsX2_appendAll := by decide +kernel
  obtain ⟨h1, hL, hn⟩ := id ht
  refine f_aload (v := .ref tr) X hl ⟨_, rfl, dX2_appendAll_0⟩ rfl ⟨(some tr), rfl⟩ ?_
  refine f_aload (v := .ref tr) X hl ⟨_, rfl, dX2_appendAll_1⟩ rfl ⟨(some tr), rfl⟩ ?_
  refine f_get (v := .int (nI L.length)) (k := 1) X Z i2 rfl (by decide) (by decide +kernel) dX2_appendAll_2 h1 rfl ?_
  refine lv_iconst (v := 1) X.1 X.2.1 dX2_appendAll_5 (by decide) ?_
  refine lv_isub X.1 X.2.1 dX2_appendAll_6 ?_
  refine f_callVq (rest := []) X Z hl.1 (c_X2_vehicleAt l G w tr L _ ht) (cwV 1 X.2.2.2.2 gX2_appendAll_X2_vehicleAt rfl rfl rfl (by decide +kernel) ⟨(Nat.le_of_ble_eq_true rfl), (Nat.le_of_ble_eq_true rfl)⟩) rfl rfl dX2_appendAll_7 ⟨(Nat.le_of_ble_eq_true rfl), (Nat.le_of_ble_eq_true rfl)⟩ rfl (Nat.le_of_ble_eq_true rfl) h1 (fun r7 w1 H locs p7 Z => ?_)
  obtain ⟨w1e, hr7⟩ := p7
  have w1e := w1e.symm
  subst w1e
  refine f_astore X hl ⟨_, rfl, dX2_appendAll_10⟩ (by decide) ⟨r7, rfl⟩ (fun ls hl => ?_)
  have hl : lV ls _ [some (.ref tr), some (.ref ot), some (va_rf r7)] := hl
  refine f_aload (v := va_rf r7) X hl ⟨_, rfl, dX2_appendAll_11⟩ rfl ⟨r7, rfl⟩ ?_
  refine f_ifnonnull (tgt := 17) X dX2_appendAll_12 (by decide) (fun a12 c12 => ?_) (fun c12 => ?_)
  · subst c12
    obtain ⟨kn, hkl⟩ : ∃ kn, L.length = kn + 1 := by
      cases hq : L.length with
      | zero => rw [hq, show nI 0 - 1 = (-1 : Int32) from by decide, vix_neg (by decide)] at hr7; cases hr7
      | succ kn => exact ⟨kn, rfl⟩
    rw [hkl, nI_pred, vix_n (by omega)] at hr7
    obtain ⟨d, hd1⟩ := mf (hr7)
    obtain ⟨ro, hc, hro⟩ := hn kn a12 d hd1
    refine f_aload (v := .ref a12) X hl ⟨_, rfl, dX2_appendAll_17⟩ rfl ⟨(some a12), rfl⟩ ?_
    refine f_aload (v := .ref ot) X hl ⟨_, rfl, dX2_appendAll_18⟩ rfl ⟨(some ot), rfl⟩ ?_
    refine f_get (v := va_rf fo2) (k := 0) X Z i2 rfl (by decide) (by decide +kernel) dX2_appendAll_19 h2 rfl ?_
    refine f_put (v := va_rf fo2) (ty0 := tyX3) (k := 4) X Z i3 tyX3_ok nmX3 rfl (by decide) (by decide +kernel) rfl dX2_appendAll_22 hc (nr_o _ fo2) (ft_o _ fo2) (Nat.le_of_ble_eq_true rfl) (fun H locs w2 e3 Z => ?_)
    have e3 : w2 = va_up w a12 (some (cVeh d.1 d.2.1 d.2.2.1 ro fo2)) := e3
    have k4 : w2 tr = some (cTrk (hd L) (nI L.length)) := by rw [e3]; exact lk_ne (ad_ne h1 hc (dx_oo (by decide))) h1
    have k5 : w2 ot = some (cTrk fo2 sz2) := by rw [e3]; exact lk_ne (ad_ne h2 hc (dx_oo (by decide))) h2
    have k6 : w2 a12 = some (cVeh d.1 d.2.1 d.2.2.1 ro fo2) := by rw [e3]; exact up_eq
    refine f_aload (v := .ref tr) X hl ⟨_, rfl, dX2_appendAll_25⟩ rfl ⟨(some tr), rfl⟩ ?_
    refine lv_dup X.1 X.2.1 dX2_appendAll_26 rfl ?_
    refine f_get (v := .int (nI L.length)) (k := 1) X Z i2 rfl (by decide) (by decide +kernel) dX2_appendAll_27 k4 rfl ?_
    refine f_aload (v := .ref ot) X hl ⟨_, rfl, dX2_appendAll_30⟩ rfl ⟨(some ot), rfl⟩ ?_
    refine f_get (v := .int sz2) (k := 1) X Z i2 rfl (by decide) (by decide +kernel) dX2_appendAll_31 k5 rfl ?_
    refine lv_iadd X.1 X.2.1 dX2_appendAll_34 ?_
    refine f_put (v := .int ((nI L.length) + sz2)) (ty0 := tyX2) (k := 1) X Z i2 tyX2_ok nmX2 rfl (by decide) (by decide +kernel) rfl dX2_appendAll_35 k4 rfl rfl (Nat.le_of_ble_eq_true rfl) (fun H locs w7 e8 Z => ?_)
    have e8 : w7 = va_up w2 tr (some (cTrk (hd L) ((nI L.length) + sz2))) := e8
    have k9 : w7 ot = some (cTrk fo2 sz2) := by rw [e8]; exact lk_ne (Ne.symm hne) k5
    have k10 : w7 a12 = some (cVeh d.1 d.2.1 d.2.2.1 ro fo2) := by rw [e8]; exact lk_ne (ad_ne k6 k4 (dx_oo (by decide))) k6
    have k11 : w7 tr = some (cTrk (hd L) ((nI L.length) + sz2)) := by rw [e8]; exact up_eq
    refine f_aload (v := .ref ot) X hl ⟨_, rfl, dX2_appendAll_38⟩ rfl ⟨(some ot), rfl⟩ ?_
    refine lv_null X.1 X.2.1 dX2_appendAll_39 ?_
    refine f_put (v := .null) (ty0 := tyX2) (k := 0) X Z i2 tyX2_ok nmX2 rfl (by decide) (by decide +kernel) rfl dX2_appendAll_40 k9 (nr_o _ none) (ft_o _ none) (Nat.le_of_ble_eq_true rfl) (fun H locs w12 e13 Z => ?_)
    have e13 : w12 = va_up w7 ot (some (cTrk none sz2)) := e13
    have k14 : w12 a12 = some (cVeh d.1 d.2.1 d.2.2.1 ro fo2) := by rw [e13]; exact lk_ne (ad_ne k10 k9 (dx_oo (by decide))) k10
    have k15 : w12 tr = some (cTrk (hd L) ((nI L.length) + sz2)) := by rw [e13]; exact lk_ne hne k11
    have k16 : w12 ot = some (cTrk none sz2) := by rw [e13]; exact up_eq
    refine f_aload (v := .ref ot) X hl ⟨_, rfl, dX2_appendAll_43⟩ rfl ⟨(some ot), rfl⟩ ?_
    refine lv_iconst (v := 0) X.1 X.2.1 dX2_appendAll_44 (by decide) ?_
    refine f_put (v := .int 0) (ty0 := tyX2) (k := 1) X Z i2 tyX2_ok nmX2 rfl (by decide) (by decide +kernel) rfl dX2_appendAll_45 k16 rfl rfl (Nat.le_of_ble_eq_true rfl) (fun H locs w17 e18 Z => ?_)
    have e18 : w17 = va_up w12 ot (some (cTrk none 0)) := e18
    have k19 : w17 a12 = some (cVeh d.1 d.2.1 d.2.2.1 ro fo2) := by rw [e18]; exact lk_ne (ad_ne k14 k16 (dx_oo (by decide))) k14
    have k20 : w17 tr = some (cTrk (hd L) ((nI L.length) + sz2)) := by rw [e18]; exact lk_ne hne k15
    have k21 : w17 ot = some (cTrk none 0) := by rw [e18]; exact up_eq
    refine lv_iconst (v := 1) X.1 X.2.1 dX2_appendAll_48 (by decide) ?_
    exact f_zret X hr hlk Z (Nat.le_of_ble_eq_true rfl) (Nat.le_of_ble_eq_true rfl) dX2_appendAll_49 (by decide) (Or.inr ⟨kn, a12, d, ro, hkl, hd1, hc, rfl, by rw [e18, e13, e8, e3, va_uu]⟩)
  · subst c12
    refine lv_iconst (v := 0) X.1 X.2.1 dX2_appendAll_15 (by decide) ?_
    exact f_zret X hr hlk Z (Nat.le_of_ble_eq_true rfl) (Nat.le_of_ble_eq_true rfl) dX2_appendAll_16 (by decide) (Or.inl ⟨by
              cases hq : L.length with
              | zero => exact List.length_eq_zero_iff.mp hq
              | succ kn =>
                rw [hq, nI_pred, vix_n (by omega)] at hr7
                have := mfn hr7
                omega, rfl, rfl⟩)
