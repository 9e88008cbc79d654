def vopt (G : gT) (w : wT) (v : Option Nat) (od : Option VR) : Prop := (v = none ∧ od = none) ∨ ∃ a d bh, v = some a ∧ od = some d ∧ vehAt G w a d bh
theorem vopt_none {G : gT} {w : wT} {od : Option VR} (h : vopt G w none od) : od = none := by
  rcases h with ⟨-, h⟩ | ⟨a, d, bh, h, -⟩
  · exact h
  · cases h
theorem vopt_some {G : gT} {w : wT} {a : Nat} {od : Option VR} (h : vopt G w (some a) od) : ∃ d ro bh, od = some d ∧ w a = some (cVeh d.1 d.2.1 d.2.2.1 ro bh) ∧ rowAt G w ro d.2.2.2 := by
  rcases h with ⟨h, -⟩ | ⟨a', d, bh, h, h2, ro, h3, h4⟩
  · cases h
  · cases h; exact ⟨d, ro, bh, h2, h3, h4⟩
def isE (od : Option VR) : Bool := match od with
  | none => false
  | some d => decide (d.1.toInt = 1)
def whyR (od : Option VR) : Nat := match od with
  | none => 1
  | some d => if d.1.toInt = 1 then 2 else match d.2.2.2 with
    | none => 1
    | some _ => 0
def whyC (od : Option VR) (i : Int32) : Nat := match od with
  | none => 1
  | some d => if d.1.toInt = 1 then 2 else match d.2.2.2 with
    | none => 1
    | some q => if 0 ≤ i.toInt ∧ i.toInt < q.1 then 0 else 5
abbrev OS : Type := Option (Nat × Int32)
def sopt (G : gT) (w : wT) (sd : Option Nat) (os : OS) : Prop := (sd = none ∧ os = none) ∨ ∃ sa pa n b f, sd = some sa ∧ w sa = some (cSid (some pa) b) ∧ w pa = some (aV G n f) ∧ os = some (n, b) ∧ n ≤ 12
theorem sopt_none {G : gT} {w : wT} {os : OS} (h : sopt G w none os) : os = none := by
  rcases h with ⟨-, h⟩ | ⟨a, b, n, c, f, h, -⟩
  · exact h
  · cases h
theorem sopt_some {G : gT} {w : wT} {a : Nat} {os : OS} (h : sopt G w (some a) os) : ∃ pa n b f, w a = some (cSid (some pa) b) ∧ w pa = some (aV G n f) ∧ os = some (n, b) ∧ n ≤ 12 := by
  rcases h with ⟨h, -⟩ | ⟨sa, pa, n, b, f, h, h2⟩
  · cases h
  · cases h; exact ⟨pa, n, b, f, h2⟩
def whyP (os : OS) (p : Int32) : Nat := match os with
  | none => 1
  | some q => if 0 ≤ p.toInt ∧ p.toInt < q.1 then 0 else 5
abbrev OP : Type := Option (Nat × Nat)
def popt (G : gT) (w : wT) (pl : Option Nat) (op : OP) : Prop := (pl = none ∧ op = none) ∨ ∃ pa nu r c f, pl = some pa ∧ w pa = some (cPln (nI r) (nI c) (some nu)) ∧ w nu = some (aI G (r * c) f) ∧ op = some (r, c) ∧ r ≤ 12 ∧ c ≤ 12
theorem popt_none {G : gT} {w : wT} {os : OP} (h : popt G w none os) : os = none := by
  rcases h with ⟨-, h⟩ | ⟨a, b, n, c, f, h, -⟩
  · exact h
  · cases h
theorem popt_some {G : gT} {w : wT} {a : Nat} {os : OP} (h : popt G w (some a) os) : ∃ nu r c f, w a = some (cPln (nI r) (nI c) (some nu)) ∧ w nu = some (aI G (r * c) f) ∧ os = some (r, c) ∧ r ≤ 12 ∧ c ≤ 12 := by
  rcases h with ⟨h, -⟩ | ⟨sa, pa, n, b, f, h, h2⟩
  · cases h
  · cases h; exact ⟨pa, n, b, f, h2⟩
def whyL (op : OP) (i : Int32) : Nat := match op with
  | none => 1
  | some q => if 0 ≤ i.toInt ∧ i.toInt < q.1 then 0 else 5
def whyN (op : OP) (i j : Int32) : Nat := match op with
  | none => 1
  | some q => if (0 ≤ i.toInt ∧ i.toInt < q.1) ∧ 0 ≤ j.toInt ∧ j.toInt < q.2 then 0 else 5
theorem nI_toI {n : Nat} (h : n ≤ 12) : (nI n).toInt = (n : Int) := nI_toInt (by omega)
theorem whyR_C {od : Option VR} {i : Int32} (h : ¬ nI (whyR od) = 0) : whyR od = whyC od i := by
  cases od with
  | none => rfl
  | some d =>
    simp only [whyR, whyC] at h ⊢
    split
    · rfl
    · rename_i hne
      simp only [if_neg hne] at h
      cases hcr : d.2.2.2 with
      | none => rfl
      | some q => rw [hcr] at h; exact absurd rfl h
theorem whyR0 {G : gT} {w : wT} {v : Option Nat} {od : Option VR} (hv : vopt G w v od) (h : nI (whyR od) = 0) : ∃ (a : Nat) (d : VR) (ro n : Nat) (f : Nat → Int32), v = some a ∧ od = some d ∧ (∃ bh, w a = some (cVeh d.1 d.2.1 d.2.2.1 (some ro) bh)) ∧ ¬ d.1.toInt = 1 ∧ d.2.2.2 = some (n, f) ∧ n ≤ 12 ∧ w ro = some (aI G n f) := by
  rcases hv with ⟨-, rfl⟩ | ⟨a, d, bh, rfl, rfl, ro, h1, h2⟩
  · exact absurd h (by decide)
  · simp only [whyR] at h
    by_cases hne : d.1.toInt = 1
    · rw [if_pos hne] at h; exact absurd h (by decide)
    · rw [if_neg hne] at h
      cases hcr : d.2.2.2 with
      | none => rw [hcr] at h; exact absurd h (by decide)
      | some q =>
        obtain ⟨n, f⟩ := q
        rw [hcr] at h2
        obtain ⟨h3, r, rfl, h4⟩ := h2
        exact ⟨a, d, r, n, f, rfl, rfl, ⟨bh, h1⟩, hne, hcr, h3, h4⟩
theorem whyL_N {op : OP} {i j : Int32} (h : ¬ nI (whyL op i) = 0) : whyL op i = whyN op i j := by
  cases op with
  | none => rfl
  | some q =>
    simp only [whyL, whyN] at h ⊢
    split
    · rename_i h1; rw [if_pos h1] at h; exact absurd rfl h
    · rename_i h1; rw [if_neg (fun z => h1 z.1)]
theorem whyL0 {G : gT} {w : wT} {pl : Option Nat} {op : OP} {i : Int32} (hs : popt G w pl op) (h : nI (whyL op i) = 0) : ∃ (pa nu r c : Nat) (f : Nat → Int32), pl = some pa ∧ w pa = some (cPln (nI r) (nI c) (some nu)) ∧ w nu = some (aI G (r * c) f) ∧ op = some (r, c) ∧ r ≤ 12 ∧ c ≤ 12 ∧ (0 ≤ i.toInt ∧ i.toInt < r) := by
  rcases hs with ⟨-, rfl⟩ | ⟨pa, nu, r, c, f, rfl, h1, h2, rfl, h3, h4⟩
  · exact absurd h (by show ¬ nI 1 = 0; decide)
  · simp only [whyL] at h
    by_cases hi : 0 ≤ i.toInt ∧ i.toInt < r
    · exact ⟨pa, nu, r, c, f, rfl, h1, h2, rfl, h3, h4, hi⟩
    · rw [if_neg hi] at h; exact absurd h (by decide)
set_option maxHeartbeats 4000000 in
set_option maxRecDepth 100000 in
theorem c_X4_isEngine2 (l : Launch) (G : gT) (w : wT) (v : Option Nat) (od : Option VR) (hv : vopt G w v od) : Met l yX4_isEngine wsX4_isEngine ({ frames := 0, cells := 0, slots := 0, locals := 0 }) (va_Pc [va_rf v] (wG G w)) (Qi G (fun r w' => w' = w ∧ r = bI (isE od = true))) 0 0 (fr G) := by
  refine f_met (cc := cX4_isEngine) (maxL := 1) (ret := (some .boolean)) (by decide) rfl (by cases v <;> rfl) (Nat.le_of_ble_eq_true rfl) ?_
  intro p e s m below meth cd X hr hlk hnm Z ls hl
  have X : CallFix p m cd cX4_isEngine 1 s [va_rf v].toArray wsX4_isEngine RX4 := X
  have hl : lV ls _ [some (va_rf v)] := hl
  have i3 : ∀ w ∈ wsX30, w ∈ wsX4_isEngine := by decide +kernel
  refine f_aload (v := va_rf v) X hl ⟨_, rfl, dX4_isEngine_0⟩ rfl ⟨v, rfl⟩ ?_
  refine f_ifnull (tgt := 16) X dX4_isEngine_1 (by decide) (fun c1 => ?_) (fun a1 c1 => ?_)
  · subst c1
    have ho := vopt_none hv; subst ho
    refine lv_iconst (v := 0) X.1 X.2.1 dX4_isEngine_16 (by decide) ?_
    exact f_zret X hr hlk Z (Nat.le_of_ble_eq_true rfl) (Nat.le_of_ble_eq_true rfl) dX4_isEngine_17 (by decide) ⟨rfl, (bI_f (by simp [isE])).symm⟩
  · subst c1
    obtain ⟨d, ro, bh, ho, hc, hro⟩ := vopt_some hv
    subst ho
    refine f_aload (v := .ref a1) X hl ⟨_, rfl, dX4_isEngine_4⟩ rfl ⟨(some a1), rfl⟩ ?_
    refine f_get (v := .int d.1) (k := 0) X Z i3 rfl (by decide) (by decide +kernel) dX4_isEngine_5 hc rfl ?_
    refine lv_iconst (v := 1) X.1 X.2.1 dX4_isEngine_8 (by decide) ?_
    refine lv_icmp_ne (tgt := 16) X.1 X.2.1 dX4_isEngine_9 (by decide) (fun c9 => ?_) (fun c9 => ?_)
    · refine lv_iconst (v := 0) X.1 X.2.1 dX4_isEngine_16 (by decide) ?_
      exact f_zret X hr hlk Z (Nat.le_of_ble_eq_true rfl) (Nat.le_of_ble_eq_true rfl) dX4_isEngine_17 (by decide) ⟨rfl, (bI_f (by simp only [isE, decide_eq_true_eq]; intro h; exact c9 (Int32.toInt_inj.mp h))).symm⟩
    · refine lv_iconst (v := 1) X.1 X.2.1 dX4_isEngine_12 (by decide) ?_
      refine lv_goto (tgt := 17) X.1 X.2.1 dX4_isEngine_13 (by decide) ?_
      exact f_zret X hr hlk Z (Nat.le_of_ble_eq_true rfl) (Nat.le_of_ble_eq_true rfl) dX4_isEngine_17 (by decide) ⟨rfl, (bI_t (by simp only [isE, decide_eq_true_eq]; rw [c9]; rfl)).symm⟩
set_option maxHeartbeats 4000000 in
set_option maxRecDepth 100000 in
theorem c_X1_init (l : Launch) (G : gT) (w : wT) (sd nn : Nat) (b : Int32) (hnn : nn ≤ 12) (hb : b = 0 ∨ b = 1) (h1 : w sd = some (cSid none 0)) : Met l yX1_init wsX1_init ({ frames := 1, cells := 1, slots := 12, locals := 16 }) (va_Pc [.ref sd, .int (nI nn), .int b] (wG G w)) (Qv G (fun w' => ∃ q, w q = none ∧ w' = va_up (va_up w q (some (aV G nn (fun _ => none)))) sd (some (cSid (some q) b)))) 1 12 (fr G) := by
  refine f_met (cc := cX1_init) (maxL := 3) (ret := none) (by decide) rfl rfl (Nat.le_of_ble_eq_true rfl) ?_
  intro p e s m below meth cd X hr hlk hnm Z ls hl
  have X : CallFix p m cd cX1_init 3 s [.ref sd, .int (nI nn), .int b].toArray wsX1_init RX1 := X
  have hl : lV ls _ [some (.ref sd), some (.int (nI nn)), some (.int b)] := hl
  have i1 : ∀ w ∈ wsX10, w ∈ wsX1_init := by decide +kernel
  refine f_aload (v := .ref sd) X hl ⟨_, rfl, dX1_init_0⟩ rfl ⟨(some sd), rfl⟩ ?_
  refine W.objInit X.1 X.2.1 X.2.2.2.1 (X.2.2.2.2 (.methodLink RX1 3 objectInit) (by decide +kernel)) (X.2.2.2.2 (.instanceMethod objectInit) (by decide +kernel)) (X.2.2.2.2 (.code objectInit ⟨#[0xb1]⟩ 1 none) (by decide +kernel)) rfl (by rw [X.2.2.1]; exact hl.1) rfl dX1_init_1 (Nat.le_of_ble_eq_true rfl) (Nat.le_of_ble_eq_true rfl) ?_
  refine W.eq (g2 := F0 m 4 ls []) rfl ?_
  refine f_aload (v := .ref sd) X hl ⟨_, rfl, dX1_init_4⟩ rfl ⟨(some sd), rfl⟩ ?_
  refine f_iload X hl ⟨_, rfl, dX1_init_5⟩ rfl ?_
  refine f_anew (ti := 3) X Z rfl (by decide +kernel) Z.2.2.2.2.2.1 (nI_pos (by omega)) (nI_clamp (by omega)) (by omega) (Nat.le_of_ble_eq_true rfl) (show 0 + nn ≤ 12 by omega) dX1_init_6 (fun q6 H w1 hq6 e2 Z => ?_)
  have e2 : w1 = va_up w q6 (some (aV G nn (fun _ => none))) := e2
  have k3 : w1 sd = some (cSid none 0) := by rw [e2]; exact lk_ne (ad_new h1 hq6) h1
  have k4 : w1 q6 = some (aV G nn (fun _ => none)) := by rw [e2]; exact up_eq
  refine f_putF (v := .ref q6) (ty0 := tyX1) (k := 0) X Z i1 tyX1_ok nmX1 rfl (by decide) (by decide +kernel) rfl hnm rfl dX1_init_9 k3 (nr_a _ (some q6)) (ft_a _ (some q6)) (Nat.le_of_ble_eq_true rfl) (fun H locs w5 e6 Z => ?_)
  have e6 : w5 = va_up w1 sd (some (cSid (some q6) 0)) := e6
  have k7 : w5 q6 = some (aV G nn (fun _ => none)) := by rw [e6]; exact lk_ne (ad_ne k4 k3 dx_io) k4
  have k8 : w5 sd = some (cSid (some q6) 0) := by rw [e6]; exact up_eq
  refine f_aload (v := .ref sd) X hl ⟨_, rfl, dX1_init_12⟩ rfl ⟨(some sd), rfl⟩ ?_
  refine f_iload X hl ⟨_, rfl, dX1_init_13⟩ rfl ?_
  refine f_putF (v := .int b) (ty0 := tyX1) (k := 1) X Z i1 tyX1_ok nmX1 rfl (by decide) (by decide +kernel) rfl hnm rfl dX1_init_14 k8 (by rcases hb with rfl | rfl <;> rfl) (by rcases hb with rfl | rfl <;> rfl) (Nat.le_of_ble_eq_true rfl) (fun H locs w9 e10 Z => ?_)
  have e10 : w9 = va_up w5 sd (some (cSid (some q6) b)) := e10
  have k11 : w9 q6 = some (aV G nn (fun _ => none)) := by rw [e10]; exact lk_ne (ad_ne k7 k8 dx_io) k7
  have k12 : w9 sd = some (cSid (some q6) b) := by rw [e10]; exact up_eq
  exact f_vret X hr hlk Z (Nat.le_of_ble_eq_true rfl) (show 0 + nn ≤ 12 by omega) dX1_init_17 ⟨q6, hq6, by rw [e10, e6, e2, va_uu]⟩
set_option maxHeartbeats 4000000 in
set_option maxRecDepth 100000 in
theorem c_X1_accepts (l : Launch) (G : gT) (w : wT) (sd v : Nat) (pl : Option Nat) (b so we de : Int32) (ro bh : Option Nat) (h1 : w sd = some (cSid pl b)) (h2 : w v = some (cVeh so we de ro bh)) : Met l yX1_accepts wsX1_accepts ({ frames := 0, cells := 0, slots := 0, locals := 0 }) (va_Pc [.ref sd, .ref v] (wG G w)) (Qi G (fun r w' => w' = w ∧ r = bI (b = 0 ∨ so = 3))) 0 0 (fr G) := by
  refine f_met (cc := cX1_accepts) (maxL := 2) (ret := (some .boolean)) (by decide) rfl rfl (Nat.le_of_ble_eq_true rfl) ?_
  intro p e s m below meth cd X hr hlk hnm Z ls hl
  have X : CallFix p m cd cX1_accepts 2 s [.ref sd, .ref v].toArray wsX1_accepts RX1 := X
  have hl : lV ls _ [some (.ref sd), some (.ref v)] := hl
  have i1 : ∀ w ∈ wsX10, w ∈ wsX1_accepts := by decide +kernel
  have i3 : ∀ w ∈ wsX30, w ∈ wsX1_accepts := by decide +kernel
  refine f_aload (v := .ref sd) X hl ⟨_, rfl, dX1_accepts_0⟩ rfl ⟨(some sd), rfl⟩ ?_
  refine f_get (v := .int b) (k := 1) X Z i1 rfl (by decide) (by decide +kernel) dX1_accepts_1 h1 rfl ?_
  refine lv_if_eq (tgt := 15) X.1 X.2.1 dX1_accepts_4 (by decide) (fun c4 => ?_) (fun c4 => ?_)
  · refine lv_iconst (v := 1) X.1 X.2.1 dX1_accepts_15 (by decide) ?_
    refine lv_goto (tgt := 20) X.1 X.2.1 dX1_accepts_16 (by decide) ?_
    exact f_zret X hr hlk Z (Nat.le_of_ble_eq_true rfl) (Nat.le_of_ble_eq_true rfl) dX1_accepts_20 (by decide) ⟨rfl, (bI_t (Or.inl c4)).symm⟩
  · refine f_aload (v := .ref v) X hl ⟨_, rfl, dX1_accepts_7⟩ rfl ⟨(some v), rfl⟩ ?_
    refine f_get (v := .int so) (k := 0) X Z i3 rfl (by decide) (by decide +kernel) dX1_accepts_8 h2 rfl ?_
    refine lv_iconst (v := 3) X.1 X.2.1 dX1_accepts_11 (by decide) ?_
    refine lv_icmp_ne (tgt := 19) X.1 X.2.1 dX1_accepts_12 (by decide) (fun c12 => ?_) (fun c12 => ?_)
    · refine lv_iconst (v := 0) X.1 X.2.1 dX1_accepts_19 (by decide) ?_
      exact f_zret X hr hlk Z (Nat.le_of_ble_eq_true rfl) (Nat.le_of_ble_eq_true rfl) dX1_accepts_20 (by decide) ⟨rfl, (bI_f (fun h => h.elim c4 c12)).symm⟩
    · refine lv_iconst (v := 1) X.1 X.2.1 dX1_accepts_15 (by decide) ?_
      refine lv_goto (tgt := 20) X.1 X.2.1 dX1_accepts_16 (by decide) ?_
      exact f_zret X hr hlk Z (Nat.le_of_ble_eq_true rfl) (Nat.le_of_ble_eq_true rfl) dX1_accepts_20 (by decide) ⟨rfl, (bI_t (Or.inr c12)).symm⟩
set_option maxHeartbeats 4000000 in
set_option maxRecDepth 100000 in
theorem c_X0_init (l : Launch) (G : gT) (w : wT) (pn r k : Nat) (hr0 : r ≤ 12) (hk0 : k ≤ 12) (hrk : r * k ≤ 144) (h1 : w pn = some (cPln 0 0 none)) : Met l yX0_init wsX0_init ({ frames := 1, cells := 1, slots := 144, locals := 16 }) (va_Pc [.ref pn, .int (nI r), .int (nI k)] (wG G w)) (Qv G (fun w' => ∃ q, w q = none ∧ w' = va_up (va_up w q (some (aI G (r * k) (fun _ => 0)))) pn (some (cPln (nI r) (nI k) (some q))))) 1 144 (fr G) := by
  refine f_met (cc := cX0_init) (maxL := 3) (ret := none) (by decide) rfl rfl (Nat.le_of_ble_eq_true rfl) ?_
  intro p e s m below meth cd X hr hlk hnm Z ls hl
  have X : CallFix p m cd cX0_init 3 s [.ref pn, .int (nI r), .int (nI k)].toArray wsX0_init RX0 := X
  have hl : lV ls _ [some (.ref pn), some (.int (nI r)), some (.int (nI k))] := hl
  have i0 : ∀ w ∈ wsX00, w ∈ wsX0_init := by decide +kernel
  refine f_aload (v := .ref pn) X hl ⟨_, rfl, dX0_init_0⟩ rfl ⟨(some pn), rfl⟩ ?_
  refine W.objInit X.1 X.2.1 X.2.2.2.1 (X.2.2.2.2 (.methodLink RX0 1 objectInit) (by decide +kernel)) (X.2.2.2.2 (.instanceMethod objectInit) (by decide +kernel)) (X.2.2.2.2 (.code objectInit ⟨#[0xb1]⟩ 1 none) (by decide +kernel)) rfl (by rw [X.2.2.1]; exact hl.1) rfl dX0_init_1 (Nat.le_of_ble_eq_true rfl) (Nat.le_of_ble_eq_true rfl) ?_
  refine W.eq (g2 := F0 m 4 ls []) rfl ?_
  refine f_aload (v := .ref pn) X hl ⟨_, rfl, dX0_init_4⟩ rfl ⟨(some pn), rfl⟩ ?_
  refine f_iload X hl ⟨_, rfl, dX0_init_5⟩ rfl ?_
  refine f_putF (v := .int (nI r)) (ty0 := tyX0) (k := 0) X Z i0 tyX0_ok nmX0 rfl (by decide) (by decide +kernel) rfl hnm rfl dX0_init_6 h1 rfl rfl (Nat.le_of_ble_eq_true rfl) (fun H locs w1 e2 Z => ?_)
  have e2 : w1 = va_up w pn (some (cPln (nI r) 0 none)) := e2
  have k3 : w1 pn = some (cPln (nI r) 0 none) := by rw [e2]; exact up_eq
  refine f_aload (v := .ref pn) X hl ⟨_, rfl, dX0_init_9⟩ rfl ⟨(some pn), rfl⟩ ?_
  refine f_iload X hl ⟨_, rfl, dX0_init_10⟩ rfl ?_
  refine f_putF (v := .int (nI k)) (ty0 := tyX0) (k := 1) X Z i0 tyX0_ok nmX0 rfl (by decide) (by decide +kernel) rfl hnm rfl dX0_init_11 k3 rfl rfl (Nat.le_of_ble_eq_true rfl) (fun H locs w4 e5 Z => ?_)
  have e5 : w4 = va_up w1 pn (some (cPln (nI r) (nI k) none)) := e5
  have k6 : w4 pn = some (cPln (nI r) (nI k) none) := by rw [e5]; exact up_eq
  refine f_aload (v := .ref pn) X hl ⟨_, rfl, dX0_init_14⟩ rfl ⟨(some pn), rfl⟩ ?_
  refine f_iload X hl ⟨_, rfl, dX0_init_15⟩ rfl ?_
  refine f_iload X hl ⟨_, rfl, dX0_init_16⟩ rfl ?_
  refine lv_imul X.1 X.2.1 dX0_init_17 ?_
  refine f_newa (ti := 0) X Z rfl (by decide +kernel) rfl (fun _ h => by cases h) rfl (by rw [pk_mul]; exact nI_pos (by omega)) (by rw [pk_mul]; exact nI_clamp (by omega)) (show r * k * 4 ≤ 536870912 by omega) (Nat.le_of_ble_eq_true rfl) (show 0 + r * k ≤ 144 by omega) dX0_init_18 (fun q18 H w7 hq18 e8 Z => ?_)
  have e8 : w7 = va_up w4 q18 (some (aI G (r * k) (fun _ => 0))) := e8
  have k9 : w7 pn = some (cPln (nI r) (nI k) none) := by rw [e8]; exact lk_ne (ad_new k6 hq18) k6
  have k10 : w7 q18 = some (aI G (r * k) (fun _ => 0)) := by rw [e8]; exact up_eq
  refine f_putF (v := .ref q18) (ty0 := tyX0) (k := 2) X Z i0 tyX0_ok nmX0 rfl (by decide) (by decide +kernel) rfl hnm rfl dX0_init_20 k9 (nr_a _ (some q18)) (ft_a _ (some q18)) (Nat.le_of_ble_eq_true rfl) (fun H locs w11 e12 Z => ?_)
  have e12 : w11 = va_up w7 pn (some (cPln (nI r) (nI k) (some q18))) := e12
  have k13 : w11 q18 = some (aI G (r * k) (fun _ => 0)) := by rw [e12]; exact lk_ne (ad_ne k10 k9 dx_io) k10
  have k14 : w11 pn = some (cPln (nI r) (nI k) (some q18)) := by rw [e12]; exact up_eq
  exact f_vret X hr hlk Z (Nat.le_of_ble_eq_true rfl) (show 0 + r * k ≤ 144 by omega) dX0_init_23 (by
      have hpq : pn ≠ q18 := ad_new (by assumption) hq18
      rw [e5, e2, va_uu, up_ne hpq.symm] at hq18
      exact ⟨q18, hq18, by rw [e12, e8, e5, e2, va_uu, va_comm hpq, va_uu]⟩)
set_option maxHeartbeats 4000000 in
set_option maxRecDepth 100000 in
theorem c_X0_slot (l : Launch) (G : gT) (w : wT) (pn : Nat) (r k i j : Int32) (nu : Option Nat) (h1 : w pn = some (cPln r k nu)) : Met l yX0_slot wsX0_slot ({ frames := 0, cells := 0, slots := 0, locals := 0 }) (va_Pc [.ref pn, .int i, .int j] (wG G w)) (Qi G (fun v w' => w' = w ∧ v = i * k + j)) 0 0 (fr G) := by
  refine f_met (cc := cX0_slot) (maxL := 3) (ret := (some .int)) (by decide) rfl rfl (Nat.le_of_ble_eq_true rfl) ?_
  intro p e s m below meth cd X hr hlk hnm Z ls hl
  have X : CallFix p m cd cX0_slot 3 s [.ref pn, .int i, .int j].toArray wsX0_slot RX0 := X
  have hl : lV ls _ [some (.ref pn), some (.int i), some (.int j)] := hl
  have i0 : ∀ w ∈ wsX00, w ∈ wsX0_slot := by decide +kernel
  refine f_iload X hl ⟨_, rfl, dX0_slot_0⟩ rfl ?_
  refine f_aload (v := .ref pn) X hl ⟨_, rfl, dX0_slot_1⟩ rfl ⟨(some pn), rfl⟩ ?_
  refine f_get (v := .int k) (k := 1) X Z i0 rfl (by decide) (by decide +kernel) dX0_slot_2 h1 rfl ?_
  refine lv_imul X.1 X.2.1 dX0_slot_5 ?_
  refine f_iload X hl ⟨_, rfl, dX0_slot_6⟩ rfl ?_
  refine lv_iadd X.1 X.2.1 dX0_slot_7 ?_
  exact f_iret X hr hlk Z (Nat.le_of_ble_eq_true rfl) (Nat.le_of_ble_eq_true rfl) dX0_slot_8 ⟨rfl, rfl⟩
set_option maxHeartbeats 4000000 in
set_option maxRecDepth 100000 in
theorem c_X4_tell (l : Launch) (G : gT) (w : wT) (h0 ta to : Nat) (sd pl : Option Nat) (lv pc : Int32) (h1 : w h0 = some (cTs (some ta) (some to) sd pl lv pc)) (td : Nat → Int32) (k : Nat) (hk : k < 8) (h2 : w to = some (aI G 8 td)) : Met l yX4_tell wsX4_tell ({ frames := 0, cells := 0, slots := 0, locals := 0 }) (va_Pc [.ref h0, .int (nI k)] (wG G w)) (Qi G (fun r w' => r = -10 - nI k ∧ w' = va_up w to (some (aI G 8 (upd td k (td k + 1)))))) 0 0 (fr G) := by
  refine f_met (cc := cX4_tell) (maxL := 2) (ret := (some .int)) (by decide) rfl rfl (Nat.le_of_ble_eq_true rfl) ?_
  intro p e s m below meth cd X hr hlk hnm Z ls hl
  have X : CallFix p m cd cX4_tell 2 s [.ref h0, .int (nI k)].toArray wsX4_tell RX4 := X
  have hl : lV ls _ [some (.ref h0), some (.int (nI k))] := hl
  have i4 : ∀ w ∈ wsX40, w ∈ wsX4_tell := by decide +kernel
  refine f_aload (v := .ref h0) X hl ⟨_, rfl, dX4_tell_0⟩ rfl ⟨(some h0), rfl⟩ ?_
  refine f_get (v := .ref to) (k := 1) X Z i4 rfl (by decide) (by decide +kernel) dX4_tell_1 h1 rfl ?_
  refine f_iload X hl ⟨_, rfl, dX4_tell_4⟩ rfl ?_
  refine lv_dup2_11 X.1 X.2.1 dX4_tell_5 rfl rfl ?_
  refine f_iald X Z dX4_tell_6 h2 (vp_in_nI hk (by omega)) ?_
  refine lv_iconst (v := 1) X.1 X.2.1 dX4_tell_7 (by decide) ?_
  refine lv_iadd X.1 X.2.1 dX4_tell_8 ?_
  refine f_iast X Z dX4_tell_9 h2 (vp_in_nI hk (by omega)) (fun H locs w1 e2 Z => ?_)
  have e2 : w1 = va_up w to (some (aI G 8 (upd td (nI k).toNatClampNeg ((td (nI k).toNatClampNeg) + 1)))) := e2
  have k3 : w1 h0 = some (cTs (some ta) (some to) sd pl lv pc) := by rw [e2]; exact lk_ne (ad_ne h1 h2 dx_oi) h1
  have k4 : w1 to = some (aI G 8 (upd td (nI k).toNatClampNeg ((td (nI k).toNatClampNeg) + 1))) := by rw [e2]; exact up_eq
  refine lv_bipush (v := (-10)) X.1 X.2.1 dX4_tell_10 (by decide) ?_
  refine f_iload X hl ⟨_, rfl, dX4_tell_12⟩ rfl ?_
  refine lv_isub X.1 X.2.1 dX4_tell_13 ?_
  exact f_iret X hr hlk Z (Nat.le_of_ble_eq_true rfl) (Nat.le_of_ble_eq_true rfl) dX4_tell_14 ⟨rfl, by rw [e2, nI_clamp (by omega)]⟩
set_option maxHeartbeats 4000000 in
set_option maxRecDepth 100000 in
theorem c_X4_tellLevel (l : Launch) (G : gT) (w : wT) (h0 ta to : Nat) (sd pl : Option Nat) (lv pc : Int32) (h1 : w h0 = some (cTs (some ta) (some to) sd pl lv pc)) (td : Nat → Int32) (k : Nat) (x : Int32) (hk : k < 8) (h2 : w to = some (aI G 8 td)) : Met l yX4_tellLevel wsX4_tellLevel ({ frames := 1, cells := 0, slots := 0, locals := 21 }) (va_Pc [.ref h0, .int (nI k), .int x] (wG G w)) (Qi G (fun r w' => r = -10 - nI k ∧ w' = va_up (va_up w h0 (some (cTs (some ta) (some to) sd pl x pc))) to (some (aI G 8 (upd td k (td k + 1)))))) 0 0 (fr G) := by
  refine f_met (cc := cX4_tellLevel) (maxL := 3) (ret := (some .int)) (by decide) rfl rfl (Nat.le_of_ble_eq_true rfl) ?_
  intro p e s m below meth cd X hr hlk hnm Z ls hl
  have X : CallFix p m cd cX4_tellLevel 3 s [.ref h0, .int (nI k), .int x].toArray wsX4_tellLevel RX4 := X
  have hl : lV ls _ [some (.ref h0), some (.int (nI k)), some (.int x)] := hl
  have i4 : ∀ w ∈ wsX40, w ∈ wsX4_tellLevel := by decide +kernel
  refine f_aload (v := .ref h0) X hl ⟨_, rfl, dX4_tellLevel_0⟩ rfl ⟨(some h0), rfl⟩ ?_
  refine f_iload X hl ⟨_, rfl, dX4_tellLevel_1⟩ rfl ?_
  refine f_put (v := .int x) (ty0 := tyX4) (k := 4) X Z i4 tyX4_ok nmX4 rfl (by decide) (by decide +kernel) rfl dX4_tellLevel_2 h1 rfl rfl (Nat.le_of_ble_eq_true rfl) (fun H locs w1 e2 Z => ?_)
  have e2 : w1 = va_up w h0 (some (cTs (some ta) (some to) sd pl x pc)) := e2
  have k3 : w1 to = some (aI G 8 td) := by rw [e2]; exact lk_ne (ad_ne h2 h1 dx_io) h2
  have k4 : w1 h0 = some (cTs (some ta) (some to) sd pl x pc) := by rw [e2]; exact up_eq
  refine f_aload (v := .ref h0) X hl ⟨_, rfl, dX4_tellLevel_5⟩ rfl ⟨(some h0), rfl⟩ ?_
  refine f_iload X hl ⟨_, rfl, dX4_tellLevel_6⟩ rfl ?_
  refine f_callVi (rest := []) X Z hl.1 (c_X4_tell l G w1 h0 ta to sd pl x pc k4 td k hk k3) (cwV 1 X.2.2.2.2 gX4_tellLevel_X4_tell rfl rfl rfl (by decide +kernel) ⟨(Nat.le_of_ble_eq_true rfl), (Nat.le_of_ble_eq_true rfl)⟩) rfl rfl dX4_tellLevel_7 ⟨(Nat.le_of_ble_eq_true rfl), (Nat.le_of_ble_eq_true rfl)⟩ rfl (Nat.le_of_ble_eq_true rfl) k4 (fun r7 w5 H locs p7 Z => ?_)
  obtain ⟨hr7, hw7⟩ := p7
  exact f_iret X hr hlk Z (Nat.le_of_ble_eq_true rfl) (Nat.le_of_ble_eq_true rfl) dX4_tellLevel_10 ⟨hr7, by rw [hw7, e2]⟩
set_option maxHeartbeats 4000000 in
set_option maxRecDepth 100000 in
theorem c_X4_whyNoRow (l : Launch) (G : gT) (w : wT) (v : Option Nat) (od : Option VR) (hv : vopt G w v od) : Met l yX4_whyNoRow wsX4_whyNoRow ({ frames := 1, cells := 0, slots := 0, locals := 20 }) (va_Pc [va_rf v] (wG G w)) (Qi G (fun r w' => w' = w ∧ r = nI (whyR od))) 0 0 (fr G) := by
  refine f_met (cc := cX4_whyNoRow) (maxL := 1) (ret := (some .int)) (by decide) rfl (by cases v <;> rfl) (Nat.le_of_ble_eq_true rfl) ?_
  intro p e s m below meth cd X hr hlk hnm Z ls hl
  have X : CallFix p m cd cX4_whyNoRow 1 s [va_rf v].toArray wsX4_whyNoRow RX4 := X
  have hl : lV ls _ [some (va_rf v)] := hl
  have i3 : ∀ w ∈ wsX30, w ∈ wsX4_whyNoRow := by decide +kernel
  refine f_aload (v := va_rf v) X hl ⟨_, rfl, dX4_whyNoRow_0⟩ rfl ⟨v, rfl⟩ ?_
  refine f_callSi (rest := []) X Z hl.1 (c_X4_isEngine2 l G w _ _ hv) (va_cwS 1 X.2.2.2.2 gX4_whyNoRow_X4_isEngine rfl rfl rfl (by decide +kernel) ⟨(Nat.le_of_ble_eq_true rfl), (Nat.le_of_ble_eq_true rfl)⟩) rfl dX4_whyNoRow_1 ⟨(Nat.le_of_ble_eq_true rfl), (Nat.le_of_ble_eq_true rfl)⟩ rfl (Nat.le_of_ble_eq_true rfl) (fun r1 w1 H locs p1 Z => ?_)
  obtain ⟨w1e, hr1⟩ := p1
  have w1e := w1e.symm
  subst w1e
  refine lv_if_eq (tgt := 9) X.1 X.2.1 dX4_whyNoRow_4 (by decide) (fun c4 => ?_) (fun c4 => ?_)
  · rw [hr1, bI_0] at c4
    refine f_aload (v := va_rf v) X hl ⟨_, rfl, dX4_whyNoRow_9⟩ rfl ⟨v, rfl⟩ ?_
    refine f_ifnull (tgt := 20) X dX4_whyNoRow_10 (by decide) (fun c10 => ?_) (fun a10 c10 => ?_)
    · subst c10
      have ho := vopt_none hv; subst ho
      refine lv_iconst (v := 1) X.1 X.2.1 dX4_whyNoRow_20 (by decide) ?_
      refine lv_goto (tgt := 25) X.1 X.2.1 dX4_whyNoRow_21 (by decide) ?_
      exact f_iret X hr hlk Z (Nat.le_of_ble_eq_true rfl) (Nat.le_of_ble_eq_true rfl) dX4_whyNoRow_25 ⟨rfl, rfl⟩
    · subst c10
      obtain ⟨d, ro, bh, ho, hc, hro⟩ := vopt_some hv
      subst ho
      refine f_aload (v := .ref a10) X hl ⟨_, rfl, dX4_whyNoRow_13⟩ rfl ⟨(some a10), rfl⟩ ?_
      refine f_get (v := va_rf ro) (k := 3) X Z i3 rfl (by decide) (by decide +kernel) dX4_whyNoRow_14 hc rfl ?_
      refine f_ifnonnull (tgt := 24) X dX4_whyNoRow_17 (by decide) (fun a17 c17 => ?_) (fun c17 => ?_)
      · subst c17
        obtain ⟨n, f, hcr, hn12, -⟩ := rowAt_some hro
        refine lv_iconst (v := 0) X.1 X.2.1 dX4_whyNoRow_24 (by decide) ?_
        exact f_iret X hr hlk Z (Nat.le_of_ble_eq_true rfl) (Nat.le_of_ble_eq_true rfl) dX4_whyNoRow_25 ⟨rfl, by simp only [isE, decide_eq_true_eq] at c4; simp only [whyR, hcr, if_neg c4]; rfl⟩
      · subst c17
        have hcr := rowAt_none hro
        refine lv_iconst (v := 1) X.1 X.2.1 dX4_whyNoRow_20 (by decide) ?_
        refine lv_goto (tgt := 25) X.1 X.2.1 dX4_whyNoRow_21 (by decide) ?_
        exact f_iret X hr hlk Z (Nat.le_of_ble_eq_true rfl) (Nat.le_of_ble_eq_true rfl) dX4_whyNoRow_25 ⟨rfl, by simp only [isE, decide_eq_true_eq] at c4; simp only [whyR, hcr, if_neg c4]; rfl⟩
  · rw [hr1, bI_0, Classical.not_not] at c4
    refine lv_iconst (v := 2) X.1 X.2.1 dX4_whyNoRow_7 (by decide) ?_
    exact f_iret X hr hlk Z (Nat.le_of_ble_eq_true rfl) (Nat.le_of_ble_eq_true rfl) dX4_whyNoRow_8 ⟨rfl, by
        cases od with
        | none => simp [isE] at c4
        | some d => simp only [isE, decide_eq_true_eq] at c4; simp only [whyR, c4, if_pos]; rfl⟩
set_option maxHeartbeats 4000000 in
set_option maxRecDepth 100000 in
theorem c_X4_whyNoCrate (l : Launch) (G : gT) (w : wT) (v : Option Nat) (od : Option VR) (i : Int32) (hv : vopt G w v od) : Met l yX4_whyNoCrate wsX4_whyNoCrate ({ frames := 2, cells := 0, slots := 0, locals := 40 }) (va_Pc [va_rf v, .int i] (wG G w)) (Qi G (fun r w' => w' = w ∧ r = nI (whyC od i))) 0 0 (fr G) := by
  refine f_met (cc := cX4_whyNoCrate) (maxL := 3) (ret := (some .int)) (by decide) rfl (by cases v <;> rfl) (Nat.le_of_ble_eq_true rfl) ?_
  intro p e s m below meth cd X hr hlk hnm Z ls hl
  have X : CallFix p m cd cX4_whyNoCrate 3 s [va_rf v, .int i].toArray wsX4_whyNoCrate RX4 := X
  have hl : lV ls _ [some (va_rf v), some (.int i), none] := hl
  have i3 : ∀ w ∈ wsX30, w ∈ wsX4_whyNoCrate := by decide +kernel
  refine f_aload (v := va_rf v) X hl ⟨_, rfl, dX4_whyNoCrate_0⟩ rfl ⟨v, rfl⟩ ?_
  refine f_callSi (rest := []) X Z hl.1 (c_X4_whyNoRow l G w _ _ hv) (va_cwS 1 X.2.2.2.2 gX4_whyNoCrate_X4_whyNoRow rfl rfl rfl (by decide +kernel) ⟨(Nat.le_of_ble_eq_true rfl), (Nat.le_of_ble_eq_true rfl)⟩) rfl dX4_whyNoCrate_1 ⟨(Nat.le_of_ble_eq_true rfl), (Nat.le_of_ble_eq_true rfl)⟩ rfl (Nat.le_of_ble_eq_true rfl) (fun r1 w1 H locs p1 Z => ?_)
  obtain ⟨w1e, hr1⟩ := p1
  have w1e := w1e.symm
  subst w1e
  refine f_istore X hl ⟨_, rfl, dX4_whyNoCrate_4⟩ (by decide) (fun ls hl => ?_)
  have hl : lV ls _ [some (va_rf v), some (.int i), some (.int r1)] := hl
  refine f_iload X hl ⟨_, rfl, dX4_whyNoCrate_5⟩ rfl ?_
  refine lv_if_eq (tgt := 11) X.1 X.2.1 dX4_whyNoCrate_6 (by decide) (fun c6 => ?_) (fun c6 => ?_)
  · rw [hr1] at c6
    obtain ⟨a1, d, ro, n, f, rfl, rfl, ⟨bh0, hc⟩, hne, hcr, h5, hcf⟩ := whyR0 hv c6
    refine f_iload X hl ⟨_, rfl, dX4_whyNoCrate_11⟩ rfl ?_
    refine lv_if_lt (tgt := 28) X.1 X.2.1 dX4_whyNoCrate_12 (by decide) (fun c12 => ?_) (fun c12 => ?_)
    · refine lv_iconst (v := 5) X.1 X.2.1 dX4_whyNoCrate_28 (by decide) ?_
      exact f_iret X hr hlk Z (Nat.le_of_ble_eq_true rfl) (Nat.le_of_ble_eq_true rfl) dX4_whyNoCrate_29 ⟨rfl, by
          have h6 := h5
          simp only [whyC, if_neg hne, hcr]; split <;> first | rfl | (exfalso; (try simp only [Int32.lt_iff_toInt_lt, Int32.le_iff_toInt_le, kc_0, nI_toI h5, nI_toI h6] at *; omega))⟩
    · refine f_iload X hl ⟨_, rfl, dX4_whyNoCrate_15⟩ rfl ?_
      refine f_aload (v := .ref a1) X hl ⟨_, rfl, dX4_whyNoCrate_16⟩ rfl ⟨(some a1), rfl⟩ ?_
      refine f_get (v := .ref ro) (k := 3) X Z i3 rfl (by decide) (by decide +kernel) dX4_whyNoCrate_17 hc rfl ?_
      refine f_alenI X Z dX4_whyNoCrate_20 hcf ?_
      refine lv_icmp_ge (tgt := 28) X.1 X.2.1 dX4_whyNoCrate_21 (by decide) (fun c21 => ?_) (fun c21 => ?_)
      · refine lv_iconst (v := 5) X.1 X.2.1 dX4_whyNoCrate_28 (by decide) ?_
        exact f_iret X hr hlk Z (Nat.le_of_ble_eq_true rfl) (Nat.le_of_ble_eq_true rfl) dX4_whyNoCrate_29 ⟨rfl, by
            have h6 := h5
            simp only [whyC, if_neg hne, hcr]; split <;> first | rfl | (exfalso; (try simp only [Int32.lt_iff_toInt_lt, Int32.le_iff_toInt_le, kc_0, nI_toI h5, nI_toI h6] at *; omega))⟩
      · refine lv_iconst (v := 0) X.1 X.2.1 dX4_whyNoCrate_24 (by decide) ?_
        refine lv_goto (tgt := 29) X.1 X.2.1 dX4_whyNoCrate_25 (by decide) ?_
        exact f_iret X hr hlk Z (Nat.le_of_ble_eq_true rfl) (Nat.le_of_ble_eq_true rfl) dX4_whyNoCrate_29 ⟨rfl, by
            have h6 := h5
            simp only [whyC, if_neg hne, hcr]; split <;> first | rfl | (exfalso; (try simp only [Int32.lt_iff_toInt_lt, Int32.le_iff_toInt_le, kc_0, nI_toI h5, nI_toI h6] at *; omega))⟩
  · refine f_iload X hl ⟨_, rfl, dX4_whyNoCrate_9⟩ rfl ?_
    exact f_iret X hr hlk Z (Nat.le_of_ble_eq_true rfl) (Nat.le_of_ble_eq_true rfl) dX4_whyNoCrate_10 ⟨rfl, by
        rw [hr1] at c6 ⊢
        exact congrArg nI (whyR_C c6)⟩
set_option maxHeartbeats 4000000 in
set_option maxRecDepth 100000 in
theorem c_X4_whyNoPlace (l : Launch) (G : gT) (w : wT) (h0 ta to : Nat) (sd pl : Option Nat) (lv pc : Int32) (h1 : w h0 = some (cTs (some ta) (some to) sd pl lv pc)) (os : OS) (p0 : Int32) (hs : sopt G w sd os) : Met l yX4_whyNoPlace wsX4_whyNoPlace ({ frames := 0, cells := 0, slots := 0, locals := 0 }) (va_Pc [.ref h0, .int p0] (wG G w)) (Qi G (fun r w' => w' = w ∧ r = nI (whyP os p0))) 0 0 (fr G) := by
  refine f_met (cc := cX4_whyNoPlace) (maxL := 2) (ret := (some .int)) (by decide) rfl rfl (Nat.le_of_ble_eq_true rfl) ?_
  intro p e s m below meth cd X hr hlk hnm Z ls hl
  have X : CallFix p m cd cX4_whyNoPlace 2 s [.ref h0, .int p0].toArray wsX4_whyNoPlace RX4 := X
  have hl : lV ls _ [some (.ref h0), some (.int p0)] := hl
  have i1 : ∀ w ∈ wsX10, w ∈ wsX4_whyNoPlace := by decide +kernel
  have i4 : ∀ w ∈ wsX40, w ∈ wsX4_whyNoPlace := by decide +kernel
  refine f_aload (v := .ref h0) X hl ⟨_, rfl, dX4_whyNoPlace_0⟩ rfl ⟨(some h0), rfl⟩ ?_
  refine f_get (v := va_rf sd) (k := 2) X Z i4 rfl (by decide) (by decide +kernel) dX4_whyNoPlace_1 h1 rfl ?_
  refine f_ifnonnull (tgt := 9) X dX4_whyNoPlace_4 (by decide) (fun a4 c4 => ?_) (fun c4 => ?_)
  · subst c4
    obtain ⟨pa, n, b, f, hc, hf, ho, h5⟩ := sopt_some hs
    subst ho
    refine f_iload X hl ⟨_, rfl, dX4_whyNoPlace_9⟩ rfl ?_
    refine lv_if_lt (tgt := 29) X.1 X.2.1 dX4_whyNoPlace_10 (by decide) (fun c10 => ?_) (fun c10 => ?_)
    · refine lv_iconst (v := 5) X.1 X.2.1 dX4_whyNoPlace_29 (by decide) ?_
      exact f_iret X hr hlk Z (Nat.le_of_ble_eq_true rfl) (Nat.le_of_ble_eq_true rfl) dX4_whyNoPlace_30 ⟨rfl, by
          have h6 := h5
          simp only [whyP]; split <;> first | rfl | (exfalso; (try simp only [Int32.lt_iff_toInt_lt, Int32.le_iff_toInt_le, kc_0, nI_toI h5, nI_toI h6] at *; omega))⟩
    · refine f_iload X hl ⟨_, rfl, dX4_whyNoPlace_13⟩ rfl ?_
      refine f_aload (v := .ref h0) X hl ⟨_, rfl, dX4_whyNoPlace_14⟩ rfl ⟨(some h0), rfl⟩ ?_
      refine f_get (v := .ref a4) (k := 2) X Z i4 rfl (by decide) (by decide +kernel) dX4_whyNoPlace_15 h1 rfl ?_
      refine f_get (v := .ref pa) (k := 0) X Z i1 rfl (by decide) (by decide +kernel) dX4_whyNoPlace_18 hc rfl ?_
      refine f_alenV X Z dX4_whyNoPlace_21 hf ?_
      refine lv_icmp_ge (tgt := 29) X.1 X.2.1 dX4_whyNoPlace_22 (by decide) (fun c22 => ?_) (fun c22 => ?_)
      · refine lv_iconst (v := 5) X.1 X.2.1 dX4_whyNoPlace_29 (by decide) ?_
        exact f_iret X hr hlk Z (Nat.le_of_ble_eq_true rfl) (Nat.le_of_ble_eq_true rfl) dX4_whyNoPlace_30 ⟨rfl, by
            have h6 := h5
            simp only [whyP]; split <;> first | rfl | (exfalso; (try simp only [Int32.lt_iff_toInt_lt, Int32.le_iff_toInt_le, kc_0, nI_toI h5, nI_toI h6] at *; omega))⟩
      · refine lv_iconst (v := 0) X.1 X.2.1 dX4_whyNoPlace_25 (by decide) ?_
        refine lv_goto (tgt := 30) X.1 X.2.1 dX4_whyNoPlace_26 (by decide) ?_
        exact f_iret X hr hlk Z (Nat.le_of_ble_eq_true rfl) (Nat.le_of_ble_eq_true rfl) dX4_whyNoPlace_30 ⟨rfl, by
            have h6 := h5
            simp only [whyP]; split <;> first | rfl | (exfalso; (try simp only [Int32.lt_iff_toInt_lt, Int32.le_iff_toInt_le, kc_0, nI_toI h5, nI_toI h6] at *; omega))⟩
  · subst c4
    have ho := sopt_none hs; subst ho
    refine lv_iconst (v := 1) X.1 X.2.1 dX4_whyNoPlace_7 (by decide) ?_
    exact f_iret X hr hlk Z (Nat.le_of_ble_eq_true rfl) (Nat.le_of_ble_eq_true rfl) dX4_whyNoPlace_8 ⟨rfl, rfl⟩
set_option maxHeartbeats 4000000 in
set_option maxRecDepth 100000 in
theorem c_X4_whyNoPlanRow (l : Launch) (G : gT) (w : wT) (h0 ta to : Nat) (sd pl : Option Nat) (lv pc : Int32) (h1 : w h0 = some (cTs (some ta) (some to) sd pl lv pc)) (op : OP) (i : Int32) (hs : popt G w pl op) : Met l yX4_whyNoPlanRow wsX4_whyNoPlanRow ({ frames := 0, cells := 0, slots := 0, locals := 0 }) (va_Pc [.ref h0, .int i] (wG G w)) (Qi G (fun r w' => w' = w ∧ r = nI (whyL op i))) 0 0 (fr G) := by
  refine f_met (cc := cX4_whyNoPlanRow) (maxL := 2) (ret := (some .int)) (by decide) rfl rfl (Nat.le_of_ble_eq_true rfl) ?_
  intro p e s m below meth cd X hr hlk hnm Z ls hl
  have X : CallFix p m cd cX4_whyNoPlanRow 2 s [.ref h0, .int i].toArray wsX4_whyNoPlanRow RX4 := X
  have hl : lV ls _ [some (.ref h0), some (.int i)] := hl
  have i0 : ∀ w ∈ wsX00, w ∈ wsX4_whyNoPlanRow := by decide +kernel
  have i4 : ∀ w ∈ wsX40, w ∈ wsX4_whyNoPlanRow := by decide +kernel
  refine f_aload (v := .ref h0) X hl ⟨_, rfl, dX4_whyNoPlanRow_0⟩ rfl ⟨(some h0), rfl⟩ ?_
  refine f_get (v := va_rf pl) (k := 3) X Z i4 rfl (by decide) (by decide +kernel) dX4_whyNoPlanRow_1 h1 rfl ?_
  refine f_ifnonnull (tgt := 9) X dX4_whyNoPlanRow_4 (by decide) (fun a4 c4 => ?_) (fun c4 => ?_)
  · subst c4
    obtain ⟨nu, r, k, f, hc, hf, ho, h5, h6⟩ := popt_some hs
    subst ho
    refine f_iload X hl ⟨_, rfl, dX4_whyNoPlanRow_9⟩ rfl ?_
    refine lv_if_lt (tgt := 28) X.1 X.2.1 dX4_whyNoPlanRow_10 (by decide) (fun c10 => ?_) (fun c10 => ?_)
    · refine lv_iconst (v := 5) X.1 X.2.1 dX4_whyNoPlanRow_28 (by decide) ?_
      exact f_iret X hr hlk Z (Nat.le_of_ble_eq_true rfl) (Nat.le_of_ble_eq_true rfl) dX4_whyNoPlanRow_29 ⟨rfl, by
          simp only [whyL]; split <;> first | rfl | (exfalso; (try simp only [Int32.lt_iff_toInt_lt, Int32.le_iff_toInt_le, kc_0, nI_toI h5, nI_toI h6] at *; omega))⟩
    · refine f_iload X hl ⟨_, rfl, dX4_whyNoPlanRow_13⟩ rfl ?_
      refine f_aload (v := .ref h0) X hl ⟨_, rfl, dX4_whyNoPlanRow_14⟩ rfl ⟨(some h0), rfl⟩ ?_
      refine f_get (v := .ref a4) (k := 3) X Z i4 rfl (by decide) (by decide +kernel) dX4_whyNoPlanRow_15 h1 rfl ?_
      refine f_get (v := .int (nI r)) (k := 0) X Z i0 rfl (by decide) (by decide +kernel) dX4_whyNoPlanRow_18 hc rfl ?_
      refine lv_icmp_ge (tgt := 28) X.1 X.2.1 dX4_whyNoPlanRow_21 (by decide) (fun c21 => ?_) (fun c21 => ?_)
      · refine lv_iconst (v := 5) X.1 X.2.1 dX4_whyNoPlanRow_28 (by decide) ?_
        exact f_iret X hr hlk Z (Nat.le_of_ble_eq_true rfl) (Nat.le_of_ble_eq_true rfl) dX4_whyNoPlanRow_29 ⟨rfl, by
            simp only [whyL]; split <;> first | rfl | (exfalso; (try simp only [Int32.lt_iff_toInt_lt, Int32.le_iff_toInt_le, kc_0, nI_toI h5, nI_toI h6] at *; omega))⟩
      · refine lv_iconst (v := 0) X.1 X.2.1 dX4_whyNoPlanRow_24 (by decide) ?_
        refine lv_goto (tgt := 29) X.1 X.2.1 dX4_whyNoPlanRow_25 (by decide) ?_
        exact f_iret X hr hlk Z (Nat.le_of_ble_eq_true rfl) (Nat.le_of_ble_eq_true rfl) dX4_whyNoPlanRow_29 ⟨rfl, by
            simp only [whyL]; split <;> first | rfl | (exfalso; (try simp only [Int32.lt_iff_toInt_lt, Int32.le_iff_toInt_le, kc_0, nI_toI h5, nI_toI h6] at *; omega))⟩
  · subst c4
    have ho := popt_none hs; subst ho
    refine lv_iconst (v := 1) X.1 X.2.1 dX4_whyNoPlanRow_7 (by decide) ?_
    exact f_iret X hr hlk Z (Nat.le_of_ble_eq_true rfl) (Nat.le_of_ble_eq_true rfl) dX4_whyNoPlanRow_8 ⟨rfl, rfl⟩
set_option maxHeartbeats 4000000 in
set_option maxRecDepth 100000 in
theorem c_X4_whyNoNumber (l : Launch) (G : gT) (w : wT) (h0 ta to : Nat) (sd pl : Option Nat) (lv pc : Int32) (h1 : w h0 = some (cTs (some ta) (some to) sd pl lv pc)) (op : OP) (i j : Int32) (hs : popt G w pl op) : Met l yX4_whyNoNumber wsX4_whyNoNumber ({ frames := 1, cells := 0, slots := 0, locals := 21 }) (va_Pc [.ref h0, .int i, .int j] (wG G w)) (Qi G (fun r w' => w' = w ∧ r = nI (whyN op i j))) 0 0 (fr G) := by
  refine f_met (cc := cX4_whyNoNumber) (maxL := 4) (ret := (some .int)) (by decide) rfl rfl (Nat.le_of_ble_eq_true rfl) ?_
  intro p e s m below meth cd X hr hlk hnm Z ls hl
  have X : CallFix p m cd cX4_whyNoNumber 4 s [.ref h0, .int i, .int j].toArray wsX4_whyNoNumber RX4 := X
  have hl : lV ls _ [some (.ref h0), some (.int i), some (.int j), none] := hl
  have i0 : ∀ w ∈ wsX00, w ∈ wsX4_whyNoNumber := by decide +kernel
  have i4 : ∀ w ∈ wsX40, w ∈ wsX4_whyNoNumber := by decide +kernel
  refine f_aload (v := .ref h0) X hl ⟨_, rfl, dX4_whyNoNumber_0⟩ rfl ⟨(some h0), rfl⟩ ?_
  refine f_iload X hl ⟨_, rfl, dX4_whyNoNumber_1⟩ rfl ?_
  refine f_callVi (rest := []) X Z hl.1 (c_X4_whyNoPlanRow l G w h0 ta to sd pl lv pc h1 op i hs) (cwV 1 X.2.2.2.2 gX4_whyNoNumber_X4_whyNoPlanRow rfl rfl rfl (by decide +kernel) ⟨(Nat.le_of_ble_eq_true rfl), (Nat.le_of_ble_eq_true rfl)⟩) rfl rfl dX4_whyNoNumber_2 ⟨(Nat.le_of_ble_eq_true rfl), (Nat.le_of_ble_eq_true rfl)⟩ rfl (Nat.le_of_ble_eq_true rfl) h1 (fun r2 w1 H locs p2 Z => ?_)
  obtain ⟨w1e, hr2⟩ := p2
  have w1e := w1e.symm
  subst w1e
  refine f_istore X hl ⟨_, rfl, dX4_whyNoNumber_5⟩ (by decide) (fun ls hl => ?_)
  have hl : lV ls _ [some (.ref h0), some (.int i), some (.int j), some (.int r2)] := hl
  refine f_iload X hl ⟨_, rfl, dX4_whyNoNumber_6⟩ rfl ?_
  refine lv_if_eq (tgt := 12) X.1 X.2.1 dX4_whyNoNumber_7 (by decide) (fun c7 => ?_) (fun c7 => ?_)
  · rw [hr2] at c7
    obtain ⟨pa, nu, r, k, f, rfl, hc, hf, rfl, h5, h6, hin⟩ := whyL0 hs c7
    refine f_iload X hl ⟨_, rfl, dX4_whyNoNumber_12⟩ rfl ?_
    refine lv_if_lt (tgt := 31) X.1 X.2.1 dX4_whyNoNumber_13 (by decide) (fun c13 => ?_) (fun c13 => ?_)
    · refine lv_iconst (v := 5) X.1 X.2.1 dX4_whyNoNumber_31 (by decide) ?_
      exact f_iret X hr hlk Z (Nat.le_of_ble_eq_true rfl) (Nat.le_of_ble_eq_true rfl) dX4_whyNoNumber_32 ⟨rfl, by
          simp only [whyN]; split <;> first | rfl | (exfalso; (try simp only [Int32.lt_iff_toInt_lt, Int32.le_iff_toInt_le, kc_0, nI_toI h5, nI_toI h6] at *; omega))⟩
    · refine f_iload X hl ⟨_, rfl, dX4_whyNoNumber_16⟩ rfl ?_
      refine f_aload (v := .ref h0) X hl ⟨_, rfl, dX4_whyNoNumber_17⟩ rfl ⟨(some h0), rfl⟩ ?_
      refine f_get (v := .ref pa) (k := 3) X Z i4 rfl (by decide) (by decide +kernel) dX4_whyNoNumber_18 h1 rfl ?_
      refine f_get (v := .int (nI k)) (k := 1) X Z i0 rfl (by decide) (by decide +kernel) dX4_whyNoNumber_21 hc rfl ?_
      refine lv_icmp_ge (tgt := 31) X.1 X.2.1 dX4_whyNoNumber_24 (by decide) (fun c24 => ?_) (fun c24 => ?_)
      · refine lv_iconst (v := 5) X.1 X.2.1 dX4_whyNoNumber_31 (by decide) ?_
        exact f_iret X hr hlk Z (Nat.le_of_ble_eq_true rfl) (Nat.le_of_ble_eq_true rfl) dX4_whyNoNumber_32 ⟨rfl, by
            simp only [whyN]; split <;> first | rfl | (exfalso; (try simp only [Int32.lt_iff_toInt_lt, Int32.le_iff_toInt_le, kc_0, nI_toI h5, nI_toI h6] at *; omega))⟩
      · refine lv_iconst (v := 0) X.1 X.2.1 dX4_whyNoNumber_27 (by decide) ?_
        refine lv_goto (tgt := 32) X.1 X.2.1 dX4_whyNoNumber_28 (by decide) ?_
        exact f_iret X hr hlk Z (Nat.le_of_ble_eq_true rfl) (Nat.le_of_ble_eq_true rfl) dX4_whyNoNumber_32 ⟨rfl, by
            simp only [whyN]; split <;> first | rfl | (exfalso; (try simp only [Int32.lt_iff_toInt_lt, Int32.le_iff_toInt_le, kc_0, nI_toI h5, nI_toI h6] at *; omega))⟩
  · refine f_iload X hl ⟨_, rfl, dX4_whyNoNumber_10⟩ rfl ?_
    exact f_iret X hr hlk Z (Nat.le_of_ble_eq_true rfl) (Nat.le_of_ble_eq_true rfl) dX4_whyNoNumber_11 ⟨rfl, by
        rw [hr2] at c7 ⊢
        exact congrArg nI (whyL_N c7)⟩
