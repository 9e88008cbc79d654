section RC2
variable {G : gT} {tg : tT} {w w' : wT} {h0 c ta to : Nat} {y : Yd} {tf : Nat → Option Nat} {tk : Nat → Nat} {sd pl : Option Nat} {T : Nat → LV}
theorem rowAt.up {S : Nat → Prop} {tg' : tT} {ro : Option Nat} {cr : CR} {a : Nat} (h : rowAt G w ro cr) (ht : ∀ r, ro = some r → tg r = (5, a)) (hU : Up S w tg w' tg') (hS : ∀ r, S r → tg r ≠ (5, a)) : rowAt G w' ro cr ∧ ∀ r, ro = some r → tg' r = (5, a) := by
  cases cr with
  | none => exact ⟨h, fun r z => by rw [show ro = none from h] at z; cases z⟩
  | some q =>
    obtain ⟨n, f⟩ := q
    obtain ⟨q1, r, q2, q3⟩ := h
    exact ⟨⟨q1, r, q2, (hU r _ q3).2.2 (fun z => hS r z (ht r q2))⟩, fun r' z => by rw [q2] at z; cases z; exact (hU r _ q3).1.trans (ht r q2)⟩
/-- one vehicle's record changes: its own cell, and perhaps its crates' -/
theorem RepCx.put {S : Nat → Prop} {tg' : tT} {t k a : Nat} {d d' : VR} (h : RepCx G tg w h0 c y ta to tf tk sd pl T) (ht : t < 6) (hT : (T t)[k]? = some (a, d)) (hU : Up S w tg w' tg') (hS : ∀ b, S b → b = a ∨ tg b = (5, a)) (hp : PC G w' tg' a d' (nx (T t) k)) : RepCx G tg' w' h0 c (yset t ((y.1 t).set k d') y) ta to tf tk sd pl (va_up T t ((T t).set k (a, d'))) := by
  obtain ⟨h1, h2, h3, h4, h5, h6, h7, h8, h9⟩ := id h
  have hlt := (List.getElem?_eq_some_iff.mp hT).1
  have ga : tg a = (4, 0) := (h6.1 t k a d hT).1
  have hS' : ∀ b, S b → tg b = (4, 0) ∨ tg b = (5, a) := fun b hb => (hS b hb).elim (fun z => Or.inl (by rw [z]; exact ga)) Or.inr
  have no : ∀ τ : Nat × Nat, τ.1 ≠ 4 → τ.1 ≠ 5 → ∀ b, S b → tg b ≠ τ := by
    intro τ n1 n2 b hb z
    rcases hS' b hb with q | q
    · rw [q] at z; exact n1 (by rw [← z])
    · rw [q] at z; exact n2 (by rw [← z])
  refine h.make (y' := yset t ((y.1 t).set k d') y) hU (no _ (by decide) (by decide)) (cu h1 hU (no _ (by decide) (by decide))).1 (cu h4 hU (no _ (by decide) (by decide))).1 (fun u hu => ?_) (h6.put hT hp ?_) (map_up h7 (by rw [List.map_set, h7 t])) (h8.up (T' := va_up T t ((T t).set k (a, d'))) hU (fun b hb => ⟨no _ (by decide) (by decide) b hb, no _ (by decide) (by decide) b hb⟩) ?_) (h9.up hU (fun b hb => ⟨no _ (by decide) (by decide) b hb, no _ (by decide) (by decide) b hb⟩))
  · have e := (cu (h5 u hu) hU (no _ (by show (3 : Nat) ≠ 4; decide) (by show (3 : Nat) ≠ 5; decide))).1
    by_cases hut : u = t
    · subst hut
      rw [up_at, e]
      have : hd ((T u).set k (a, d')) = hd (T u) := by
        unfold hd
        by_cases hk : k = 0
        · subst hk
          rw [List.getElem?_set_self hlt, hT]; rfl
        · rw [List.getElem?_set_ne hk]
      rw [this, List.length_set]
    · rw [up_off hut]; exact e
  · intro b e bh hb hpb
    exact hpb.up hU (fun z => (hS b z).elim hb (fun q => by rw [hpb.1] at q; cases q)) (fun r z q => by
      rcases hS' r z with p | p
      · rw [p] at q; cases q
      · rw [p] at q; cases q; exact hb rfl)
  · exact fun p hp => up_off (by omega)
def Tclr (T : Nat → LV) : Nat → LV := fun t => if t < 6 then T t else []
theorem Tclr_map (h : ∀ t, (T t).map Prod.snd = y.1 t) : ∀ t, (Tclr T t).map Prod.snd = yclr y.1 t := by
  intro t
  by_cases ht : t < 6
  · simp [Tclr, yclr, ht, h t]
  · simp [Tclr, yclr, ht]
theorem Tclr_F {P : Nat → VR → Option Nat → Prop} (h : Forest P T) : Forest P (Tclr T) := h.clear (fun t => by by_cases ht : t < 6 <;> simp [Tclr, ht]) (fun _ _ _ _ _ h => h)
theorem RepCx.siding {n sa pa : Nat} {b : Int32} (h : RepCx G tg w h0 c y ta to tf tk sd pl T) (hn : n ≤ 12) (n1 : w sa = none) (n2 : w pa = none) (hne : sa ≠ pa) (e0 : w' h0 = some (cTs (some ta) (some to) (some sa) pl y.2.2.2.2.1 (nI c))) (e1 : w' sa = some (cSid (some pa) b)) (e2 : w' pa = some (aV G n (fun _ => none))) (eo : ∀ b, b ≠ h0 → b ≠ sa → b ≠ pa → w' b = w b) : RepCx G (va_up (va_up tg sa (6, 0)) pa (7, 0)) w' h0 c (yclr y.1, some (n, b), y.2.2) ta to tf tk (some sa) pl (Tclr T) := by
  obtain ⟨h1, h2, h3, h4, h5, h6, h7, h8, h9⟩ := id h
  have g : tg h0 = (0, 0) := h1.2
  have hU : Up (fun b => b = h0) w tg w' (va_up (va_up tg sa (6, 0)) pa (7, 0)) := Up.by (fun b e hb hS => eo b hS (ad_new hb n1) (ad_new hb n2)) (by rintro _ rfl; exact ⟨_, e0⟩) (fun b e hb => by rw [up_off (ad_new hb n2), up_off (ad_new hb n1)])
  exact h.obj (y' := (yclr y.1, some (n, b), y.2.2)) hU e0 rfl (fun t ht => by simp [Tclr, ht]) Tclr_F (Tclr_map h7) (Or.inr ⟨sa, pa, n, b, _, rfl, ⟨e1, by rw [up_off hne, up_at]⟩, ⟨e2, up_at⟩, rfl, hn, fun p hp => by simp [Tclr, hd, show ¬ 6 + p < 6 by omega]⟩) (h9.up hU (by rintro _ rfl; rw [g]; decide))
theorem RepCx.awayS (h : RepCx G tg w h0 c y ta to tf tk sd pl T) (hw : w' = va_up w h0 (some (cTs (some ta) (some to) none pl y.2.2.2.2.1 (nI c)))) : RepCx G tg w' h0 c (yclr y.1, none, y.2.2) ta to tf tk none pl (Tclr T) := by
  subst hw
  obtain ⟨h1, h2, h3, h4, h5, h6, h7, h8, h9⟩ := id h
  have g : tg h0 = (0, 0) := h1.2
  exact h.obj (y' := (yclr y.1, none, y.2.2)) Up.obj up_eq rfl (fun t ht => by simp [Tclr, ht]) Tclr_F (Tclr_map h7) (Or.inl ⟨rfl, rfl⟩) (h9.up Up.obj (by rintro _ rfl; rw [g]; decide))
theorem RepCx.awayP (h : RepCx G tg w h0 c y ta to tf tk sd pl T) (hw : w' = va_up w h0 (some (cTs (some ta) (some to) sd none y.2.2.2.2.1 (nI c)))) : RepCx G tg w' h0 c (y.1, y.2.1, none, y.2.2.2) ta to tf tk sd none T := by
  subst hw
  obtain ⟨h1, h2, h3, h4, h5, h6, h7, h8, h9⟩ := id h
  have g : tg h0 = (0, 0) := h1.2
  exact h.obj (y' := (y.1, y.2.1, none, y.2.2.2)) Up.obj up_eq rfl (fun t ht => rfl) id h7 (h8.up Up.obj (by rintro _ rfl; rw [g]; decide) (fun _ _ => rfl)) (Or.inl ⟨rfl, rfl⟩)
theorem RepCx.plan {r k pa nu : Nat} (h : RepCx G tg w h0 c y ta to tf tk sd pl T) (hr : r ≤ 12) (hk : k ≤ 12) (n1 : w pa = none) (n2 : w nu = none) (hne : pa ≠ nu) (e0 : w' h0 = some (cTs (some ta) (some to) sd (some pa) y.2.2.2.2.1 (nI c))) (e1 : w' pa = some (cPln (nI r) (nI k) (some nu))) (e2 : w' nu = some (aI G (r * k) (fun _ => 0))) (eo : ∀ b, b ≠ h0 → b ≠ pa → b ≠ nu → w' b = w b) : RepCx G (va_up (va_up tg pa (8, 0)) nu (9, 0)) w' h0 c (y.1, y.2.1, some (r, k), fun _ _ => 0, y.2.2.2.2) ta to tf tk sd (some pa) T := by
  obtain ⟨h1, h2, h3, h4, h5, h6, h7, h8, h9⟩ := id h
  have g : tg h0 = (0, 0) := h1.2
  have hU : Up (fun b => b = h0) w tg w' (va_up (va_up tg pa (8, 0)) nu (9, 0)) := Up.by (fun b e hb hS => eo b hS (ad_new hb n1) (ad_new hb n2)) (by rintro _ rfl; exact ⟨_, e0⟩) (fun b e hb => by rw [up_off (ad_new hb n2), up_off (ad_new hb n1)])
  exact h.obj (y' := (y.1, y.2.1, some (r, k), fun _ _ => 0, y.2.2.2.2)) hU e0 rfl (fun t ht => rfl) id h7 (h8.up hU (by rintro _ rfl; rw [g]; decide) (fun _ _ => rfl)) (Or.inr ⟨pa, nu, r, k, _, rfl, ⟨e1, by rw [up_off hne, up_at]⟩, ⟨e2, up_at⟩, rfl, hr, hk, fun i j hi hj => rfl⟩)
theorem ix_inj {c i j i' j' : Nat} (hj : j < c) (hj' : j' < c) (h : i * c + j = i' * c + j') : i = i' ∧ j = j' := by
  have h1 : (i * c + j) / c = i := by rw [Nat.mul_comm, Nat.mul_add_div (by omega), Nat.div_eq_of_lt hj, Nat.add_zero]
  have h2 : (i' * c + j') / c = i' := by rw [Nat.mul_comm, Nat.mul_add_div (by omega), Nat.div_eq_of_lt hj', Nat.add_zero]
  rw [h, h2] at h1
  subst h1
  exact ⟨rfl, by omega⟩
theorem RepCx.note {i j r k nu pa : Nat} {x : Int32} {f : Nat → Int32} (h : RepCx G tg w h0 c y ta to tf tk sd pl T) (hop : y.2.2.1 = some (r, k)) (hpl : pl = some pa) (hpa : w pa = some (cPln (nI r) (nI k) (some nu))) (hnu : w nu = some (aI G (r * k) f)) (hi : i < r) (hj : j < k) (hw : w' = va_up w nu (some (aI G (r * k) (upd f (i * k + j) x)))) : RepCx G tg w' h0 c (y.1, y.2.1, y.2.2.1, upd2 y.2.2.2.1 i j x, y.2.2.2.2) ta to tf tk sd pl T := by
  subst hw
  obtain ⟨h1, h2, h3, h4, h5, h6, h7, h8, h9⟩ := id h
  rcases h9 with ⟨-, z⟩ | ⟨pa', nu', r', k', f', q1, q2, q3, q4, q5, q6, q7⟩
  · rw [hop] at z; cases z
  rw [hop] at q4; cases q4
  rw [hpl] at q1; cases q1
  have e1 := q2.1.symm.trans hpa
  simp at e1
  have e2 : nu' = nu := by
    have := e1; cases this; rfl
  subst e2
  have e3 : f' = f := by have := q3.1.symm.trans hnu; simp at this; exact this
  subst e3
  have g : tg nu' = (9, 0) := q3.2
  have hU : Up (fun b => b = nu') w tg (va_up w nu' (some (aI G (r * k) (upd f' (i * k + j) x)))) tg := Up.by (fun b e _ hb => up_ne hb) (by rintro _ rfl; exact ⟨_, up_eq⟩) (fun _ _ _ => rfl)
  refine h.make (y' := (y.1, y.2.1, y.2.2.1, upd2 y.2.2.2.1 i j x, y.2.2.2.2)) hU (by rintro _ rfl; rw [g]; decide) (cu h1 hU (by rintro _ rfl; rw [g]; decide)).1 (cu h4 hU (by rintro _ rfl; rw [g]; decide)).1 (fun t ht => (cu (h5 t ht) hU (by rintro _ rfl; rw [g]; simp)).1) (FC.up h6 hU (by rintro _ rfl; rw [g]; decide)) h7 (h8.up hU (by rintro _ rfl; rw [g]; decide) (fun _ _ => rfl)) (Or.inr ⟨pa, nu', r, k, _, hpl, cu q2 hU (by rintro _ rfl; rw [g]; decide), ⟨up_eq, g⟩, hop, q5, q6, fun a b ha hb => ?_⟩)
  by_cases hab : a = i ∧ b = j
  · obtain ⟨rfl, rfl⟩ := hab
    simp [upd, upd2]
  · have : ¬ a * k + b = i * k + j := fun z => hab (ix_inj hb hj z)
    simp only [upd, upd2, if_neg this, if_neg hab]
    exact q7 a b ha hb
theorem RepCx.stow {t p a n sa pa : Nat} {b : Int32} {f : Nat → Option Nat} {d : VR} {L : LV} (h : RepCx G tg w h0 c y ta to tf tk sd pl T) (ht : t < 6) (hT : T t = (a, d) :: L) (hos : y.2.1 = some (n, b)) (hsd : sd = some sa) (hsa : w sa = some (cSid (some pa) b)) (hpa : w pa = some (aV G n f)) (hp : p < n) (e1 : ∀ ro bh, w a = some (cVeh d.1 d.2.1 d.2.2.1 ro bh) → w' a = some (cVeh d.1 d.2.1 d.2.2.1 ro none)) (e2 : w' (tk t) = some (cTrk (hd L) (nI L.length))) (e3 : w' pa = some (aV G n (va_up f p (some a)))) (eo : ∀ b, b ≠ a → b ≠ tk t → b ≠ pa → w' b = w b) : RepCx G tg w' h0 c (yset (6 + p) [d] (yset t (L.map Prod.snd) y)) ta to tf tk sd pl (va_up (va_up T t L) (6 + p) [(a, d)]) := by
  obtain ⟨h1, h2, h3, h4, h5, h6, h7, h8, h9⟩ := id h
  rcases h8 with ⟨-, z⟩ | ⟨sa', pa', n', b', f', q1, q2, q3, q4, q5, q6⟩
  · rw [hos] at z; cases z
  rw [hos] at q4; cases q4
  rw [hsd] at q1; cases q1
  have e4 : pa' = pa := by have := q2.1.symm.trans hsa; cases this; rfl
  subst e4
  have e5 : f' = f := by have := q3.1.symm.trans hpa; simp at this; exact this
  subst e5
  have g2 : tg pa' = (7, 0) := q3.2
  have h0t : (T t)[0]? = some (a, d) := by rw [hT]; rfl
  obtain ⟨ga, ro, c1, c2, c3⟩ := h6.1 t 0 a d h0t
  have g1 : tg (tk t) = (3, t) := (h5 t ht).2
  have hU : Up (fun b => b = a ∨ b = tk t ∨ b = pa') w tg w' tg := Up.by (fun b e hb hS => eo b (fun z => hS (Or.inl z)) (fun z => hS (Or.inr (Or.inl z))) (fun z => hS (Or.inr (Or.inr z)))) (by rintro _ (rfl | rfl | rfl); exact ⟨_, e1 _ _ c1⟩; exact ⟨_, e2⟩; exact ⟨_, e3⟩) (fun b e hb => rfl)
  have hLd : L = (T t).drop 1 := by rw [hT]; rfl
  have hrow := c2.up c3 hU (by rintro _ (rfl | rfl | rfl); rw [ga]; simp; rw [g1]; simp; rw [g2]; simp)
  have F1 : Forest (PC G w tg) (va_up T (6 + p) []) := h6.clear (fun u => by by_cases hu : u = 6 + p <;> simp [va_up, hu]) (fun _ _ _ _ _ z => z)
  have T1t : va_up T (6 + p) [] t = T t := up_off (by omega)
  have keep : ∀ (b : Nat) (e : VR) (bh : Option Nat), b ≠ a → PC G w tg b e bh → PC G w' tg b e bh := fun b e bh hb hp => hp.up hU (by rintro (rfl | rfl | rfl); exact hb rfl; have := hp.1; rw [g1] at this; cases this; have := hp.1; rw [g2] at this; cases this) (by rintro _ (rfl | rfl | rfl); rw [ga]; simp; rw [g1]; simp; rw [g2]; simp)
  have F2 : Forest (PC G w' tg) (va_up (va_up T (6 + p) []) t ((va_up T (6 + p) [] t).drop 1)) := Forest.drop 1 F1 (fun u i b e hq hi hpb => keep b e _ (by
    rintro rfl
    obtain ⟨z1, z2⟩ := F1.2 _ _ _ _ _ _ _ hq (show (va_up T (6 + p) [] t)[0]? = some (b, d) by rw [T1t]; exact h0t)
    have := hi z1
    omega) hpb)
  have F3 := Forest.push (P' := PC G w' tg) (t := 6 + p) (a := a) (d := d) F2 (by
    intro u i e z
    by_cases hu : u = t
    · subst hu
      rw [up_at, T1t, List.getElem?_drop] at z
      have := (h6.2 _ _ _ _ _ _ _ z h0t).2
      omega
    · rw [up_off hu] at z
      by_cases hu2 : u = 6 + p
      · subst hu2; rw [up_at] at z; simp at z
      · rw [up_off hu2] at z
        exact hu (h6.2 _ _ _ _ _ _ _ z h0t).1) ⟨ga, ro, by
      have : hd (va_up (va_up T (6 + p) []) t ((va_up T (6 + p) [] t).drop 1) (6 + p)) = none := by rw [up_off (by omega), up_at]; rfl
      rw [this]; exact e1 _ _ c1, hrow⟩ (fun b e bh _ z => z)
  have hTT : va_up (va_up (va_up T (6 + p) []) t ((va_up T (6 + p) [] t).drop 1)) (6 + p) ((a, d) :: va_up (va_up T (6 + p) []) t ((va_up T (6 + p) [] t).drop 1) (6 + p)) = va_up (va_up T t L) (6 + p) [(a, d)] := by
    funext u
    by_cases hu2 : u = 6 + p
    · subst hu2; rw [up_at, up_at, up_off (by omega), up_at]
    · rw [up_off hu2, up_off hu2]
      by_cases hu : u = t
      · subst hu; rw [up_at, up_at, T1t, ← hLd]
      · rw [up_off hu, up_off hu, up_off hu2]
  rw [hTT] at F3
  refine h.make (y' := yset (6 + p) [d] (yset t (L.map Prod.snd) y)) hU (by rintro _ (rfl | rfl | rfl); rw [ga]; decide; rw [g1]; simp; rw [g2]; simp) (cu h1 hU (by rintro _ (rfl | rfl | rfl); rw [ga]; decide; rw [g1]; simp; rw [g2]; simp)).1 (cu h4 hU (by rintro _ (rfl | rfl | rfl); rw [ga]; decide; rw [g1]; simp; rw [g2]; simp)).1 (fun v hv => ?_) F3 (map_up (map_up h7 rfl) rfl) (Or.inr ⟨sa, pa', n, b, _, hsd, cu q2 hU (by rintro _ (rfl | rfl | rfl); rw [ga]; decide; rw [g1]; simp; rw [g2]; simp), ⟨e3, g2⟩, hos, q5, fun p' hp' => ?_⟩) (h9.up hU (by rintro _ (rfl | rfl | rfl); rw [ga]; decide; rw [g1]; simp; rw [g2]; simp))
  · rw [up_off (by omega)]
    by_cases hvt : v = t
    · subst hvt
      rw [up_at]; exact e2
    · rw [up_off hvt]
      exact (cu (h5 v hv) hU (by rintro _ (rfl | rfl | rfl); rw [ga]; simp; rw [g1]; simp [Ne.symm hvt]; rw [g2]; simp)).1
  · by_cases hpp : p' = p
    · subst hpp; rw [up_at, up_at]; rfl
    · rw [up_off hpp, up_off (by omega), up_off (by omega)]; exact q6 p' hp'
theorem RepCx.stowN {p n sa pa : Nat} {b : Int32} {f : Nat → Option Nat} (h : RepCx G tg w h0 c y ta to tf tk sd pl T) (hos : y.2.1 = some (n, b)) (hsd : sd = some sa) (hsa : w sa = some (cSid (some pa) b)) (hpa : w pa = some (aV G n f)) (hp : p < n) (hw : w' = va_up w pa (some (aV G n (va_up f p none)))) : RepCx G tg w' h0 c (yset (6 + p) [] y) ta to tf tk sd pl (va_up T (6 + p) []) := by
  subst hw
  obtain ⟨h1, h2, h3, h4, h5, h6, h7, h8, h9⟩ := id h
  rcases h8 with ⟨-, z⟩ | ⟨sa', pa', n', b', f', q1, q2, q3, q4, q5, q6⟩
  · rw [hos] at z; cases z
  rw [hos] at q4; cases q4
  rw [hsd] at q1; cases q1
  have e4 : pa' = pa := by have := q2.1.symm.trans hsa; cases this; rfl
  subst e4
  have e5 : f' = f := by have := q3.1.symm.trans hpa; simp at this; exact this
  subst e5
  have g : tg pa' = (7, 0) := q3.2
  have hU : Up (fun b => b = pa') w tg (va_up w pa' (some (aV G n (va_up f' p none)))) tg := Up.by (fun b e _ hb => up_ne hb) (by rintro _ rfl; exact ⟨_, up_eq⟩) (fun _ _ _ => rfl)
  refine h.make (y' := yset (6 + p) [] y) hU (by rintro _ rfl; rw [g]; decide) (cu h1 hU (by rintro _ rfl; rw [g]; decide)).1 (cu h4 hU (by rintro _ rfl; rw [g]; decide)).1 (fun v hv => by rw [show va_up T (6 + p) [] v = T v from up_off (by omega)]; exact (cu (h5 v hv) hU (by rintro _ rfl; rw [g]; simp)).1) ((FC.up h6 hU (by rintro _ rfl; rw [g]; decide)).clear (fun u => by by_cases hu : u = 6 + p <;> simp [va_up, hu]) (fun _ _ _ _ _ z => z)) (map_up h7 rfl) (Or.inr ⟨sa, pa', n, b, _, hsd, cu q2 hU (by rintro _ rfl; rw [g]; decide), ⟨up_eq, g⟩, hos, q5, fun p' hp' => ?_⟩) (h9.up hU (by rintro _ rfl; rw [g]; decide))
  by_cases hpp : p' = p
  · subst hpp; rw [up_at, up_at]; rfl
  · rw [up_off hpp, up_off (by omega)]; exact q6 p' hp'
theorem RepCx.fetch {t p a n sa pa : Nat} {b : Int32} {f : Nat → Option Nat} {d : VR} {L : LV} (h : RepCx G tg w h0 c y ta to tf tk sd pl T) (ht : t < 6) (hT : T (6 + p) = (a, d) :: L) (hos : y.2.1 = some (n, b)) (hsd : sd = some sa) (hsa : w sa = some (cSid (some pa) b)) (hpa : w pa = some (aV G n f)) (hp : p < n) (e1 : ∀ ro bh, w a = some (cVeh d.1 d.2.1 d.2.2.1 ro bh) → w' a = some (cVeh d.1 d.2.1 d.2.2.1 ro (hd (T t)))) (e2 : w' (tk t) = some (cTrk (some a) (nI (T t).length + 1))) (e3 : w' pa = some (aV G n (va_up f p none))) (eo : ∀ b, b ≠ a → b ≠ tk t → b ≠ pa → w' b = w b) : RepCx G tg w' h0 c (yset t (d :: y.1 t) (yset (6 + p) [] y)) ta to tf tk sd pl (va_up (va_up T (6 + p) []) t ((a, d) :: T t)) := by
  obtain ⟨h1, h2, h3, h4, h5, h6, h7, h8, h9⟩ := id h
  rcases h8 with ⟨-, z⟩ | ⟨sa', pa', n', b', f', q1, q2, q3, q4, q5, q6⟩
  · rw [hos] at z; cases z
  rw [hos] at q4; cases q4
  rw [hsd] at q1; cases q1
  have e4 : pa' = pa := by have := q2.1.symm.trans hsa; cases this; rfl
  subst e4
  have e5 : f' = f := by have := q3.1.symm.trans hpa; simp at this; exact this
  subst e5
  have g2 : tg pa' = (7, 0) := q3.2
  have h0t : (T (6 + p))[0]? = some (a, d) := by rw [hT]; rfl
  obtain ⟨ga, ro, c1, c2, c3⟩ := h6.1 (6 + p) 0 a d h0t
  have g1 : tg (tk t) = (3, t) := (h5 t ht).2
  have hU : Up (fun b => b = a ∨ b = tk t ∨ b = pa') w tg w' tg := Up.by (fun b e hb hS => eo b (fun z => hS (Or.inl z)) (fun z => hS (Or.inr (Or.inl z))) (fun z => hS (Or.inr (Or.inr z)))) (by rintro _ (rfl | rfl | rfl); exact ⟨_, e1 _ _ c1⟩; exact ⟨_, e2⟩; exact ⟨_, e3⟩) (fun b e hb => rfl)
  have hrow := c2.up c3 hU (by rintro _ (rfl | rfl | rfl); rw [ga]; simp; rw [g1]; simp; rw [g2]; simp)
  have F1 : Forest (PC G w tg) (va_up T (6 + p) []) := h6.clear (fun u => by by_cases hu : u = 6 + p <;> simp [va_up, hu]) (fun _ _ _ _ _ z => z)
  have T1t : va_up T (6 + p) [] t = T t := up_off (by omega)
  have keep : ∀ (b : Nat) (e : VR) (bh : Option Nat), b ≠ a → PC G w tg b e bh → PC G w' tg b e bh := fun b e bh hb hp => hp.up hU (by rintro (rfl | rfl | rfl); exact hb rfl; have := hp.1; rw [g1] at this; cases this; have := hp.1; rw [g2] at this; cases this) (by rintro _ (rfl | rfl | rfl); rw [ga]; simp; rw [g1]; simp; rw [g2]; simp)
  have F3 := Forest.push (P' := PC G w' tg) (t := t) (a := a) (d := d) F1 (by
    intro u i e z
    by_cases hu2 : u = 6 + p
    · subst hu2; rw [up_at] at z; simp at z
    · rw [up_off hu2] at z
      exact hu2 (h6.2 _ _ _ _ _ _ _ z h0t).1) ⟨ga, ro, by rw [T1t]; exact e1 _ _ c1, hrow⟩ keep
  rw [T1t] at F3
  refine h.make (y' := yset t (d :: y.1 t) (yset (6 + p) [] y)) hU (by rintro _ (rfl | rfl | rfl); rw [ga]; decide; rw [g1]; simp; rw [g2]; simp) (cu h1 hU (by rintro _ (rfl | rfl | rfl); rw [ga]; decide; rw [g1]; simp; rw [g2]; simp)).1 (cu h4 hU (by rintro _ (rfl | rfl | rfl); rw [ga]; decide; rw [g1]; simp; rw [g2]; simp)).1 (fun v hv => ?_) F3 (map_up (map_up h7 rfl) (by simp [h7 t])) (Or.inr ⟨sa, pa', n, b, _, hsd, cu q2 hU (by rintro _ (rfl | rfl | rfl); rw [ga]; decide; rw [g1]; simp; rw [g2]; simp), ⟨e3, g2⟩, hos, q5, fun p' hp' => ?_⟩) (h9.up hU (by rintro _ (rfl | rfl | rfl); rw [ga]; decide; rw [g1]; simp; rw [g2]; simp))
  · by_cases hvt : v = t
    · subst hvt
      rw [up_at, e2, List.length_cons, nI_1]; rfl
    · rw [up_off hvt, up_off (by omega)]
      exact (cu (h5 v hv) hU (by rintro _ (rfl | rfl | rfl); rw [ga]; simp; rw [g1]; simp [Ne.symm hvt]; rw [g2]; simp)).1
  · rw [up_off (show 6 + p' ≠ t by omega)]
    by_cases hpp : p' = p
    · subst hpp; rw [up_at, up_at]; rfl
    · rw [up_off hpp, up_off (by omega)]; exact q6 p' hp'
/-- what the model's cells do is nothing to these -/
theorem RepCx.frame {S : Nat → Prop} {tg' : tT} (h : RepCx G tg w h0 c y ta to tf tk sd pl T) (hU : Up S w tg w' tg') (hS : ∀ b, S b → 10 ≤ (tg b).1) : RepCx G tg' w' h0 c y ta to tf tk sd pl T := by
  obtain ⟨h1, h2, h3, h4, h5, h6, h7, h8, h9⟩ := id h
  have no : ∀ τ : Nat × Nat, τ.1 < 10 → ∀ b, S b → tg b ≠ τ := by
    intro τ n1 b hb z
    have := hS b hb
    rw [z] at this
    omega
  exact h.make hU (no _ (by decide)) (cu h1 hU (no _ (by decide))).1 (cu h4 hU (no _ (by decide))).1 (fun t ht => (cu (h5 t ht) hU (no _ (by show (3 : Nat) < 10; decide))).1) (FC.up h6 hU (fun b hb => by have := hS b hb; omega)) h7 (h8.up hU (fun b hb => ⟨no _ (by decide) b hb, no _ (by decide) b hb⟩) (fun _ _ => rfl)) (h9.up hU (fun b hb => ⟨no _ (by decide) b hb, no _ (by decide) b hb⟩))
end RC2
