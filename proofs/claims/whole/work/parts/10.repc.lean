theorem Up.by {S : Nat → Prop} {w w' : wT} {tg tg' : tT} (h : ∀ b e, w b = some e → ¬ S b → w' b = w b) (hs : ∀ b, S b → ∃ e, w' b = some e) (ht : ∀ b e, w b = some e → tg' b = tg b) : Up S w tg w' tg' := by
  intro b e hb
  refine ⟨ht b e hb, ?_, fun hS => by rw [h b e hb hS]; exact hb⟩
  by_cases hS : S b
  · exact hs b hS
  · exact ⟨e, by rw [h b e hb hS]; exact hb⟩
theorem FC.up {G : gT} {S : Nat → Prop} {w w' : wT} {tg tg' : tT} {T : Nat → LV} (hF : Forest (PC G w tg) T) (hU : Up S w tg w' tg') (hS : ∀ b, S b → (tg b).1 ≠ 4 ∧ (tg b).1 ≠ 5) : Forest (PC G w' tg') T :=
  hF.keep (fun t i a d hq hp => hp.up hU (fun z => (hS a z).1 (by rw [hp.1])) (fun r z e => (hS r z).2 (by rw [e])))
theorem RepCx.make {G : gT} {S : Nat → Prop} {tg tg' : tT} {w w' : wT} {h0 c c' ta to : Nat} {y y' : Yd} {tf : Nat → Option Nat} {tk : Nat → Nat} {sd pl sd' pl' : Option Nat} {T T' : Nat → LV} (h : RepCx G tg w h0 c y ta to tf tk sd pl T) (hU : Up S w tg w' tg') (hS : ∀ b, S b → tg b ≠ (1, 0))
    (e0 : w' h0 = some (cTs (some ta) (some to) sd' pl' y'.2.2.2.2.1 (nI c'))) (e2 : w' to = some (aI G 8 y'.2.2.2.2.2)) (e3 : ∀ t, t < 6 → w' (tk t) = some (cTrk (hd (T' t)) (nI (T' t).length)))
    (eF : Forest (PC G w' tg') T') (eT : ∀ t, (T' t).map Prod.snd = y'.1 t) (eS : SC G w' tg' sd' y'.2.1 T') (eP : PP G w' tg' pl' y'.2.2.1 y'.2.2.2.1) : RepCx G tg' w' h0 c' y' ta to tf tk sd' pl' T' := by
  obtain ⟨h1, h2, h3, h4, h5, -⟩ := h
  exact ⟨⟨e0, (hU _ _ h1.1).1.trans h1.2⟩, cu h2 hU hS, h3, ⟨e2, (hU _ _ h4.1).1.trans h4.2⟩, fun t ht => ⟨e3 t ht, (hU _ _ (h5 t ht).1).1.trans (h5 t ht).2⟩, eF, eT, eS, eP⟩
section RC
variable {G : gT} {tg : tT} {w w' : wT} {h0 c ta to : Nat} {y : Yd} {tf : Nat → Option Nat} {tk : Nat → Nat} {sd pl : Option Nat} {T : Nat → LV}
theorem RepCx.len (h : RepCx G tg w h0 c y ta to tf tk sd pl T) (t : Nat) : (T t).length = (y.1 t).length := by
  have := congrArg List.length (h.2.2.2.2.2.2.1 t)
  simpa using this
theorem RepCx.trk {n : Nat} (h : RepCx G tg w h0 c y ta to tf tk sd pl T) (hY : Yok n y) (hc : n ≤ 512) {t : Nat} (ht : t < 6) : trk G w (tk t) (T t) := by
  refine ⟨(h.2.2.2.2.1 t ht).1, ?_, fun i a d hq => (h.2.2.2.2.2.1.1 t i a d hq).veh⟩
  rw [h.len]
  exact Nat.le_trans (hY.len (by omega)) hc
theorem RepCx.at (h : RepCx G tg w h0 c y ta to tf tk sd pl T) (t k : Nat) : (y.1 t)[k]? = ((T t)[k]?).map Prod.snd := by
  rw [← h.2.2.2.2.2.2.1 t, List.getElem?_map]
theorem RepCx.vopt (h : RepCx G tg w h0 c y ta to tf tk sd pl T) (t k : Nat) : vopt G w ((T t)[k]?.map Prod.fst) ((y.1 t)[k]?) := by
  rw [h.at]
  cases hq : (T t)[k]? with
  | none => exact Or.inl ⟨rfl, rfl⟩
  | some q => exact Or.inr ⟨q.1, q.2, _, rfl, rfl, (h.2.2.2.2.2.1.1 t k q.1 q.2 hq).veh⟩
theorem RepCx.tell (h : RepCx G tg w h0 c y ta to tf tk sd pl T) (k : Nat) (hw : w' = va_up w to (some (aI G 8 (upd y.2.2.2.2.2 k (y.2.2.2.2.2 k + 1))))) : RepCx G tg w' h0 c (yno k y).2 ta to tf tk sd pl T := by
  subst hw
  obtain ⟨h1, h2, h3, h4, h5, h6, h7, h8, h9⟩ := id h
  have hU : Up (fun b => b = to) w tg (va_up w to (some (aI G 8 (upd y.2.2.2.2.2 k (y.2.2.2.2.2 k + 1))))) tg := Up.by (fun b e _ hb => up_ne hb) (by rintro _ rfl; exact ⟨_, up_eq⟩) (fun _ _ _ => rfl)
  have g : tg to = (2, 0) := h4.2
  refine h.make (y' := (yno k y).2) hU (by rintro _ rfl; rw [g]; decide) (cu h1 hU (by rintro _ rfl; rw [g]; decide)).1 up_eq (fun t ht => (cu (h5 t ht) hU (by rintro _ rfl; rw [g]; simp)).1) (FC.up h6 hU (by rintro _ rfl; rw [g]; decide)) h7 (h8.up hU (by rintro _ rfl; rw [g]; decide) (fun _ _ => rfl)) (h9.up hU (by rintro _ rfl; rw [g]; decide))
/-- only the object's own fields change -/
theorem RepCx.obj {sd' pl' : Option Nat} {c' : Nat} {tg' : tT} {y' : Yd} {T' : Nat → LV} (h : RepCx G tg w h0 c y ta to tf tk sd pl T) (hU : Up (fun b => b = h0) w tg w' tg') (e0 : w' h0 = some (cTs (some ta) (some to) sd' pl' y'.2.2.2.2.1 (nI c'))) (e2 : y'.2.2.2.2.2 = y.2.2.2.2.2) (e3 : ∀ t, t < 6 → T' t = T t) (eF : Forest (PC G w' tg') T → Forest (PC G w' tg') T') (eT : ∀ t, (T' t).map Prod.snd = y'.1 t) (eS : SC G w' tg' sd' y'.2.1 T') (eP : PP G w' tg' pl' y'.2.2.1 y'.2.2.2.1) : RepCx G tg' w' h0 c' y' ta to tf tk sd' pl' T' := by
  obtain ⟨h1, h2, h3, h4, h5, h6, h7, h8, h9⟩ := id h
  have g : tg h0 = (0, 0) := h1.2
  exact h.make hU (by rintro _ rfl; rw [g]; decide) e0 (by rw [e2]; exact (cu h4 hU (by rintro _ rfl; rw [g]; decide)).1) (fun t ht => by rw [e3 t ht]; exact (cu (h5 t ht) hU (by rintro _ rfl; rw [g]; simp)).1) (eF (FC.up h6 hU (by rintro _ rfl; rw [g]; decide))) eT eS eP
theorem Up.obj {e : va_E} : Up (fun b => b = h0) w tg (va_up w h0 (some e)) tg := Up.by (fun b e _ hb => up_ne hb) (by rintro _ rfl; exact ⟨_, up_eq⟩) (fun _ _ _ => rfl)
theorem RepCx.lev (h : RepCx G tg w h0 c y ta to tf tk sd pl T) (x : Int32) (hw : w' = va_up w h0 (some (cTs (some ta) (some to) sd pl x (nI c)))) : RepCx G tg w' h0 c (ylev x y) ta to tf tk sd pl T := by
  subst hw
  obtain ⟨h1, h2, h3, h4, h5, h6, h7, h8, h9⟩ := id h
  have g : tg h0 = (0, 0) := h1.2
  exact h.obj (y' := ylev x y) Up.obj up_eq rfl (fun _ _ => rfl) id h7 (h8.up Up.obj (by rintro _ rfl; rw [g]; decide) (fun _ _ => rfl)) (h9.up Up.obj (by rintro _ rfl; rw [g]; decide))
theorem RepCx.tellLevel (h : RepCx G tg w h0 c y ta to tf tk sd pl T) (k : Nat) (x : Int32) (hw : w' = va_up (va_up w h0 (some (cTs (some ta) (some to) sd pl x (nI c)))) to (some (aI G 8 (upd y.2.2.2.2.2 k (y.2.2.2.2.2 k + 1))))) : RepCx G tg w' h0 c (yno k (ylev x y)).2 ta to tf tk sd pl T :=
  (h.lev x rfl).tell k hw
theorem map_up {T : Nat → LV} {Y : Nat → List VR} (h : ∀ t, (T t).map Prod.snd = Y t) {t : Nat} {L : LV} {l : List VR} (hl : L.map Prod.snd = l) : ∀ u, (va_up T t L u).map Prod.snd = va_up Y t l u := by
  intro u
  by_cases hu : u = t
  · subst hu; simp [va_up, hl]
  · simp [va_up, hu, h u]
theorem up_at {α : Type} {f : Nat → α} {k : Nat} {v : α} : va_up f k v k = v := by simp [va_up]
theorem up_off {α : Type} {f : Nat → α} {k j : Nat} {v : α} (h : j ≠ k) : va_up f k v j = f j := by simp [va_up, h]
theorem RepCx.push {c' t q : Nat} {d : VR} (h : RepCx G tg w h0 c y ta to tf tk sd pl T) (ht : t < 6) (hq : w q = none) (hd0 : d.2.2.2 = none) (e0 : w' h0 = some (cTs (some ta) (some to) sd pl y.2.2.2.2.1 (nI c'))) (e1 : w' q = some (cVeh d.1 d.2.1 d.2.2.1 none (hd (T t)))) (e2 : w' (tk t) = some (cTrk (some q) (nI (T t).length + 1))) (eo : ∀ b, b ≠ h0 → b ≠ q → b ≠ tk t → w' b = w b) : RepCx G (va_up tg q (4, 0)) w' h0 c' (yset t (d :: y.1 t) y) ta to tf tk sd pl (va_up T t ((q, d) :: T t)) := by
  obtain ⟨h1, h2, h3, h4, h5, h6, h7, h8, h9⟩ := id h
  have g0 : tg h0 = (0, 0) := h1.2
  have g1 : tg (tk t) = (3, t) := (h5 t ht).2
  have nq : ∀ b e, w b = some e → b ≠ q := fun b e hb => ad_new hb hq
  have hU : Up (fun b => b = h0 ∨ b = tk t) w tg w' (va_up tg q (4, 0)) := Up.by (fun b e hb hS => eo b (fun z => hS (Or.inl z)) (nq b e hb) (fun z => hS (Or.inr z))) (by rintro _ (rfl | rfl); exact ⟨_, e0⟩; exact ⟨_, e2⟩) (fun b e hb => up_off (nq b e hb))
  refine h.make (y' := yset t (d :: y.1 t) y) hU (by rintro _ (rfl | rfl); rw [g0]; decide; rw [g1]; simp) e0 (cu h4 hU (by rintro _ (rfl | rfl); rw [g0]; decide; rw [g1]; simp)).1 (fun u hu => ?_) (Forest.push h6 ?_ ?_ ?_) (map_up h7 (by simp [h7 t])) (h8.up hU (by rintro _ (rfl | rfl); rw [g0]; decide; rw [g1]; simp) (fun p hp => up_off (by omega))) (h9.up hU (by rintro _ (rfl | rfl); rw [g0]; decide; rw [g1]; simp))
  · by_cases hut : u = t
    · subst hut
      rw [up_at, e2, List.length_cons, nI_1]; rfl
    · rw [up_off hut]
      exact (cu (h5 u hu) hU (by rintro _ (rfl | rfl); rw [g0]; simp; rw [g1]; simp [Ne.symm hut])).1
  · intro u i e z
    obtain ⟨-, ro, z2, -⟩ := h6.1 u i q e z
    rw [hq] at z2; cases z2
  · exact ⟨up_at, none, e1, by rw [hd0]; rfl, fun r z => by cases z⟩
  · intro b e bh hb hp
    exact hp.up hU (by rintro (rfl | rfl); have := hp.1; rw [g0] at this; cases this; have := hp.1; rw [g1] at this; cases this) (by rintro _ (rfl | rfl); rw [g0]; simp; rw [g1]; simp)
theorem RepCx.pop {t a : Nat} {d : VR} {L : LV} {x : va_E} (h : RepCx G tg w h0 c y ta to tf tk sd pl T) (ht : t < 6) (hT : T t = (a, d) :: L) (e1 : w' a = some x) (e2 : w' (tk t) = some (cTrk (hd L) (nI L.length))) (eo : ∀ b, b ≠ a → b ≠ tk t → w' b = w b) : RepCx G tg w' h0 c (yset t (L.map Prod.snd) y) ta to tf tk sd pl (va_up T t L) := by
  obtain ⟨h1, h2, h3, h4, h5, h6, h7, h8, h9⟩ := id h
  have h0t : (T t)[0]? = some (a, d) := by rw [hT]; rfl
  have ga : tg a = (4, 0) := (h6.1 t 0 a d h0t).1
  have g1 : tg (tk t) = (3, t) := (h5 t ht).2
  have hU : Up (fun b => b = a ∨ b = tk t) w tg w' tg := Up.by (fun b e hb hS => eo b (fun z => hS (Or.inl z)) (fun z => hS (Or.inr z))) (by rintro _ (rfl | rfl); exact ⟨_, e1⟩; exact ⟨_, e2⟩) (fun b e hb => rfl)
  have hTd : L = (T t).drop 1 := by rw [hT]; rfl
  refine h.make (y' := yset t (L.map Prod.snd) y) hU (by rintro _ (rfl | rfl); rw [ga]; decide; rw [g1]; simp) (cu h1 hU (by rintro _ (rfl | rfl); rw [ga]; decide; rw [g1]; simp)).1 (cu h4 hU (by rintro _ (rfl | rfl); rw [ga]; decide; rw [g1]; simp)).1 (fun u hu => ?_) ?_ (map_up h7 rfl) (h8.up hU (by rintro _ (rfl | rfl); rw [ga]; decide; rw [g1]; simp) (fun p hp => up_off (by omega))) (h9.up hU (by rintro _ (rfl | rfl); rw [ga]; decide; rw [g1]; simp))
  · by_cases hut : u = t
    · subst hut
      rw [up_at]; exact e2
    · rw [up_off hut]
      exact (cu (h5 u hu) hU (by rintro _ (rfl | rfl); rw [ga]; simp; rw [g1]; simp [Ne.symm hut])).1
  · rw [hTd]
    refine Forest.drop 1 h6 (fun u i b e hq hi hp => hp.up hU ?_ (by rintro _ (rfl | rfl); rw [ga]; simp; rw [g1]; simp))
    rintro (rfl | rfl)
    · obtain ⟨z1, z2⟩ := h6.2 _ _ _ _ _ _ _ hq h0t
      have := hi z1
      omega
    · have := hp.1; rw [g1] at this; cases this
theorem RepCx.move {t u k a : Nat} {d : VR} (h : RepCx G tg w h0 c y ta to tf tk sd pl T) (ht : t < 6) (hu : u < 6) (htu : t ≠ u) (hT : (T t)[k]? = some (a, d)) (e1 : ∀ ro bh, w a = some (cVeh d.1 d.2.1 d.2.2.1 ro bh) → w' a = some (cVeh d.1 d.2.1 d.2.2.1 ro (hd (T u)))) (e2 : w' (tk t) = some (cTrk (nx (T t) k) (nI (T t).length - nI (k + 1)))) (e3 : w' (tk u) = some (cTrk (hd (T t)) (nI (T u).length + nI (k + 1)))) (eo : ∀ b, b ≠ a → b ≠ tk t → b ≠ tk u → w' b = w b) : RepCx G tg w' h0 c (yset u ((y.1 t).take (k + 1) ++ y.1 u) (yset t ((y.1 t).drop (k + 1)) y)) ta to tf tk sd pl (va_up (va_up T t ((T t).drop (k + 1))) u ((T t).take (k + 1) ++ T u)) := by
  obtain ⟨h1, h2, h3, h4, h5, h6, h7, h8, h9⟩ := id h
  have hlt := (List.getElem?_eq_some_iff.mp hT).1
  obtain ⟨ga, ro, c1, c2, c3⟩ := h6.1 t k a d hT
  have g1 : tg (tk t) = (3, t) := (h5 t ht).2
  have g2 : tg (tk u) = (3, u) := (h5 u hu).2
  have hU : Up (fun b => b = a ∨ b = tk t ∨ b = tk u) w tg w' tg := Up.by (fun b e hb hS => eo b (fun z => hS (Or.inl z)) (fun z => hS (Or.inr (Or.inl z))) (fun z => hS (Or.inr (Or.inr z)))) (by rintro _ (rfl | rfl | rfl); exact ⟨_, e1 _ _ c1⟩; exact ⟨_, e2⟩; exact ⟨_, e3⟩) (fun b e hb => rfl)
  refine h.make (y' := yset u ((y.1 t).take (k + 1) ++ y.1 u) (yset t ((y.1 t).drop (k + 1)) y)) hU (by rintro _ (rfl | rfl | rfl); rw [ga]; decide; rw [g1]; simp; rw [g2]; simp) (cu h1 hU (by rintro _ (rfl | rfl | rfl); rw [ga]; decide; rw [g1]; simp; rw [g2]; simp)).1 (cu h4 hU (by rintro _ (rfl | rfl | rfl); rw [ga]; decide; rw [g1]; simp; rw [g2]; simp)).1 (fun v hv => ?_) (h6.move htu hT ⟨ga, ro, e1 _ _ c1, ?_, c3⟩ ?_) (map_up (map_up h7 (by simp [h7 t, List.map_drop])) (by simp [h7 t, h7 u, List.map_take])) (h8.up hU (by rintro _ (rfl | rfl | rfl); rw [ga]; decide; rw [g1]; simp; rw [g2]; simp) (fun p hp => by rw [up_off (by omega), up_off (by omega)])) (h9.up hU (by rintro _ (rfl | rfl | rfl); rw [ga]; decide; rw [g1]; simp; rw [g2]; simp))
  · by_cases hvu : v = u
    · subst hvu
      rw [up_at, e3]
      have : hd ((T t).take (k + 1) ++ T v) = hd (T t) := by
        unfold hd
        rw [List.getElem?_append_left (by rw [List.length_take]; omega), List.getElem?_take, if_pos (by omega)]
      rw [this, nI_add, List.length_append, List.length_take, Nat.min_eq_left (by omega), Nat.add_comm]
    · rw [up_off hvu]
      by_cases hvt : v = t
      · subst hvt
        rw [up_at, e2]
        have : hd ((T v).drop (k + 1)) = nx (T v) k := by simp [hd, nx, List.getElem?_drop]
        rw [this, pk_sub (by omega), List.length_drop]
      · rw [up_off hvt]
        exact (cu (h5 v hv) hU (by rintro _ (rfl | rfl | rfl); rw [ga]; simp; rw [g1]; simp [Ne.symm hvt]; rw [g2]; simp [Ne.symm hvu])).1
  · cases hq : d.2.2.2 with
    | none => rw [hq] at c2; exact c2
    | some q =>
      obtain ⟨n, f⟩ := q
      rw [hq] at c2
      obtain ⟨q1, r, q2, q3⟩ := c2
      refine ⟨q1, r, q2, (hU r _ q3).2.2 ?_⟩
      have := c3 r q2
      rintro (rfl | rfl | rfl)
      · rw [ga] at this; cases this
      · rw [g1] at this; cases this
      · rw [g2] at this; cases this
  · intro b e bh hb hp
    exact hp.up hU (by rintro (rfl | rfl | rfl); exact hb rfl; have := hp.1; rw [g1] at this; cases this; have := hp.1; rw [g2] at this; cases this) (by rintro _ (rfl | rfl | rfl); rw [ga]; simp; rw [g1]; simp; rw [g2]; simp)
theorem RepCx.append {t u k a : Nat} {d : VR} (h : RepCx G tg w h0 c y ta to tf tk sd pl T) (ht : t < 6) (hu : u < 6) (htu : t ≠ u) (hl : (T t).length = k + 1) (hT : (T t)[k]? = some (a, d)) (e1 : ∀ ro bh, w a = some (cVeh d.1 d.2.1 d.2.2.1 ro bh) → w' a = some (cVeh d.1 d.2.1 d.2.2.1 ro (hd (T u)))) (e2 : w' (tk t) = some (cTrk (hd (T t)) (nI (T t).length + nI (T u).length))) (e3 : w' (tk u) = some (cTrk none 0)) (eo : ∀ b, b ≠ a → b ≠ tk t → b ≠ tk u → w' b = w b) : RepCx G tg w' h0 c (yset u [] (yset t (y.1 t ++ y.1 u) y)) ta to tf tk sd pl (va_up (va_up T t (T t ++ T u)) u []) := by
  obtain ⟨h1, h2, h3, h4, h5, h6, h7, h8, h9⟩ := id h
  have hlt := (List.getElem?_eq_some_iff.mp hT).1
  obtain ⟨ga, ro, c1, c2, c3⟩ := h6.1 t k a d hT
  have g1 : tg (tk t) = (3, t) := (h5 t ht).2
  have g2 : tg (tk u) = (3, u) := (h5 u hu).2
  have hU : Up (fun b => b = a ∨ b = tk t ∨ b = tk u) w tg w' tg := Up.by (fun b e hb hS => eo b (fun z => hS (Or.inl z)) (fun z => hS (Or.inr (Or.inl z))) (fun z => hS (Or.inr (Or.inr z)))) (by rintro _ (rfl | rfl | rfl); exact ⟨_, e1 _ _ c1⟩; exact ⟨_, e2⟩; exact ⟨_, e3⟩) (fun b e hb => rfl)
  refine h.make (y' := yset u [] (yset t (y.1 t ++ y.1 u) y)) hU (by rintro _ (rfl | rfl | rfl); rw [ga]; decide; rw [g1]; simp; rw [g2]; simp) (cu h1 hU (by rintro _ (rfl | rfl | rfl); rw [ga]; decide; rw [g1]; simp; rw [g2]; simp)).1 (cu h4 hU (by rintro _ (rfl | rfl | rfl); rw [ga]; decide; rw [g1]; simp; rw [g2]; simp)).1 (fun v hv => ?_) (h6.append htu hl hT ⟨ga, ro, e1 _ _ c1, ?_, c3⟩ ?_) (map_up (map_up h7 (by simp [h7 t, h7 u])) rfl) (h8.up hU (by rintro _ (rfl | rfl | rfl); rw [ga]; decide; rw [g1]; simp; rw [g2]; simp) (fun p hp => by rw [up_off (by omega), up_off (by omega)])) (h9.up hU (by rintro _ (rfl | rfl | rfl); rw [ga]; decide; rw [g1]; simp; rw [g2]; simp))
  · by_cases hvu : v = u
    · subst hvu
      rw [up_at, e3]; rfl
    · rw [up_off hvu]
      by_cases hvt : v = t
      · subst hvt
        rw [up_at, e2]
        have : hd (T v ++ T u) = hd (T v) := by unfold hd; rw [List.getElem?_append_left (by omega)]
        rw [this, nI_add, List.length_append]
      · rw [up_off hvt]
        exact (cu (h5 v hv) hU (by rintro _ (rfl | rfl | rfl); rw [ga]; simp; rw [g1]; simp [Ne.symm hvt]; rw [g2]; simp [Ne.symm hvu])).1
  · cases hq : d.2.2.2 with
    | none => rw [hq] at c2; exact c2
    | some q =>
      obtain ⟨n, f⟩ := q
      rw [hq] at c2
      obtain ⟨q1, r, q2, q3⟩ := c2
      refine ⟨q1, r, q2, (hU r _ q3).2.2 ?_⟩
      have := c3 r q2
      rintro (rfl | rfl | rfl)
      · rw [ga] at this; cases this
      · rw [g1] at this; cases this
      · rw [g2] at this; cases this
  · intro b e bh hb hp
    exact hp.up hU (by rintro (rfl | rfl | rfl); exact hb rfl; have := hp.1; rw [g1] at this; cases this; have := hp.1; rw [g2] at this; cases this) (by rintro _ (rfl | rfl | rfl); rw [ga]; simp; rw [g1]; simp; rw [g2]; simp)
end RC
