section MPL
variable {F F' : Nat → Nat → Int32} {sd na ro wi sd' na' ro' wi' : Int32} {c : Nat} {y : Yd} {T T' : Nat → LV}
theorem upd_at {f : Nat → Int32} {k : Nat} {x : Int32} : upd f k x k = x := by simp [upd]
theorem upd_off {f : Nat → Int32} {k j : Nat} {x : Int32} (h : j ≠ k) : upd f k x j = f j := by simp [upd, h]
theorem PM.cong {b : Nat} {d : VR} {bh : Option Nat} (h : PM F b d bh) (e1 : F' 1 b = F 1 b) (e2 : F' 2 b = F 2 b) (e3 : F' 3 b = F 3 b) (e4 : F' 4 b = F 4 b) (e5 : ∀ i, i < 12 → F' 5 (12 * b + i) = F 5 (12 * b + i)) (e6 : F' 6 b = F 6 b) (e7 : F' 7 b = F 7 b) : PM F' b d bh := by
  obtain ⟨h0, h1, h2, h3, h4, h5, h6⟩ := h
  refine ⟨h0, by rw [e1]; exact h1, by rw [e2]; exact h2, by rw [e3]; exact h3, ?_, by rw [e6]; exact h5, by rw [e7]; exact h6⟩
  cases hq : d.2.2.2 with
  | none => rw [hq] at h4; exact e4.trans h4
  | some q =>
    obtain ⟨n, f⟩ := q
    rw [hq] at h4
    exact ⟨e4.trans h4.1, h4.2.1, fun i hi => (e5 i (by have := h4.2.1; omega)).trans (h4.2.2 i hi)⟩
theorem SM.cong {os : OS} (h : SM F sd na os T) (e9 : F' 9 = F 9) (hT : ∀ p, 6 ≤ p → T' p = T p) : SM F' sd na os T' := by
  rcases h with h | ⟨n, b, h1, h2, h3, h4, h5⟩
  · exact Or.inl h
  · exact Or.inr ⟨n, b, h1, h2, h3, h4, fun p hp => by rw [e9, hT _ (by omega)]; exact h5 p hp⟩
theorem PlM.cong {op : OP} {N : Nat → Nat → Int32} (h : PlM F ro wi op N) (e10 : F' 10 = F 10) : PlM F' ro wi op N := by
  unfold PlM at *
  rw [e10]; exact h
theorem hd_cons {q : Nat × VR} {L : LV} : hd (q :: L) = some q.1 := rfl
theorem MP.push {t v : Nat} {d : VR} (hP : MP F sd na ro wi c y T) (ht : t < 6) (hv : v < 600) (hvc : v ≤ c) (hf : F 7 v = 0) (hd0 : d.2.2.2 = none) (e1 : F' 1 = upd (F 1) v d.1) (e2 : F' 2 = upd (F 2) v d.2.1) (e3 : F' 3 = upd (F 3) v d.2.2.1) (e4 : F' 4 = upd (F 4) v (-1)) (e5 : F' 5 = F 5) (e6 : F' 6 = upd (F 6) v (F 8 t)) (e7 : F' 7 = upd (F 7) v 1) (e8 : F' 8 = upd (F 8) t (nI v)) (e9 : F' 9 = F 9) (e10 : F' 10 = F 10) (e11 : F' 11 = F 11) : MP F' sd na ro wi (c + 1) (yset t (d :: y.1 t) y) (va_up T t ((v, d) :: T t)) := by
  obtain ⟨h1, h2, h3, h4, h5, h6, h7⟩ := hP
  refine ⟨Forest.push h1 (fun u i e z => ?_) ⟨hv, by rw [e1, upd_at], by rw [e2, upd_at], by rw [e3, upd_at], by rw [hd0]; show F' 4 v = -1; rw [e4, upd_at], by rw [e6, upd_at, h2 t ht], by rw [e7, upd_at]⟩ (fun b e bh hb hp => hp.cong (by rw [e1, upd_off hb]) (by rw [e2, upd_off hb]) (by rw [e3, upd_off hb]) (by rw [e4, upd_off hb]) (fun i _ => by rw [e5]) (by rw [e6, upd_off hb]) (by rw [e7, upd_off hb])), fun u hu => ?_, map_up h3 (by simp [h3 t]), fun x hx => by rw [e7, upd_off (by omega)]; exact h4 x (by omega), h5.cong e9 (fun p hp => up_off (by omega)), h6.cong e10, e11.trans h7⟩
  · have := (h1.1 u i v e z).2.2.2.2.2.2
    rw [hf] at this; exact absurd this (by decide)
  · by_cases hut : u = t
    · subst hut; rw [e8, upd_at, up_at]; rfl
    · rw [e8, upd_off hut, up_off hut]; exact h2 u hu
theorem MP.pop {t v : Nat} {d : VR} {L : LV} (hP : MP F sd na ro wi c y T) (ht : t < 6) (hT : T t = (v, d) :: L) (e1 : F' 1 = F 1) (e2 : F' 2 = F 2) (e3 : F' 3 = F 3) (e4 : F' 4 = F 4) (e5 : F' 5 = F 5) (e6 : F' 6 = F 6) (e7 : F' 7 = upd (F 7) v 0) (e8 : F' 8 = upd (F 8) t (F 6 v)) (e9 : F' 9 = F 9) (e10 : F' 10 = F 10) (e11 : F' 11 = F 11) : MP F' sd na ro wi c (yset t (L.map Prod.snd) y) (va_up T t L) := by
  obtain ⟨h1, h2, h3, h4, h5, h6, h7⟩ := hP
  have h0t : (T t)[0]? = some (v, d) := by rw [hT]; rfl
  have hTd : L = (T t).drop 1 := by rw [hT]; rfl
  refine ⟨?_, fun u hu => ?_, map_up h3 rfl, fun x hx => ?_, h5.cong e9 (fun p hp => up_off (by omega)), h6.cong e10, e11.trans h7⟩
  · rw [hTd]
    refine Forest.drop 1 h1 (fun u i b e hq hi hp => hp.cong (by rw [e1]) (by rw [e2]) (by rw [e3]) (by rw [e4]) (fun i _ => by rw [e5]) (by rw [e6]) ?_)
    rw [e7, upd_off]
    rintro rfl
    obtain ⟨z1, z2⟩ := h1.2 _ _ _ _ _ _ _ hq h0t
    have := hi z1
    omega
  · by_cases hut : u = t
    · subst hut
      rw [e8, upd_at, up_at, (h1.1 u 0 v d h0t).2.2.2.2.2.1, hT]; rfl
    · rw [e8, upd_off hut, up_off hut]; exact h2 u hu
  · rw [e7]
    by_cases hxv : x = v
    · subst hxv; exact upd_at
    · rw [upd_off hxv]; exact h4 x hx
theorem MP.move {t u k v : Nat} {d : VR} (hP : MP F sd na ro wi c y T) (ht : t < 6) (hu : u < 6) (htu : t ≠ u) (hT : (T t)[k]? = some (v, d)) (e1 : F' 1 = F 1) (e2 : F' 2 = F 2) (e3 : F' 3 = F 3) (e4 : F' 4 = F 4) (e5 : F' 5 = F 5) (e6 : F' 6 = upd (F 6) v (F 8 u)) (e7 : F' 7 = F 7) (e8 : F' 8 = upd (upd (F 8) t (F 6 v)) u (F 8 t)) (e9 : F' 9 = F 9) (e10 : F' 10 = F 10) (e11 : F' 11 = F 11) : MP F' sd na ro wi c (yset u ((y.1 t).take (k + 1) ++ y.1 u) (yset t ((y.1 t).drop (k + 1)) y)) (va_up (va_up T t ((T t).drop (k + 1))) u ((T t).take (k + 1) ++ T u)) := by
  obtain ⟨h1, h2, h3, h4, h5, h6, h7⟩ := hP
  have hlt := (List.getElem?_eq_some_iff.mp hT).1
  have hp := h1.1 t k v d hT
  refine ⟨h1.move htu hT ?_ (fun b e bh hb hq => hq.cong (by rw [e1]) (by rw [e2]) (by rw [e3]) (by rw [e4]) (fun i _ => by rw [e5]) (by rw [e6, upd_off hb]) (by rw [e7])), fun x hx => ?_, map_up (map_up h3 (by simp [h3 t, List.map_drop])) (by simp [h3 t, h3 u, List.map_take]), fun x hx => by rw [e7]; exact h4 x hx, h5.cong e9 (fun p hp => by rw [up_off (by omega), up_off (by omega)]), h6.cong e10, e11.trans h7⟩
  · obtain ⟨q0, q1, q2, q3, q4, q5, q6⟩ := hp
    refine ⟨q0, by rw [e1]; exact q1, by rw [e2]; exact q2, by rw [e3]; exact q3, ?_, by rw [e6, upd_at, h2 u hu], by rw [e7]; exact q6⟩
    unfold crM at *
    rw [e4, e5]; exact q4
  · rw [e8]
    by_cases hxu : x = u
    · subst hxu
      rw [upd_at, up_at, h2 t ht]
      congr 1
      unfold hd
      rw [List.getElem?_append_left (by rw [List.length_take]; omega), List.getElem?_take, if_pos (by omega)]
    · rw [upd_off hxu, up_off hxu]
      by_cases hxt : x = t
      · subst hxt
        rw [upd_at, up_at, hp.2.2.2.2.2.1]
        congr 1
        simp [hd, nx, List.getElem?_drop]
      · rw [upd_off hxt, up_off hxt]; exact h2 x hx
theorem MP.append {t u k v : Nat} {d : VR} (hP : MP F sd na ro wi c y T) (ht : t < 6) (hu : u < 6) (htu : t ≠ u) (hl : (T t).length = k + 1) (hT : (T t)[k]? = some (v, d)) (e1 : F' 1 = F 1) (e2 : F' 2 = F 2) (e3 : F' 3 = F 3) (e4 : F' 4 = F 4) (e5 : F' 5 = F 5) (e6 : F' 6 = upd (F 6) v (F 8 u)) (e7 : F' 7 = F 7) (e8 : F' 8 = upd (F 8) u (-1)) (e9 : F' 9 = F 9) (e10 : F' 10 = F 10) (e11 : F' 11 = F 11) : MP F' sd na ro wi c (yset u [] (yset t (y.1 t ++ y.1 u) y)) (va_up (va_up T t (T t ++ T u)) u []) := by
  obtain ⟨h1, h2, h3, h4, h5, h6, h7⟩ := hP
  have hp := h1.1 t k v d hT
  refine ⟨h1.append htu hl hT ?_ (fun b e bh hb hq => hq.cong (by rw [e1]) (by rw [e2]) (by rw [e3]) (by rw [e4]) (fun i _ => by rw [e5]) (by rw [e6, upd_off hb]) (by rw [e7])), fun x hx => ?_, map_up (map_up h3 (by simp [h3 t, h3 u])) rfl, fun x hx => by rw [e7]; exact h4 x hx, h5.cong e9 (fun p hp => by rw [up_off (by omega), up_off (by omega)]), h6.cong e10, e11.trans h7⟩
  · obtain ⟨q0, q1, q2, q3, q4, q5, q6⟩ := hp
    refine ⟨q0, by rw [e1]; exact q1, by rw [e2]; exact q2, by rw [e3]; exact q3, ?_, by rw [e6, upd_at, h2 u hu], by rw [e7]; exact q6⟩
    unfold crM at *
    rw [e4, e5]; exact q4
  · rw [e8]
    by_cases hxu : x = u
    · subst hxu
      rw [upd_at, up_at]; rfl
    · rw [upd_off hxu, up_off hxu]
      by_cases hxt : x = t
      · subst hxt
        rw [up_at, h2 x ht]
        congr 1
        unfold hd
        rw [List.getElem?_append_left (by omega)]
      · rw [up_off hxt]; exact h2 x hx
/-- one vehicle's record changes -/
theorem MP.put {t k v : Nat} {d d' : VR} (hP : MP F sd na ro wi c y T) (ht : t < 6) (hT : (T t)[k]? = some (v, d)) (hp : PM F' v d' (nx (T t) k)) (e1 : F' 1 = F 1) (e2 : F' 2 = F 2) (e3 : ∀ b, b ≠ v → F' 3 b = F 3 b) (e4 : ∀ b, b ≠ v → F' 4 b = F 4 b) (e5 : ∀ b i, b ≠ v → i < 12 → F' 5 (12 * b + i) = F 5 (12 * b + i)) (e6 : F' 6 = F 6) (e7 : F' 7 = F 7) (e8 : F' 8 = F 8) (e9 : F' 9 = F 9) (e10 : F' 10 = F 10) (e11 : F' 11 = F 11) : MP F' sd na ro wi c (yset t ((y.1 t).set k d') y) (va_up T t ((T t).set k (v, d'))) := by
  obtain ⟨h1, h2, h3, h4, h5, h6, h7⟩ := hP
  have hlt := (List.getElem?_eq_some_iff.mp hT).1
  refine ⟨h1.put hT hp (fun b e bh hb hq => hq.cong (by rw [e1]) (by rw [e2]) (e3 b hb) (e4 b hb) (fun i hi => e5 b i hb hi) (by rw [e6]) (by rw [e7])), fun x hx => ?_, map_up h3 (by rw [List.map_set, h3 t]), fun x hx => by rw [e7]; exact h4 x hx, h5.cong e9 (fun p hp => up_off (by omega)), h6.cong e10, e11.trans h7⟩
  rw [e8]
  by_cases hut : x = t
  · subst hut
    rw [up_at, h2 x hx]
    congr 1
    unfold hd
    by_cases hk : k = 0
    · subst hk
      rw [List.getElem?_set_self hlt, hT]; rfl
    · rw [List.getElem?_set_ne hk]
  · rw [up_off hut]; exact h2 x hx
/-- all places go -/
theorem MP.clr {os' : OS} (hP : MP F sd na ro wi c y T) (hS : SM F' sd' na' os' (Tclr T)) (e1 : F' 1 = F 1) (e2 : F' 2 = F 2) (e3 : F' 3 = F 3) (e4 : F' 4 = F 4) (e5 : F' 5 = F 5) (e6 : F' 6 = F 6) (e7 : ∀ (t i v : Nat) (d : VR), t < 6 → (T t)[i]? = some (v, d) → F' 7 v = F 7 v) (e7' : ∀ v, c ≤ v → F' 7 v = 0) (e8 : F' 8 = F 8) (e10 : F' 10 = F 10) (e11 : F' 11 = F 11) : MP F' sd' na' ro wi c (yclr y.1, os', y.2.2) (Tclr T) := by
  obtain ⟨h1, h2, h3, h4, h5, h6, h7⟩ := hP
  have hq : Forest (PM F) (Tclr T) := Tclr_F h1
  refine ⟨hq.keep (fun t i v d hz hp => ?_), fun t ht => by rw [e8, h2 t ht]; simp [Tclr, ht], Tclr_map h3, e7', hS, h6.cong e10, e11.trans h7⟩
  by_cases ht : t < 6
  · rw [show Tclr T t = T t by simp [Tclr, ht]] at hz
    exact hp.cong (by rw [e1]) (by rw [e2]) (by rw [e3]) (by rw [e4]) (fun i _ => by rw [e5]) (by rw [e6]) (e7 t i v d ht hz)
  · rw [show Tclr T t = [] by simp [Tclr, ht]] at hz
    simp at hz
def free7 (f : Nat → Int32) (o : Option Nat) : Nat → Int32 := match o with
  | none => f
  | some x => upd f x 0
theorem MP.empty {p n : Nat} {b : Int32} (hP : MP F sd na ro wi c y T) (hos : y.2.1 = some (n, b)) (hp : p < n) (e1 : F' 1 = F 1) (e2 : F' 2 = F 2) (e3 : F' 3 = F 3) (e4 : F' 4 = F 4) (e5 : F' 5 = F 5) (e6 : F' 6 = F 6) (e7 : F' 7 = free7 (F 7) (hd (T (6 + p)))) (e8 : F' 8 = F 8) (e9 : F' 9 = upd (F 9) p (-1)) (e10 : F' 10 = F 10) (e11 : F' 11 = F 11) : MP F' sd na ro wi c (yset (6 + p) [] y) (va_up T (6 + p) []) := by
  obtain ⟨h1, h2, h3, h4, h5, h6, h7⟩ := hP
  have f7 : ∀ x, F' 7 x = F 7 x ∨ F' 7 x = 0 := by
    intro x
    rw [e7]
    cases hd (T (6 + p)) with
    | none => exact Or.inl rfl
    | some z =>
      by_cases hxz : x = z
      · subst hxz; exact Or.inr upd_at
      · exact Or.inl (upd_off hxz)
  have F1 : Forest (PM F) (va_up T (6 + p) []) := h1.clear (fun u => by by_cases hu : u = 6 + p <;> simp [va_up, hu]) (fun _ _ _ _ _ z => z)
  refine ⟨F1.keep (fun t i v d hz hq => hq.cong (by rw [e1]) (by rw [e2]) (by rw [e3]) (by rw [e4]) (fun i _ => by rw [e5]) (by rw [e6]) ?_), fun t ht => by rw [e8, up_off (by omega)]; exact h2 t ht, map_up h3 rfl, fun v hv => ?_, ?_, h6.cong e10, e11.trans h7⟩
  · rw [e7]
    cases hq2 : T (6 + p) with
    | nil => rfl
    | cons q L =>
      obtain ⟨z, dz⟩ := q
      show upd (F 7) z 0 v = F 7 v
      refine upd_off ?_
      rintro rfl
      by_cases ht : t = 6 + p
      · subst ht; rw [up_at] at hz; simp at hz
      · rw [up_off ht] at hz
        exact ht (h1.2 _ _ _ _ _ _ _ hz (show (T (6 + p))[0]? = some (v, dz) by rw [hq2]; rfl)).1
  · rcases f7 v with z | z
    · rw [z]; exact h4 v hv
    · exact z
  · rcases h5 with ⟨-, z⟩ | ⟨n', b', q1, q2, q3, q4, q5⟩
    · rw [hos] at z; cases z
    · rw [hos] at q3; cases q3
      refine Or.inr ⟨n, b, q1, q2, hos, q4, fun x hx => ?_⟩
      rw [e9]
      by_cases hxp : x = p
      · subst hxp; rw [upd_at, up_at]; rfl
      · rw [upd_off hxp, up_off (by omega)]; exact q5 x hx
theorem MP.stowB {t p n v : Nat} {b : Int32} {d : VR} {L : LV} (hP : MP F sd na ro wi c y T) (ht : t < 6) (hT : T t = (v, d) :: L) (hTp : T (6 + p) = []) (hos : y.2.1 = some (n, b)) (hp : p < n) (e1 : F' 1 = F 1) (e2 : F' 2 = F 2) (e3 : F' 3 = F 3) (e4 : F' 4 = F 4) (e5 : F' 5 = F 5) (e6 : F' 6 = upd (F 6) v (-1)) (e7 : F' 7 = F 7) (e8 : F' 8 = upd (F 8) t (F 6 v)) (e9 : F' 9 = upd (F 9) p (nI v)) (e10 : F' 10 = F 10) (e11 : F' 11 = F 11) : MP F' sd na ro wi c (yset (6 + p) [d] (yset t (L.map Prod.snd) y)) (va_up (va_up T t L) (6 + p) [(v, d)]) := by
  obtain ⟨h1, h2, h3, h4, h5, h6, h7⟩ := hP
  have h0t : (T t)[0]? = some (v, d) := by rw [hT]; rfl
  have hLd : L = (T t).drop 1 := by rw [hT]; rfl
  have hpv := h1.1 t 0 v d h0t
  have keep : ∀ (b : Nat) (e : VR) (bh : Option Nat), b ≠ v → PM F b e bh → PM F' b e bh := fun b e bh hb hq => hq.cong (by rw [e1]) (by rw [e2]) (by rw [e3]) (by rw [e4]) (fun i _ => by rw [e5]) (by rw [e6, upd_off hb]) (by rw [e7])
  have F2 : Forest (PM F') (va_up T t ((T t).drop 1)) := Forest.drop 1 h1 (fun u i b e hq hi hpb => keep b e _ (by
    rintro rfl
    obtain ⟨z1, z2⟩ := h1.2 _ _ _ _ _ _ _ hq h0t
    have := hi z1
    omega) hpb)
  have F3 := Forest.push (P' := PM F') (t := 6 + p) (a := v) (d := d) F2 (by
    intro u i e z
    by_cases hu : u = t
    · subst hu
      rw [up_at, List.getElem?_drop] at z
      have := (h1.2 _ _ _ _ _ _ _ z h0t).2
      omega
    · rw [up_off hu] at z
      exact hu (h1.2 _ _ _ _ _ _ _ z h0t).1) (by
      have hz : hd (va_up T t ((T t).drop 1) (6 + p)) = none := by rw [up_off (by omega), hTp]; rfl
      rw [hz]
      obtain ⟨q0, q1, q2, q3, q4, q5, q6⟩ := hpv
      refine ⟨q0, by rw [e1]; exact q1, by rw [e2]; exact q2, by rw [e3]; exact q3, ?_, by rw [e6, upd_at]; rfl, by rw [e7]; exact q6⟩
      unfold crM at *
      rw [e4, e5]; exact q4) (fun b e bh _ z => z)
  rw [← hLd, up_off (show 6 + p ≠ t by omega), hTp] at F3
  refine ⟨F3, fun u hu => ?_, map_up (map_up h3 rfl) rfl, fun x hx => by rw [e7]; exact h4 x hx, ?_, h6.cong e10, e11.trans h7⟩
  · rw [up_off (by omega), e8]
    by_cases hut : u = t
    · subst hut
      rw [upd_at, up_at, hpv.2.2.2.2.2.1, hT]; rfl
    · rw [upd_off hut, up_off hut]; exact h2 u hu
  · rcases h5 with ⟨-, z⟩ | ⟨n', b', q1, q2, q3, q4, q5⟩
    · rw [hos] at z; cases z
    · rw [hos] at q3; cases q3
      refine Or.inr ⟨n, b, q1, q2, hos, q4, fun x hx => ?_⟩
      rw [e9]
      by_cases hxp : x = p
      · subst hxp; rw [upd_at, up_at]; rfl
      · rw [upd_off hxp, up_off (by omega), up_off (by omega)]; exact q5 x hx
theorem MP.fetch {t p n v : Nat} {b : Int32} {d : VR} {L : LV} (hP : MP F sd na ro wi c y T) (ht : t < 6) (hT : T (6 + p) = (v, d) :: L) (hos : y.2.1 = some (n, b)) (hp : p < n) (e1 : F' 1 = F 1) (e2 : F' 2 = F 2) (e3 : F' 3 = F 3) (e4 : F' 4 = F 4) (e5 : F' 5 = F 5) (e6 : F' 6 = upd (F 6) v (F 8 t)) (e7 : F' 7 = F 7) (e8 : F' 8 = upd (F 8) t (nI v)) (e9 : F' 9 = upd (F 9) p (-1)) (e10 : F' 10 = F 10) (e11 : F' 11 = F 11) : MP F' sd na ro wi c (yset t (d :: y.1 t) (yset (6 + p) [] y)) (va_up (va_up T (6 + p) []) t ((v, d) :: T t)) := by
  obtain ⟨h1, h2, h3, h4, h5, h6, h7⟩ := hP
  have h0t : (T (6 + p))[0]? = some (v, d) := by rw [hT]; rfl
  have hpv := h1.1 (6 + p) 0 v d h0t
  have keep : ∀ (b : Nat) (e : VR) (bh : Option Nat), b ≠ v → PM F b e bh → PM F' b e bh := fun b e bh hb hq => hq.cong (by rw [e1]) (by rw [e2]) (by rw [e3]) (by rw [e4]) (fun i _ => by rw [e5]) (by rw [e6, upd_off hb]) (by rw [e7])
  have F1 : Forest (PM F) (va_up T (6 + p) []) := h1.clear (fun u => by by_cases hu : u = 6 + p <;> simp [va_up, hu]) (fun _ _ _ _ _ z => z)
  have T1t : va_up T (6 + p) [] t = T t := up_off (by omega)
  have F3 := Forest.push (P' := PM F') (t := t) (a := v) (d := d) F1 (by
    intro u i e z
    by_cases hu2 : u = 6 + p
    · subst hu2; rw [up_at] at z; simp at z
    · rw [up_off hu2] at z
      exact hu2 (h1.2 _ _ _ _ _ _ _ z h0t).1) (by
      rw [T1t]
      obtain ⟨q0, q1, q2, q3, q4, q5, q6⟩ := hpv
      refine ⟨q0, by rw [e1]; exact q1, by rw [e2]; exact q2, by rw [e3]; exact q3, ?_, by rw [e6, upd_at, h2 t ht], by rw [e7]; exact q6⟩
      unfold crM at *
      rw [e4, e5]; exact q4) keep
  rw [T1t] at F3
  refine ⟨F3, fun u hu => ?_, map_up (map_up h3 rfl) (by simp [h3 t]), fun x hx => by rw [e7]; exact h4 x hx, ?_, h6.cong e10, e11.trans h7⟩
  · rw [e8]
    by_cases hut : u = t
    · subst hut; rw [upd_at, up_at]; rfl
    · rw [upd_off hut, up_off hut, up_off (by omega)]; exact h2 u hu
  · rcases h5 with ⟨-, z⟩ | ⟨n', b', q1, q2, q3, q4, q5⟩
    · rw [hos] at z; cases z
    · rw [hos] at q3; cases q3
      refine Or.inr ⟨n, b, q1, q2, hos, q4, fun x hx => ?_⟩
      rw [e9, up_off (show 6 + x ≠ t by omega)]
      by_cases hxp : x = p
      · subst hxp; rw [upd_at, up_at]; rfl
      · rw [upd_off hxp, up_off (by omega)]; exact q5 x hx
/-- the plan changes alone -/
theorem MP.planned {op' : OP} {N' : Nat → Nat → Int32} (hP : MP F sd na ro wi c y T) (hL : PlM F' ro' wi' op' N') (e : ∀ k, 1 ≤ k → k ≤ 11 → k ≠ 10 → F' k = F k) : MP F' sd na ro' wi' c (y.1, y.2.1, op', N', y.2.2.2.2) T := by
  obtain ⟨h1, h2, h3, h4, h5, h6, h7⟩ := hP
  exact ⟨h1.keep (fun t i v d _ hq => hq.cong (by rw [(e 1 (by decide) (by decide) (by decide))]) (by rw [(e 2 (by decide) (by decide) (by decide))]) (by rw [(e 3 (by decide) (by decide) (by decide))]) (by rw [(e 4 (by decide) (by decide) (by decide))]) (fun i _ => by rw [(e 5 (by decide) (by decide) (by decide))]) (by rw [(e 6 (by decide) (by decide) (by decide))]) (by rw [(e 7 (by decide) (by decide) (by decide))])), fun t ht => by rw [(e 8 (by decide) (by decide) (by decide))]; exact h2 t ht, h3, fun v hv => by rw [(e 7 (by decide) (by decide) (by decide))]; exact h4 v hv, h5.cong (e 9 (by decide) (by decide) (by decide)) (fun _ _ => rfl), hL, (e 11 (by decide) (by decide) (by decide)).trans h7⟩
end MPL
