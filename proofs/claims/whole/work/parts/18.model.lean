/-! the model: one object and eleven arrays, at addresses ad 0 .. ad 11, that hold the functions F 1 .. F 11 -/
def enc (o : Option Nat) : Int32 := match o with
  | none => -1
  | some v => nI v
def mkF (f1 f2 f3 f4 f5 f6 f7 f8 f9 f10 f11 : Nat → Int32) : Nat → Nat → Int32 := fun k => match k with
  | 1 => f1
  | 2 => f2
  | 3 => f3
  | 4 => f4
  | 5 => f5
  | 6 => f6
  | 7 => f7
  | 8 => f8
  | 9 => f9
  | 10 => f10
  | _ => f11
def cellM (G : gT) (F : Nat → Nat → Int32) : Nat → va_E := fun k => match k with
  | 1 => aI G 600 (F 1)
  | 2 => aI G 600 (F 2)
  | 3 => aI G 600 (F 3)
  | 4 => aI G 600 (F 4)
  | 5 => aI G 7200 (F 5)
  | 6 => aI G 600 (F 6)
  | 7 => aZ G 600 (F 7)
  | 8 => aI G 6 (F 8)
  | 9 => aI G 12 (F 9)
  | 10 => aI G 144 (F 10)
  | _ => aI G 8 (F 11)
def MW (G : gT) (tg : tT) (w : wT) (ad : Nat → Nat) (F : Nat → Nat → Int32) (sd na ro wi lv : Int32) : Prop :=
  w (ad 0) = some (cMo (some (ad 1)) (some (ad 2)) (some (ad 3)) (some (ad 4)) (some (ad 5)) (some (ad 6)) (some (ad 7)) (some (ad 8)) sd na (some (ad 9)) ro wi (some (ad 10)) lv (some (ad 11))) ∧ (∀ k, 1 ≤ k → k ≤ 11 → w (ad k) = some (cellM G F k)) ∧ ∀ k, k ≤ 11 → tg (ad k) = (10 + k, 0)
theorem MW.of {G : gT} {tg : tT} {w0 w : wT} {ad : Nat → Nat} {F : Nat → Nat → Int32} {sd na ro wi lv sd' na' ro' wi' lv' : Int32} {f1 f2 f3 f4 f5 f6 f7 f8 f9 f10 f11 : Nat → Int32} (h : MW G tg w0 ad F sd' na' ro' wi' lv') (k0 : w (ad 0) = some (cMo (some (ad 1)) (some (ad 2)) (some (ad 3)) (some (ad 4)) (some (ad 5)) (some (ad 6)) (some (ad 7)) (some (ad 8)) sd na (some (ad 9)) ro wi (some (ad 10)) lv (some (ad 11)))) (k1 : w (ad 1) = some (aI G 600 f1)) (k2 : w (ad 2) = some (aI G 600 f2)) (k3 : w (ad 3) = some (aI G 600 f3)) (k4 : w (ad 4) = some (aI G 600 f4)) (k5 : w (ad 5) = some (aI G 7200 f5)) (k6 : w (ad 6) = some (aI G 600 f6)) (k7 : w (ad 7) = some (aZ G 600 f7)) (k8 : w (ad 8) = some (aI G 6 f8)) (k9 : w (ad 9) = some (aI G 12 f9)) (k10 : w (ad 10) = some (aI G 144 f10)) (k11 : w (ad 11) = some (aI G 8 f11)) : MW G tg w ad (mkF f1 f2 f3 f4 f5 f6 f7 f8 f9 f10 f11) sd na ro wi lv := by
  refine ⟨k0, fun k h1 h2 => ?_, h.2.2⟩
  rcases (show k = 1 ∨ k = 2 ∨ k = 3 ∨ k = 4 ∨ k = 5 ∨ k = 6 ∨ k = 7 ∨ k = 8 ∨ k = 9 ∨ k = 10 ∨ k = 11 by omega) with rfl | rfl | rfl | rfl | rfl | rfl | rfl | rfl | rfl | rfl | rfl <;> assumption
theorem adne {G : gT} {tg : tT} {w : wT} {ad : Nat → Nat} {F : Nat → Nat → Int32} {sd na ro wi lv : Int32} (h : MW G tg w ad F sd na ro wi lv) (i j : Nat) (hi : i ≤ 11) (hj : j ≤ 11) (hij : i ≠ j) : ad i ≠ ad j := fun e => by
  have h1 := h.2.2 i hi
  rw [e, h.2.2 j hj] at h1
  have := congrArg Prod.fst h1
  simp at this
  omega
theorem enc_none : enc none = -1 := rfl
theorem enc_some (v : Nat) : enc (some v) = nI v := rfl
theorem enc_ne {v : Nat} (h : v < 600) : nI v ≠ -1 := by
  intro e
  have := congrArg Int32.toInt e
  rw [nI_toInt (by omega), kc_m1] at this
  omega
def crM (F : Nat → Nat → Int32) (v : Nat) (cr : CR) : Prop := match cr with
  | none => F 4 v = -1
  | some (n, f) => F 4 v = nI n ∧ n ≤ 12 ∧ ∀ i, i < n → F 5 (12 * v + i) = f i
def PM (F : Nat → Nat → Int32) (v : Nat) (d : VR) (bh : Option Nat) : Prop := v < 600 ∧ F 1 v = d.1 ∧ F 2 v = d.2.1 ∧ F 3 v = d.2.2.1 ∧ crM F v d.2.2.2 ∧ F 6 v = enc bh ∧ F 7 v = 1
def SM (F : Nat → Nat → Int32) (sd na : Int32) (os : OS) (T : Nat → LV) : Prop := (sd = -1 ∧ os = none) ∨ ∃ n b, sd = nI n ∧ na = b ∧ os = some (n, b) ∧ n ≤ 12 ∧ ∀ p, p < n → F 9 p = enc (hd (T (6 + p)))
def PlM (F : Nat → Nat → Int32) (ro wi : Int32) (op : OP) (N : Nat → Nat → Int32) : Prop := (ro = -1 ∧ op = none) ∨ ∃ r k, ro = nI r ∧ wi = nI k ∧ op = some (r, k) ∧ r ≤ 12 ∧ k ≤ 12 ∧ ∀ i j, i < r → j < k → F 10 (12 * i + j) = N i j
def MP (F : Nat → Nat → Int32) (sd na ro wi : Int32) (c : Nat) (y : Yd) (T : Nat → LV) : Prop :=
  Forest (PM F) T ∧ (∀ t, t < 6 → F 8 t = enc (hd (T t))) ∧ (∀ t, (T t).map Prod.snd = y.1 t) ∧ (∀ v, c ≤ v → F 7 v = 0) ∧ SM F sd na y.2.1 T ∧ PlM F ro wi y.2.2.1 y.2.2.2.1 ∧ F 11 = y.2.2.2.2.2
def RepM (G : gT) (tg : tT) (w : wT) (ad : Nat → Nat) (c : Nat) (y : Yd) : Prop := ∃ F sd na ro wi T, MW G tg w ad F sd na ro wi y.2.2.2.2.1 ∧ MP F sd na ro wi c y T
def FrM (w : wT) (tg : tT) (w' : wT) : Prop := ∀ b e, w b = some e → (∃ e', w' b = some e') ∧ ((tg b).1 < 10 → w' b = some e)
theorem FrM.rf {w : wT} {tg : tT} : FrM w tg w := fun b e h => ⟨⟨e, h⟩, fun _ => h⟩
theorem FrM.put {w w1 : wT} {tg : tT} {a : Nat} {x : va_E} (h : FrM w tg w1) {k : Nat} (ha : tg a = (10 + k, 0)) : FrM w tg (va_up w1 a (some x)) := by
  intro b e hb
  obtain ⟨⟨e', h2⟩, h3⟩ := h b e hb
  by_cases hba : b = a
  · subst hba
    exact ⟨⟨x, up_eq⟩, fun z => by rw [ha] at z; simp at z; omega⟩
  · exact ⟨⟨e', by rw [up_ne hba]; exact h2⟩, fun z => by rw [up_ne hba]; exact h3 z⟩
theorem FrM.tr {w w1 w2 : wT} {tg : tT} (h : FrM w tg w1) (h' : FrM w1 tg w2) : FrM w tg w2 := by
  intro b e hb
  obtain ⟨⟨e', h2⟩, h3⟩ := h b e hb
  exact ⟨(h' b e' h2).1, fun z => (h' b e (h3 z)).2 z⟩
def OutM (G : gT) (tg : tT) (w : wT) (ad : Nat → Nat) (c : Nat) (res : Int32 × Yd) (r : Int32) (w' : wT) : Prop := r = res.1 ∧ (∃ c', c' ≤ c + 1 ∧ RepM G tg w' ad c' res.2) ∧ FrM w tg w'
section OM
variable {G : gT} {tg : tT} {w w1 w' : wT} {ad : Nat → Nat} {F : Nat → Nat → Int32} {sd na ro wi : Int32} {c k : Nat} {y y1 : Yd} {T : Nat → LV} {r : Int32}
theorem outM_same {res : Int32 × Yd} (hR : RepM G tg w ad c y) (he : res = (r, y)) : OutM G tg w ad c res r w := by
  subst he
  exact ⟨rfl, ⟨c, by omega, hR⟩, FrM.rf⟩
theorem outM_of {res : Int32 × Yd} {c' : Nat} (hP : MP F sd na ro wi c' y1 T) (hM : MW G tg w' ad F sd na ro wi y1.2.2.2.2.1) (hc : c' ≤ c + 1) (hF : FrM w tg w') (he : res = (r, y1)) : OutM G tg w ad c res r w' := by
  subst he
  exact ⟨rfl, ⟨c', hc, F, sd, na, ro, wi, T, hM, hP⟩, hF⟩
theorem MP.tell (hP : MP F sd na ro wi c y T) (k : Nat) : MP (va_up F 11 (upd (F 11) k (F 11 k + 1))) sd na ro wi c (yno k y).2 T := by
  obtain ⟨h1, h2, h3, h4, h5, h6, h7⟩ := hP
  have e : ∀ j, j ≠ 11 → va_up F 11 (upd (F 11) k (F 11 k + 1)) j = F j := fun j hj => up_off hj
  refine ⟨h1.keep (fun t i a d _ hp => ?_), fun t ht => by rw [e 8 (by decide)]; exact h2 t ht, h3, fun v hv => by rw [e 7 (by decide)]; exact h4 v hv, ?_, ?_, ?_⟩
  · unfold PM crM at *
    rw [e 1 (by decide), e 2 (by decide), e 3 (by decide), e 4 (by decide), e 5 (by decide), e 6 (by decide), e 7 (by decide)]; exact hp
  · unfold SM at *
    rw [e 9 (by decide)]; exact h5
  · unfold PlM at *
    rw [e 10 (by decide)]; exact h6
  · rw [up_at, h7]; rfl
theorem outM_no {res : Int32 × Yd} (hP : MP F sd na ro wi c y1 T) (hM : MW G tg w1 ad F sd na ro wi y1.2.2.2.2.1) (hF : FrM w tg w1) (hr : r = -10 - nI k) (hw : w' = va_up w1 (ad 11) (some (aI G 8 (upd (F 11) k (F 11 k + 1))))) (he : res = yno k y1) : OutM G tg w ad c res r w' := by
  subst he
  refine ⟨hr, ⟨c, by omega, va_up F 11 (upd (F 11) k (F 11 k + 1)), sd, na, ro, wi, T, ?_, hP.tell k⟩, by rw [hw]; exact hF.put (hM.2.2 11 (by decide))⟩
  have n0 : ad 0 ≠ ad 11 := adne hM 0 11 (by decide) (by decide) (by decide)
  refine ⟨by rw [hw, up_ne n0]; exact hM.1, fun j h1 h2 => ?_, hM.2.2⟩
  by_cases hj : j = 11
  · subst hj
    rw [hw, up_eq]
    show _ = some (aI G 8 (va_up F 11 (upd (F 11) k (F 11 k + 1)) 11))
    rw [up_at]
  · rw [hw, up_ne (adne hM j 11 h2 (by decide) hj), hM.2.1 j h1 h2]
    rcases (show j = 1 ∨ j = 2 ∨ j = 3 ∨ j = 4 ∨ j = 5 ∨ j = 6 ∨ j = 7 ∨ j = 8 ∨ j = 9 ∨ j = 10 by omega) with rfl | rfl | rfl | rfl | rfl | rfl | rfl | rfl | rfl | rfl <;> rfl
end OM
