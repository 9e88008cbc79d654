/-! what each call answers and makes of the state: the document as a function -/
abbrev Yd : Type := (Nat → List VR) × OS × OP × (Nat → Nat → Int32) × Int32 × (Nat → Int32)
abbrev okT (t : Int32) : Prop := 0 ≤ t.toInt ∧ t.toInt < 6
abbrev okB (x a b : Int32) : Prop := a.toInt ≤ x.toInt ∧ x.toInt ≤ b.toInt
abbrev tn (t : Int32) : Nat := t.toNatClampNeg
def yno (k : Nat) (y : Yd) : Int32 × Yd := (-10 - nI k, y.1, y.2.1, y.2.2.1, y.2.2.2.1, y.2.2.2.2.1, upd y.2.2.2.2.2 k (y.2.2.2.2.2 k + 1))
def ylev (x : Int32) (y : Yd) : Yd := (y.1, y.2.1, y.2.2.1, y.2.2.2.1, x, y.2.2.2.2.2)
def yset (t : Nat) (l : List VR) (y : Yd) : Yd := (va_up y.1 t l, y.2)
def yat (y : Yd) (t k : Int32) : Option VR := (y.1 (tn t))[tn k]?
def yput (t k : Int32) (d : VR) (y : Yd) : Yd := yset (tn t) ((y.1 (tn t)).set (tn k) d) y
def sp_place (t so we : Int32) (y : Yd) : Int32 × Yd :=
  if okT t ∧ okB so 1 3 ∧ okB we 1 1000 then (nI ((y.1 (tn t)).length + 1), yset (tn t) ((so, we, 0, none) :: y.1 (tn t)) y) else (-1, y)
def sp_take (t : Int32) (y : Yd) : Int32 × Yd :=
  if okT t then match y.1 (tn t) with
    | [] => yno 1 y
    | d :: l => (ldOf d.2.1 d.2.2.2, yset (tn t) l y)
  else (-1, y)
def sp_shunt (f n t : Int32) (y : Yd) : Int32 × Yd :=
  if (okT f ∧ okT t ∧ f ≠ t) ∧ okB n 1 99 then
    (if tn n ≤ (y.1 (tn f)).length then (n, yset (tn t) ((y.1 (tn f)).take (tn n) ++ y.1 (tn t)) (yset (tn f) ((y.1 (tn f)).drop (tn n)) y)) else yno 1 y)
  else (-1, y)
def sp_couple (t o : Int32) (y : Yd) : Int32 × Yd :=
  if okT t ∧ okT o ∧ t ≠ o then
    (if y.1 (tn t) = [] then yno 1 y else (nI ((y.1 (tn t)).length + (y.1 (tn o)).length), yset (tn o) [] (yset (tn t) (y.1 (tn t) ++ y.1 (tn o)) y)))
  else (-1, y)
def sp_crates (t k n : Int32) (y : Yd) : Int32 × Yd :=
  if (okT t ∧ 0 ≤ k.toInt) ∧ n.toInt ≤ 12 then
    (if isE (yat y t k) = true then yno 2 y else if n.toInt < 0 then yno 4 y else match yat y t k with
      | none => yno 1 y
      | some d => (n, yput t k (d.1, d.2.1, d.2.2.1, some (tn n, fun _ => 0)) y))
  else (-1, y)
def sp_load (t k i x : Int32) (y : Yd) : Int32 × Yd :=
  if (okT t ∧ 0 ≤ k.toInt) ∧ okB x 0 99 then
    (if whyC (yat y t k) i ≠ 0 then yno (whyC (yat y t k) i) y else match yat y t k with
      | some (so, we, de, some (n, f)) => (x, yput t k (so, we, de, some (n, upd f (tn i) x)) y)
      | _ => (0, y))
  else (-1, y)
def sp_crate (t k i : Int32) (y : Yd) : Int32 × Yd :=
  if okT t ∧ 0 ≤ k.toInt then
    (if whyC (yat y t k) i ≠ 0 then yno (whyC (yat y t k) i) y else match yat y t k with
      | some (_, _, _, some (_, f)) => (f (tn i), y)
      | _ => (0, y))
  else (-1, y)
def sp_length (t k : Int32) (y : Yd) : Int32 × Yd :=
  if okT t ∧ 0 ≤ k.toInt then
    (if whyR (yat y t k) ≠ 0 then yno (whyR (yat y t k)) y else match yat y t k with
      | some (_, _, _, some (n, _)) => (nI n, y)
      | _ => (0, y))
  else (-1, y)
def sp_weigh (t k : Int32) (y : Yd) : Int32 × Yd :=
  if okT t ∧ 0 ≤ k.toInt then match yat y t k with
    | none => yno 1 y
    | some d => (ldOf d.2.1 d.2.2.2, y)
  else (-1, y)
def sp_defect (t k x : Int32) (y : Yd) : Int32 × Yd :=
  if (okT t ∧ 0 ≤ k.toInt) ∧ okB x 0 99 then match yat y t k with
    | none => yno 1 y
    | some d => (x, yput t k (d.1, d.2.1, x, d.2.2.2) y)
  else (-1, y)
def sp_report (t k : Int32) (y : Yd) : Int32 × Yd :=
  if okT t ∧ 0 ≤ k.toInt then match yat y t k with
    | none => yno 1 y
    | some d => if d.2.2.1 = 0 then yno 1 y else yno 7 (ylev d.2.2.1 y)
  else (-1, y)
def gV (d : VR) : Bool := decide (50 ≤ d.2.2.1.toInt)
def sp_draw (t : Int32) (y : Yd) : Int32 × Yd :=
  if okT t then match y.1 (tn t) with
    | [] => yno 1 y
    | d :: l => if d.1.toInt = 1 then match l.find? gV with
        | some b => yno 7 (ylev b.2.2.1 y)
        | none => if 0 < (sLd 0 l - 10 * d.2.1).toInt then yno 6 (ylev (sLd 0 l - 10 * d.2.1) y) else (sLd 0 l, y)
      else yno 2 y
  else (-1, y)
def sp_level (y : Yd) : Int32 × Yd := (y.2.2.2.2.1, y)
def yclr (T : Nat → List VR) : Nat → List VR := fun t => if t < 6 then T t else []
def sp_siding (n b : Int32) (y : Yd) : Int32 × Yd :=
  if n.toInt ≤ 12 then (if n.toInt < 0 then yno 4 y else (n, yclr y.1, some (tn n, b), y.2.2)) else (-1, y)
def sp_room (y : Yd) : Int32 × Yd := match y.2.1 with
  | none => yno 1 y
  | some q => (nI q.1, y)
def sp_stow (p t : Int32) (y : Yd) : Int32 × Yd :=
  if okT t then
    (if isE ((y.1 (tn t))[0]?) = true then yno 2 y else if whyP y.2.1 p ≠ 0 then yno (whyP y.2.1 p) y else match y.1 (tn t), y.2.1 with
      | [], _ => yno 1 (yset (6 + tn p) [] y)
      | d :: l, some (_, b) => if b = 0 ∨ d.1 = 3 then (nI l.length, yset (6 + tn p) [d] (yset (tn t) l y)) else yno 3 y
      | _, _ => (0, y))
  else (-1, y)
def sp_fetch (p t : Int32) (y : Yd) : Int32 × Yd :=
  if okT t then
    (if whyP y.2.1 p ≠ 0 then yno (whyP y.2.1 p) y else match y.1 (6 + tn p) with
      | [] => yno 1 y
      | d :: _ => (nI ((y.1 (tn t)).length + 1), yset (tn t) (d :: y.1 (tn t)) (yset (6 + tn p) [] y)))
  else (-1, y)
def sp_plan (n k : Int32) (y : Yd) : Int32 × Yd :=
  if n.toInt ≤ 12 ∧ k.toInt ≤ 12 then (if n.toInt < 0 ∨ k.toInt < 0 then yno 4 y else (n * k, y.1, y.2.1, some (tn n, tn k), fun _ _ => 0, y.2.2.2.2)) else (-1, y)
def upd2 (f : Nat → Nat → Int32) (i j : Nat) (x : Int32) : Nat → Nat → Int32 := fun a b => if a = i ∧ b = j then x else f a b
def sp_note (i j x : Int32) (y : Yd) : Int32 × Yd :=
  if okB x 0 99 then (if whyN y.2.2.1 i j ≠ 0 then yno (whyN y.2.2.1 i j) y else (x, y.1, y.2.1, y.2.2.1, upd2 y.2.2.2.1 (tn i) (tn j) x, y.2.2.2.2)) else (-1, y)
def sp_noted (i j : Int32) (y : Yd) : Int32 × Yd :=
  if whyN y.2.2.1 i j ≠ 0 then yno (whyN y.2.2.1 i j) y else (y.2.2.2.1 (tn i) (tn j), y)
def sp_wide (i : Int32) (y : Yd) : Int32 × Yd :=
  if whyL y.2.2.1 i ≠ 0 then yno (whyL y.2.2.1 i) y else match y.2.2.1 with
    | some q => (nI q.2, y)
    | none => (0, y)
def sp_away (x : Int32) (y : Yd) : Int32 × Yd :=
  if x = 0 then (bI (y.2.1 ≠ none), yclr y.1, none, y.2.2) else if x = 1 then (bI (y.2.2.1 ≠ none), y.1, y.2.1, none, y.2.2.2) else (-1, y)
def sp_about (t k x : Int32) (y : Yd) : Int32 × Yd :=
  if (okT t ∧ 0 ≤ k.toInt) ∧ okB x 0 3 then match yat y t k with
    | none => (0, y)
    | some d => (if x = 0 then d.1 else if x = 1 then d.2.1 else if x = 2 then d.2.2.1 else match d.2.2.2 with
        | none => 0
        | some q => nI q.1, y)
  else (-1, y)
def sp_count (t : Int32) (y : Yd) : Int32 × Yd := if okT t then (nI (y.1 (tn t)).length, y) else (-1, y)
def sp_reasons (k : Int32) (y : Yd) : Int32 × Yd := if okB k 1 7 then (y.2.2.2.2.2 (tn k), y) else (-1, y)
/-- what every state has: weights, crates, lengths within their bounds; c calls of place were made -/
def vok (d : VR) : Prop := okB d.1 1 3 ∧ okB d.2.1 1 1000 ∧ okB d.2.2.1 0 99 ∧ ∀ n f, d.2.2.2 = some (n, f) → n ≤ 12 ∧ ∀ i, i < n → okB (f i) 0 99
def tot (T : Nat → List VR) : Nat → Nat
  | 0 => 0
  | n + 1 => tot T n + (T n).length
def Yok (c : Nat) (y : Yd) : Prop := tot y.1 18 ≤ c ∧ (∀ t d, d ∈ y.1 t → vok d) ∧ (∀ q, y.2.1 = some q → q.1 ≤ 12 ∧ (q.2 = 0 ∨ q.2 = 1)) ∧ (∀ q, y.2.2.1 = some q → q.1 ≤ 12 ∧ q.2 ≤ 12) ∧ ∀ p, 6 ≤ p → (y.1 p).length ≤ 1
theorem tot_le {T : Nat → List VR} : ∀ {n t : Nat}, t < n → (T t).length ≤ tot T n := by
  intro n
  induction n with
  | zero => intro t h; omega
  | succ n ih =>
    intro t h
    simp only [tot]
    rcases Nat.lt_or_ge t n with q | q
    · have := ih q; omega
    · have : t = n := by omega
      subst this; omega
theorem Yok.len {c : Nat} {y : Yd} (h : Yok c y) {t : Nat} (ht : t < 18) : (y.1 t).length ≤ c := Nat.le_trans (tot_le ht) h.1
/-! how a class's cells hold it -/
abbrev tT : Type := Nat → Nat × Nat
def PC (G : gT) (w : wT) (tg : tT) (a : Nat) (d : VR) (bh : Option Nat) : Prop := tg a = (4, 0) ∧ ∃ ro, w a = some (cVeh d.1 d.2.1 d.2.2.1 ro bh) ∧ rowAt G w ro d.2.2.2 ∧ ∀ r, ro = some r → tg r = (5, a)
def SC (G : gT) (w : wT) (tg : tT) (sd : Option Nat) (os : OS) (T : Nat → LV) : Prop := (sd = none ∧ os = none) ∨ ∃ sa pa n b f, sd = some sa ∧ (w sa = some (cSid (some pa) b) ∧ tg sa = (6, 0)) ∧ (w pa = some (aV G n f) ∧ tg pa = (7, 0)) ∧ os = some (n, b) ∧ n ≤ 12 ∧ ∀ p, p < n → f p = hd (T (6 + p))
def PP (G : gT) (w : wT) (tg : tT) (pl : Option Nat) (op : OP) (N : Nat → Nat → Int32) : Prop := (pl = none ∧ op = none) ∨ ∃ pa nu r c f, pl = some pa ∧ (w pa = some (cPln (nI r) (nI c) (some nu)) ∧ tg pa = (8, 0)) ∧ (w nu = some (aI G (r * c) f) ∧ tg nu = (9, 0)) ∧ op = some (r, c) ∧ r ≤ 12 ∧ c ≤ 12 ∧ ∀ i j, i < r → j < c → f (i * c + j) = N i j
def RepCx (G : gT) (tg : tT) (w : wT) (h0 c : Nat) (y : Yd) (ta to : Nat) (tf : Nat → Option Nat) (tk : Nat → Nat) (sd pl : Option Nat) (T : Nat → LV) : Prop :=
  (w h0 = some (cTs (some ta) (some to) sd pl y.2.2.2.2.1 (nI c)) ∧ tg h0 = (0, 0)) ∧
  (w ta = some (aT G 6 tf) ∧ tg ta = (1, 0)) ∧ (∀ t, t < 6 → tf t = some (tk t)) ∧
  (w to = some (aI G 8 y.2.2.2.2.2) ∧ tg to = (2, 0)) ∧
  (∀ t, t < 6 → w (tk t) = some (cTrk (hd (T t)) (nI (T t).length)) ∧ tg (tk t) = (3, t)) ∧
  Forest (PC G w tg) T ∧ (∀ t, (T t).map Prod.snd = y.1 t) ∧
  SC G w tg sd y.2.1 T ∧ PP G w tg pl y.2.2.1 y.2.2.2.1
def RepC (G : gT) (tg : tT) (w : wT) (h0 c : Nat) (y : Yd) : Prop := ∃ ta to tf tk sd pl T, RepCx G tg w h0 c y ta to tf tk sd pl T
/-! a change: which addresses it touches -/
def Up (S : Nat → Prop) (w : wT) (tg : tT) (w' : wT) (tg' : tT) : Prop := ∀ b e, w b = some e → tg' b = tg b ∧ (∃ e', w' b = some e') ∧ (¬ S b → w' b = some e)
theorem Up.of {S : Nat → Prop} {w w' : wT} {tg tg' : tT} (h : ∀ b, ¬ S b → w' b = w b) (hs : ∀ b, S b → ∃ e, w' b = some e) (ht : ∀ b e, w b = some e → tg' b = tg b) : Up S w tg w' tg' := by
  intro b e hb
  refine ⟨ht b e hb, ?_, fun hS => by rw [h b hS]; exact hb⟩
  by_cases hS : S b
  · exact hs b hS
  · exact ⟨e, by rw [h b hS]; exact hb⟩
theorem cu {S : Nat → Prop} {w w' : wT} {tg tg' : tT} {a : Nat} {e : va_E} {τ : Nat × Nat} (hc : w a = some e ∧ tg a = τ) (hU : Up S w tg w' tg') (hS : ∀ b, S b → tg b ≠ τ) : w' a = some e ∧ tg' a = τ :=
  ⟨(hU a e hc.1).2.2 (fun h => hS a h hc.2), (hU a e hc.1).1.trans hc.2⟩
theorem PC.up {G : gT} {S : Nat → Prop} {w w' : wT} {tg tg' : tT} {a : Nat} {d : VR} {bh : Option Nat} (h : PC G w tg a d bh) (hU : Up S w tg w' tg') (ha : ¬ S a) (hr : ∀ r, S r → tg r ≠ (5, a)) : PC G w' tg' a d bh := by
  obtain ⟨h1, ro, h2, h3, h4⟩ := h
  refine ⟨(hU a _ h2).1.trans h1, ro, (hU a _ h2).2.2 ha, ?_, ?_⟩
  · cases hq : d.2.2.2 with
    | none => rw [hq] at h3; exact h3
    | some q =>
      obtain ⟨n, f⟩ := q
      rw [hq] at h3
      obtain ⟨g1, r, g2, g3⟩ := h3
      exact ⟨g1, r, g2, (hU r _ g3).2.2 (fun z => hr r z (h4 r g2))⟩
  · intro r hro
    cases hq : d.2.2.2 with
    | none => rw [hq] at h3; rw [h3] at hro; cases hro
    | some q =>
      obtain ⟨n, f⟩ := q
      rw [hq] at h3
      obtain ⟨g1, r', g2, g3⟩ := h3
      rw [g2] at hro
      cases hro
      exact (hU r _ g3).1.trans (h4 r g2)
theorem SC.up {G : gT} {S : Nat → Prop} {w w' : wT} {tg tg' : tT} {sd : Option Nat} {os : OS} {T T' : Nat → LV} (h : SC G w tg sd os T) (hU : Up S w tg w' tg') (hS : ∀ b, S b → tg b ≠ (6, 0) ∧ tg b ≠ (7, 0)) (hT : ∀ p, 6 ≤ p → T' p = T p) : SC G w' tg' sd os T' := by
  rcases h with h | ⟨sa, pa, n, b, f, h1, h2, h3, h4, h5, h6⟩
  · exact Or.inl h
  · exact Or.inr ⟨sa, pa, n, b, f, h1, cu h2 hU (fun b hb => (hS b hb).1), cu h3 hU (fun b hb => (hS b hb).2), h4, h5, fun p hp => by rw [hT (6 + p) (by omega)]; exact h6 p hp⟩
theorem PP.up {G : gT} {S : Nat → Prop} {w w' : wT} {tg tg' : tT} {pl : Option Nat} {op : OP} {N : Nat → Nat → Int32} (h : PP G w tg pl op N) (hU : Up S w tg w' tg') (hS : ∀ b, S b → tg b ≠ (8, 0) ∧ tg b ≠ (9, 0)) : PP G w' tg' pl op N := by
  rcases h with h | ⟨pa, nu, r, c, f, h1, h2, h3, h4⟩
  · exact Or.inl h
  · exact Or.inr ⟨pa, nu, r, c, f, h1, cu h2 hU (fun b hb => (hS b hb).1), cu h3 hU (fun b hb => (hS b hb).2), h4⟩
theorem SC.opt {G : gT} {w : wT} {tg : tT} {sd : Option Nat} {os : OS} {T : Nat → LV} (h : SC G w tg sd os T) : sopt G w sd os := by
  rcases h with h | ⟨sa, pa, n, b, f, h1, h2, h3, h4, h5, -⟩
  · exact Or.inl h
  · exact Or.inr ⟨sa, pa, n, b, f, h1, h2.1, h3.1, h4, h5⟩
theorem PP.opt {G : gT} {w : wT} {tg : tT} {pl : Option Nat} {op : OP} {N : Nat → Nat → Int32} (h : PP G w tg pl op N) : popt G w pl op := by
  rcases h with h | ⟨pa, nu, r, c, f, h1, h2, h3, h4, h5, h6, -⟩
  · exact Or.inl h
  · exact Or.inr ⟨pa, nu, r, c, f, h1, h2.1, h3.1, h4, h5, h6⟩
theorem PC.veh {G : gT} {w : wT} {tg : tT} {a : Nat} {d : VR} {bh : Option Nat} (h : PC G w tg a d bh) : vehAt G w a d bh := by
  obtain ⟨-, ro, h1, h2, -⟩ := h
  exact ⟨ro, h1, h2⟩
