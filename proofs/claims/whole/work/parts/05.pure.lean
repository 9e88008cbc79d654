/-! the mathematical state: crates, vehicles, tracks as lists; places 6 .. 17 are tracks of at most one vehicle -/
abbrev CR : Type := Option (Nat × (Nat → Int32))
abbrev VR : Type := Int32 × Int32 × Int32 × CR
abbrev LV : Type := List (Nat × VR)
def sumTo (a : Int32) (f : Nat → Int32) : Nat → Int32
  | 0 => a
  | n + 1 => sumTo a f n + f n
def ldOf (we : Int32) (cr : CR) : Int32 := match cr with
  | none => we
  | some (n, f) => sumTo we f n
def hd (L : LV) : Option Nat := L[0]?.map Prod.fst
def nx (L : LV) (i : Nat) : Option Nat := L[i + 1]?.map Prod.fst
/-- a forest of chains: every member is held with what is behind it, and stands at one place only -/
def Forest (P : Nat → VR → Option Nat → Prop) (T : Nat → LV) : Prop :=
  (∀ (t i a : Nat) (d : VR), (T t)[i]? = some (a, d) → P a d (nx (T t) i)) ∧
  ∀ (t i u j a : Nat) (d e : VR), (T t)[i]? = some (a, d) → (T u)[j]? = some (a, e) → t = u ∧ i = j
theorem Forest.keep {P P' : Nat → VR → Option Nat → Prop} {T : Nat → LV} (h : Forest P T) (hk : ∀ (t i a : Nat) (d : VR), (T t)[i]? = some (a, d) → P a d (nx (T t) i) → P' a d (nx (T t) i)) : Forest P' T :=
  ⟨fun t i a d q => hk t i a d q (h.1 t i a d q), h.2⟩
theorem Forest.push {P P' : Nat → VR → Option Nat → Prop} {T : Nat → LV} {t a : Nat} {d : VR} (h : Forest P T) (hn : ∀ (u i : Nat) (e : VR), (T u)[i]? ≠ some (a, e)) (ha : P' a d (hd (T t))) (hk : ∀ (b : Nat) (e : VR) (bh : Option Nat), b ≠ a → P b e bh → P' b e bh) : Forest P' (va_up T t ((a, d) :: T t)) := by
  have loc : ∀ (u i b : Nat) (e : VR), (va_up T t ((a, d) :: T t) u)[i]? = some (b, e) → (u = t ∧ i = 0 ∧ b = a ∧ e = d) ∨ (∃ j, (T u)[j]? = some (b, e) ∧ ((u = t ∧ i = j + 1) ∨ (u ≠ t ∧ i = j))) := by
    intro u i b e hq
    by_cases hu : u = t
    · subst hu
      simp only [va_up, if_pos] at hq
      cases i with
      | zero => simp at hq; exact Or.inl ⟨rfl, rfl, hq.1.symm, hq.2.symm⟩
      | succ i => simp at hq; exact Or.inr ⟨i, hq, Or.inl ⟨rfl, rfl⟩⟩
    · simp only [va_up, if_neg hu] at hq
      exact Or.inr ⟨i, hq, Or.inr ⟨hu, rfl⟩⟩
  refine ⟨fun u i b e hq => ?_, fun u i v j b e1 e2 h1 h2 => ?_⟩
  · rcases loc u i b e hq with ⟨rfl, rfl, rfl, rfl⟩ | ⟨j, hj, ⟨rfl, rfl⟩ | ⟨hu, rfl⟩⟩
    · have : nx (va_up T u ((b, e) :: T u) u) 0 = hd (T u) := by simp [nx, hd, va_up]
      rw [this]; exact ha
    · have : nx (va_up T u ((a, d) :: T u) u) (j + 1) = nx (T u) j := by simp [nx, va_up]
      rw [this]
      exact hk b e _ (fun z => hn u j e (z ▸ hj)) (h.1 u j b e hj)
    · have : nx (va_up T t ((a, d) :: T t) u) i = nx (T u) i := by simp [nx, va_up, hu]
      rw [this]
      exact hk b e _ (fun z => hn u i e (z ▸ hj)) (h.1 u i b e hj)
  · rcases loc u i b e1 h1 with ⟨rfl, rfl, rfl, rfl⟩ | ⟨p, hp, hp2⟩ <;> rcases loc v j b e2 h2 with ⟨rfl, rfl, hb, rfl⟩ | ⟨q, hq, hq2⟩
    · exact ⟨rfl, rfl⟩
    · exact absurd hq (hn _ _ _)
    · subst hb; exact absurd hp (hn _ _ _)
    · obtain ⟨e3, e4⟩ := h.2 u p v q b e1 e2 hp hq
      subst e3; subst e4
      rcases hp2 with ⟨a1, a2⟩ | ⟨a1, a2⟩ <;> rcases hq2 with ⟨b1, b2⟩ | ⟨b1, b2⟩
      · exact ⟨rfl, by omega⟩
      · exact absurd a1 b1
      · exact absurd b1 a1
      · exact ⟨rfl, by omega⟩
/-- a part of a list, at the end of it -/
theorem Forest.drop {P P' : Nat → VR → Option Nat → Prop} {T : Nat → LV} {t : Nat} (k : Nat) (h : Forest P T) (hk : ∀ (u i b : Nat) (e : VR), (T u)[i]? = some (b, e) → (u = t → k ≤ i) → P b e (nx (T u) i) → P' b e (nx (T u) i)) : Forest P' (va_up T t ((T t).drop k)) := by
  have loc : ∀ (u i b : Nat) (e : VR), (va_up T t ((T t).drop k) u)[i]? = some (b, e) → (u = t ∧ (T u)[k + i]? = some (b, e)) ∨ (u ≠ t ∧ (T u)[i]? = some (b, e)) := by
    intro u i b e hq
    by_cases hu : u = t
    · subst hu
      simp only [va_up, if_pos, List.getElem?_drop] at hq
      exact Or.inl ⟨rfl, hq⟩
    · simp only [va_up, if_neg hu] at hq
      exact Or.inr ⟨hu, hq⟩
  refine ⟨fun u i b e hq => ?_, fun u i v j b e1 e2 h1 h2 => ?_⟩
  · rcases loc u i b e hq with ⟨rfl, hz⟩ | ⟨hu, hz⟩
    · have : nx (va_up T u ((T u).drop k) u) i = nx (T u) (k + i) := by simp [nx, va_up, List.getElem?_drop, Nat.add_assoc]
      rw [this]
      exact hk u (k + i) b e hz (fun _ => by omega) (h.1 u _ b e hz)
    · have : nx (va_up T t ((T t).drop k) u) i = nx (T u) i := by simp [nx, va_up, hu]
      rw [this]
      exact hk u i b e hz (fun z => absurd z hu) (h.1 u _ b e hz)
  · rcases loc u i b e1 h1 with ⟨a1, a2⟩ | ⟨a1, a2⟩ <;> rcases loc v j b e2 h2 with ⟨b1, b2⟩ | ⟨b1, b2⟩
    · obtain ⟨c1, c2⟩ := h.2 _ _ _ _ _ _ _ a2 b2
      exact ⟨c1, by omega⟩
    · obtain ⟨c1, c2⟩ := h.2 _ _ _ _ _ _ _ a2 b2
      exact absurd (c1 ▸ a1) b1
    · obtain ⟨c1, c2⟩ := h.2 _ _ _ _ _ _ _ a2 b2
      exact absurd (c1.symm ▸ b1) a1
    · exact h.2 _ _ _ _ _ _ _ a2 b2
theorem Forest.put {P P' : Nat → VR → Option Nat → Prop} {T : Nat → LV} {t k a : Nat} {d d' : VR} (h : Forest P T) (ht : (T t)[k]? = some (a, d)) (ha : P' a d' (nx (T t) k)) (hk : ∀ (b : Nat) (e : VR) (bh : Option Nat), b ≠ a → P b e bh → P' b e bh) : Forest P' (va_up T t ((T t).set k (a, d'))) := by
  have hlt := (List.getElem?_eq_some_iff.mp ht).1
  have loc : ∀ (u i b : Nat) (e : VR), (va_up T t ((T t).set k (a, d')) u)[i]? = some (b, e) → (u = t ∧ i = k ∧ b = a ∧ e = d') ∨ (∃ e', (T u)[i]? = some (b, e') ∧ e = e' ∧ b ≠ a) := by
    intro u i b e hq
    by_cases hu : u = t
    · subst hu
      simp only [va_up, if_pos] at hq
      by_cases hi : i = k
      · subst hi
        rw [List.getElem?_set_self hlt] at hq
        simp at hq
        exact Or.inl ⟨rfl, rfl, hq.1.symm, hq.2.symm⟩
      · rw [List.getElem?_set_ne (Ne.symm hi)] at hq
        exact Or.inr ⟨e, hq, rfl, fun z => hi (h.2 _ _ _ _ _ _ _ (z ▸ hq) ht).2⟩
    · simp only [va_up, if_neg hu] at hq
      exact Or.inr ⟨e, hq, rfl, fun z => hu (h.2 _ _ _ _ _ _ _ (z ▸ hq) ht).1⟩
  have nxe : ∀ u i, nx (va_up T t ((T t).set k (a, d')) u) i = nx (T u) i := by
    intro u i
    by_cases hu : u = t
    · subst hu
      simp only [nx, va_up, if_pos]
      by_cases hi : i + 1 = k
      · subst hi
        rw [List.getElem?_set_self hlt, ht]; rfl
      · rw [List.getElem?_set_ne (Ne.symm hi)]
    · simp [nx, va_up, hu]
  refine ⟨fun u i b e hq => ?_, fun u i v j b e1 e2 h1 h2 => ?_⟩
  · rw [nxe]
    rcases loc u i b e hq with ⟨rfl, rfl, rfl, rfl⟩ | ⟨e', h1, rfl, h3⟩
    · exact ha
    · exact hk b _ _ h3 (h.1 _ _ _ _ h1)
  · rcases loc u i b e1 h1 with ⟨rfl, rfl, rfl, rfl⟩ | ⟨e', g1, -, g3⟩ <;> rcases loc v j b e2 h2 with ⟨rfl, rfl, hb, rfl⟩ | ⟨e'', q1, -, q3⟩
    · exact ⟨rfl, rfl⟩
    · exact absurd rfl q3
    · exact absurd hb g3
    · exact h.2 _ _ _ _ _ _ _ g1 q1
/-- the first k of t come ahead of all of u -/
theorem Forest.move {P P' : Nat → VR → Option Nat → Prop} {T : Nat → LV} {t u k a : Nat} {d : VR} (h : Forest P T) (htu : t ≠ u) (ht : (T t)[k]? = some (a, d)) (ha : P' a d (hd (T u))) (hk : ∀ (b : Nat) (e : VR) (bh : Option Nat), b ≠ a → P b e bh → P' b e bh) : Forest P' (va_up (va_up T t ((T t).drop (k + 1))) u ((T t).take (k + 1) ++ T u)) := by
  have hlt := (List.getElem?_eq_some_iff.mp ht).1
  have hlen : ((T t).take (k + 1)).length = k + 1 := by rw [List.length_take]; omega
  have at_u : va_up (va_up T t ((T t).drop (k + 1))) u ((T t).take (k + 1) ++ T u) u = (T t).take (k + 1) ++ T u := by simp [va_up]
  have at_t : va_up (va_up T t ((T t).drop (k + 1))) u ((T t).take (k + 1) ++ T u) t = (T t).drop (k + 1) := by simp [va_up, htu]
  have at_o : ∀ v, v ≠ t → v ≠ u → va_up (va_up T t ((T t).drop (k + 1))) u ((T t).take (k + 1) ++ T u) v = T v := by intro v h1 h2; simp [va_up, h1, h2]
  have gu : ∀ i, ((T t).take (k + 1) ++ T u)[i]? = if i < k + 1 then (T t)[i]? else (T u)[i - (k + 1)]? := by
    intro i
    by_cases hi : i < k + 1
    · rw [if_pos hi, List.getElem?_append_left (by omega), List.getElem?_take, if_pos hi]
    · rw [if_neg hi, List.getElem?_append_right (by omega), hlen]
  have loc : ∀ (v i b : Nat) (e : VR), (va_up (va_up T t ((T t).drop (k + 1))) u ((T t).take (k + 1) ++ T u) v)[i]? = some (b, e) → (v = u ∧ i < k + 1 ∧ (T t)[i]? = some (b, e)) ∨ (v = u ∧ k + 1 ≤ i ∧ (T u)[i - (k + 1)]? = some (b, e)) ∨ (v = t ∧ (T t)[k + 1 + i]? = some (b, e)) ∨ (v ≠ t ∧ v ≠ u ∧ (T v)[i]? = some (b, e)) := by
    intro v i b e hq
    by_cases h1 : v = u
    · subst h1
      rw [at_u, gu] at hq
      by_cases hi : i < k + 1
      · rw [if_pos hi] at hq; exact Or.inl ⟨rfl, hi, hq⟩
      · rw [if_neg hi] at hq; exact Or.inr (Or.inl ⟨rfl, by omega, hq⟩)
    · by_cases h2 : v = t
      · subst h2
        rw [at_t, List.getElem?_drop] at hq
        exact Or.inr (Or.inr (Or.inl ⟨rfl, hq⟩))
      · rw [at_o v h2 h1] at hq
        exact Or.inr (Or.inr (Or.inr ⟨h2, h1, hq⟩))
  refine ⟨fun v i b e hq => ?_, fun v i v' j b e1 e2 h1 h2 => ?_⟩
  · rcases loc v i b e hq with ⟨rfl, hi, hz⟩ | ⟨rfl, hi, hz⟩ | ⟨rfl, hz⟩ | ⟨g1, g2, hz⟩
    · simp only [nx]
      rw [at_u, gu]
      by_cases hik : i = k
      · subst hik
        rw [hz] at ht
        cases ht
        rw [if_neg (by omega), Nat.sub_self]
        exact ha
      · rw [if_pos (by omega)]
        exact hk b e _ (fun z => hik (h.2 _ _ _ _ _ _ _ (z ▸ hz) ht).2) (h.1 _ _ _ _ hz)
    · simp only [nx]
      rw [at_u, gu, if_neg (by omega), show i + 1 - (k + 1) = i - (k + 1) + 1 by omega]
      exact hk b e _ (fun z => htu (h.2 _ _ _ _ _ _ _ (z ▸ hz) ht).1.symm) (h.1 _ _ _ _ hz)
    · simp only [nx]
      rw [at_t, List.getElem?_drop, show k + 1 + (i + 1) = k + 1 + i + 1 by omega]
      exact hk b e _ (fun z => by have := (h.2 _ _ _ _ _ _ _ (z ▸ hz) ht).2; omega) (h.1 _ _ _ _ hz)
    · simp only [nx]
      rw [at_o v g1 g2]
      exact hk b e _ (fun z => g1 (h.2 _ _ _ _ _ _ _ (z ▸ hz) ht).1) (h.1 _ _ _ _ hz)
  · rcases loc v i b e1 h1 with ⟨a0, a1, a2⟩ | ⟨a0, a1, a2⟩ | ⟨a0, a2⟩ | ⟨a0, a1, a2⟩ <;> rcases loc v' j b e2 h2 with ⟨b0, b1, b2⟩ | ⟨b0, b1, b2⟩ | ⟨b0, b2⟩ | ⟨b0, b1, b2⟩ <;> obtain ⟨c1, c2⟩ := h.2 _ _ _ _ _ _ _ a2 b2 <;> first | exact ⟨by omega, by omega⟩ | (exfalso; omega)
/-- all of u come behind all of t -/
theorem Forest.append {P P' : Nat → VR → Option Nat → Prop} {T : Nat → LV} {t u k a : Nat} {d : VR} (h : Forest P T) (htu : t ≠ u) (hl : (T t).length = k + 1) (ht : (T t)[k]? = some (a, d)) (ha : P' a d (hd (T u))) (hk : ∀ (b : Nat) (e : VR) (bh : Option Nat), b ≠ a → P b e bh → P' b e bh) : Forest P' (va_up (va_up T t (T t ++ T u)) u []) := by
  have at_u : va_up (va_up T t (T t ++ T u)) u [] u = [] := by simp [va_up]
  have at_t : va_up (va_up T t (T t ++ T u)) u [] t = T t ++ T u := by simp [va_up, htu]
  have at_o : ∀ v, v ≠ t → v ≠ u → va_up (va_up T t (T t ++ T u)) u [] v = T v := by intro v h1 h2; simp [va_up, h1, h2]
  have gu : ∀ i, (T t ++ T u)[i]? = if i < k + 1 then (T t)[i]? else (T u)[i - (k + 1)]? := by
    intro i
    by_cases hi : i < k + 1
    · rw [if_pos hi, List.getElem?_append_left (by omega)]
    · rw [if_neg hi, List.getElem?_append_right (by omega), hl]
  have loc : ∀ (v i b : Nat) (e : VR), (va_up (va_up T t (T t ++ T u)) u [] v)[i]? = some (b, e) → (v = t ∧ i < k + 1 ∧ (T t)[i]? = some (b, e)) ∨ (v = t ∧ k + 1 ≤ i ∧ (T u)[i - (k + 1)]? = some (b, e)) ∨ (v ≠ t ∧ v ≠ u ∧ (T v)[i]? = some (b, e)) := by
    intro v i b e hq
    by_cases h1 : v = u
    · subst h1
      rw [at_u] at hq
      simp at hq
    · by_cases h2 : v = t
      · subst h2
        rw [at_t, gu] at hq
        by_cases hi : i < k + 1
        · rw [if_pos hi] at hq; exact Or.inl ⟨rfl, hi, hq⟩
        · rw [if_neg hi] at hq; exact Or.inr (Or.inl ⟨rfl, by omega, hq⟩)
      · rw [at_o v h2 h1] at hq
        exact Or.inr (Or.inr ⟨h2, h1, hq⟩)
  refine ⟨fun v i b e hq => ?_, fun v i v' j b e1 e2 h1 h2 => ?_⟩
  · rcases loc v i b e hq with ⟨rfl, hi, hz⟩ | ⟨rfl, hi, hz⟩ | ⟨g1, g2, hz⟩
    · simp only [nx]
      rw [at_t, gu]
      by_cases hik : i = k
      · subst hik
        rw [hz] at ht
        cases ht
        rw [if_neg (by omega), Nat.sub_self]
        exact ha
      · rw [if_pos (by omega)]
        exact hk b e _ (fun z => hik (h.2 _ _ _ _ _ _ _ (z ▸ hz) ht).2) (h.1 _ _ _ _ hz)
    · simp only [nx]
      rw [at_t, gu, if_neg (by omega), show i + 1 - (k + 1) = i - (k + 1) + 1 by omega]
      exact hk b e _ (fun z => htu (h.2 _ _ _ _ _ _ _ (z ▸ hz) ht).1.symm) (h.1 _ _ _ _ hz)
    · simp only [nx]
      rw [at_o v g1 g2]
      exact hk b e _ (fun z => g1 (h.2 _ _ _ _ _ _ _ (z ▸ hz) ht).1) (h.1 _ _ _ _ hz)
  · rcases loc v i b e1 h1 with ⟨a0, a1, a2⟩ | ⟨a0, a1, a2⟩ | ⟨a0, a1, a2⟩ <;> rcases loc v' j b e2 h2 with ⟨b0, b1, b2⟩ | ⟨b0, b1, b2⟩ | ⟨b0, b1, b2⟩ <;> obtain ⟨c1, c2⟩ := h.2 _ _ _ _ _ _ _ a2 b2 <;> first | exact ⟨by omega, by omega⟩ | (exfalso; omega)
/-- some lists are emptied -/
theorem Forest.clear {P P' : Nat → VR → Option Nat → Prop} {T T' : Nat → LV} (h : Forest P T) (hT : ∀ t, T' t = T t ∨ T' t = []) (hk : ∀ (t i a : Nat) (d : VR), (T' t)[i]? = some (a, d) → P a d (nx (T' t) i) → P' a d (nx (T' t) i)) : Forest P' T' := by
  have loc : ∀ (u i b : Nat) (e : VR), (T' u)[i]? = some (b, e) → T' u = T u := by
    intro u i b e hq
    rcases hT u with z | z
    · exact z
    · rw [z] at hq; simp at hq
  refine ⟨fun u i b e hq => hk u i b e hq ?_, fun u i v j b e1 e2 h1 h2 => ?_⟩
  · have := loc u i b e hq
    rw [this] at hq ⊢
    exact h.1 u i b e hq
  · rw [loc u i b e1 h1] at h1
    rw [loc v j b e2 h2] at h2
    exact h.2 _ _ _ _ _ _ _ h1 h2
