theorem tot_up {T : Nat → List VR} {t : Nat} {l : List VR} : ∀ {n : Nat}, t < n → tot (va_up T t l) n + (T t).length = tot T n + l.length := by
  intro n
  induction n with
  | zero => intro h; omega
  | succ n ih =>
    intro h
    simp only [tot]
    by_cases hn : t = n
    · subst hn
      have hk : ∀ m, m ≤ t → tot (va_up T t l) m = tot T m := by
        intro m
        induction m with
        | zero => intro _; rfl
        | succ m ihm => intro hm; simp only [tot]; rw [ihm (by omega), up_off (by omega)]
      rw [hk t (Nat.le_refl _), up_at]; omega
    · rw [up_off (fun z => hn z.symm)]
      have := ih (by omega)
      omega
theorem tot_clr {T : Nat → List VR} : ∀ {n : Nat}, tot (yclr T) n ≤ tot T n := by
  intro n
  induction n with
  | zero => exact Nat.le_refl _
  | succ n ih =>
    simp only [tot]
    have : (yclr T n).length ≤ (T n).length := by
      unfold yclr
      split
      · exact Nat.le_refl _
      · exact Nat.zero_le _
    omega
theorem okB00 : okB 0 0 99 := ⟨by decide, by decide⟩
section YK
variable {n : Nat} {y : Yd}
theorem Yok.up {m : Nat} (h : Yok n y) (hm : n ≤ m) : Yok m y := ⟨Nat.le_trans h.1 hm, h.2⟩
theorem Yok.no {m : Nat} (h : Yok n y) (hm : n ≤ m) (k : Nat) : Yok m (yno k y).2 := h.up hm
theorem Yok.lev {m : Nat} (h : Yok n y) (hm : n ≤ m) (x : Int32) : Yok m (ylev x y) := h.up hm
theorem Yok.set {t m : Nat} {l : List VR} (h : Yok n y) (ht : t < 18) (hm : n + l.length ≤ m + (y.1 t).length) (hl : ∀ d, d ∈ l → vok d) (h6 : 6 ≤ t → l.length ≤ 1) : Yok m (yset t l y) := by
  obtain ⟨h1, h2, h3, h4, h5⟩ := h
  refine ⟨?_, fun u d hd => ?_, h3, h4, fun p hp => ?_⟩
  · have := tot_up (T := y.1) (l := l) ht
    show tot (va_up y.1 t l) 18 ≤ m
    omega
  · by_cases hu : u = t
    · subst hu
      exact hl d (by simpa [yset, va_up] using hd)
    · exact h2 u d (by simpa [yset, va_up, hu] using hd)
  · by_cases hu : p = t
    · subst hu; simp only [yset, up_at]; exact h6 hp
    · simp only [yset, up_off hu]; exact h5 p hp
theorem Yok.clr {m : Nat} {os : OS} (h : Yok n y) (hm : n ≤ m) (ho : ∀ q, os = some q → q.1 ≤ 12 ∧ (q.2 = 0 ∨ q.2 = 1)) : Yok m (yclr y.1, os, y.2.2) := by
  obtain ⟨h1, h2, h3, h4, h5⟩ := h
  refine ⟨Nat.le_trans (Nat.le_trans tot_clr h1) hm, fun u d hd => ?_, ho, h4, fun p hp => ?_⟩
  · by_cases hu : u < 6
    · exact h2 u d (by simpa [yclr, hu] using hd)
    · simp [yclr, hu] at hd
  · have : ¬ p < 6 := by omega
    simp [yclr, this]
theorem tn6 {t : Int32} (h : okT t) : tn t < 6 := tn_lt h
theorem Yk_place {t so we : Int32} (h : Yok n y) : Yok (n + 1) (sp_place t so we y).2 := by
  unfold sp_place
  split
  · rename_i hc
    have ht := tn6 hc.1
    refine h.set (by omega) (by simp; omega) (fun d hd => ?_) (fun z => by omega)
    rcases List.mem_cons.mp hd with rfl | hd
    · exact ⟨hc.2.1, hc.2.2, okB00, fun n f z => by cases z⟩
    · exact h.2.1 _ d hd
  · exact h.up (by omega)
theorem Yk_take {t : Int32} (h : Yok n y) : Yok (n + 1) (sp_take t y).2 := by
  unfold sp_take
  split
  · rename_i hc
    have ht := tn6 hc
    split
    · exact h.no (by omega) 1
    · rename_i d l hl
      refine h.set (by omega) (by rw [hl]; simp; omega) (fun e he => h.2.1 _ e (by rw [hl]; exact List.mem_cons_of_mem _ he)) (fun z => by omega)
  · exact h.up (by omega)
theorem Yk_shunt {f k t : Int32} (h : Yok n y) : Yok (n + 1) (sp_shunt f k t y).2 := by
  unfold sp_shunt
  split
  · rename_i hc
    split
    · rename_i hk
      have hf := tn6 hc.1.1
      have ht := tn6 hc.1.2.1
      have hne : tn f ≠ tn t := tn_ne hc.1.1.1 hc.1.2.1.1 hc.1.2.2
      have h1 : Yok (n - tn k) (yset (tn f) ((y.1 (tn f)).drop (tn k)) y) := by
        have hle : (y.1 (tn f)).length ≤ n := h.len (by omega)
        exact h.set (by omega) (by rw [List.length_drop]; omega) (fun d hd => h.2.1 _ d (List.mem_of_mem_drop hd)) (fun z => by omega)
      have hle : (y.1 (tn f)).length ≤ n := h.len (by omega)
      refine h1.set (by omega) ?_ (fun d hd => ?_) (fun z => by omega)
      · simp only [yset, up_off (Ne.symm hne), List.length_append, List.length_take]; omega
      · rcases List.mem_append.mp hd with z | z
        · exact h.2.1 _ d (List.mem_of_mem_take z)
        · exact h.2.1 _ d z
    · exact h.no (by omega) 1
  · exact h.up (by omega)
theorem Yk_couple {t o : Int32} (h : Yok n y) : Yok (n + 1) (sp_couple t o y).2 := by
  unfold sp_couple
  split
  · rename_i hc
    split
    · exact h.no (by omega) 1
    · have hf := tn6 hc.1
      have ht := tn6 hc.2.1
      have hne : tn t ≠ tn o := tn_ne hc.1.1 hc.2.1.1 hc.2.2
      have h1 : Yok (n + (y.1 (tn o)).length) (yset (tn t) (y.1 (tn t) ++ y.1 (tn o)) y) := by
        refine h.set (by omega) (by rw [List.length_append]; omega) (fun d hd => ?_) (fun z => by omega)
        rcases List.mem_append.mp hd with z | z
        · exact h.2.1 _ d z
        · exact h.2.1 _ d z
      refine h1.set (by omega) ?_ (fun d hd => by cases hd) (fun z => by omega)
      simp only [yset, up_off (Ne.symm hne), List.length_nil]; omega
  · exact h.up (by omega)
theorem Yok.put {t k : Int32} {d : VR} (h : Yok n y) (ht : okT t) (hd : vok d) : Yok (n + 1) (yput t k d y) := by
  have h6 := tn6 ht
  refine h.set (by omega) (by simp only [List.length_set]; omega) (fun e he => ?_) (fun z => by omega)
  rcases List.mem_or_eq_of_mem_set he with z | z
  · exact h.2.1 _ e z
  · rw [z]; exact hd
theorem yat_mem {t k : Int32} {d : VR} (h : yat y t k = some d) : d ∈ y.1 (tn t) := List.mem_of_getElem? h
theorem Yk_crates {t k m : Int32} (h : Yok n y) : Yok (n + 1) (sp_crates t k m y).2 := by
  unfold sp_crates
  split
  · rename_i hc
    split
    · exact h.no (by omega) 2
    · split
      · exact h.no (by omega) 4
      · rename_i hm
        split
        · exact h.no (by omega) 1
        · rename_i d hd
          have hv := h.2.1 _ d (yat_mem hd)
          refine h.put hc.1.1 ⟨hv.1, hv.2.1, hv.2.2.1, fun q f z => ?_⟩
          cases z
          exact ⟨toNat_le hc.2, fun i _ => okB00⟩
  · exact h.up (by omega)
theorem Yk_load {t k i x : Int32} (h : Yok n y) : Yok (n + 1) (sp_load t k i x y).2 := by
  unfold sp_load
  split
  · rename_i hc
    split
    · exact h.no (by omega) _
    · split
      · rename_i so we de q f hd
        have hv := h.2.1 _ _ (yat_mem hd)
        refine h.put hc.1.1 ⟨hv.1, hv.2.1, hv.2.2.1, fun q2 f2 z => ?_⟩
        cases z
        obtain ⟨g1, g2⟩ := hv.2.2.2 q f rfl
        refine ⟨g1, fun j hj => ?_⟩
        by_cases hji : j = tn i
        · subst hji; rw [upd_at]; exact hc.2
        · rw [upd_off hji]; exact g2 j hj
      · exact h.up (by omega)
  · exact h.up (by omega)
theorem Yk_crate {t k i : Int32} (h : Yok n y) : Yok (n + 1) (sp_crate t k i y).2 := by
  unfold sp_crate
  split
  · split
    · exact h.no (by omega) _
    · split <;> exact h.up (by omega)
  · exact h.up (by omega)
theorem Yk_length {t k : Int32} (h : Yok n y) : Yok (n + 1) (sp_length t k y).2 := by
  unfold sp_length
  split
  · split
    · exact h.no (by omega) _
    · split <;> exact h.up (by omega)
  · exact h.up (by omega)
theorem Yk_weigh {t k : Int32} (h : Yok n y) : Yok (n + 1) (sp_weigh t k y).2 := by
  unfold sp_weigh
  split
  · split
    · exact h.no (by omega) _
    · exact h.up (by omega)
  · exact h.up (by omega)
theorem Yk_defect {t k x : Int32} (h : Yok n y) : Yok (n + 1) (sp_defect t k x y).2 := by
  unfold sp_defect
  split
  · rename_i hc
    split
    · exact h.no (by omega) _
    · rename_i d hd
      have hv := h.2.1 _ _ (yat_mem hd)
      exact h.put hc.1.1 ⟨hv.1, hv.2.1, hc.2, hv.2.2.2⟩
  · exact h.up (by omega)
theorem Yk_report {t k : Int32} (h : Yok n y) : Yok (n + 1) (sp_report t k y).2 := by
  unfold sp_report
  split
  · split
    · exact h.no (by omega) _
    · split
      · exact h.no (by omega) _
      · exact (h.lev (Nat.le_refl _) _).no (by omega) _
  · exact h.up (by omega)
theorem Yk_draw {t : Int32} (h : Yok n y) : Yok (n + 1) (sp_draw t y).2 := by
  unfold sp_draw
  split
  · split
    · exact h.no (by omega) _
    · split
      · split
        · exact (h.lev (Nat.le_refl _) _).no (by omega) _
        · split
          · exact (h.lev (Nat.le_refl _) _).no (by omega) _
          · exact h.up (by omega)
      · exact h.no (by omega) _
  · exact h.up (by omega)
theorem Yk_level (h : Yok n y) : Yok (n + 1) (sp_level y).2 := h.up (by omega)
theorem Yk_siding {m b : Int32} (h : Yok n y) (hb : b = 0 ∨ b = 1) : Yok (n + 1) (sp_siding m b y).2 := by
  unfold sp_siding
  split
  · rename_i hc
    split
    · exact h.no (by omega) _
    · exact h.clr (by omega) (fun q z => by cases z; exact ⟨toNat_le hc, hb⟩)
  · exact h.up (by omega)
theorem Yk_room (h : Yok n y) : Yok (n + 1) (sp_room y).2 := by
  unfold sp_room
  split
  · exact h.no (by omega) _
  · exact h.up (by omega)
theorem Yk_stow {p t : Int32} (h : Yok n y) : Yok (n + 1) (sp_stow p t y).2 := by
  unfold sp_stow
  split
  · rename_i hc
    have ht := tn6 hc
    split
    · exact h.no (by omega) _
    · split
      · exact h.no (by omega) _
      · rename_i hw
        have hp : tn p < 12 := by
          obtain ⟨m, b, ho, h0, h1⟩ := whyP_0 (Classical.not_not.mp hw)
          have := (h.2.2.1 _ ho).1
          have : tn p < m := tn_lt ⟨h0, h1⟩
          omega
        split
        · exact (h.set (m := n) (t := 6 + tn p) (l := []) (by omega) (by simp) (fun d hd => by cases hd) (fun _ => by simp)).no (by omega) 1
        · rename_i d l m b hl ho
          split
          · have hd := h.2.1 _ d (by rw [hl]; exact List.mem_cons_self)
            have h1 : Yok n (yset (tn t) l y) := h.set (by omega) (by rw [hl]; simp) (fun e he => h.2.1 _ e (by rw [hl]; exact List.mem_cons_of_mem _ he)) (fun z => by omega)
            refine h1.set (by omega) (by simp) (fun e he => ?_) (fun _ => by simp)
            rw [List.mem_singleton.mp he]; exact hd
          · exact h.no (by omega) _
        · exact h.up (by omega)
  · exact h.up (by omega)
theorem Yk_fetch {p t : Int32} (h : Yok n y) : Yok (n + 1) (sp_fetch p t y).2 := by
  unfold sp_fetch
  split
  · rename_i hc
    have ht := tn6 hc
    split
    · exact h.no (by omega) _
    · rename_i hw
      have hp : tn p < 12 := by
        obtain ⟨m, b, ho, h0, h1⟩ := whyP_0 (Classical.not_not.mp hw)
        have := (h.2.2.1 _ ho).1
        have : tn p < m := tn_lt ⟨h0, h1⟩
        omega
      split
      · exact h.no (by omega) _
      · rename_i d l hl
        have h1 : Yok n (yset (6 + tn p) [] y) := h.set (by omega) (by simp) (fun d hd => by cases hd) (fun _ => by simp)
        refine h1.set (by omega) (by simp only [yset, up_off (show tn t ≠ 6 + tn p by omega), List.length_cons]; omega) (fun e he => ?_) (fun z => by omega)
        rcases List.mem_cons.mp he with rfl | he
        · exact h.2.1 _ e (by rw [hl]; exact List.mem_cons_self)
        · exact h.2.1 _ e he
  · exact h.up (by omega)
theorem Yk_plan {a b : Int32} (h : Yok n y) : Yok (n + 1) (sp_plan a b y).2 := by
  unfold sp_plan
  split
  · rename_i hc
    split
    · exact h.no (by omega) _
    · obtain ⟨h1, h2, h3, h4, h5⟩ := h
      exact ⟨Nat.le_succ_of_le h1, h2, h3, fun q z => by cases z; exact ⟨toNat_le hc.1, toNat_le hc.2⟩, h5⟩
  · exact h.up (by omega)
theorem Yk_note {i j x : Int32} (h : Yok n y) : Yok (n + 1) (sp_note i j x y).2 := by
  unfold sp_note
  split
  · split
    · exact h.no (by omega) _
    · obtain ⟨h1, h2, h3, h4, h5⟩ := h
      exact ⟨Nat.le_succ_of_le h1, h2, h3, h4, h5⟩
  · exact h.up (by omega)
theorem Yk_noted {i j : Int32} (h : Yok n y) : Yok (n + 1) (sp_noted i j y).2 := by
  unfold sp_noted
  split
  · exact h.no (by omega) _
  · exact h.up (by omega)
theorem Yk_wide {i : Int32} (h : Yok n y) : Yok (n + 1) (sp_wide i y).2 := by
  unfold sp_wide
  split
  · exact h.no (by omega) _
  · split <;> exact h.up (by omega)
theorem Yk_away {x : Int32} (h : Yok n y) : Yok (n + 1) (sp_away x y).2 := by
  unfold sp_away
  split
  · exact h.clr (by omega) (fun q z => by cases z)
  · split
    · obtain ⟨h1, h2, h3, h4, h5⟩ := h
      exact ⟨Nat.le_succ_of_le h1, h2, h3, (fun q z => by cases z), h5⟩
    · exact h.up (by omega)
theorem Yk_about {t k x : Int32} (h : Yok n y) : Yok (n + 1) (sp_about t k x y).2 := by
  unfold sp_about
  split
  · split <;> exact h.up (by omega)
  · exact h.up (by omega)
theorem Yk_count {t : Int32} (h : Yok n y) : Yok (n + 1) (sp_count t y).2 := by
  unfold sp_count
  split <;> exact h.up (by omega)
theorem Yk_reasons {k : Int32} (h : Yok n y) : Yok (n + 1) (sp_reasons k y).2 := by
  unfold sp_reasons
  split <;> exact h.up (by omega)
end YK
