/-! the cells -/
abbrev cPln (r wi : Int32) (nu : Option Nat) : va_E := .inr (0, [.int r, .int wi, va_rf nu])
abbrev cSid (pl : Option Nat) (tk : Int32) : va_E := .inr (1, [va_rf pl, .int tk])
abbrev cTrk (fo : Option Nat) (sz : Int32) : va_E := .inr (2, [va_rf fo, .int sz])
abbrev cVeh (so we de : Int32) (ro bh : Option Nat) : va_E := .inr (3, [.int so, .int we, .int de, va_rf ro, va_rf bh])
abbrev cTs (ta to sd pl : Option Nat) (lv pc : Int32) : va_E := .inr (4, [va_rf ta, va_rf to, va_rf sd, va_rf pl, .int lv, .int pc])
abbrev cMo (so we de cs cr bh us fo : Option Nat) (sd na : Int32) (pl : Option Nat) (ro wi : Int32) (pn : Option Nat) (lv : Int32) (to : Option Nat) : va_E := .inr (5, [va_rf so, va_rf we, va_rf de, va_rf cs, va_rf cr, va_rf bh, va_rf us, va_rf fo, .int sd, .int na, va_rf pl, .int ro, .int wi, va_rf pn, .int lv, va_rf to])
abbrev aI (G : gT) (n : Nat) (f : Nat → Int32) : va_E := .inl (G.2.1 0, n, .inl f)
abbrev aZ (G : gT) (n : Nat) (f : Nat → Int32) : va_E := .inl (G.2.1 1, n, .inl f)
abbrev aT (G : gT) (n : Nat) (f : Nat → Option Nat) : va_E := .inl (G.2.1 2, n, .inr (.inr (.inr (.inr f))))
abbrev aV (G : gT) (n : Nat) (f : Nat → Option Nat) : va_E := .inl (G.2.1 3, n, .inr (.inr (.inr (.inr f))))
theorem dx_io {x : ClassId × vp_A} {y : Nat × List Value} : (Sum.inl x : va_E) ≠ .inr y := fun h => by cases h
theorem dx_oi {x : ClassId × vp_A} {y : Nat × List Value} : (Sum.inr y : va_E) ≠ .inl x := fun h => by cases h
theorem dx_oo {a b : Nat} {x y : List Value} (h : a ≠ b) : (Sum.inr (a, x) : va_E) ≠ .inr (b, y) := fun e => by cases e; exact h rfl
theorem dx_ir {a b : ClassId} {n k : Nat} {f : Nat → Int32} {g} : (Sum.inl (a, n, .inl f) : va_E) ≠ .inl (b, k, .inr g) := fun e => by cases e
theorem dx_ri {a b : ClassId} {n k : Nat} {f : Nat → Int32} {g} : (Sum.inl (b, k, .inr g) : va_E) ≠ .inl (a, n, .inl f) := fun e => by cases e
theorem va_uu {w : wT} {a : Nat} {x y : Option va_E} : va_up (va_up w a x) a y = va_up w a y := bx_uu w a x y
theorem va_comm {w : wT} {a b : Nat} {x y : Option va_E} (h : a ≠ b) : va_up (va_up w a x) b y = va_up (va_up w b y) a x := by
  funext q
  by_cases h1 : q = a <;> by_cases h2 : q = b <;> simp [va_up, h1, h2, h, Ne.symm h]
def bI (c : Prop) [Decidable c] : Int32 := if c then 1 else 0
theorem bI_t {c : Prop} [Decidable c] (h : c) : bI c = 1 := if_pos h
theorem bI_f {c : Prop} [Decidable c] (h : ¬ c) : bI c = 0 := if_neg h
theorem bI_0 {c : Prop} [Decidable c] : bI c = 0 ↔ ¬ c := by unfold bI; split <;> simp_all
theorem bI_n {c : Prop} [Decidable c] : narrow .boolean (.int (bI c)) = .int (bI c) := by unfold bI; split <;> decide
