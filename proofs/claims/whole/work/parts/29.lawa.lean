/-! THE CLAIM OUT OF ONE WALK OF THE LAW'S BODY. Your part is whole_start (and what it stands on); all else here is the same for every law, but numbers. -/
def R_law : String := "TankSidingsLaw"
def lw_P (b : Addr) (xs : List Int32) (args : Array Value) (s : State) : Prop := args = #[.ref b] ∧ s.IntsAt b xs ∧ xs.length ≤ 2560 ∧ (Jvm.Cond.and given_1 narrow_1).before args s = true
def lw_Q (_ : Array Value) (s : State) (o : Outcome) (t : State) : Prop := o = .returned (some (.int 1)) ∧ Framed s o t [] 600000 7302250
def lw_Z (below : List Frame) (a : Array Value) (s : State) : State → Prop := fun t => ∃ o, t.status = .running ∧ Ended t below o ∧ lw_Q a s o t
/-- the law's own end, with 1 on the stack, nothing written that was there before, its room as the claim has it -/
theorem lw_ret {p : Program} {l : Launch} {e : Env} {s : State} {m : MethodId} {below : List Frame} {meth : Method} {c : Code} {b : Nat} (hx : p.tables.exec = Jvm.exec) (hb : c.code = code) (hr : meth.sig.returnType = ret) (hlocks : meth.locks = false) {pc : Nat} {H : Heap} {ls : Array Slot} (hdg : decode code pc = .ok (.ireturn, 1)) : W p l e room_1 s m #[Value.ref b] below meth c H [] 600000 7302250 (lw_Z below #[Value.ref b] s) (F0 m pc ls [.int 1]) := by
  intro T hT X
  obtain ⟨fs, hret, hrun, hended, hW, hframe⟩ := X.leave (v := some (.int 1)) (hlocks := hlocks) (fun h => by rw [hr] at h; cases h)
  have hmeth' : T.vm.method? m = some meth := X.method'
  refine ⟨T.setFrames fs, ?_, .returned (some (.int 1)), hrun, hended, rfl, ⟨_, rfl⟩, hW, hframe⟩
  jvm_step X.here [X.here.top, hx, hb, hdg, hmeth', hr, ret, narrow_b1]
  (try refine ⟨rfl, ?_⟩); (try refine ⟨rfl, ?_⟩)
  first | (intro acts; rw [hret _ acts rfl rfl rfl]) | rw [hret _ _ rfl rfl rfl]
  exact Steps.refl _
/-- what holds at the law's entry: the machine, the code, the tables' words (any of lw_tbl by 'hts w (by decide +kernel)'), the script of L ints xs at the cell b, what the Statement gives of the start (any of its parts by flat_of_before) -/
def lw_At (p : Program) (s : State) (m : MethodId) (meth : Method) (c : Code) (b L : Nat) (xs : Nat → Int32) : Prop :=
  p.tables.exec = Jvm.exec ∧ c.code = code ∧ meth.sig.returnType = ret ∧ c.maxLocals = 4 ∧ s.vm.findClass R_law = some m.cls ∧ (∀ w ∈ lw_tbl, w.before #[Value.ref b] s = true) ∧ va_X b L xs s s.heap ∧ b < s.heap.size ∧ meth.locks = false ∧ (Jvm.Cond.and given_1 narrow_1).before #[Value.ref b] s = true
section LW
variable {p : Program} {l : Launch} {e : Env} {R : Room} {s : State} {m : MethodId} {args : Array Value} {below : List Frame} {meth : Method} {c : Code} {H : Heap} {locs : List Loc} {cells slots : Nat} {Q : State → Prop} {cc : ByteArray} {pc nL : Nat} {ls : Array Slot} {rest : List Value} {G : gT} {w : wT} {Ts : List Cond} {own : String}
theorem f_sld {b L : Nat} {xs : Nat → Int32} (X : CallFix p m c cc nL s args Ts own) (hX : va_X b L xs s s.heap) (hbl : b < s.heap.size) (hG : G.2.2 = s.heap.size) (Z : wZ G w s H locs) {i : Int32} (hin : vp_in i L) (hdg : decode cc pc = .ok (.iaload, 1))
    (kk : W p l e R s m args below meth c H locs cells slots Q (F0 m (pc + 1) ls (.int (xs i.toNatClampNeg) :: rest))) : W p l e R s m args below meth c H locs cells slots Q (F0 m pc ls (.int i :: .ref b :: rest)) :=
  va_sld X.1 X.2.1 hX hbl (show ¬ fr G b from by unfold fr; omega) Z.2.2.2.1 hin hdg kk
theorem f_slen {b L : Nat} {xs : Nat → Int32} (X : CallFix p m c cc nL s args Ts own) (hX : va_X b L xs s s.heap) (hbl : b < s.heap.size) (hG : G.2.2 = s.heap.size) (Z : wZ G w s H locs) (hdg : decode cc pc = .ok (.arraylength, 1))
    (kk : W p l e R s m args below meth c H locs cells slots Q (F0 m (pc + 1) ls (.int (nI L) :: rest))) : W p l e R s m args below meth c H locs cells slots Q (F0 m pc ls (.ref b :: rest)) :=
  va_slen X.1 X.2.1 hX hbl (show ¬ fr G b from by unfold fr; omega) Z.2.2.2.1 hdg kk
end LW
theorem RepC.obj {G : gT} {tg : tT} {w : wT} {h0 c : Nat} {y : Yd} (h : RepC G tg w h0 c y) : ∃ fs, w h0 = some (.inr (4, fs)) := by
  obtain ⟨ta, to, tf, tk, sd, pl, T, h1, -⟩ := h
  exact ⟨_, h1.1⟩
theorem RepM.obj {G : gT} {tg : tT} {w : wT} {ad : Nat → Nat} {c : Nat} {y : Yd} (h : RepM G tg w ad c y) : ∃ fs, w (ad 0) = some (.inr (5, fs)) := by
  obtain ⟨F, sd, na, ro, wi, T, h1, -⟩ := h
  exact ⟨_, h1.1⟩
theorem RepM.fr {G : gT} {tg tg' : tT} {w w' : wT} {ad : Nat → Nat} {c : Nat} {y : Yd} (h : RepM G tg w ad c y) (hF : Fr w tg w' tg') : RepM G tg' w' ad c y := by
  obtain ⟨F, sd, na, ro, wi, T, ⟨h1, h2, h3⟩, hP⟩ := h
  refine ⟨F, sd, na, ro, wi, T, ⟨(hF _ _ h1).2.2 (by rw [h3 0 (by decide)]; decide), fun k a b => (hF _ _ (h2 k a b)).2.2 (by rw [h3 k b]; simp), fun k hk => ?_⟩, hP⟩
  by_cases h0 : k = 0
  · subst h0; rw [(hF _ _ h1).1]; exact h3 0 hk
  · rw [(hF _ _ (h2 k (by omega) hk)).1]; exact h3 k hk
theorem RepC.frm {G : gT} {tg : tT} {w w' : wT} {h0 c : Nat} {y : Yd} (h : RepC G tg w h0 c y) (hF : FrM w tg w') : RepC G tg w' h0 c y := by
  obtain ⟨ta, to, tf, tk, sd, pl, T, hx⟩ := h
  exact ⟨ta, to, tf, tk, sd, pl, T, hx.frame (S := fun b => 10 ≤ (tg b).1) (fun b e hb => ⟨rfl, (hF b e hb).1, fun hS => (hF b e hb).2 (by omega)⟩) (fun b hb => hb)⟩
theorem RepC.fr2 {G : gT} {tg tg' : tT} {w w' : wT} {h0 c : Nat} {y : Yd} (h : RepC G tg w h0 c y) (hF : Fr2 w tg w' tg') : RepC G tg' w' h0 c y := by
  obtain ⟨ta, to, tf, tk, sd, pl, T, hx⟩ := h
  exact ⟨ta, to, tf, tk, sd, pl, T, hx.frame (S := fun b => 10 ≤ (tg b).1) (fun b e hb => ⟨(hF b e hb).1, (hF b e hb).2.1, fun hS => (hF b e hb).2.2 (by omega)⟩) (fun b hb => hb)⟩
theorem xk_in {n k L : Nat} {x K : Int32} (hx : x = nI (5 * n)) (hK : K = nI k) (hk : k < 5) (hL : 5 * n + 5 ≤ L) (hL2 : L ≤ 2560) : vp_in (x + K) L := by
  rw [hx, hK, nI_add]; exact vp_in_nI (by omega) (by omega)
set_option maxHeartbeats 4000000 in
set_option maxRecDepth 100000 in
theorem law_place {p : Program} {l : Launch} {e : Env} {s : State} {m : MethodId} {below : List Frame} {meth : Method} {cd : Code} {b L : Nat} {xs : Nat → Int32} {G : gT} (X : CallFix p m cd cL_law 4 s #[Value.ref b] wsL_law RL) (hX : va_X b L xs s s.heap) (hbl : b < s.heap.size) (hG : G.2.2 = s.heap.size) {n : Nat} (hn : n < 512) (hL : 5 * n + 5 ≤ L) (hL2 : L ≤ 2560) {tg : tT} {w : wT} {h0 : Nat} {ad : Nat → Nat} {c1 c2 : Nat} {y : Yd} {x3 : Int32} (hx3 : x3 = nI (5 * n)) (hC : RepC G tg w h0 c1 y) (h1n : c1 ≤ n) (hMo : RepM G tg w ad c2 y) (h2n : c2 ≤ n) (hY : Yok n y) {H : Heap} {locs : List Loc} {ls : Array Slot} (Z : wZ G w s H locs) (hl : lV ls 4 [some (.ref b), some (.ref h0), some (.ref (ad 0)), some (.int x3)])
    (kk : ∀ (tg' : tT) (w' : wT) (c1' c2' : Nat) (y' : Yd) (H' : Heap) (locs' : List Loc), RepC G tg' w' h0 c1' y' → c1' ≤ n + 1 → RepM G tg' w' ad c2' y' → c2' ≤ n + 1 → Yok (n + 1) y' → wZ G w' s H' locs' → W p l e room_1 s m #[Value.ref b] below meth cd H' locs' (21 + 2 * (n + 1)) (11018 + 147 * (n + 1)) (lw_Z below #[Value.ref b] s) (F0 m 979 ls [])) : W p l e room_1 s m #[Value.ref b] below meth cd H locs (21 + 2 * n) (11018 + 147 * n) (lw_Z below #[Value.ref b] s) (F0 m 148 ls []) := by
  obtain ⟨fs1, ho1⟩ := hC.obj
  have hin1 : vp_in (x3 + 1) L := xk_in (k := 1) hx3 rfl (by decide) hL hL2
  have hin2 : vp_in (x3 + 2) L := xk_in (k := 2) hx3 rfl (by decide) hL hL2
  have hin3 : vp_in (x3 + 3) L := xk_in (k := 3) hx3 rfl (by decide) hL hL2
  have hin4 : vp_in (x3 + 4) L := xk_in (k := 4) hx3 rfl (by decide) hL hL2
  refine f_aload (v := .ref h0) X hl ⟨_, rfl, dL_law_148⟩ rfl ⟨(some h0), rfl⟩ ?_
  refine f_aload (v := .ref b) X hl ⟨_, rfl, dL_law_149⟩ rfl ⟨(some b), rfl⟩ ?_
  refine f_iload X hl ⟨_, rfl, dL_law_150⟩ rfl ?_
  refine lv_iconst (v := 1) X.1 X.2.1 dL_law_151 (by decide) ?_
  refine lv_iadd X.1 X.2.1 dL_law_152 ?_
  refine f_sld X hX hbl hG Z hin1 dL_law_153 ?_
  refine f_aload (v := .ref b) X hl ⟨_, rfl, dL_law_154⟩ rfl ⟨(some b), rfl⟩ ?_
  refine f_iload X hl ⟨_, rfl, dL_law_155⟩ rfl ?_
  refine lv_iconst (v := 2) X.1 X.2.1 dL_law_156 (by decide) ?_
  refine lv_iadd X.1 X.2.1 dL_law_157 ?_
  refine f_sld X hX hbl hG Z hin2 dL_law_158 ?_
  refine f_aload (v := .ref b) X hl ⟨_, rfl, dL_law_159⟩ rfl ⟨(some b), rfl⟩ ?_
  refine f_iload X hl ⟨_, rfl, dL_law_160⟩ rfl ?_
  refine lv_iconst (v := 3) X.1 X.2.1 dL_law_161 (by decide) ?_
  refine lv_iadd X.1 X.2.1 dL_law_162 ?_
  refine f_sld X hX hbl hG Z hin3 dL_law_163 ?_
  refine f_callVi (rest := []) X Z hl.1 (c_X4_place l G w tg h0 c1 n y hC hY (by omega) (by omega) (xs (x3 + 1).toNatClampNeg) (xs (x3 + 2).toNatClampNeg) (xs (x3 + 3).toNatClampNeg)) (cwV 3 X.2.2.2.2 gL_law_X4_place rfl rfl rfl (by decide +kernel) ⟨(Nat.le_of_ble_eq_true rfl), (Nat.le_of_ble_eq_true rfl)⟩) rfl rfl dL_law_164 ⟨show 21 + 2 * n + 1 ≤ 600000 by omega, show 11018 + 147 * n + 5 ≤ 7302250 by omega⟩ rfl (Nat.le_of_ble_eq_true rfl) ho1 (fun r164 w1 H locs p164 Z => ?_)
  obtain ⟨hr1, tg1, c3, hc3, hC1, hF1⟩ := p164
  have hM1 := hMo.fr hF1
  obtain ⟨fs2, ho2⟩ := hM1.obj
  refine f_aload (v := .ref (ad 0)) X hl ⟨_, rfl, dL_law_167⟩ rfl ⟨(some (ad 0)), rfl⟩ ?_
  refine f_aload (v := .ref b) X hl ⟨_, rfl, dL_law_168⟩ rfl ⟨(some b), rfl⟩ ?_
  refine f_iload X hl ⟨_, rfl, dL_law_169⟩ rfl ?_
  refine lv_iconst (v := 1) X.1 X.2.1 dL_law_170 (by decide) ?_
  refine lv_iadd X.1 X.2.1 dL_law_171 ?_
  refine f_sld X hX hbl hG Z hin1 dL_law_172 ?_
  refine f_aload (v := .ref b) X hl ⟨_, rfl, dL_law_173⟩ rfl ⟨(some b), rfl⟩ ?_
  refine f_iload X hl ⟨_, rfl, dL_law_174⟩ rfl ?_
  refine lv_iconst (v := 2) X.1 X.2.1 dL_law_175 (by decide) ?_
  refine lv_iadd X.1 X.2.1 dL_law_176 ?_
  refine f_sld X hX hbl hG Z hin2 dL_law_177 ?_
  refine f_aload (v := .ref b) X hl ⟨_, rfl, dL_law_178⟩ rfl ⟨(some b), rfl⟩ ?_
  refine f_iload X hl ⟨_, rfl, dL_law_179⟩ rfl ?_
  refine lv_iconst (v := 3) X.1 X.2.1 dL_law_180 (by decide) ?_
  refine lv_iadd X.1 X.2.1 dL_law_181 ?_
  refine f_sld X hX hbl hG Z hin3 dL_law_182 ?_
  refine f_callVi (rest := [.int r164]) X Z hl.1 (c_X5_place l G w1 tg1 ad c2 n y hM1 hY (by omega) (by omega) (xs (x3 + 1).toNatClampNeg) (xs (x3 + 2).toNatClampNeg) (xs (x3 + 3).toNatClampNeg)) (cwV 3 X.2.2.2.2 gL_law_X5_place rfl rfl rfl (by decide +kernel) ⟨(Nat.le_of_ble_eq_true rfl), (Nat.le_of_ble_eq_true rfl)⟩) rfl rfl dL_law_183 ⟨show 21 + 2 * n + 1 + 0 ≤ 600000 by omega, show 11018 + 147 * n + 5 + 0 ≤ 7302250 by omega⟩ rfl (Nat.le_of_ble_eq_true rfl) ho2 (fun r183 w2 H locs p183 Z => ?_)
  obtain ⟨hr2, ⟨c4, hc4, hM2⟩, hF2⟩ := p183
  have hC2 := hC1.frm hF2
  refine lv_icmp_eq (tgt := 979) X.1 X.2.1 dL_law_186 (by decide) (fun c186 => ?_) (fun c186 => ?_)
  · refine W.widen (k := 21 + 2 * (n + 1)) (n := 11018 + 147 * (n + 1)) (by omega) (by omega) ?_
    exact kk tg1 _ c3 c4 _ _ _ hC2 (by omega) hM2 (by omega) (Yk_place hY) Z
  · exact absurd (hr1.trans hr2.symm) c186
set_option maxHeartbeats 4000000 in
set_option maxRecDepth 100000 in
theorem law_take {p : Program} {l : Launch} {e : Env} {s : State} {m : MethodId} {below : List Frame} {meth : Method} {cd : Code} {b L : Nat} {xs : Nat → Int32} {G : gT} (X : CallFix p m cd cL_law 4 s #[Value.ref b] wsL_law RL) (hX : va_X b L xs s s.heap) (hbl : b < s.heap.size) (hG : G.2.2 = s.heap.size) {n : Nat} (hn : n < 512) (hL : 5 * n + 5 ≤ L) (hL2 : L ≤ 2560) {tg : tT} {w : wT} {h0 : Nat} {ad : Nat → Nat} {c1 c2 : Nat} {y : Yd} {x3 : Int32} (hx3 : x3 = nI (5 * n)) (hC : RepC G tg w h0 c1 y) (h1n : c1 ≤ n) (hMo : RepM G tg w ad c2 y) (h2n : c2 ≤ n) (hY : Yok n y) {H : Heap} {locs : List Loc} {ls : Array Slot} (Z : wZ G w s H locs) (hl : lV ls 4 [some (.ref b), some (.ref h0), some (.ref (ad 0)), some (.int x3)])
    (kk : ∀ (tg' : tT) (w' : wT) (c1' c2' : Nat) (y' : Yd) (H' : Heap) (locs' : List Loc), RepC G tg' w' h0 c1' y' → c1' ≤ n + 1 → RepM G tg' w' ad c2' y' → c2' ≤ n + 1 → Yok (n + 1) y' → wZ G w' s H' locs' → W p l e room_1 s m #[Value.ref b] below meth cd H' locs' (21 + 2 * (n + 1)) (11018 + 147 * (n + 1)) (lw_Z below #[Value.ref b] s) (F0 m 979 ls [])) : W p l e room_1 s m #[Value.ref b] below meth cd H locs (21 + 2 * n) (11018 + 147 * n) (lw_Z below #[Value.ref b] s) (F0 m 191 ls []) := by
  obtain ⟨fs1, ho1⟩ := hC.obj
  have hin1 : vp_in (x3 + 1) L := xk_in (k := 1) hx3 rfl (by decide) hL hL2
  have hin2 : vp_in (x3 + 2) L := xk_in (k := 2) hx3 rfl (by decide) hL hL2
  have hin3 : vp_in (x3 + 3) L := xk_in (k := 3) hx3 rfl (by decide) hL hL2
  have hin4 : vp_in (x3 + 4) L := xk_in (k := 4) hx3 rfl (by decide) hL hL2
  refine f_aload (v := .ref h0) X hl ⟨_, rfl, dL_law_191⟩ rfl ⟨(some h0), rfl⟩ ?_
  refine f_aload (v := .ref b) X hl ⟨_, rfl, dL_law_192⟩ rfl ⟨(some b), rfl⟩ ?_
  refine f_iload X hl ⟨_, rfl, dL_law_193⟩ rfl ?_
  refine lv_iconst (v := 1) X.1 X.2.1 dL_law_194 (by decide) ?_
  refine lv_iadd X.1 X.2.1 dL_law_195 ?_
  refine f_sld X hX hbl hG Z hin1 dL_law_196 ?_
  refine f_callVi (rest := []) X Z hl.1 (c_X4_take l G w tg h0 c1 n y hC hY (by omega) (xs (x3 + 1).toNatClampNeg)) (cwV 1 X.2.2.2.2 gL_law_X4_take rfl rfl rfl (by decide +kernel) ⟨(Nat.le_of_ble_eq_true rfl), (Nat.le_of_ble_eq_true rfl)⟩) rfl rfl dL_law_197 ⟨show 21 + 2 * n + 0 ≤ 600000 by omega, show 11018 + 147 * n + 0 ≤ 7302250 by omega⟩ rfl (Nat.le_of_ble_eq_true rfl) ho1 (fun r197 w1 H locs p197 Z => ?_)
  obtain ⟨hr1, tg1, c3, hc3, hC1, hF1⟩ := p197
  have hM1 := hMo.fr hF1
  obtain ⟨fs2, ho2⟩ := hM1.obj
  refine f_aload (v := .ref (ad 0)) X hl ⟨_, rfl, dL_law_200⟩ rfl ⟨(some (ad 0)), rfl⟩ ?_
  refine f_aload (v := .ref b) X hl ⟨_, rfl, dL_law_201⟩ rfl ⟨(some b), rfl⟩ ?_
  refine f_iload X hl ⟨_, rfl, dL_law_202⟩ rfl ?_
  refine lv_iconst (v := 1) X.1 X.2.1 dL_law_203 (by decide) ?_
  refine lv_iadd X.1 X.2.1 dL_law_204 ?_
  refine f_sld X hX hbl hG Z hin1 dL_law_205 ?_
  refine f_callVi (rest := [.int r197]) X Z hl.1 (c_X5_take l G w1 tg1 ad c2 n y hM1 hY (by omega) (xs (x3 + 1).toNatClampNeg)) (cwV 1 X.2.2.2.2 gL_law_X5_take rfl rfl rfl (by decide +kernel) ⟨(Nat.le_of_ble_eq_true rfl), (Nat.le_of_ble_eq_true rfl)⟩) rfl rfl dL_law_206 ⟨show 21 + 2 * n + 0 + 0 ≤ 600000 by omega, show 11018 + 147 * n + 0 + 0 ≤ 7302250 by omega⟩ rfl (Nat.le_of_ble_eq_true rfl) ho2 (fun r206 w2 H locs p206 Z => ?_)
  obtain ⟨hr2, ⟨c4, hc4, hM2⟩, hF2⟩ := p206
  have hC2 := hC1.frm hF2
  refine lv_icmp_eq (tgt := 979) X.1 X.2.1 dL_law_209 (by decide) (fun c209 => ?_) (fun c209 => ?_)
  · refine W.widen (k := 21 + 2 * (n + 1)) (n := 11018 + 147 * (n + 1)) (by omega) (by omega) ?_
    exact kk tg1 _ c3 c4 _ _ _ hC2 (by omega) hM2 (by omega) (Yk_take hY) Z
  · exact absurd (hr1.trans hr2.symm) c209
set_option maxHeartbeats 4000000 in
set_option maxRecDepth 100000 in
theorem law_shunt {p : Program} {l : Launch} {e : Env} {s : State} {m : MethodId} {below : List Frame} {meth : Method} {cd : Code} {b L : Nat} {xs : Nat → Int32} {G : gT} (X : CallFix p m cd cL_law 4 s #[Value.ref b] wsL_law RL) (hX : va_X b L xs s s.heap) (hbl : b < s.heap.size) (hG : G.2.2 = s.heap.size) {n : Nat} (hn : n < 512) (hL : 5 * n + 5 ≤ L) (hL2 : L ≤ 2560) {tg : tT} {w : wT} {h0 : Nat} {ad : Nat → Nat} {c1 c2 : Nat} {y : Yd} {x3 : Int32} (hx3 : x3 = nI (5 * n)) (hC : RepC G tg w h0 c1 y) (h1n : c1 ≤ n) (hMo : RepM G tg w ad c2 y) (h2n : c2 ≤ n) (hY : Yok n y) {H : Heap} {locs : List Loc} {ls : Array Slot} (Z : wZ G w s H locs) (hl : lV ls 4 [some (.ref b), some (.ref h0), some (.ref (ad 0)), some (.int x3)])
    (kk : ∀ (tg' : tT) (w' : wT) (c1' c2' : Nat) (y' : Yd) (H' : Heap) (locs' : List Loc), RepC G tg' w' h0 c1' y' → c1' ≤ n + 1 → RepM G tg' w' ad c2' y' → c2' ≤ n + 1 → Yok (n + 1) y' → wZ G w' s H' locs' → W p l e room_1 s m #[Value.ref b] below meth cd H' locs' (21 + 2 * (n + 1)) (11018 + 147 * (n + 1)) (lw_Z below #[Value.ref b] s) (F0 m 979 ls [])) : W p l e room_1 s m #[Value.ref b] below meth cd H locs (21 + 2 * n) (11018 + 147 * n) (lw_Z below #[Value.ref b] s) (F0 m 214 ls []) := by
  obtain ⟨fs1, ho1⟩ := hC.obj
  have hin1 : vp_in (x3 + 1) L := xk_in (k := 1) hx3 rfl (by decide) hL hL2
  have hin2 : vp_in (x3 + 2) L := xk_in (k := 2) hx3 rfl (by decide) hL hL2
  have hin3 : vp_in (x3 + 3) L := xk_in (k := 3) hx3 rfl (by decide) hL hL2
  have hin4 : vp_in (x3 + 4) L := xk_in (k := 4) hx3 rfl (by decide) hL hL2
  refine f_aload (v := .ref h0) X hl ⟨_, rfl, dL_law_214⟩ rfl ⟨(some h0), rfl⟩ ?_
  refine f_aload (v := .ref b) X hl ⟨_, rfl, dL_law_215⟩ rfl ⟨(some b), rfl⟩ ?_
  refine f_iload X hl ⟨_, rfl, dL_law_216⟩ rfl ?_
  refine lv_iconst (v := 1) X.1 X.2.1 dL_law_217 (by decide) ?_
  refine lv_iadd X.1 X.2.1 dL_law_218 ?_
  refine f_sld X hX hbl hG Z hin1 dL_law_219 ?_
  refine f_aload (v := .ref b) X hl ⟨_, rfl, dL_law_220⟩ rfl ⟨(some b), rfl⟩ ?_
  refine f_iload X hl ⟨_, rfl, dL_law_221⟩ rfl ?_
  refine lv_iconst (v := 2) X.1 X.2.1 dL_law_222 (by decide) ?_
  refine lv_iadd X.1 X.2.1 dL_law_223 ?_
  refine f_sld X hX hbl hG Z hin2 dL_law_224 ?_
  refine f_aload (v := .ref b) X hl ⟨_, rfl, dL_law_225⟩ rfl ⟨(some b), rfl⟩ ?_
  refine f_iload X hl ⟨_, rfl, dL_law_226⟩ rfl ?_
  refine lv_iconst (v := 3) X.1 X.2.1 dL_law_227 (by decide) ?_
  refine lv_iadd X.1 X.2.1 dL_law_228 ?_
  refine f_sld X hX hbl hG Z hin3 dL_law_229 ?_
  refine f_callVi (rest := []) X Z hl.1 (c_X4_shunt l G w tg h0 c1 n y hC hY (by omega) (xs (x3 + 1).toNatClampNeg) (xs (x3 + 2).toNatClampNeg) (xs (x3 + 3).toNatClampNeg)) (cwV 3 X.2.2.2.2 gL_law_X4_shunt rfl rfl rfl (by decide +kernel) ⟨(Nat.le_of_ble_eq_true rfl), (Nat.le_of_ble_eq_true rfl)⟩) rfl rfl dL_law_230 ⟨show 21 + 2 * n + 0 ≤ 600000 by omega, show 11018 + 147 * n + 0 ≤ 7302250 by omega⟩ rfl (Nat.le_of_ble_eq_true rfl) ho1 (fun r230 w1 H locs p230 Z => ?_)
  obtain ⟨hr1, tg1, c3, hc3, hC1, hF1⟩ := p230
  have hM1 := hMo.fr hF1
  obtain ⟨fs2, ho2⟩ := hM1.obj
  refine f_aload (v := .ref (ad 0)) X hl ⟨_, rfl, dL_law_233⟩ rfl ⟨(some (ad 0)), rfl⟩ ?_
  refine f_aload (v := .ref b) X hl ⟨_, rfl, dL_law_234⟩ rfl ⟨(some b), rfl⟩ ?_
  refine f_iload X hl ⟨_, rfl, dL_law_235⟩ rfl ?_
  refine lv_iconst (v := 1) X.1 X.2.1 dL_law_236 (by decide) ?_
  refine lv_iadd X.1 X.2.1 dL_law_237 ?_
  refine f_sld X hX hbl hG Z hin1 dL_law_238 ?_
  refine f_aload (v := .ref b) X hl ⟨_, rfl, dL_law_239⟩ rfl ⟨(some b), rfl⟩ ?_
  refine f_iload X hl ⟨_, rfl, dL_law_240⟩ rfl ?_
  refine lv_iconst (v := 2) X.1 X.2.1 dL_law_241 (by decide) ?_
  refine lv_iadd X.1 X.2.1 dL_law_242 ?_
  refine f_sld X hX hbl hG Z hin2 dL_law_243 ?_
  refine f_aload (v := .ref b) X hl ⟨_, rfl, dL_law_244⟩ rfl ⟨(some b), rfl⟩ ?_
  refine f_iload X hl ⟨_, rfl, dL_law_245⟩ rfl ?_
  refine lv_iconst (v := 3) X.1 X.2.1 dL_law_246 (by decide) ?_
  refine lv_iadd X.1 X.2.1 dL_law_247 ?_
  refine f_sld X hX hbl hG Z hin3 dL_law_248 ?_
  refine f_callVi (rest := [.int r230]) X Z hl.1 (c_X5_shunt l G w1 tg1 ad c2 n y hM1 hY (by omega) (xs (x3 + 1).toNatClampNeg) (xs (x3 + 2).toNatClampNeg) (xs (x3 + 3).toNatClampNeg)) (cwV 3 X.2.2.2.2 gL_law_X5_shunt rfl rfl rfl (by decide +kernel) ⟨(Nat.le_of_ble_eq_true rfl), (Nat.le_of_ble_eq_true rfl)⟩) rfl rfl dL_law_249 ⟨show 21 + 2 * n + 0 + 0 ≤ 600000 by omega, show 11018 + 147 * n + 0 + 0 ≤ 7302250 by omega⟩ rfl (Nat.le_of_ble_eq_true rfl) ho2 (fun r249 w2 H locs p249 Z => ?_)
  obtain ⟨hr2, ⟨c4, hc4, hM2⟩, hF2⟩ := p249
  have hC2 := hC1.frm hF2
  refine lv_icmp_eq (tgt := 979) X.1 X.2.1 dL_law_252 (by decide) (fun c252 => ?_) (fun c252 => ?_)
  · refine W.widen (k := 21 + 2 * (n + 1)) (n := 11018 + 147 * (n + 1)) (by omega) (by omega) ?_
    exact kk tg1 _ c3 c4 _ _ _ hC2 (by omega) hM2 (by omega) (Yk_shunt hY) Z
  · exact absurd (hr1.trans hr2.symm) c252
set_option maxHeartbeats 4000000 in
set_option maxRecDepth 100000 in
theorem law_couple {p : Program} {l : Launch} {e : Env} {s : State} {m : MethodId} {below : List Frame} {meth : Method} {cd : Code} {b L : Nat} {xs : Nat → Int32} {G : gT} (X : CallFix p m cd cL_law 4 s #[Value.ref b] wsL_law RL) (hX : va_X b L xs s s.heap) (hbl : b < s.heap.size) (hG : G.2.2 = s.heap.size) {n : Nat} (hn : n < 512) (hL : 5 * n + 5 ≤ L) (hL2 : L ≤ 2560) {tg : tT} {w : wT} {h0 : Nat} {ad : Nat → Nat} {c1 c2 : Nat} {y : Yd} {x3 : Int32} (hx3 : x3 = nI (5 * n)) (hC : RepC G tg w h0 c1 y) (h1n : c1 ≤ n) (hMo : RepM G tg w ad c2 y) (h2n : c2 ≤ n) (hY : Yok n y) {H : Heap} {locs : List Loc} {ls : Array Slot} (Z : wZ G w s H locs) (hl : lV ls 4 [some (.ref b), some (.ref h0), some (.ref (ad 0)), some (.int x3)])
    (kk : ∀ (tg' : tT) (w' : wT) (c1' c2' : Nat) (y' : Yd) (H' : Heap) (locs' : List Loc), RepC G tg' w' h0 c1' y' → c1' ≤ n + 1 → RepM G tg' w' ad c2' y' → c2' ≤ n + 1 → Yok (n + 1) y' → wZ G w' s H' locs' → W p l e room_1 s m #[Value.ref b] below meth cd H' locs' (21 + 2 * (n + 1)) (11018 + 147 * (n + 1)) (lw_Z below #[Value.ref b] s) (F0 m 979 ls [])) : W p l e room_1 s m #[Value.ref b] below meth cd H locs (21 + 2 * n) (11018 + 147 * n) (lw_Z below #[Value.ref b] s) (F0 m 257 ls []) := by
  obtain ⟨fs1, ho1⟩ := hC.obj
  have hin1 : vp_in (x3 + 1) L := xk_in (k := 1) hx3 rfl (by decide) hL hL2
  have hin2 : vp_in (x3 + 2) L := xk_in (k := 2) hx3 rfl (by decide) hL hL2
  have hin3 : vp_in (x3 + 3) L := xk_in (k := 3) hx3 rfl (by decide) hL hL2
  have hin4 : vp_in (x3 + 4) L := xk_in (k := 4) hx3 rfl (by decide) hL hL2
  refine f_aload (v := .ref h0) X hl ⟨_, rfl, dL_law_257⟩ rfl ⟨(some h0), rfl⟩ ?_
  refine f_aload (v := .ref b) X hl ⟨_, rfl, dL_law_258⟩ rfl ⟨(some b), rfl⟩ ?_
  refine f_iload X hl ⟨_, rfl, dL_law_259⟩ rfl ?_
  refine lv_iconst (v := 1) X.1 X.2.1 dL_law_260 (by decide) ?_
  refine lv_iadd X.1 X.2.1 dL_law_261 ?_
  refine f_sld X hX hbl hG Z hin1 dL_law_262 ?_
  refine f_aload (v := .ref b) X hl ⟨_, rfl, dL_law_263⟩ rfl ⟨(some b), rfl⟩ ?_
  refine f_iload X hl ⟨_, rfl, dL_law_264⟩ rfl ?_
  refine lv_iconst (v := 2) X.1 X.2.1 dL_law_265 (by decide) ?_
  refine lv_iadd X.1 X.2.1 dL_law_266 ?_
  refine f_sld X hX hbl hG Z hin2 dL_law_267 ?_
  refine f_callVi (rest := []) X Z hl.1 (c_X4_couple l G w tg h0 c1 n y hC hY (by omega) (xs (x3 + 1).toNatClampNeg) (xs (x3 + 2).toNatClampNeg)) (cwV 2 X.2.2.2.2 gL_law_X4_couple rfl rfl rfl (by decide +kernel) ⟨(Nat.le_of_ble_eq_true rfl), (Nat.le_of_ble_eq_true rfl)⟩) rfl rfl dL_law_268 ⟨show 21 + 2 * n + 0 ≤ 600000 by omega, show 11018 + 147 * n + 0 ≤ 7302250 by omega⟩ rfl (Nat.le_of_ble_eq_true rfl) ho1 (fun r268 w1 H locs p268 Z => ?_)
  obtain ⟨hr1, tg1, c3, hc3, hC1, hF1⟩ := p268
  have hM1 := hMo.fr hF1
  obtain ⟨fs2, ho2⟩ := hM1.obj
  refine f_aload (v := .ref (ad 0)) X hl ⟨_, rfl, dL_law_271⟩ rfl ⟨(some (ad 0)), rfl⟩ ?_
  refine f_aload (v := .ref b) X hl ⟨_, rfl, dL_law_272⟩ rfl ⟨(some b), rfl⟩ ?_
  refine f_iload X hl ⟨_, rfl, dL_law_273⟩ rfl ?_
  refine lv_iconst (v := 1) X.1 X.2.1 dL_law_274 (by decide) ?_
  refine lv_iadd X.1 X.2.1 dL_law_275 ?_
  refine f_sld X hX hbl hG Z hin1 dL_law_276 ?_
  refine f_aload (v := .ref b) X hl ⟨_, rfl, dL_law_277⟩ rfl ⟨(some b), rfl⟩ ?_
  refine f_iload X hl ⟨_, rfl, dL_law_278⟩ rfl ?_
  refine lv_iconst (v := 2) X.1 X.2.1 dL_law_279 (by decide) ?_
  refine lv_iadd X.1 X.2.1 dL_law_280 ?_
  refine f_sld X hX hbl hG Z hin2 dL_law_281 ?_
  refine f_callVi (rest := [.int r268]) X Z hl.1 (c_X5_couple l G w1 tg1 ad c2 n y hM1 hY (by omega) (xs (x3 + 1).toNatClampNeg) (xs (x3 + 2).toNatClampNeg)) (cwV 2 X.2.2.2.2 gL_law_X5_couple rfl rfl rfl (by decide +kernel) ⟨(Nat.le_of_ble_eq_true rfl), (Nat.le_of_ble_eq_true rfl)⟩) rfl rfl dL_law_282 ⟨show 21 + 2 * n + 0 + 0 ≤ 600000 by omega, show 11018 + 147 * n + 0 + 0 ≤ 7302250 by omega⟩ rfl (Nat.le_of_ble_eq_true rfl) ho2 (fun r282 w2 H locs p282 Z => ?_)
  obtain ⟨hr2, ⟨c4, hc4, hM2⟩, hF2⟩ := p282
  have hC2 := hC1.frm hF2
  refine lv_icmp_eq (tgt := 979) X.1 X.2.1 dL_law_285 (by decide) (fun c285 => ?_) (fun c285 => ?_)
  · refine W.widen (k := 21 + 2 * (n + 1)) (n := 11018 + 147 * (n + 1)) (by omega) (by omega) ?_
    exact kk tg1 _ c3 c4 _ _ _ hC2 (by omega) hM2 (by omega) (Yk_couple hY) Z
  · exact absurd (hr1.trans hr2.symm) c285
set_option maxHeartbeats 4000000 in
set_option maxRecDepth 100000 in
theorem law_crates {p : Program} {l : Launch} {e : Env} {s : State} {m : MethodId} {below : List Frame} {meth : Method} {cd : Code} {b L : Nat} {xs : Nat → Int32} {G : gT} (X : CallFix p m cd cL_law 4 s #[Value.ref b] wsL_law RL) (hX : va_X b L xs s s.heap) (hbl : b < s.heap.size) (hG : G.2.2 = s.heap.size) {n : Nat} (hn : n < 512) (hL : 5 * n + 5 ≤ L) (hL2 : L ≤ 2560) {tg : tT} {w : wT} {h0 : Nat} {ad : Nat → Nat} {c1 c2 : Nat} {y : Yd} {x3 : Int32} (hx3 : x3 = nI (5 * n)) (hC : RepC G tg w h0 c1 y) (h1n : c1 ≤ n) (hMo : RepM G tg w ad c2 y) (h2n : c2 ≤ n) (hY : Yok n y) {H : Heap} {locs : List Loc} {ls : Array Slot} (Z : wZ G w s H locs) (hl : lV ls 4 [some (.ref b), some (.ref h0), some (.ref (ad 0)), some (.int x3)])
    (kk : ∀ (tg' : tT) (w' : wT) (c1' c2' : Nat) (y' : Yd) (H' : Heap) (locs' : List Loc), RepC G tg' w' h0 c1' y' → c1' ≤ n + 1 → RepM G tg' w' ad c2' y' → c2' ≤ n + 1 → Yok (n + 1) y' → wZ G w' s H' locs' → W p l e room_1 s m #[Value.ref b] below meth cd H' locs' (21 + 2 * (n + 1)) (11018 + 147 * (n + 1)) (lw_Z below #[Value.ref b] s) (F0 m 979 ls [])) : W p l e room_1 s m #[Value.ref b] below meth cd H locs (21 + 2 * n) (11018 + 147 * n) (lw_Z below #[Value.ref b] s) (F0 m 290 ls []) := by
  obtain ⟨fs1, ho1⟩ := hC.obj
  have hin1 : vp_in (x3 + 1) L := xk_in (k := 1) hx3 rfl (by decide) hL hL2
  have hin2 : vp_in (x3 + 2) L := xk_in (k := 2) hx3 rfl (by decide) hL hL2
  have hin3 : vp_in (x3 + 3) L := xk_in (k := 3) hx3 rfl (by decide) hL hL2
  have hin4 : vp_in (x3 + 4) L := xk_in (k := 4) hx3 rfl (by decide) hL hL2
  refine f_aload (v := .ref h0) X hl ⟨_, rfl, dL_law_290⟩ rfl ⟨(some h0), rfl⟩ ?_
  refine f_aload (v := .ref b) X hl ⟨_, rfl, dL_law_291⟩ rfl ⟨(some b), rfl⟩ ?_
  refine f_iload X hl ⟨_, rfl, dL_law_292⟩ rfl ?_
  refine lv_iconst (v := 1) X.1 X.2.1 dL_law_293 (by decide) ?_
  refine lv_iadd X.1 X.2.1 dL_law_294 ?_
  refine f_sld X hX hbl hG Z hin1 dL_law_295 ?_
  refine f_aload (v := .ref b) X hl ⟨_, rfl, dL_law_296⟩ rfl ⟨(some b), rfl⟩ ?_
  refine f_iload X hl ⟨_, rfl, dL_law_297⟩ rfl ?_
  refine lv_iconst (v := 2) X.1 X.2.1 dL_law_298 (by decide) ?_
  refine lv_iadd X.1 X.2.1 dL_law_299 ?_
  refine f_sld X hX hbl hG Z hin2 dL_law_300 ?_
  refine f_aload (v := .ref b) X hl ⟨_, rfl, dL_law_301⟩ rfl ⟨(some b), rfl⟩ ?_
  refine f_iload X hl ⟨_, rfl, dL_law_302⟩ rfl ?_
  refine lv_iconst (v := 3) X.1 X.2.1 dL_law_303 (by decide) ?_
  refine lv_iadd X.1 X.2.1 dL_law_304 ?_
  refine f_sld X hX hbl hG Z hin3 dL_law_305 ?_
  refine f_callVi (rest := []) X Z hl.1 (c_X4_crates l G w tg h0 c1 n y hC hY (by omega) (xs (x3 + 1).toNatClampNeg) (xs (x3 + 2).toNatClampNeg) (xs (x3 + 3).toNatClampNeg)) (cwV 3 X.2.2.2.2 gL_law_X4_crates rfl rfl rfl (by decide +kernel) ⟨(Nat.le_of_ble_eq_true rfl), (Nat.le_of_ble_eq_true rfl)⟩) rfl rfl dL_law_306 ⟨show 21 + 2 * n + 1 ≤ 600000 by omega, show 11018 + 147 * n + 12 ≤ 7302250 by omega⟩ rfl (Nat.le_of_ble_eq_true rfl) ho1 (fun r306 w1 H locs p306 Z => ?_)
  obtain ⟨hr1, tg1, c3, hc3, hC1, hF1⟩ := p306
  have hM1 := hMo.fr hF1
  obtain ⟨fs2, ho2⟩ := hM1.obj
  refine f_aload (v := .ref (ad 0)) X hl ⟨_, rfl, dL_law_309⟩ rfl ⟨(some (ad 0)), rfl⟩ ?_
  refine f_aload (v := .ref b) X hl ⟨_, rfl, dL_law_310⟩ rfl ⟨(some b), rfl⟩ ?_
  refine f_iload X hl ⟨_, rfl, dL_law_311⟩ rfl ?_
  refine lv_iconst (v := 1) X.1 X.2.1 dL_law_312 (by decide) ?_
  refine lv_iadd X.1 X.2.1 dL_law_313 ?_
  refine f_sld X hX hbl hG Z hin1 dL_law_314 ?_
  refine f_aload (v := .ref b) X hl ⟨_, rfl, dL_law_315⟩ rfl ⟨(some b), rfl⟩ ?_
  refine f_iload X hl ⟨_, rfl, dL_law_316⟩ rfl ?_
  refine lv_iconst (v := 2) X.1 X.2.1 dL_law_317 (by decide) ?_
  refine lv_iadd X.1 X.2.1 dL_law_318 ?_
  refine f_sld X hX hbl hG Z hin2 dL_law_319 ?_
  refine f_aload (v := .ref b) X hl ⟨_, rfl, dL_law_320⟩ rfl ⟨(some b), rfl⟩ ?_
  refine f_iload X hl ⟨_, rfl, dL_law_321⟩ rfl ?_
  refine lv_iconst (v := 3) X.1 X.2.1 dL_law_322 (by decide) ?_
  refine lv_iadd X.1 X.2.1 dL_law_323 ?_
  refine f_sld X hX hbl hG Z hin3 dL_law_324 ?_
  refine f_callVi (rest := [.int r306]) X Z hl.1 (c_X5_crates l G w1 tg1 ad c2 n y hM1 hY (by omega) (xs (x3 + 1).toNatClampNeg) (xs (x3 + 2).toNatClampNeg) (xs (x3 + 3).toNatClampNeg)) (cwV 3 X.2.2.2.2 gL_law_X5_crates rfl rfl rfl (by decide +kernel) ⟨(Nat.le_of_ble_eq_true rfl), (Nat.le_of_ble_eq_true rfl)⟩) rfl rfl dL_law_325 ⟨show 21 + 2 * n + 1 + 0 ≤ 600000 by omega, show 11018 + 147 * n + 12 + 0 ≤ 7302250 by omega⟩ rfl (Nat.le_of_ble_eq_true rfl) ho2 (fun r325 w2 H locs p325 Z => ?_)
  obtain ⟨hr2, ⟨c4, hc4, hM2⟩, hF2⟩ := p325
  have hC2 := hC1.frm hF2
  refine lv_icmp_eq (tgt := 979) X.1 X.2.1 dL_law_328 (by decide) (fun c328 => ?_) (fun c328 => ?_)
  · refine W.widen (k := 21 + 2 * (n + 1)) (n := 11018 + 147 * (n + 1)) (by omega) (by omega) ?_
    exact kk tg1 _ c3 c4 _ _ _ hC2 (by omega) hM2 (by omega) (Yk_crates hY) Z
  · exact absurd (hr1.trans hr2.symm) c328
set_option maxHeartbeats 4000000 in
set_option maxRecDepth 100000 in
theorem law_load {p : Program} {l : Launch} {e : Env} {s : State} {m : MethodId} {below : List Frame} {meth : Method} {cd : Code} {b L : Nat} {xs : Nat → Int32} {G : gT} (X : CallFix p m cd cL_law 4 s #[Value.ref b] wsL_law RL) (hX : va_X b L xs s s.heap) (hbl : b < s.heap.size) (hG : G.2.2 = s.heap.size) {n : Nat} (hn : n < 512) (hL : 5 * n + 5 ≤ L) (hL2 : L ≤ 2560) {tg : tT} {w : wT} {h0 : Nat} {ad : Nat → Nat} {c1 c2 : Nat} {y : Yd} {x3 : Int32} (hx3 : x3 = nI (5 * n)) (hC : RepC G tg w h0 c1 y) (h1n : c1 ≤ n) (hMo : RepM G tg w ad c2 y) (h2n : c2 ≤ n) (hY : Yok n y) {H : Heap} {locs : List Loc} {ls : Array Slot} (Z : wZ G w s H locs) (hl : lV ls 4 [some (.ref b), some (.ref h0), some (.ref (ad 0)), some (.int x3)])
    (kk : ∀ (tg' : tT) (w' : wT) (c1' c2' : Nat) (y' : Yd) (H' : Heap) (locs' : List Loc), RepC G tg' w' h0 c1' y' → c1' ≤ n + 1 → RepM G tg' w' ad c2' y' → c2' ≤ n + 1 → Yok (n + 1) y' → wZ G w' s H' locs' → W p l e room_1 s m #[Value.ref b] below meth cd H' locs' (21 + 2 * (n + 1)) (11018 + 147 * (n + 1)) (lw_Z below #[Value.ref b] s) (F0 m 979 ls [])) : W p l e room_1 s m #[Value.ref b] below meth cd H locs (21 + 2 * n) (11018 + 147 * n) (lw_Z below #[Value.ref b] s) (F0 m 333 ls []) := by
  obtain ⟨fs1, ho1⟩ := hC.obj
  have hin1 : vp_in (x3 + 1) L := xk_in (k := 1) hx3 rfl (by decide) hL hL2
  have hin2 : vp_in (x3 + 2) L := xk_in (k := 2) hx3 rfl (by decide) hL hL2
  have hin3 : vp_in (x3 + 3) L := xk_in (k := 3) hx3 rfl (by decide) hL hL2
  have hin4 : vp_in (x3 + 4) L := xk_in (k := 4) hx3 rfl (by decide) hL hL2
  refine f_aload (v := .ref h0) X hl ⟨_, rfl, dL_law_333⟩ rfl ⟨(some h0), rfl⟩ ?_
  refine f_aload (v := .ref b) X hl ⟨_, rfl, dL_law_334⟩ rfl ⟨(some b), rfl⟩ ?_
  refine f_iload X hl ⟨_, rfl, dL_law_335⟩ rfl ?_
  refine lv_iconst (v := 1) X.1 X.2.1 dL_law_336 (by decide) ?_
  refine lv_iadd X.1 X.2.1 dL_law_337 ?_
  refine f_sld X hX hbl hG Z hin1 dL_law_338 ?_
  refine f_aload (v := .ref b) X hl ⟨_, rfl, dL_law_339⟩ rfl ⟨(some b), rfl⟩ ?_
  refine f_iload X hl ⟨_, rfl, dL_law_340⟩ rfl ?_
  refine lv_iconst (v := 2) X.1 X.2.1 dL_law_341 (by decide) ?_
  refine lv_iadd X.1 X.2.1 dL_law_342 ?_
  refine f_sld X hX hbl hG Z hin2 dL_law_343 ?_
  refine f_aload (v := .ref b) X hl ⟨_, rfl, dL_law_344⟩ rfl ⟨(some b), rfl⟩ ?_
  refine f_iload X hl ⟨_, rfl, dL_law_345⟩ rfl ?_
  refine lv_iconst (v := 3) X.1 X.2.1 dL_law_346 (by decide) ?_
  refine lv_iadd X.1 X.2.1 dL_law_347 ?_
  refine f_sld X hX hbl hG Z hin3 dL_law_348 ?_
  refine f_aload (v := .ref b) X hl ⟨_, rfl, dL_law_349⟩ rfl ⟨(some b), rfl⟩ ?_
  refine f_iload X hl ⟨_, rfl, dL_law_350⟩ rfl ?_
  refine lv_iconst (v := 4) X.1 X.2.1 dL_law_351 (by decide) ?_
  refine lv_iadd X.1 X.2.1 dL_law_352 ?_
  refine f_sld X hX hbl hG Z hin4 dL_law_353 ?_
  refine f_callVi (rest := []) X Z hl.1 (c_X4_load l G w tg h0 c1 n y hC hY (by omega) (xs (x3 + 1).toNatClampNeg) (xs (x3 + 2).toNatClampNeg) (xs (x3 + 3).toNatClampNeg) (xs (x3 + 4).toNatClampNeg)) (cwV 4 X.2.2.2.2 gL_law_X4_load rfl rfl rfl (by decide +kernel) ⟨(Nat.le_of_ble_eq_true rfl), (Nat.le_of_ble_eq_true rfl)⟩) rfl rfl dL_law_354 ⟨show 21 + 2 * n + 0 ≤ 600000 by omega, show 11018 + 147 * n + 0 ≤ 7302250 by omega⟩ rfl (Nat.le_of_ble_eq_true rfl) ho1 (fun r354 w1 H locs p354 Z => ?_)
  obtain ⟨hr1, tg1, c3, hc3, hC1, hF1⟩ := p354
  have hM1 := hMo.fr hF1
  obtain ⟨fs2, ho2⟩ := hM1.obj
  refine f_aload (v := .ref (ad 0)) X hl ⟨_, rfl, dL_law_357⟩ rfl ⟨(some (ad 0)), rfl⟩ ?_
  refine f_aload (v := .ref b) X hl ⟨_, rfl, dL_law_358⟩ rfl ⟨(some b), rfl⟩ ?_
  refine f_iload X hl ⟨_, rfl, dL_law_359⟩ rfl ?_
  refine lv_iconst (v := 1) X.1 X.2.1 dL_law_360 (by decide) ?_
  refine lv_iadd X.1 X.2.1 dL_law_361 ?_
  refine f_sld X hX hbl hG Z hin1 dL_law_362 ?_
  refine f_aload (v := .ref b) X hl ⟨_, rfl, dL_law_363⟩ rfl ⟨(some b), rfl⟩ ?_
  refine f_iload X hl ⟨_, rfl, dL_law_364⟩ rfl ?_
  refine lv_iconst (v := 2) X.1 X.2.1 dL_law_365 (by decide) ?_
  refine lv_iadd X.1 X.2.1 dL_law_366 ?_
  refine f_sld X hX hbl hG Z hin2 dL_law_367 ?_
  refine f_aload (v := .ref b) X hl ⟨_, rfl, dL_law_368⟩ rfl ⟨(some b), rfl⟩ ?_
  refine f_iload X hl ⟨_, rfl, dL_law_369⟩ rfl ?_
  refine lv_iconst (v := 3) X.1 X.2.1 dL_law_370 (by decide) ?_
  refine lv_iadd X.1 X.2.1 dL_law_371 ?_
  refine f_sld X hX hbl hG Z hin3 dL_law_372 ?_
  refine f_aload (v := .ref b) X hl ⟨_, rfl, dL_law_373⟩ rfl ⟨(some b), rfl⟩ ?_
  refine f_iload X hl ⟨_, rfl, dL_law_374⟩ rfl ?_
  refine lv_iconst (v := 4) X.1 X.2.1 dL_law_375 (by decide) ?_
  refine lv_iadd X.1 X.2.1 dL_law_376 ?_
  refine f_sld X hX hbl hG Z hin4 dL_law_377 ?_
  refine f_callVi (rest := [.int r354]) X Z hl.1 (c_X5_load l G w1 tg1 ad c2 n y hM1 hY (by omega) (xs (x3 + 1).toNatClampNeg) (xs (x3 + 2).toNatClampNeg) (xs (x3 + 3).toNatClampNeg) (xs (x3 + 4).toNatClampNeg)) (cwV 4 X.2.2.2.2 gL_law_X5_load rfl rfl rfl (by decide +kernel) ⟨(Nat.le_of_ble_eq_true rfl), (Nat.le_of_ble_eq_true rfl)⟩) rfl rfl dL_law_378 ⟨show 21 + 2 * n + 0 + 0 ≤ 600000 by omega, show 11018 + 147 * n + 0 + 0 ≤ 7302250 by omega⟩ rfl (Nat.le_of_ble_eq_true rfl) ho2 (fun r378 w2 H locs p378 Z => ?_)
  obtain ⟨hr2, ⟨c4, hc4, hM2⟩, hF2⟩ := p378
  have hC2 := hC1.frm hF2
  refine lv_icmp_eq (tgt := 979) X.1 X.2.1 dL_law_381 (by decide) (fun c381 => ?_) (fun c381 => ?_)
  · refine W.widen (k := 21 + 2 * (n + 1)) (n := 11018 + 147 * (n + 1)) (by omega) (by omega) ?_
    exact kk tg1 _ c3 c4 _ _ _ hC2 (by omega) hM2 (by omega) (Yk_load hY) Z
  · exact absurd (hr1.trans hr2.symm) c381
set_option maxHeartbeats 4000000 in
set_option maxRecDepth 100000 in
theorem law_crate {p : Program} {l : Launch} {e : Env} {s : State} {m : MethodId} {below : List Frame} {meth : Method} {cd : Code} {b L : Nat} {xs : Nat → Int32} {G : gT} (X : CallFix p m cd cL_law 4 s #[Value.ref b] wsL_law RL) (hX : va_X b L xs s s.heap) (hbl : b < s.heap.size) (hG : G.2.2 = s.heap.size) {n : Nat} (hn : n < 512) (hL : 5 * n + 5 ≤ L) (hL2 : L ≤ 2560) {tg : tT} {w : wT} {h0 : Nat} {ad : Nat → Nat} {c1 c2 : Nat} {y : Yd} {x3 : Int32} (hx3 : x3 = nI (5 * n)) (hC : RepC G tg w h0 c1 y) (h1n : c1 ≤ n) (hMo : RepM G tg w ad c2 y) (h2n : c2 ≤ n) (hY : Yok n y) {H : Heap} {locs : List Loc} {ls : Array Slot} (Z : wZ G w s H locs) (hl : lV ls 4 [some (.ref b), some (.ref h0), some (.ref (ad 0)), some (.int x3)])
    (kk : ∀ (tg' : tT) (w' : wT) (c1' c2' : Nat) (y' : Yd) (H' : Heap) (locs' : List Loc), RepC G tg' w' h0 c1' y' → c1' ≤ n + 1 → RepM G tg' w' ad c2' y' → c2' ≤ n + 1 → Yok (n + 1) y' → wZ G w' s H' locs' → W p l e room_1 s m #[Value.ref b] below meth cd H' locs' (21 + 2 * (n + 1)) (11018 + 147 * (n + 1)) (lw_Z below #[Value.ref b] s) (F0 m 979 ls [])) : W p l e room_1 s m #[Value.ref b] below meth cd H locs (21 + 2 * n) (11018 + 147 * n) (lw_Z below #[Value.ref b] s) (F0 m 386 ls []) := by
  obtain ⟨fs1, ho1⟩ := hC.obj
  have hin1 : vp_in (x3 + 1) L := xk_in (k := 1) hx3 rfl (by decide) hL hL2
  have hin2 : vp_in (x3 + 2) L := xk_in (k := 2) hx3 rfl (by decide) hL hL2
  have hin3 : vp_in (x3 + 3) L := xk_in (k := 3) hx3 rfl (by decide) hL hL2
  have hin4 : vp_in (x3 + 4) L := xk_in (k := 4) hx3 rfl (by decide) hL hL2
  refine f_aload (v := .ref h0) X hl ⟨_, rfl, dL_law_386⟩ rfl ⟨(some h0), rfl⟩ ?_
  refine f_aload (v := .ref b) X hl ⟨_, rfl, dL_law_387⟩ rfl ⟨(some b), rfl⟩ ?_
  refine f_iload X hl ⟨_, rfl, dL_law_388⟩ rfl ?_
  refine lv_iconst (v := 1) X.1 X.2.1 dL_law_389 (by decide) ?_
  refine lv_iadd X.1 X.2.1 dL_law_390 ?_
  refine f_sld X hX hbl hG Z hin1 dL_law_391 ?_
  refine f_aload (v := .ref b) X hl ⟨_, rfl, dL_law_392⟩ rfl ⟨(some b), rfl⟩ ?_
  refine f_iload X hl ⟨_, rfl, dL_law_393⟩ rfl ?_
  refine lv_iconst (v := 2) X.1 X.2.1 dL_law_394 (by decide) ?_
  refine lv_iadd X.1 X.2.1 dL_law_395 ?_
  refine f_sld X hX hbl hG Z hin2 dL_law_396 ?_
  refine f_aload (v := .ref b) X hl ⟨_, rfl, dL_law_397⟩ rfl ⟨(some b), rfl⟩ ?_
  refine f_iload X hl ⟨_, rfl, dL_law_398⟩ rfl ?_
  refine lv_iconst (v := 3) X.1 X.2.1 dL_law_399 (by decide) ?_
  refine lv_iadd X.1 X.2.1 dL_law_400 ?_
  refine f_sld X hX hbl hG Z hin3 dL_law_401 ?_
  refine f_callVi (rest := []) X Z hl.1 (c_X4_crate l G w tg h0 c1 n y hC hY (by omega) (xs (x3 + 1).toNatClampNeg) (xs (x3 + 2).toNatClampNeg) (xs (x3 + 3).toNatClampNeg)) (cwV 3 X.2.2.2.2 gL_law_X4_crate rfl rfl rfl (by decide +kernel) ⟨(Nat.le_of_ble_eq_true rfl), (Nat.le_of_ble_eq_true rfl)⟩) rfl rfl dL_law_402 ⟨show 21 + 2 * n + 0 ≤ 600000 by omega, show 11018 + 147 * n + 0 ≤ 7302250 by omega⟩ rfl (Nat.le_of_ble_eq_true rfl) ho1 (fun r402 w1 H locs p402 Z => ?_)
  obtain ⟨hr1, tg1, c3, hc3, hC1, hF1⟩ := p402
  have hM1 := hMo.fr hF1
  obtain ⟨fs2, ho2⟩ := hM1.obj
  refine f_aload (v := .ref (ad 0)) X hl ⟨_, rfl, dL_law_405⟩ rfl ⟨(some (ad 0)), rfl⟩ ?_
  refine f_aload (v := .ref b) X hl ⟨_, rfl, dL_law_406⟩ rfl ⟨(some b), rfl⟩ ?_
  refine f_iload X hl ⟨_, rfl, dL_law_407⟩ rfl ?_
  refine lv_iconst (v := 1) X.1 X.2.1 dL_law_408 (by decide) ?_
  refine lv_iadd X.1 X.2.1 dL_law_409 ?_
  refine f_sld X hX hbl hG Z hin1 dL_law_410 ?_
  refine f_aload (v := .ref b) X hl ⟨_, rfl, dL_law_411⟩ rfl ⟨(some b), rfl⟩ ?_
  refine f_iload X hl ⟨_, rfl, dL_law_412⟩ rfl ?_
  refine lv_iconst (v := 2) X.1 X.2.1 dL_law_413 (by decide) ?_
  refine lv_iadd X.1 X.2.1 dL_law_414 ?_
  refine f_sld X hX hbl hG Z hin2 dL_law_415 ?_
  refine f_aload (v := .ref b) X hl ⟨_, rfl, dL_law_416⟩ rfl ⟨(some b), rfl⟩ ?_
  refine f_iload X hl ⟨_, rfl, dL_law_417⟩ rfl ?_
  refine lv_iconst (v := 3) X.1 X.2.1 dL_law_418 (by decide) ?_
  refine lv_iadd X.1 X.2.1 dL_law_419 ?_
  refine f_sld X hX hbl hG Z hin3 dL_law_420 ?_
  refine f_callVi (rest := [.int r402]) X Z hl.1 (c_X5_crate l G w1 tg1 ad c2 n y hM1 hY (by omega) (xs (x3 + 1).toNatClampNeg) (xs (x3 + 2).toNatClampNeg) (xs (x3 + 3).toNatClampNeg)) (cwV 3 X.2.2.2.2 gL_law_X5_crate rfl rfl rfl (by decide +kernel) ⟨(Nat.le_of_ble_eq_true rfl), (Nat.le_of_ble_eq_true rfl)⟩) rfl rfl dL_law_421 ⟨show 21 + 2 * n + 0 + 0 ≤ 600000 by omega, show 11018 + 147 * n + 0 + 0 ≤ 7302250 by omega⟩ rfl (Nat.le_of_ble_eq_true rfl) ho2 (fun r421 w2 H locs p421 Z => ?_)
  obtain ⟨hr2, ⟨c4, hc4, hM2⟩, hF2⟩ := p421
  have hC2 := hC1.frm hF2
  refine lv_icmp_eq (tgt := 979) X.1 X.2.1 dL_law_424 (by decide) (fun c424 => ?_) (fun c424 => ?_)
  · refine W.widen (k := 21 + 2 * (n + 1)) (n := 11018 + 147 * (n + 1)) (by omega) (by omega) ?_
    exact kk tg1 _ c3 c4 _ _ _ hC2 (by omega) hM2 (by omega) (Yk_crate hY) Z
  · exact absurd (hr1.trans hr2.symm) c424
set_option maxHeartbeats 4000000 in
set_option maxRecDepth 100000 in
theorem law_length {p : Program} {l : Launch} {e : Env} {s : State} {m : MethodId} {below : List Frame} {meth : Method} {cd : Code} {b L : Nat} {xs : Nat → Int32} {G : gT} (X : CallFix p m cd cL_law 4 s #[Value.ref b] wsL_law RL) (hX : va_X b L xs s s.heap) (hbl : b < s.heap.size) (hG : G.2.2 = s.heap.size) {n : Nat} (hn : n < 512) (hL : 5 * n + 5 ≤ L) (hL2 : L ≤ 2560) {tg : tT} {w : wT} {h0 : Nat} {ad : Nat → Nat} {c1 c2 : Nat} {y : Yd} {x3 : Int32} (hx3 : x3 = nI (5 * n)) (hC : RepC G tg w h0 c1 y) (h1n : c1 ≤ n) (hMo : RepM G tg w ad c2 y) (h2n : c2 ≤ n) (hY : Yok n y) {H : Heap} {locs : List Loc} {ls : Array Slot} (Z : wZ G w s H locs) (hl : lV ls 4 [some (.ref b), some (.ref h0), some (.ref (ad 0)), some (.int x3)])
    (kk : ∀ (tg' : tT) (w' : wT) (c1' c2' : Nat) (y' : Yd) (H' : Heap) (locs' : List Loc), RepC G tg' w' h0 c1' y' → c1' ≤ n + 1 → RepM G tg' w' ad c2' y' → c2' ≤ n + 1 → Yok (n + 1) y' → wZ G w' s H' locs' → W p l e room_1 s m #[Value.ref b] below meth cd H' locs' (21 + 2 * (n + 1)) (11018 + 147 * (n + 1)) (lw_Z below #[Value.ref b] s) (F0 m 979 ls [])) : W p l e room_1 s m #[Value.ref b] below meth cd H locs (21 + 2 * n) (11018 + 147 * n) (lw_Z below #[Value.ref b] s) (F0 m 429 ls []) := by
  obtain ⟨fs1, ho1⟩ := hC.obj
  have hin1 : vp_in (x3 + 1) L := xk_in (k := 1) hx3 rfl (by decide) hL hL2
  have hin2 : vp_in (x3 + 2) L := xk_in (k := 2) hx3 rfl (by decide) hL hL2
  have hin3 : vp_in (x3 + 3) L := xk_in (k := 3) hx3 rfl (by decide) hL hL2
  have hin4 : vp_in (x3 + 4) L := xk_in (k := 4) hx3 rfl (by decide) hL hL2
  refine f_aload (v := .ref h0) X hl ⟨_, rfl, dL_law_429⟩ rfl ⟨(some h0), rfl⟩ ?_
  refine f_aload (v := .ref b) X hl ⟨_, rfl, dL_law_430⟩ rfl ⟨(some b), rfl⟩ ?_
  refine f_iload X hl ⟨_, rfl, dL_law_431⟩ rfl ?_
  refine lv_iconst (v := 1) X.1 X.2.1 dL_law_432 (by decide) ?_
  refine lv_iadd X.1 X.2.1 dL_law_433 ?_
  refine f_sld X hX hbl hG Z hin1 dL_law_434 ?_
  refine f_aload (v := .ref b) X hl ⟨_, rfl, dL_law_435⟩ rfl ⟨(some b), rfl⟩ ?_
  refine f_iload X hl ⟨_, rfl, dL_law_436⟩ rfl ?_
  refine lv_iconst (v := 2) X.1 X.2.1 dL_law_437 (by decide) ?_
  refine lv_iadd X.1 X.2.1 dL_law_438 ?_
  refine f_sld X hX hbl hG Z hin2 dL_law_439 ?_
  refine f_callVi (rest := []) X Z hl.1 (c_X4_length l G w tg h0 c1 n y hC hY (by omega) (xs (x3 + 1).toNatClampNeg) (xs (x3 + 2).toNatClampNeg)) (cwV 2 X.2.2.2.2 gL_law_X4_length rfl rfl rfl (by decide +kernel) ⟨(Nat.le_of_ble_eq_true rfl), (Nat.le_of_ble_eq_true rfl)⟩) rfl rfl dL_law_440 ⟨show 21 + 2 * n + 0 ≤ 600000 by omega, show 11018 + 147 * n + 0 ≤ 7302250 by omega⟩ rfl (Nat.le_of_ble_eq_true rfl) ho1 (fun r440 w1 H locs p440 Z => ?_)
  obtain ⟨hr1, tg1, c3, hc3, hC1, hF1⟩ := p440
  have hM1 := hMo.fr hF1
  obtain ⟨fs2, ho2⟩ := hM1.obj
  refine f_aload (v := .ref (ad 0)) X hl ⟨_, rfl, dL_law_443⟩ rfl ⟨(some (ad 0)), rfl⟩ ?_
  refine f_aload (v := .ref b) X hl ⟨_, rfl, dL_law_444⟩ rfl ⟨(some b), rfl⟩ ?_
  refine f_iload X hl ⟨_, rfl, dL_law_445⟩ rfl ?_
  refine lv_iconst (v := 1) X.1 X.2.1 dL_law_446 (by decide) ?_
  refine lv_iadd X.1 X.2.1 dL_law_447 ?_
  refine f_sld X hX hbl hG Z hin1 dL_law_448 ?_
  refine f_aload (v := .ref b) X hl ⟨_, rfl, dL_law_449⟩ rfl ⟨(some b), rfl⟩ ?_
  refine f_iload X hl ⟨_, rfl, dL_law_450⟩ rfl ?_
  refine lv_iconst (v := 2) X.1 X.2.1 dL_law_451 (by decide) ?_
  refine lv_iadd X.1 X.2.1 dL_law_452 ?_
  refine f_sld X hX hbl hG Z hin2 dL_law_453 ?_
  refine f_callVi (rest := [.int r440]) X Z hl.1 (c_X5_length l G w1 tg1 ad c2 n y hM1 hY (by omega) (xs (x3 + 1).toNatClampNeg) (xs (x3 + 2).toNatClampNeg)) (cwV 2 X.2.2.2.2 gL_law_X5_length rfl rfl rfl (by decide +kernel) ⟨(Nat.le_of_ble_eq_true rfl), (Nat.le_of_ble_eq_true rfl)⟩) rfl rfl dL_law_454 ⟨show 21 + 2 * n + 0 + 0 ≤ 600000 by omega, show 11018 + 147 * n + 0 + 0 ≤ 7302250 by omega⟩ rfl (Nat.le_of_ble_eq_true rfl) ho2 (fun r454 w2 H locs p454 Z => ?_)
  obtain ⟨hr2, ⟨c4, hc4, hM2⟩, hF2⟩ := p454
  have hC2 := hC1.frm hF2
  refine lv_icmp_eq (tgt := 979) X.1 X.2.1 dL_law_457 (by decide) (fun c457 => ?_) (fun c457 => ?_)
  · refine W.widen (k := 21 + 2 * (n + 1)) (n := 11018 + 147 * (n + 1)) (by omega) (by omega) ?_
    exact kk tg1 _ c3 c4 _ _ _ hC2 (by omega) hM2 (by omega) (Yk_length hY) Z
  · exact absurd (hr1.trans hr2.symm) c457
set_option maxHeartbeats 4000000 in
set_option maxRecDepth 100000 in
theorem law_weigh {p : Program} {l : Launch} {e : Env} {s : State} {m : MethodId} {below : List Frame} {meth : Method} {cd : Code} {b L : Nat} {xs : Nat → Int32} {G : gT} (X : CallFix p m cd cL_law 4 s #[Value.ref b] wsL_law RL) (hX : va_X b L xs s s.heap) (hbl : b < s.heap.size) (hG : G.2.2 = s.heap.size) {n : Nat} (hn : n < 512) (hL : 5 * n + 5 ≤ L) (hL2 : L ≤ 2560) {tg : tT} {w : wT} {h0 : Nat} {ad : Nat → Nat} {c1 c2 : Nat} {y : Yd} {x3 : Int32} (hx3 : x3 = nI (5 * n)) (hC : RepC G tg w h0 c1 y) (h1n : c1 ≤ n) (hMo : RepM G tg w ad c2 y) (h2n : c2 ≤ n) (hY : Yok n y) {H : Heap} {locs : List Loc} {ls : Array Slot} (Z : wZ G w s H locs) (hl : lV ls 4 [some (.ref b), some (.ref h0), some (.ref (ad 0)), some (.int x3)])
    (kk : ∀ (tg' : tT) (w' : wT) (c1' c2' : Nat) (y' : Yd) (H' : Heap) (locs' : List Loc), RepC G tg' w' h0 c1' y' → c1' ≤ n + 1 → RepM G tg' w' ad c2' y' → c2' ≤ n + 1 → Yok (n + 1) y' → wZ G w' s H' locs' → W p l e room_1 s m #[Value.ref b] below meth cd H' locs' (21 + 2 * (n + 1)) (11018 + 147 * (n + 1)) (lw_Z below #[Value.ref b] s) (F0 m 979 ls [])) : W p l e room_1 s m #[Value.ref b] below meth cd H locs (21 + 2 * n) (11018 + 147 * n) (lw_Z below #[Value.ref b] s) (F0 m 462 ls []) := by
  obtain ⟨fs1, ho1⟩ := hC.obj
  have hin1 : vp_in (x3 + 1) L := xk_in (k := 1) hx3 rfl (by decide) hL hL2
  have hin2 : vp_in (x3 + 2) L := xk_in (k := 2) hx3 rfl (by decide) hL hL2
  have hin3 : vp_in (x3 + 3) L := xk_in (k := 3) hx3 rfl (by decide) hL hL2
  have hin4 : vp_in (x3 + 4) L := xk_in (k := 4) hx3 rfl (by decide) hL hL2
  refine f_aload (v := .ref h0) X hl ⟨_, rfl, dL_law_462⟩ rfl ⟨(some h0), rfl⟩ ?_
  refine f_aload (v := .ref b) X hl ⟨_, rfl, dL_law_463⟩ rfl ⟨(some b), rfl⟩ ?_
  refine f_iload X hl ⟨_, rfl, dL_law_464⟩ rfl ?_
  refine lv_iconst (v := 1) X.1 X.2.1 dL_law_465 (by decide) ?_
  refine lv_iadd X.1 X.2.1 dL_law_466 ?_
  refine f_sld X hX hbl hG Z hin1 dL_law_467 ?_
  refine f_aload (v := .ref b) X hl ⟨_, rfl, dL_law_468⟩ rfl ⟨(some b), rfl⟩ ?_
  refine f_iload X hl ⟨_, rfl, dL_law_469⟩ rfl ?_
  refine lv_iconst (v := 2) X.1 X.2.1 dL_law_470 (by decide) ?_
  refine lv_iadd X.1 X.2.1 dL_law_471 ?_
  refine f_sld X hX hbl hG Z hin2 dL_law_472 ?_
  refine f_callVi (rest := []) X Z hl.1 (c_X4_weigh l G w tg h0 c1 n y hC hY (by omega) (xs (x3 + 1).toNatClampNeg) (xs (x3 + 2).toNatClampNeg)) (cwV 2 X.2.2.2.2 gL_law_X4_weigh rfl rfl rfl (by decide +kernel) ⟨(Nat.le_of_ble_eq_true rfl), (Nat.le_of_ble_eq_true rfl)⟩) rfl rfl dL_law_473 ⟨show 21 + 2 * n + 0 ≤ 600000 by omega, show 11018 + 147 * n + 0 ≤ 7302250 by omega⟩ rfl (Nat.le_of_ble_eq_true rfl) ho1 (fun r473 w1 H locs p473 Z => ?_)
  obtain ⟨hr1, tg1, c3, hc3, hC1, hF1⟩ := p473
  have hM1 := hMo.fr hF1
  obtain ⟨fs2, ho2⟩ := hM1.obj
  refine f_aload (v := .ref (ad 0)) X hl ⟨_, rfl, dL_law_476⟩ rfl ⟨(some (ad 0)), rfl⟩ ?_
  refine f_aload (v := .ref b) X hl ⟨_, rfl, dL_law_477⟩ rfl ⟨(some b), rfl⟩ ?_
  refine f_iload X hl ⟨_, rfl, dL_law_478⟩ rfl ?_
  refine lv_iconst (v := 1) X.1 X.2.1 dL_law_479 (by decide) ?_
  refine lv_iadd X.1 X.2.1 dL_law_480 ?_
  refine f_sld X hX hbl hG Z hin1 dL_law_481 ?_
  refine f_aload (v := .ref b) X hl ⟨_, rfl, dL_law_482⟩ rfl ⟨(some b), rfl⟩ ?_
  refine f_iload X hl ⟨_, rfl, dL_law_483⟩ rfl ?_
  refine lv_iconst (v := 2) X.1 X.2.1 dL_law_484 (by decide) ?_
  refine lv_iadd X.1 X.2.1 dL_law_485 ?_
  refine f_sld X hX hbl hG Z hin2 dL_law_486 ?_
  refine f_callVi (rest := [.int r473]) X Z hl.1 (c_X5_weigh l G w1 tg1 ad c2 n y hM1 hY (by omega) (xs (x3 + 1).toNatClampNeg) (xs (x3 + 2).toNatClampNeg)) (cwV 2 X.2.2.2.2 gL_law_X5_weigh rfl rfl rfl (by decide +kernel) ⟨(Nat.le_of_ble_eq_true rfl), (Nat.le_of_ble_eq_true rfl)⟩) rfl rfl dL_law_487 ⟨show 21 + 2 * n + 0 + 0 ≤ 600000 by omega, show 11018 + 147 * n + 0 + 0 ≤ 7302250 by omega⟩ rfl (Nat.le_of_ble_eq_true rfl) ho2 (fun r487 w2 H locs p487 Z => ?_)
  obtain ⟨hr2, ⟨c4, hc4, hM2⟩, hF2⟩ := p487
  have hC2 := hC1.frm hF2
  refine lv_icmp_eq (tgt := 979) X.1 X.2.1 dL_law_490 (by decide) (fun c490 => ?_) (fun c490 => ?_)
  · refine W.widen (k := 21 + 2 * (n + 1)) (n := 11018 + 147 * (n + 1)) (by omega) (by omega) ?_
    exact kk tg1 _ c3 c4 _ _ _ hC2 (by omega) hM2 (by omega) (Yk_weigh hY) Z
  · exact absurd (hr1.trans hr2.symm) c490
set_option maxHeartbeats 4000000 in
set_option maxRecDepth 100000 in
theorem law_defect {p : Program} {l : Launch} {e : Env} {s : State} {m : MethodId} {below : List Frame} {meth : Method} {cd : Code} {b L : Nat} {xs : Nat → Int32} {G : gT} (X : CallFix p m cd cL_law 4 s #[Value.ref b] wsL_law RL) (hX : va_X b L xs s s.heap) (hbl : b < s.heap.size) (hG : G.2.2 = s.heap.size) {n : Nat} (hn : n < 512) (hL : 5 * n + 5 ≤ L) (hL2 : L ≤ 2560) {tg : tT} {w : wT} {h0 : Nat} {ad : Nat → Nat} {c1 c2 : Nat} {y : Yd} {x3 : Int32} (hx3 : x3 = nI (5 * n)) (hC : RepC G tg w h0 c1 y) (h1n : c1 ≤ n) (hMo : RepM G tg w ad c2 y) (h2n : c2 ≤ n) (hY : Yok n y) {H : Heap} {locs : List Loc} {ls : Array Slot} (Z : wZ G w s H locs) (hl : lV ls 4 [some (.ref b), some (.ref h0), some (.ref (ad 0)), some (.int x3)])
    (kk : ∀ (tg' : tT) (w' : wT) (c1' c2' : Nat) (y' : Yd) (H' : Heap) (locs' : List Loc), RepC G tg' w' h0 c1' y' → c1' ≤ n + 1 → RepM G tg' w' ad c2' y' → c2' ≤ n + 1 → Yok (n + 1) y' → wZ G w' s H' locs' → W p l e room_1 s m #[Value.ref b] below meth cd H' locs' (21 + 2 * (n + 1)) (11018 + 147 * (n + 1)) (lw_Z below #[Value.ref b] s) (F0 m 979 ls [])) : W p l e room_1 s m #[Value.ref b] below meth cd H locs (21 + 2 * n) (11018 + 147 * n) (lw_Z below #[Value.ref b] s) (F0 m 495 ls []) := by
  obtain ⟨fs1, ho1⟩ := hC.obj
  have hin1 : vp_in (x3 + 1) L := xk_in (k := 1) hx3 rfl (by decide) hL hL2
  have hin2 : vp_in (x3 + 2) L := xk_in (k := 2) hx3 rfl (by decide) hL hL2
  have hin3 : vp_in (x3 + 3) L := xk_in (k := 3) hx3 rfl (by decide) hL hL2
  have hin4 : vp_in (x3 + 4) L := xk_in (k := 4) hx3 rfl (by decide) hL hL2
  refine f_aload (v := .ref h0) X hl ⟨_, rfl, dL_law_495⟩ rfl ⟨(some h0), rfl⟩ ?_
  refine f_aload (v := .ref b) X hl ⟨_, rfl, dL_law_496⟩ rfl ⟨(some b), rfl⟩ ?_
  refine f_iload X hl ⟨_, rfl, dL_law_497⟩ rfl ?_
  refine lv_iconst (v := 1) X.1 X.2.1 dL_law_498 (by decide) ?_
  refine lv_iadd X.1 X.2.1 dL_law_499 ?_
  refine f_sld X hX hbl hG Z hin1 dL_law_500 ?_
  refine f_aload (v := .ref b) X hl ⟨_, rfl, dL_law_501⟩ rfl ⟨(some b), rfl⟩ ?_
  refine f_iload X hl ⟨_, rfl, dL_law_502⟩ rfl ?_
  refine lv_iconst (v := 2) X.1 X.2.1 dL_law_503 (by decide) ?_
  refine lv_iadd X.1 X.2.1 dL_law_504 ?_
  refine f_sld X hX hbl hG Z hin2 dL_law_505 ?_
  refine f_aload (v := .ref b) X hl ⟨_, rfl, dL_law_506⟩ rfl ⟨(some b), rfl⟩ ?_
  refine f_iload X hl ⟨_, rfl, dL_law_507⟩ rfl ?_
  refine lv_iconst (v := 3) X.1 X.2.1 dL_law_508 (by decide) ?_
  refine lv_iadd X.1 X.2.1 dL_law_509 ?_
  refine f_sld X hX hbl hG Z hin3 dL_law_510 ?_
  refine f_callVi (rest := []) X Z hl.1 (c_X4_defect l G w tg h0 c1 n y hC hY (by omega) (xs (x3 + 1).toNatClampNeg) (xs (x3 + 2).toNatClampNeg) (xs (x3 + 3).toNatClampNeg)) (cwV 3 X.2.2.2.2 gL_law_X4_defect rfl rfl rfl (by decide +kernel) ⟨(Nat.le_of_ble_eq_true rfl), (Nat.le_of_ble_eq_true rfl)⟩) rfl rfl dL_law_511 ⟨show 21 + 2 * n + 0 ≤ 600000 by omega, show 11018 + 147 * n + 0 ≤ 7302250 by omega⟩ rfl (Nat.le_of_ble_eq_true rfl) ho1 (fun r511 w1 H locs p511 Z => ?_)
  obtain ⟨hr1, tg1, c3, hc3, hC1, hF1⟩ := p511
  have hM1 := hMo.fr hF1
  obtain ⟨fs2, ho2⟩ := hM1.obj
  refine f_aload (v := .ref (ad 0)) X hl ⟨_, rfl, dL_law_514⟩ rfl ⟨(some (ad 0)), rfl⟩ ?_
  refine f_aload (v := .ref b) X hl ⟨_, rfl, dL_law_515⟩ rfl ⟨(some b), rfl⟩ ?_
  refine f_iload X hl ⟨_, rfl, dL_law_516⟩ rfl ?_
  refine lv_iconst (v := 1) X.1 X.2.1 dL_law_517 (by decide) ?_
  refine lv_iadd X.1 X.2.1 dL_law_518 ?_
  refine f_sld X hX hbl hG Z hin1 dL_law_519 ?_
  refine f_aload (v := .ref b) X hl ⟨_, rfl, dL_law_520⟩ rfl ⟨(some b), rfl⟩ ?_
  refine f_iload X hl ⟨_, rfl, dL_law_521⟩ rfl ?_
  refine lv_iconst (v := 2) X.1 X.2.1 dL_law_522 (by decide) ?_
  refine lv_iadd X.1 X.2.1 dL_law_523 ?_
  refine f_sld X hX hbl hG Z hin2 dL_law_524 ?_
  refine f_aload (v := .ref b) X hl ⟨_, rfl, dL_law_525⟩ rfl ⟨(some b), rfl⟩ ?_
  refine f_iload X hl ⟨_, rfl, dL_law_526⟩ rfl ?_
  refine lv_iconst (v := 3) X.1 X.2.1 dL_law_527 (by decide) ?_
  refine lv_iadd X.1 X.2.1 dL_law_528 ?_
  refine f_sld X hX hbl hG Z hin3 dL_law_529 ?_
  refine f_callVi (rest := [.int r511]) X Z hl.1 (c_X5_defect l G w1 tg1 ad c2 n y hM1 hY (by omega) (xs (x3 + 1).toNatClampNeg) (xs (x3 + 2).toNatClampNeg) (xs (x3 + 3).toNatClampNeg)) (cwV 3 X.2.2.2.2 gL_law_X5_defect rfl rfl rfl (by decide +kernel) ⟨(Nat.le_of_ble_eq_true rfl), (Nat.le_of_ble_eq_true rfl)⟩) rfl rfl dL_law_530 ⟨show 21 + 2 * n + 0 + 0 ≤ 600000 by omega, show 11018 + 147 * n + 0 + 0 ≤ 7302250 by omega⟩ rfl (Nat.le_of_ble_eq_true rfl) ho2 (fun r530 w2 H locs p530 Z => ?_)
  obtain ⟨hr2, ⟨c4, hc4, hM2⟩, hF2⟩ := p530
  have hC2 := hC1.frm hF2
  refine lv_icmp_eq (tgt := 979) X.1 X.2.1 dL_law_533 (by decide) (fun c533 => ?_) (fun c533 => ?_)
  · refine W.widen (k := 21 + 2 * (n + 1)) (n := 11018 + 147 * (n + 1)) (by omega) (by omega) ?_
    exact kk tg1 _ c3 c4 _ _ _ hC2 (by omega) hM2 (by omega) (Yk_defect hY) Z
  · exact absurd (hr1.trans hr2.symm) c533
set_option maxHeartbeats 4000000 in
set_option maxRecDepth 100000 in
theorem law_report {p : Program} {l : Launch} {e : Env} {s : State} {m : MethodId} {below : List Frame} {meth : Method} {cd : Code} {b L : Nat} {xs : Nat → Int32} {G : gT} (X : CallFix p m cd cL_law 4 s #[Value.ref b] wsL_law RL) (hX : va_X b L xs s s.heap) (hbl : b < s.heap.size) (hG : G.2.2 = s.heap.size) {n : Nat} (hn : n < 512) (hL : 5 * n + 5 ≤ L) (hL2 : L ≤ 2560) {tg : tT} {w : wT} {h0 : Nat} {ad : Nat → Nat} {c1 c2 : Nat} {y : Yd} {x3 : Int32} (hx3 : x3 = nI (5 * n)) (hC : RepC G tg w h0 c1 y) (h1n : c1 ≤ n) (hMo : RepM G tg w ad c2 y) (h2n : c2 ≤ n) (hY : Yok n y) {H : Heap} {locs : List Loc} {ls : Array Slot} (Z : wZ G w s H locs) (hl : lV ls 4 [some (.ref b), some (.ref h0), some (.ref (ad 0)), some (.int x3)])
    (kk : ∀ (tg' : tT) (w' : wT) (c1' c2' : Nat) (y' : Yd) (H' : Heap) (locs' : List Loc), RepC G tg' w' h0 c1' y' → c1' ≤ n + 1 → RepM G tg' w' ad c2' y' → c2' ≤ n + 1 → Yok (n + 1) y' → wZ G w' s H' locs' → W p l e room_1 s m #[Value.ref b] below meth cd H' locs' (21 + 2 * (n + 1)) (11018 + 147 * (n + 1)) (lw_Z below #[Value.ref b] s) (F0 m 979 ls [])) : W p l e room_1 s m #[Value.ref b] below meth cd H locs (21 + 2 * n) (11018 + 147 * n) (lw_Z below #[Value.ref b] s) (F0 m 538 ls []) := by
  obtain ⟨fs1, ho1⟩ := hC.obj
  have hin1 : vp_in (x3 + 1) L := xk_in (k := 1) hx3 rfl (by decide) hL hL2
  have hin2 : vp_in (x3 + 2) L := xk_in (k := 2) hx3 rfl (by decide) hL hL2
  have hin3 : vp_in (x3 + 3) L := xk_in (k := 3) hx3 rfl (by decide) hL hL2
  have hin4 : vp_in (x3 + 4) L := xk_in (k := 4) hx3 rfl (by decide) hL hL2
  refine f_aload (v := .ref h0) X hl ⟨_, rfl, dL_law_538⟩ rfl ⟨(some h0), rfl⟩ ?_
  refine f_aload (v := .ref b) X hl ⟨_, rfl, dL_law_539⟩ rfl ⟨(some b), rfl⟩ ?_
  refine f_iload X hl ⟨_, rfl, dL_law_540⟩ rfl ?_
  refine lv_iconst (v := 1) X.1 X.2.1 dL_law_541 (by decide) ?_
  refine lv_iadd X.1 X.2.1 dL_law_542 ?_
  refine f_sld X hX hbl hG Z hin1 dL_law_543 ?_
  refine f_aload (v := .ref b) X hl ⟨_, rfl, dL_law_544⟩ rfl ⟨(some b), rfl⟩ ?_
  refine f_iload X hl ⟨_, rfl, dL_law_545⟩ rfl ?_
  refine lv_iconst (v := 2) X.1 X.2.1 dL_law_546 (by decide) ?_
  refine lv_iadd X.1 X.2.1 dL_law_547 ?_
  refine f_sld X hX hbl hG Z hin2 dL_law_548 ?_
  refine f_callVi (rest := []) X Z hl.1 (c_X4_report l G w tg h0 c1 n y hC hY (by omega) (xs (x3 + 1).toNatClampNeg) (xs (x3 + 2).toNatClampNeg)) (cwV 2 X.2.2.2.2 gL_law_X4_report rfl rfl rfl (by decide +kernel) ⟨(Nat.le_of_ble_eq_true rfl), (Nat.le_of_ble_eq_true rfl)⟩) rfl rfl dL_law_549 ⟨show 21 + 2 * n + 0 ≤ 600000 by omega, show 11018 + 147 * n + 0 ≤ 7302250 by omega⟩ rfl (Nat.le_of_ble_eq_true rfl) ho1 (fun r549 w1 H locs p549 Z => ?_)
  obtain ⟨hr1, tg1, c3, hc3, hC1, hF1⟩ := p549
  have hM1 := hMo.fr hF1
  obtain ⟨fs2, ho2⟩ := hM1.obj
  refine f_aload (v := .ref (ad 0)) X hl ⟨_, rfl, dL_law_552⟩ rfl ⟨(some (ad 0)), rfl⟩ ?_
  refine f_aload (v := .ref b) X hl ⟨_, rfl, dL_law_553⟩ rfl ⟨(some b), rfl⟩ ?_
  refine f_iload X hl ⟨_, rfl, dL_law_554⟩ rfl ?_
  refine lv_iconst (v := 1) X.1 X.2.1 dL_law_555 (by decide) ?_
  refine lv_iadd X.1 X.2.1 dL_law_556 ?_
  refine f_sld X hX hbl hG Z hin1 dL_law_557 ?_
  refine f_aload (v := .ref b) X hl ⟨_, rfl, dL_law_558⟩ rfl ⟨(some b), rfl⟩ ?_
  refine f_iload X hl ⟨_, rfl, dL_law_559⟩ rfl ?_
  refine lv_iconst (v := 2) X.1 X.2.1 dL_law_560 (by decide) ?_
  refine lv_iadd X.1 X.2.1 dL_law_561 ?_
  refine f_sld X hX hbl hG Z hin2 dL_law_562 ?_
  refine f_callVi (rest := [.int r549]) X Z hl.1 (c_X5_report l G w1 tg1 ad c2 n y hM1 hY (by omega) (xs (x3 + 1).toNatClampNeg) (xs (x3 + 2).toNatClampNeg)) (cwV 2 X.2.2.2.2 gL_law_X5_report rfl rfl rfl (by decide +kernel) ⟨(Nat.le_of_ble_eq_true rfl), (Nat.le_of_ble_eq_true rfl)⟩) rfl rfl dL_law_563 ⟨show 21 + 2 * n + 0 + 0 ≤ 600000 by omega, show 11018 + 147 * n + 0 + 0 ≤ 7302250 by omega⟩ rfl (Nat.le_of_ble_eq_true rfl) ho2 (fun r563 w2 H locs p563 Z => ?_)
  obtain ⟨hr2, ⟨c4, hc4, hM2⟩, hF2⟩ := p563
  have hC2 := hC1.frm hF2
  refine lv_icmp_eq (tgt := 979) X.1 X.2.1 dL_law_566 (by decide) (fun c566 => ?_) (fun c566 => ?_)
  · refine W.widen (k := 21 + 2 * (n + 1)) (n := 11018 + 147 * (n + 1)) (by omega) (by omega) ?_
    exact kk tg1 _ c3 c4 _ _ _ hC2 (by omega) hM2 (by omega) (Yk_report hY) Z
  · exact absurd (hr1.trans hr2.symm) c566
set_option maxHeartbeats 4000000 in
set_option maxRecDepth 100000 in
theorem law_draw {p : Program} {l : Launch} {e : Env} {s : State} {m : MethodId} {below : List Frame} {meth : Method} {cd : Code} {b L : Nat} {xs : Nat → Int32} {G : gT} (X : CallFix p m cd cL_law 4 s #[Value.ref b] wsL_law RL) (hX : va_X b L xs s s.heap) (hbl : b < s.heap.size) (hG : G.2.2 = s.heap.size) {n : Nat} (hn : n < 512) (hL : 5 * n + 5 ≤ L) (hL2 : L ≤ 2560) {tg : tT} {w : wT} {h0 : Nat} {ad : Nat → Nat} {c1 c2 : Nat} {y : Yd} {x3 : Int32} (hx3 : x3 = nI (5 * n)) (hC : RepC G tg w h0 c1 y) (h1n : c1 ≤ n) (hMo : RepM G tg w ad c2 y) (h2n : c2 ≤ n) (hY : Yok n y) {H : Heap} {locs : List Loc} {ls : Array Slot} (Z : wZ G w s H locs) (hl : lV ls 4 [some (.ref b), some (.ref h0), some (.ref (ad 0)), some (.int x3)])
    (kk : ∀ (tg' : tT) (w' : wT) (c1' c2' : Nat) (y' : Yd) (H' : Heap) (locs' : List Loc), RepC G tg' w' h0 c1' y' → c1' ≤ n + 1 → RepM G tg' w' ad c2' y' → c2' ≤ n + 1 → Yok (n + 1) y' → wZ G w' s H' locs' → W p l e room_1 s m #[Value.ref b] below meth cd H' locs' (21 + 2 * (n + 1)) (11018 + 147 * (n + 1)) (lw_Z below #[Value.ref b] s) (F0 m 979 ls [])) : W p l e room_1 s m #[Value.ref b] below meth cd H locs (21 + 2 * n) (11018 + 147 * n) (lw_Z below #[Value.ref b] s) (F0 m 571 ls []) := by
  obtain ⟨fs1, ho1⟩ := hC.obj
  have hin1 : vp_in (x3 + 1) L := xk_in (k := 1) hx3 rfl (by decide) hL hL2
  have hin2 : vp_in (x3 + 2) L := xk_in (k := 2) hx3 rfl (by decide) hL hL2
  have hin3 : vp_in (x3 + 3) L := xk_in (k := 3) hx3 rfl (by decide) hL hL2
  have hin4 : vp_in (x3 + 4) L := xk_in (k := 4) hx3 rfl (by decide) hL hL2
  refine f_aload (v := .ref h0) X hl ⟨_, rfl, dL_law_571⟩ rfl ⟨(some h0), rfl⟩ ?_
  refine f_aload (v := .ref b) X hl ⟨_, rfl, dL_law_572⟩ rfl ⟨(some b), rfl⟩ ?_
  refine f_iload X hl ⟨_, rfl, dL_law_573⟩ rfl ?_
  refine lv_iconst (v := 1) X.1 X.2.1 dL_law_574 (by decide) ?_
  refine lv_iadd X.1 X.2.1 dL_law_575 ?_
  refine f_sld X hX hbl hG Z hin1 dL_law_576 ?_
  refine f_callVi (rest := []) X Z hl.1 (c_X4_draw l G w tg h0 c1 n y hC hY (by omega) (xs (x3 + 1).toNatClampNeg)) (cwV 1 X.2.2.2.2 gL_law_X4_draw rfl rfl rfl (by decide +kernel) ⟨(Nat.le_of_ble_eq_true rfl), (Nat.le_of_ble_eq_true rfl)⟩) rfl rfl dL_law_577 ⟨show 21 + 2 * n + 0 ≤ 600000 by omega, show 11018 + 147 * n + 0 ≤ 7302250 by omega⟩ rfl (Nat.le_of_ble_eq_true rfl) ho1 (fun r577 w1 H locs p577 Z => ?_)
  obtain ⟨hr1, tg1, c3, hc3, hC1, hF1⟩ := p577
  have hM1 := hMo.fr hF1
  obtain ⟨fs2, ho2⟩ := hM1.obj
  refine f_aload (v := .ref (ad 0)) X hl ⟨_, rfl, dL_law_580⟩ rfl ⟨(some (ad 0)), rfl⟩ ?_
  refine f_aload (v := .ref b) X hl ⟨_, rfl, dL_law_581⟩ rfl ⟨(some b), rfl⟩ ?_
  refine f_iload X hl ⟨_, rfl, dL_law_582⟩ rfl ?_
  refine lv_iconst (v := 1) X.1 X.2.1 dL_law_583 (by decide) ?_
  refine lv_iadd X.1 X.2.1 dL_law_584 ?_
  refine f_sld X hX hbl hG Z hin1 dL_law_585 ?_
  refine f_callVi (rest := [.int r577]) X Z hl.1 (c_X5_draw l G w1 tg1 ad c2 n y hM1 hY (by omega) (xs (x3 + 1).toNatClampNeg)) (cwV 1 X.2.2.2.2 gL_law_X5_draw rfl rfl rfl (by decide +kernel) ⟨(Nat.le_of_ble_eq_true rfl), (Nat.le_of_ble_eq_true rfl)⟩) rfl rfl dL_law_586 ⟨show 21 + 2 * n + 0 + 0 ≤ 600000 by omega, show 11018 + 147 * n + 0 + 0 ≤ 7302250 by omega⟩ rfl (Nat.le_of_ble_eq_true rfl) ho2 (fun r586 w2 H locs p586 Z => ?_)
  obtain ⟨hr2, ⟨c4, hc4, hM2⟩, hF2⟩ := p586
  have hC2 := hC1.frm hF2
  refine lv_icmp_eq (tgt := 979) X.1 X.2.1 dL_law_589 (by decide) (fun c589 => ?_) (fun c589 => ?_)
  · refine W.widen (k := 21 + 2 * (n + 1)) (n := 11018 + 147 * (n + 1)) (by omega) (by omega) ?_
    exact kk tg1 _ c3 c4 _ _ _ hC2 (by omega) hM2 (by omega) (Yk_draw hY) Z
  · exact absurd (hr1.trans hr2.symm) c589
set_option maxHeartbeats 4000000 in
set_option maxRecDepth 100000 in
theorem law_level {p : Program} {l : Launch} {e : Env} {s : State} {m : MethodId} {below : List Frame} {meth : Method} {cd : Code} {b L : Nat} {xs : Nat → Int32} {G : gT} (X : CallFix p m cd cL_law 4 s #[Value.ref b] wsL_law RL) (hX : va_X b L xs s s.heap) (hbl : b < s.heap.size) (hG : G.2.2 = s.heap.size) {n : Nat} (hn : n < 512) (hL : 5 * n + 5 ≤ L) (hL2 : L ≤ 2560) {tg : tT} {w : wT} {h0 : Nat} {ad : Nat → Nat} {c1 c2 : Nat} {y : Yd} {x3 : Int32} (hx3 : x3 = nI (5 * n)) (hC : RepC G tg w h0 c1 y) (h1n : c1 ≤ n) (hMo : RepM G tg w ad c2 y) (h2n : c2 ≤ n) (hY : Yok n y) {H : Heap} {locs : List Loc} {ls : Array Slot} (Z : wZ G w s H locs) (hl : lV ls 4 [some (.ref b), some (.ref h0), some (.ref (ad 0)), some (.int x3)])
    (kk : ∀ (tg' : tT) (w' : wT) (c1' c2' : Nat) (y' : Yd) (H' : Heap) (locs' : List Loc), RepC G tg' w' h0 c1' y' → c1' ≤ n + 1 → RepM G tg' w' ad c2' y' → c2' ≤ n + 1 → Yok (n + 1) y' → wZ G w' s H' locs' → W p l e room_1 s m #[Value.ref b] below meth cd H' locs' (21 + 2 * (n + 1)) (11018 + 147 * (n + 1)) (lw_Z below #[Value.ref b] s) (F0 m 979 ls [])) : W p l e room_1 s m #[Value.ref b] below meth cd H locs (21 + 2 * n) (11018 + 147 * n) (lw_Z below #[Value.ref b] s) (F0 m 594 ls []) := by
  obtain ⟨fs1, ho1⟩ := hC.obj
  have hin1 : vp_in (x3 + 1) L := xk_in (k := 1) hx3 rfl (by decide) hL hL2
  have hin2 : vp_in (x3 + 2) L := xk_in (k := 2) hx3 rfl (by decide) hL hL2
  have hin3 : vp_in (x3 + 3) L := xk_in (k := 3) hx3 rfl (by decide) hL hL2
  have hin4 : vp_in (x3 + 4) L := xk_in (k := 4) hx3 rfl (by decide) hL hL2
  refine f_aload (v := .ref h0) X hl ⟨_, rfl, dL_law_594⟩ rfl ⟨(some h0), rfl⟩ ?_
  refine f_callVi (rest := []) X Z hl.1 (c_X4_level l G w tg h0 c1 n y hC hY (by omega) ) (cwV 0 X.2.2.2.2 gL_law_X4_level rfl rfl rfl (by decide +kernel) ⟨(Nat.le_of_ble_eq_true rfl), (Nat.le_of_ble_eq_true rfl)⟩) rfl rfl dL_law_595 ⟨show 21 + 2 * n + 0 ≤ 600000 by omega, show 11018 + 147 * n + 0 ≤ 7302250 by omega⟩ rfl (Nat.le_of_ble_eq_true rfl) ho1 (fun r595 w1 H locs p595 Z => ?_)
  obtain ⟨hr1, tg1, c3, hc3, hC1, hF1⟩ := p595
  have hM1 := hMo.fr hF1
  obtain ⟨fs2, ho2⟩ := hM1.obj
  refine f_aload (v := .ref (ad 0)) X hl ⟨_, rfl, dL_law_598⟩ rfl ⟨(some (ad 0)), rfl⟩ ?_
  refine f_callVi (rest := [.int r595]) X Z hl.1 (c_X5_level l G w1 tg1 ad c2 n y hM1 hY (by omega) ) (cwV 0 X.2.2.2.2 gL_law_X5_level rfl rfl rfl (by decide +kernel) ⟨(Nat.le_of_ble_eq_true rfl), (Nat.le_of_ble_eq_true rfl)⟩) rfl rfl dL_law_599 ⟨show 21 + 2 * n + 0 + 0 ≤ 600000 by omega, show 11018 + 147 * n + 0 + 0 ≤ 7302250 by omega⟩ rfl (Nat.le_of_ble_eq_true rfl) ho2 (fun r599 w2 H locs p599 Z => ?_)
  obtain ⟨hr2, ⟨c4, hc4, hM2⟩, hF2⟩ := p599
  have hC2 := hC1.frm hF2
  refine lv_icmp_eq (tgt := 979) X.1 X.2.1 dL_law_602 (by decide) (fun c602 => ?_) (fun c602 => ?_)
  · refine W.widen (k := 21 + 2 * (n + 1)) (n := 11018 + 147 * (n + 1)) (by omega) (by omega) ?_
    exact kk tg1 _ c3 c4 _ _ _ hC2 (by omega) hM2 (by omega) (Yk_level hY) Z
  · exact absurd (hr1.trans hr2.symm) c602
