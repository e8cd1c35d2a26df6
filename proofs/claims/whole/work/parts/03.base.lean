/-! ===== worlds of the class and of the reference ===== -/
def tw_bI (b : Bool) : Int32 := if b then 1 else 0
abbrev tw_X (cA : ClassId) (h0 a0 k : Nat) (lo : Int32) (F : Nat → BitVec 8) : va_W := [(h0, .inr (0, [.ref a0, .int (nI k), .int lo])), (a0, .inl (cA, 1024, .inl (fun j => tq_eb (F j))))]
abbrev tw_tX (cA : ClassId) : List (ClassId × FieldType) := [(cA, .int)]
abbrev tw_M (cA cB : ClassId) (h0 a0 b0 k : Nat) (F : Nat → BitVec 8) (g : Nat → Bool) : va_W := [(h0, .inr (1, [.int 0, .int (nI (k + 2)), .ref a0, .ref b0])), (a0, .inl (cA, 1024, .inl (fun j => tq_eb (F j)))), (b0, .inl (cB, 16, .inl (fun j => tw_bI (g j))))]
abbrev tw_tM (cA cB : ClassId) : List (ClassId × FieldType) := [(cA, .int), (cB, .boolean)]
def tw_B (D : va_G) (ws : va_W) (tys : List (ClassId × FieldType)) (U : State) : Prop := va_P D vwCl ws U.heap ∧ va_K D vwCl tys U
def tw_Pw (D : va_G) (w0 : va_W) (tys : List (ClassId × FieldType)) (sz : Nat) (U : State) : Prop := U.heap.size = sz ∧ tw_B D w0 tys U ∧ va_D (fun _ => True) w0
def tw_Qw {σ : Type} (D : va_G) (w1 : σ → va_W) (tys : List (ClassId × FieldType)) (A : Nat → Prop) (u : σ) (t : State) : Prop := tw_B D (w1 u) tys t ∧ va_D A (w1 u)
theorem tw_upF (F : Nat → BitVec 8) (n : Nat) (v : BitVec 8) : upd (fun j => tq_eb (F j)) n (tq_eb v) = fun j => tq_eb (va_up F n v j) := by
  funext j
  unfold upd va_up
  split <;> rfl
theorem tw_upG (g : Nat → Bool) (n : Nat) (v : Bool) : upd (fun j => tw_bI (g j)) n (tw_bI v) = fun j => tw_bI (va_up g n v j) := by
  funext j
  unfold upd va_up
  split <;> rfl
section TWC
variable {p : Program} {l : Launch} {e : Env} {R : Room} {s : State} {m : MethodId} {args : Array Value} {below : List Frame} {meth : Method} {c : Code} {H H0 : Heap} {locs : List Loc} {cells slots : Nat} {Q : State → Prop}
variable {pc : Nat} {ls : Array Slot} {rest st0 : List Value} {A : Nat → Prop}
variable {y : MethodName} {bytes cc : ByteArray} {maxL nL n index : Nat} {ret : Option FieldType} {ws : List Cond} {rm : Room} {Ts : List Cond} {own : String} {As : List Value} {D : va_G} {w0 wsA : va_W} {tys tysA : List (ClassId × FieldType)} {h0 : Nat}
theorem tw_topr {x x' : Int32} (h : x = x') (k : W p l e R s m args below meth c H locs cells slots Q (F0 m pc ls (.int x' :: rest))) : W p l e R s m args below meth c H locs cells slots Q (F0 m pc ls (.int x :: rest)) := by rw [h]; exact k
theorem tw_toprl {x x' : Int64} (h : x = x') (k : W p l e R s m args below meth c H locs cells slots Q (F0 m pc ls (.long x' :: rest))) : W p l e R s m args below meth c H locs cells slots Q (F0 m pc ls (.long x :: rest)) := by rw [h]; exact k
theorem tw_ld (hexec : p.tables.exec = Jvm.exec) (hb : c.code = cc) (hK : va_K D vwCl tysA s) (hP : va_P D vwCl wsA H) (q0 t0 : Nat) {cA : ClassId} {N a : Nat} {F : Nat → BitVec 8} (ha : wsA[q0]? = some (a, .inl (cA, N, .inl (fun j => tq_eb (F j))))) (ht : tysA[t0]? = some (cA, .int)) {i : Int32} {n : Nat} (hi : i = nI n) (hn : n < N) (hN : N < 2 ^ 31) (hdg : decode cc pc = .ok (.iaload, 1))
    (kk : W p l e R s m args below meth c H locs cells slots Q (F0 m (pc + 1) ls (.int (tq_eb (F n)) :: rest))) : W p l e R s m args below meth c H locs cells slots Q (F0 m pc ls (.int i :: .ref a :: rest)) := by
  subst hi
  refine va_iald hexec hb hK hP q0 t0 ha ht (vp_in_nI hn hN) hdg ?_
  rw [nI_clamp (by omega)]
  exact kk
theorem tw_lz (hexec : p.tables.exec = Jvm.exec) (hb : c.code = cc) (hK : va_K D vwCl tysA s) (hP : va_P D vwCl wsA H) (q0 t0 : Nat) {cA : ClassId} {N a : Nat} {g : Nat → Bool} (ha : wsA[q0]? = some (a, .inl (cA, N, .inl (fun j => tw_bI (g j))))) (ht : tysA[t0]? = some (cA, .boolean)) {i : Int32} {n : Nat} (hi : i = nI n) (hn : n < N) (hN : N < 2 ^ 31) (hdg : decode cc pc = .ok (.baload, 1))
    (kk : W p l e R s m args below meth c H locs cells slots Q (F0 m (pc + 1) ls (.int (tw_bI (g n)) :: rest))) : W p l e R s m args below meth c H locs cells slots Q (F0 m pc ls (.int i :: .ref a :: rest)) := by
  subst hi
  refine va_zald hexec hb hK hP q0 t0 ha ht (vp_in_nI hn hN) hdg ?_
  rw [nI_clamp (by omega)]
  exact kk
theorem tw_st (hexec : p.tables.exec = Jvm.exec) (hb : c.code = cc) (hK : va_K D vwCl tysA s) (hP : va_P D vwCl wsA H) (hD : va_D A wsA) (hS : va_S A H0 H locs) (q0 t0 : Nat) {cA : ClassId} {N a : Nat} {F : Nat → BitVec 8} (ha : wsA[q0]? = some (a, .inl (cA, N, .inl (fun j => tq_eb (F j))))) (ht : tysA[t0]? = some (cA, .int)) {i x : Int32} {n : Nat} {v : BitVec 8} (hi : i = nI n) (hx : x = tq_eb v) (hn : n < N) (hN : N < 2 ^ 31) (hdg : decode cc pc = .ok (.iastore, 1))
    (kk : ∀ (H1 : Heap) (locs1 : List Loc), va_P D vwCl (wsA.set q0 (a, .inl (cA, N, .inl (fun j => tq_eb (va_up F n v j))))) H1 → va_D A (wsA.set q0 (a, .inl (cA, N, .inl (fun j => tq_eb (va_up F n v j))))) → va_S A H0 H1 locs1 → W p l e R s m args below meth c H1 locs1 cells slots Q (F0 m (pc + 1) ls rest)) : W p l e R s m args below meth c H locs cells slots Q (F0 m pc ls (.int x :: .int i :: .ref a :: rest)) := by
  subst hi
  subst hx
  refine va_iast hexec hb hK hP hD hS q0 t0 ha ht (vp_in_nI hn hN) hdg (fun H1 locs1 q1 q2 q3 => ?_)
  rw [nI_clamp (by omega), tw_upF] at q1 q2
  exact kk H1 locs1 q1 q2 q3
theorem tw_sz (hexec : p.tables.exec = Jvm.exec) (hb : c.code = cc) (hK : va_K D vwCl tysA s) (hP : va_P D vwCl wsA H) (hD : va_D A wsA) (hS : va_S A H0 H locs) (q0 t0 : Nat) {cA : ClassId} {N a : Nat} {g : Nat → Bool} (ha : wsA[q0]? = some (a, .inl (cA, N, .inl (fun j => tw_bI (g j))))) (ht : tysA[t0]? = some (cA, .boolean)) {i x : Int32} {n : Nat} {v : Bool} (hi : i = nI n) (hx : x = tw_bI v) (hn : n < N) (hN : N < 2 ^ 31) (hdg : decode cc pc = .ok (.bastore, 1))
    (kk : ∀ (H1 : Heap) (locs1 : List Loc), va_P D vwCl (wsA.set q0 (a, .inl (cA, N, .inl (fun j => tw_bI (va_up g n v j))))) H1 → va_D A (wsA.set q0 (a, .inl (cA, N, .inl (fun j => tw_bI (va_up g n v j))))) → va_S A H0 H1 locs1 → W p l e R s m args below meth c H1 locs1 cells slots Q (F0 m (pc + 1) ls rest)) : W p l e R s m args below meth c H locs cells slots Q (F0 m pc ls (.int x :: .int i :: .ref a :: rest)) := by
  subst hi
  subst hx
  refine va_zast hexec hb hK hP hD hS q0 t0 ha ht (vp_in_nI hn hN) hdg (fun H1 locs1 q1 q2 q3 => ?_)
  have hv : vp_nar .boolean (tw_bI v) = tw_bI v := by cases v <;> rfl
  rw [nI_clamp (by omega), hv, tw_upG] at q1 q2
  exact kk H1 locs1 q1 q2 q3
theorem tw_blind {av : List Value} : FrameBlind (va_Pc av (tw_B D w0 tys)) := fun a U g mk q => ⟨q.1, q.2.1, va_K.moved (u := U) (U := U.calling g mk a) (Vm.Alike.refl U.vm) q.2.2⟩
theorem tw_blindw {av : List Value} {sz : Nat} : FrameBlind (va_Pc av (tw_Pw D w0 tys sz)) := fun a U g mk q => ⟨q.1, q.2.1, ⟨q.2.2.1.1, va_K.moved (u := U) (U := U.calling g mk a) (Vm.Alike.refl U.vm) q.2.2.1.2⟩, q.2.2.2⟩
/-- a call of a method that only reads -/
theorem tw_rp {post : Int32 → Prop} (S : CallFix p m c cc nL s args Ts own) (hK : va_K D vwCl tys s) (hP : va_P D vwCl w0 H) {ci : Nat} {q : vw_C} {fs : List Value} (hc : vwCl[ci]? = some q) (he : w0[0]? = some (h0, .inr (ci, fs)))
    (hM : Met l y ws rm (va_Pc (.ref h0 :: As) (tw_B D w0 tys)) (vp_Si post) 0 0 (fun _ => False)) (cw : CallW R s args own q.1 index y bytes maxL ret ws rm 0 0 n)
    (hn : As.length = n) (hsize : ls.size = nL) (hst : st0 = As.reverse ++ .ref h0 :: rest) (hW : (rest.map fun v => v.category).sum ≤ 8) (hdg : decode cc pc = .ok (.invokevirtual index, 3)) (hf : cells ≤ R.cells ∧ slots ≤ R.slots)
    (kk : ∀ r : Int32, post r → W p l e R s m args below meth c H locs cells slots Q (F0 m (pc + 3) ls (.int r :: rest))) : W p l e R s m args below meth c H locs cells slots Q (F0 m pc ls st0) :=
  vp_callSi (va_Run.run (va_runV S hM cw ⟨tw_blind, va_recv hK hP hc he, fun U hU hW => ⟨rfl, by rw [hU]; exact hP, va_K.moved hW.alike hK⟩⟩ rfl hn hsize hst (lv_room hW) hdg hf)) kk
theorem tw_rX {cA : ClassId} {a0 k : Nat} {lo : Int32} {F : Nat → BitVec 8} {E : Int32} (S : CallFix p m c cc nL s args Ts own) (hK : va_K D vwCl (tw_tX cA) s) (hP : va_P D vwCl (tw_X cA h0 a0 k lo F) H)
    (hM : Met l y ws rm (va_Pc (.ref h0 :: As) (tw_B D (tw_X cA h0 a0 k lo F) (tw_tX cA))) (vp_Si (fun r => r = E)) 0 0 (fun _ => False)) (cw : CallW R s args own RX0 index y bytes maxL ret ws rm 0 0 n)
    (hn : As.length = n) (hsize : ls.size = nL) (hst : st0 = As.reverse ++ .ref h0 :: rest) (hW : (rest.map fun v => v.category).sum ≤ 8) (hdg : decode cc pc = .ok (.invokevirtual index, 3)) (hf : cells ≤ R.cells ∧ slots ≤ R.slots)
    (kk : W p l e R s m args below meth c H locs cells slots Q (F0 m (pc + 3) ls (.int E :: rest))) : W p l e R s m args below meth c H locs cells slots Q (F0 m pc ls st0) :=
  tw_rp (ci := 0) (q := (RX0, TX0, 3)) S hK hP rfl rfl hM cw hn hsize hst hW hdg hf (fun r hr => by subst hr; exact kk)
theorem tw_rM {cA cB : ClassId} {a0 b0 k : Nat} {F : Nat → BitVec 8} {g : Nat → Bool} {E : Int32} (S : CallFix p m c cc nL s args Ts own) (hK : va_K D vwCl (tw_tM cA cB) s) (hP : va_P D vwCl (tw_M cA cB h0 a0 b0 k F g) H)
    (hM : Met l y ws rm (va_Pc (.ref h0 :: As) (tw_B D (tw_M cA cB h0 a0 b0 k F g) (tw_tM cA cB))) (vp_Si (fun r => r = E)) 0 0 (fun _ => False)) (cw : CallW R s args own RX1 index y bytes maxL ret ws rm 0 0 n)
    (hn : As.length = n) (hsize : ls.size = nL) (hst : st0 = As.reverse ++ .ref h0 :: rest) (hW : (rest.map fun v => v.category).sum ≤ 8) (hdg : decode cc pc = .ok (.invokevirtual index, 3)) (hf : cells ≤ R.cells ∧ slots ≤ R.slots)
    (kk : W p l e R s m args below meth c H locs cells slots Q (F0 m (pc + 3) ls (.int E :: rest))) : W p l e R s m args below meth c H locs cells slots Q (F0 m pc ls st0) :=
  tw_rp (ci := 1) (q := (RX1, TX1, 4)) S hK hP rfl rfl hM cw hn hsize hst hW hdg hf (fun r hr => by subst hr; exact kk)
theorem tw_rXl {cA : ClassId} {a0 k : Nat} {lo : Int32} {F : Nat → BitVec 8} {E : Int64} (S : CallFix p m c cc nL s args Ts own) (hK : va_K D vwCl (tw_tX cA) s) (hP : va_P D vwCl (tw_X cA h0 a0 k lo F) H)
    (hM : Met l y ws rm (va_Pc (.ref h0 :: As) (tw_B D (tw_X cA h0 a0 k lo F) (tw_tX cA))) (vp_Sl (fun r => r = E)) 0 0 (fun _ => False)) (cw : CallW R s args own RX0 index y bytes maxL ret ws rm 0 0 n)
    (hn : As.length = n) (hsize : ls.size = nL) (hst : st0 = As.reverse ++ .ref h0 :: rest) (hW : (rest.map fun v => v.category).sum ≤ 8) (hdg : decode cc pc = .ok (.invokevirtual index, 3)) (hf : cells ≤ R.cells ∧ slots ≤ R.slots)
    (kk : W p l e R s m args below meth c H locs cells slots Q (F0 m (pc + 3) ls (.long E :: rest))) : W p l e R s m args below meth c H locs cells slots Q (F0 m pc ls st0) :=
  vp_callSl (va_Run.run (va_runV S hM cw ⟨tw_blind, va_recv hK hP (ci := 0) (q := (RX0, TX0, 3)) (q0 := 0) rfl rfl, fun U hU hW => ⟨rfl, by rw [hU]; exact hP, va_K.moved hW.alike hK⟩⟩ rfl hn hsize hst (lv_room hW) hdg hf)) (fun r hr => by subst hr; exact kk)
/-- a call of a static method of numbers alone -/
theorem tw_s {E : Int32} (S : CallFix p m c cc nL s args Ts own)
    (hM : Met l y ws rm (va_Pc As (fun _ => True)) (vp_Si (fun r => r = E)) 0 0 (fun _ => False)) (cw : CallB R s args own index y bytes maxL ret ws rm 0 0 n ∧ (Cond.static y).before args s = true)
    (hn : As.length = n) (hsize : ls.size = nL) (hst : st0 = As.reverse ++ rest) (hW : (rest.map fun v => v.category).sum ≤ 8) (hdg : decode cc pc = .ok (.invokestatic index, 3)) (hf : cells ≤ R.cells ∧ slots ≤ R.slots)
    (kk : W p l e R s m args below meth c H locs cells slots Q (F0 m (pc + 3) ls (.int E :: rest))) : W p l e R s m args below meth c H locs cells slots Q (F0 m pc ls st0) :=
  vp_callSi (va_Run.run (va_runS S hM cw ⟨fun a U g mk q => ⟨q.1, trivial⟩, fun U hU hW => ⟨rfl, trivial⟩⟩ rfl hn hsize hst (lv_room hW) hdg hf)) (fun r hr => by subst hr; exact kk)
/-- a call of a method that writes: the callee's cells are some of the caller's -/
theorem tw_wi {σ : Type} {post : Int32 → σ → Prop} {w1 : σ → va_W} {wr : va_W} (S : CallFix p m c cc nL s args Ts own) (hK : va_K D vwCl tys s) (hP : va_P D vwCl wsA H) (hD : va_D A wsA) (hS : va_S A H0 H locs) (hA : ∀ q, H0.size ≤ q → A q)
    (isC isR : List Nat) (hC : isC.map (fun i => wsA[i]?) = w0.map some) (hR : isR.map (fun i => wsA[i]?) = wr.map some) (hnC : va_nd isC = true) (hnR : va_nd isR = true) (hdis : ∀ i ∈ isR, i ∉ isC) (hPc : va_P D vwCl w0 H)
    {ci : Nat} {q : vw_C} {fs : List Value} (hc : vwCl[ci]? = some q) (he : w0[0]? = some (h0, .inr (ci, fs)))
    (hM : Met l y ws rm (va_Pc (.ref h0 :: As) (tw_Pw D w0 tys H.size)) (va_Qi post (tw_Qw D w1 tys (va_A w0 H.size)) (va_A w0 H.size)) 0 0 (va_A w0 H.size)) (cw : CallW R s args own q.1 index y bytes maxL ret ws rm 0 0 n)
    (hn : As.length = n) (hsize : ls.size = nL) (hst : st0 = As.reverse ++ .ref h0 :: rest) (hW : (rest.map fun v => v.category).sum ≤ 8) (hdg : decode cc pc = .ok (.invokevirtual index, 3)) (hf : cells ≤ R.cells ∧ slots ≤ R.slots)
    (kk : ∀ (r : Int32) (u : σ) (H1 : Heap) (locs1 : List Loc), post r u → va_P D vwCl (wr ++ w1 u) H1 → va_D A (wr ++ w1 u) → va_S A H0 H1 locs1 → W p l e R s m args below meth c H1 locs1 cells slots Q (F0 m (pc + 3) ls (.int r :: rest))) : W p l e R s m args below meth c H locs cells slots Q (F0 m pc ls st0) := by
  have hDc : va_D A w0 := hD.sub isC hnC hC
  have hFc := va_free (wc := w0) hD hS hA isC hC
  refine va_calli (va_runV S hM cw ⟨tw_blindw, va_recv hK hPc hc he, fun U hU hW => ⟨rfl, by rw [hU], ⟨by rw [hU]; exact hPc, va_K.moved hW.alike hK⟩, hDc.weaken (fun _ _ _ _ => trivial)⟩⟩ rfl hn hsize hst (lv_room hW) hdg hf) hS (fun q _ h => hFc q h) hFc (fun r u t H1 locs1 ht hvm hw hB hz1 hk1 hS => ?_)
  obtain ⟨⟨hP1, hK1⟩, hD1⟩ := hB
  rw [ht] at hP1
  obtain ⟨hP, hD⟩ := va_join (wr := wr) (w1 := w1 u) hP hD isC isR hC hR hnR hdis hk1 hFc hP1 hD1
  exact kk r u H1 locs1 hw hP hD hS
theorem tw_wl {σ : Type} {post : Int64 → σ → Prop} {w1 : σ → va_W} {wr : va_W} (S : CallFix p m c cc nL s args Ts own) (hK : va_K D vwCl tys s) (hP : va_P D vwCl wsA H) (hD : va_D A wsA) (hS : va_S A H0 H locs) (hA : ∀ q, H0.size ≤ q → A q)
    (isC isR : List Nat) (hC : isC.map (fun i => wsA[i]?) = w0.map some) (hR : isR.map (fun i => wsA[i]?) = wr.map some) (hnC : va_nd isC = true) (hnR : va_nd isR = true) (hdis : ∀ i ∈ isR, i ∉ isC) (hPc : va_P D vwCl w0 H)
    {ci : Nat} {q : vw_C} {fs : List Value} (hc : vwCl[ci]? = some q) (he : w0[0]? = some (h0, .inr (ci, fs)))
    (hM : Met l y ws rm (va_Pc (.ref h0 :: As) (tw_Pw D w0 tys H.size)) (va_Ql post (tw_Qw D w1 tys (va_A w0 H.size)) (va_A w0 H.size)) 0 0 (va_A w0 H.size)) (cw : CallW R s args own q.1 index y bytes maxL ret ws rm 0 0 n)
    (hn : As.length = n) (hsize : ls.size = nL) (hst : st0 = As.reverse ++ .ref h0 :: rest) (hW : (rest.map fun v => v.category).sum ≤ 8) (hdg : decode cc pc = .ok (.invokevirtual index, 3)) (hf : cells ≤ R.cells ∧ slots ≤ R.slots)
    (kk : ∀ (r : Int64) (u : σ) (H1 : Heap) (locs1 : List Loc), post r u → va_P D vwCl (wr ++ w1 u) H1 → va_D A (wr ++ w1 u) → va_S A H0 H1 locs1 → W p l e R s m args below meth c H1 locs1 cells slots Q (F0 m (pc + 3) ls (.long r :: rest))) : W p l e R s m args below meth c H locs cells slots Q (F0 m pc ls st0) := by
  have hDc : va_D A w0 := hD.sub isC hnC hC
  have hFc := va_free (wc := w0) hD hS hA isC hC
  refine va_calll (va_runV S hM cw ⟨tw_blindw, va_recv hK hPc hc he, fun U hU hW => ⟨rfl, by rw [hU], ⟨by rw [hU]; exact hPc, va_K.moved hW.alike hK⟩, hDc.weaken (fun _ _ _ _ => trivial)⟩⟩ rfl hn hsize hst (lv_room hW) hdg hf) hS (fun q _ h => hFc q h) hFc (fun r u t H1 locs1 ht hvm hw hB hz1 hk1 hS => ?_)
  obtain ⟨⟨hP1, hK1⟩, hD1⟩ := hB
  rw [ht] at hP1
  obtain ⟨hP, hD⟩ := va_join (wr := wr) (w1 := w1 u) hP hD isC isR hC hR hnR hdis hk1 hFc hP1 hD1
  exact kk r u H1 locs1 hw hP hD hS
theorem tw_wv {w1 : va_W} {wr : va_W} (S : CallFix p m c cc nL s args Ts own) (hK : va_K D vwCl tys s) (hP : va_P D vwCl wsA H) (hD : va_D A wsA) (hS : va_S A H0 H locs) (hA : ∀ q, H0.size ≤ q → A q)
    (isC isR : List Nat) (hC : isC.map (fun i => wsA[i]?) = w0.map some) (hR : isR.map (fun i => wsA[i]?) = wr.map some) (hnC : va_nd isC = true) (hnR : va_nd isR = true) (hdis : ∀ i ∈ isR, i ∉ isC) (hPc : va_P D vwCl w0 H)
    {ci : Nat} {q : vw_C} {fs : List Value} (hc : vwCl[ci]? = some q) (he : w0[0]? = some (h0, .inr (ci, fs)))
    (hM : Met l y ws rm (va_Pc (.ref h0 :: As) (tw_Pw D w0 tys H.size)) (va_Qv (fun _ : Unit => True) (tw_Qw D (fun _ : Unit => w1) tys (va_A w0 H.size)) (va_A w0 H.size)) 0 0 (va_A w0 H.size)) (cw : CallW R s args own q.1 index y bytes maxL ret ws rm 0 0 n)
    (hn : As.length = n) (hsize : ls.size = nL) (hst : st0 = As.reverse ++ .ref h0 :: rest) (hW : (rest.map fun v => v.category).sum ≤ 8) (hdg : decode cc pc = .ok (.invokevirtual index, 3)) (hf : cells ≤ R.cells ∧ slots ≤ R.slots)
    (kk : ∀ (H1 : Heap) (locs1 : List Loc), va_P D vwCl (wr ++ w1) H1 → va_D A (wr ++ w1) → va_S A H0 H1 locs1 → W p l e R s m args below meth c H1 locs1 cells slots Q (F0 m (pc + 3) ls rest)) : W p l e R s m args below meth c H locs cells slots Q (F0 m pc ls st0) := by
  have hDc : va_D A w0 := hD.sub isC hnC hC
  have hFc := va_free (wc := w0) hD hS hA isC hC
  refine va_callv (va_runV S hM cw ⟨tw_blindw, va_recv hK hPc hc he, fun U hU hW => ⟨rfl, by rw [hU], ⟨by rw [hU]; exact hPc, va_K.moved hW.alike hK⟩, hDc.weaken (fun _ _ _ _ => trivial)⟩⟩ rfl hn hsize hst (lv_room hW) hdg hf) hS (fun q _ h => hFc q h) hFc (fun u t H1 locs1 ht hvm hw hB hz1 hk1 hS => ?_)
  obtain ⟨⟨hP1, hK1⟩, hD1⟩ := hB
  rw [ht] at hP1
  obtain ⟨hP, hD⟩ := va_join (wr := wr) (w1 := w1) hP hD isC isR hC hR hnR hdis hk1 hFc hP1 hD1
  exact kk H1 locs1 hP hD hS
/-- the same, within the class -/
theorem tw_wXv {cA : ClassId} {a0 k k' : Nat} {lo lo' : Int32} {F F' : Nat → BitVec 8} (S : CallFix p m c cc nL s args Ts own) (hK : va_K D vwCl (tw_tX cA) s) (hP : va_P D vwCl (tw_X cA h0 a0 k lo F) H) (hD : va_D A (tw_X cA h0 a0 k lo F)) (hS : va_S A H0 H locs) (hA : ∀ q, H0.size ≤ q → A q)
    (hM : Met l y ws rm (va_Pc (.ref h0 :: As) (tw_Pw D (tw_X cA h0 a0 k lo F) (tw_tX cA) H.size)) (va_Qv (fun _ : Unit => True) (tw_Qw D (fun _ : Unit => tw_X cA h0 a0 k' lo' F') (tw_tX cA) (va_A (tw_X cA h0 a0 k lo F) H.size)) (va_A (tw_X cA h0 a0 k lo F) H.size)) 0 0 (va_A (tw_X cA h0 a0 k lo F) H.size)) (cw : CallW R s args own RX0 index y bytes maxL ret ws rm 0 0 n)
    (hn : As.length = n) (hsize : ls.size = nL) (hst : st0 = As.reverse ++ .ref h0 :: rest) (hW : (rest.map fun v => v.category).sum ≤ 8) (hdg : decode cc pc = .ok (.invokevirtual index, 3)) (hf : cells ≤ R.cells ∧ slots ≤ R.slots)
    (kk : ∀ (H1 : Heap) (locs1 : List Loc), va_P D vwCl (tw_X cA h0 a0 k' lo' F') H1 → va_D A (tw_X cA h0 a0 k' lo' F') → va_S A H0 H1 locs1 → W p l e R s m args below meth c H1 locs1 cells slots Q (F0 m (pc + 3) ls rest)) : W p l e R s m args below meth c H locs cells slots Q (F0 m pc ls st0) :=
  tw_wv (wr := []) (ci := 0) (q := (RX0, TX0, 3)) S hK hP hD hS hA [0, 1] [] rfl rfl rfl rfl (fun _ h => by cases h) hP rfl rfl hM cw hn hsize hst hW hdg hf kk
theorem tw_wMv {cA cB : ClassId} {a0 b0 k k' : Nat} {F F' : Nat → BitVec 8} {g g' : Nat → Bool} (S : CallFix p m c cc nL s args Ts own) (hK : va_K D vwCl (tw_tM cA cB) s) (hP : va_P D vwCl (tw_M cA cB h0 a0 b0 k F g) H) (hD : va_D A (tw_M cA cB h0 a0 b0 k F g)) (hS : va_S A H0 H locs) (hA : ∀ q, H0.size ≤ q → A q)
    (hM : Met l y ws rm (va_Pc (.ref h0 :: As) (tw_Pw D (tw_M cA cB h0 a0 b0 k F g) (tw_tM cA cB) H.size)) (va_Qv (fun _ : Unit => True) (tw_Qw D (fun _ : Unit => tw_M cA cB h0 a0 b0 k' F' g') (tw_tM cA cB) (va_A (tw_M cA cB h0 a0 b0 k F g) H.size)) (va_A (tw_M cA cB h0 a0 b0 k F g) H.size)) 0 0 (va_A (tw_M cA cB h0 a0 b0 k F g) H.size)) (cw : CallW R s args own RX1 index y bytes maxL ret ws rm 0 0 n)
    (hn : As.length = n) (hsize : ls.size = nL) (hst : st0 = As.reverse ++ .ref h0 :: rest) (hW : (rest.map fun v => v.category).sum ≤ 8) (hdg : decode cc pc = .ok (.invokevirtual index, 3)) (hf : cells ≤ R.cells ∧ slots ≤ R.slots)
    (kk : ∀ (H1 : Heap) (locs1 : List Loc), va_P D vwCl (tw_M cA cB h0 a0 b0 k' F' g') H1 → va_D A (tw_M cA cB h0 a0 b0 k' F' g') → va_S A H0 H1 locs1 → W p l e R s m args below meth c H1 locs1 cells slots Q (F0 m (pc + 3) ls rest)) : W p l e R s m args below meth c H locs cells slots Q (F0 m pc ls st0) :=
  tw_wv (wr := []) (ci := 1) (q := (RX1, TX1, 4)) S hK hP hD hS hA [0, 1, 2] [] rfl rfl rfl rfl (fun _ h => by cases h) hP rfl rfl hM cw hn hsize hst hW hdg hf kk
/-- a method's end -/
theorem tw_ri {E v : Int32} (hexec : p.tables.exec = Jvm.exec) (hb : c.code = cc) (hr : meth.sig.returnType = some .int) (hlocks : meth.locks = false) (hE : v = E) (hdg : decode cc pc = .ok (.ireturn, 1)) :
    W p l e R s m args below meth c s.heap [] 0 0 (MQ below (vp_Si (fun r => r = E)) args s 0 0 (fun _ => False)) (F0 m pc ls [.int v]) :=
  W.iret hexec hb hr (fun t ht hW => ⟨_, rfl, hE, ht⟩) (fun _ h => by cases h) hdg hlocks
theorem tw_rl {E v : Int64} (hexec : p.tables.exec = Jvm.exec) (hb : c.code = cc) (hr : meth.sig.returnType = some .long) (hlocks : meth.locks = false) (hE : v = E) (hdg : decode cc pc = .ok (.lreturn, 1)) :
    W p l e R s m args below meth c s.heap [] 0 0 (MQ below (vp_Sl (fun r => r = E)) args s 0 0 (fun _ => False)) (F0 m pc ls [.long v]) :=
  W.lret hexec hb hr (fun t ht hW => ⟨_, rfl, hE, ht⟩) (fun _ h => by cases h) hdg hlocks
theorem tw_nb : ∀ b : Bool, narrow .boolean (.int (tw_bI b)) = .int (tw_bI b) := by intro b; cases b <;> rfl
theorem tw_rz {b : Bool} {v : Int32} (hexec : p.tables.exec = Jvm.exec) (hb : c.code = cc) (hr : meth.sig.returnType = some .boolean) (hlocks : meth.locks = false) (hE : v = tw_bI b) (hdg : decode cc pc = .ok (.ireturn, 1)) :
    W p l e R s m args below meth c s.heap [] 0 0 (MQ below (vp_Si (fun r => r = tw_bI b)) args s 0 0 (fun _ => False)) (F0 m pc ls [.int v]) :=
  W.zret hexec hb hr (by rw [hE]; exact tw_nb b) (fun t ht hW => ⟨_, rfl, hE, ht⟩) (fun _ h => by cases h) hdg hlocks
theorem tw_rwi {σ : Type} {post : Int32 → σ → Prop} {w1 : σ → va_W} {v : Int32} (hexec : p.tables.exec = Jvm.exec) (hb : c.code = cc) (hr : meth.sig.returnType = some .int) (hlocks : meth.locks = false) (hK : va_K D vwCl tys s) (u : σ) (hp : post v u) (hP : va_P D vwCl (w1 u) H) (hD : va_D A (w1 u)) (hS : va_S A s.heap H locs) (hdg : decode cc pc = .ok (.ireturn, 1)) :
    W p l e R s m args below meth c H locs 0 0 (MQ below (va_Qi post (tw_Qw D w1 tys A) A) args s 0 0 A) (F0 m pc ls [.int v]) :=
  W.iret hexec hb hr (fun t ht hW => ⟨⟨v, u, rfl, hp, ⟨by rw [ht]; exact hP, va_K.moved hW.alike hK⟩, hD⟩, hS.F ht⟩) hS.2.2 hdg hlocks
theorem tw_rwl {σ : Type} {post : Int64 → σ → Prop} {w1 : σ → va_W} {v : Int64} (hexec : p.tables.exec = Jvm.exec) (hb : c.code = cc) (hr : meth.sig.returnType = some .long) (hlocks : meth.locks = false) (hK : va_K D vwCl tys s) (u : σ) (hp : post v u) (hP : va_P D vwCl (w1 u) H) (hD : va_D A (w1 u)) (hS : va_S A s.heap H locs) (hdg : decode cc pc = .ok (.lreturn, 1)) :
    W p l e R s m args below meth c H locs 0 0 (MQ below (va_Ql post (tw_Qw D w1 tys A) A) args s 0 0 A) (F0 m pc ls [.long v]) :=
  W.lret hexec hb hr (fun t ht hW => ⟨⟨v, u, rfl, hp, ⟨by rw [ht]; exact hP, va_K.moved hW.alike hK⟩, hD⟩, hS.F ht⟩) hS.2.2 hdg hlocks
theorem tw_rwv {w1 : va_W} (hexec : p.tables.exec = Jvm.exec) (hb : c.code = cc) (hr : meth.sig.returnType = none) (hlocks : meth.locks = false) (hK : va_K D vwCl tys s) (hP : va_P D vwCl w1 H) (hD : va_D A w1) (hS : va_S A s.heap H locs) (hdg : decode cc pc = .ok (.return_, 1)) :
    W p l e R s m args below meth c H locs 0 0 (MQ below (va_Qv (fun _ : Unit => True) (tw_Qw D (fun _ : Unit => w1) tys A) A) args s 0 0 A) (F0 m pc ls []) :=
  W.vret hexec hb hr (fun t ht hW => ⟨⟨(), rfl, trivial, ⟨by rw [ht]; exact hP, va_K.moved hW.alike hK⟩, hD⟩, hS.F ht⟩) hS.2.2 hdg hlocks
end TWC
