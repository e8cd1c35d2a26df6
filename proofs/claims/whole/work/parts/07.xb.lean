abbrev rmJ6_bitCount_0f7a4 : Room := { frames := 0, cells := 0, slots := 0, locals := 0 }
theorem fJ6_bitCount_0f7a4_265 : Cond.constant RJ6 265 (1431655765) ∈ wsJ6_bitCount_0f7a4 := List.mem_of_getElem? (i := 1) rfl
theorem fJ6_bitCount_0f7a4_266 : Cond.constant RJ6 266 (858993459) ∈ wsJ6_bitCount_0f7a4 := List.mem_of_getElem? (i := 2) rfl
theorem fJ6_bitCount_0f7a4_267 : Cond.constant RJ6 267 (252645135) ∈ wsJ6_bitCount_0f7a4 := List.mem_of_getElem? (i := 3) rfl
theorem kdJ6_bitCount_0f7a4 : yJ6_bitCount_0f7a4.cls ≠ "java/lang/invoke/MethodHandle" ∧ yJ6_bitCount_0f7a4.cls ≠ "java/lang/invoke/VarHandle" ∧ (parseMethodDescriptor yJ6_bitCount_0f7a4.desc).map (fun d => d.parameters.length) = some 1 := by decide +kernel
set_option maxHeartbeats 4000000 in
set_option maxRecDepth 100000 in
theorem c_J6_bitCount_0f7a4 (l : Launch) (x : Int32) : Met l yJ6_bitCount_0f7a4 wsJ6_bitCount_0f7a4 rmJ6_bitCount_0f7a4 (va_Pc [.int x] (fun _ => True)) (vp_Si (fun r => r = tw_bc x)) 0 0 (fun _ => False) := by
  refine tw_metS (by decide) rfl rfl (Nat.le_of_ble_eq_true rfl) ?_
  intro p e s m args below meth c Q ls hx hb hml hown hts hend hl
  have hown : s.vm.findClass RJ6 = some m.cls := hown
  have hl : lv_has ls 1 [(0, .int x)] := hl
  refine lv_iload_n hx hb dJ6_bitCount_0f7a4_0 rfl (lv_at hl 0 rfl) ?_
  refine lv_iload_n hx hb dJ6_bitCount_0f7a4_1 rfl (lv_at hl 0 rfl) ?_
  refine lv_iconst (v := 1) hx hb dJ6_bitCount_0f7a4_2 (by decide) ?_
  refine lv_iushr hx hb dJ6_bitCount_0f7a4_3 rfl ?_
  refine lv_ldcw (v := 1431655765) hx hb hown (hts _ fJ6_bitCount_0f7a4_265) dJ6_bitCount_0f7a4_4 ?_
  refine lv_iand hx hb dJ6_bitCount_0f7a4_7 ?_
  refine lv_isub hx hb dJ6_bitCount_0f7a4_8 ?_
  refine lv_topi (fun x0_9 ex0_9 => ?_)
  refine lv_istore_n (lv' := [(0, .int x0_9)]) hx hb dJ6_bitCount_0f7a4_9 rfl hl (by decide) rfl (fun ls hl => ?_)
  refine lv_iload_n hx hb dJ6_bitCount_0f7a4_10 rfl (lv_at hl 0 rfl) ?_
  refine lv_ldcw (v := 858993459) hx hb hown (hts _ fJ6_bitCount_0f7a4_266) dJ6_bitCount_0f7a4_11 ?_
  refine lv_iand hx hb dJ6_bitCount_0f7a4_14 ?_
  refine lv_iload_n hx hb dJ6_bitCount_0f7a4_15 rfl (lv_at hl 0 rfl) ?_
  refine lv_iconst (v := 2) hx hb dJ6_bitCount_0f7a4_16 (by decide) ?_
  refine lv_iushr hx hb dJ6_bitCount_0f7a4_17 rfl ?_
  refine lv_ldcw (v := 858993459) hx hb hown (hts _ fJ6_bitCount_0f7a4_266) dJ6_bitCount_0f7a4_18 ?_
  refine lv_iand hx hb dJ6_bitCount_0f7a4_21 ?_
  refine lv_iadd hx hb dJ6_bitCount_0f7a4_22 ?_
  refine lv_topi (fun x0_23 ex0_23 => ?_)
  refine lv_istore_n (lv' := [(0, .int x0_23)]) hx hb dJ6_bitCount_0f7a4_23 rfl hl (by decide) rfl (fun ls hl => ?_)
  refine lv_iload_n hx hb dJ6_bitCount_0f7a4_24 rfl (lv_at hl 0 rfl) ?_
  refine lv_iload_n hx hb dJ6_bitCount_0f7a4_25 rfl (lv_at hl 0 rfl) ?_
  refine lv_iconst (v := 4) hx hb dJ6_bitCount_0f7a4_26 (by decide) ?_
  refine lv_iushr hx hb dJ6_bitCount_0f7a4_27 rfl ?_
  refine lv_iadd hx hb dJ6_bitCount_0f7a4_28 ?_
  refine lv_ldcw (v := 252645135) hx hb hown (hts _ fJ6_bitCount_0f7a4_267) dJ6_bitCount_0f7a4_29 ?_
  refine lv_iand hx hb dJ6_bitCount_0f7a4_32 ?_
  refine lv_topi (fun x0_33 ex0_33 => ?_)
  refine lv_istore_n (lv' := [(0, .int x0_33)]) hx hb dJ6_bitCount_0f7a4_33 rfl hl (by decide) rfl (fun ls hl => ?_)
  refine lv_iload_n hx hb dJ6_bitCount_0f7a4_34 rfl (lv_at hl 0 rfl) ?_
  refine lv_iload_n hx hb dJ6_bitCount_0f7a4_35 rfl (lv_at hl 0 rfl) ?_
  refine lv_bipush (v := 8) hx hb dJ6_bitCount_0f7a4_36 (by decide) ?_
  refine lv_iushr hx hb dJ6_bitCount_0f7a4_38 rfl ?_
  refine lv_iadd hx hb dJ6_bitCount_0f7a4_39 ?_
  refine lv_topi (fun x0_40 ex0_40 => ?_)
  refine lv_istore_n (lv' := [(0, .int x0_40)]) hx hb dJ6_bitCount_0f7a4_40 rfl hl (by decide) rfl (fun ls hl => ?_)
  refine lv_iload_n hx hb dJ6_bitCount_0f7a4_41 rfl (lv_at hl 0 rfl) ?_
  refine lv_iload_n hx hb dJ6_bitCount_0f7a4_42 rfl (lv_at hl 0 rfl) ?_
  refine lv_bipush (v := 16) hx hb dJ6_bitCount_0f7a4_43 (by decide) ?_
  refine lv_iushr hx hb dJ6_bitCount_0f7a4_45 rfl ?_
  refine lv_iadd hx hb dJ6_bitCount_0f7a4_46 ?_
  refine lv_topi (fun x0_47 ex0_47 => ?_)
  refine lv_istore_n (lv' := [(0, .int x0_47)]) hx hb dJ6_bitCount_0f7a4_47 rfl hl (by decide) rfl (fun ls hl => ?_)
  refine lv_iload_n hx hb dJ6_bitCount_0f7a4_48 rfl (lv_at hl 0 rfl) ?_
  refine lv_bipush (v := 63) hx hb dJ6_bitCount_0f7a4_49 (by decide) ?_
  refine lv_iand hx hb dJ6_bitCount_0f7a4_51 ?_
  refine tw_topr (x' := tw_bc x) (by subst ex0_47; subst ex0_40; subst ex0_33; subst ex0_23; subst ex0_9; rfl) ?_
  exact hend _ _ dJ6_bitCount_0f7a4_52
theorem tw_metSF {l : Launch} {y : MethodName} {ws ws' : List Cond} {rm : Room} {cc : ByteArray} {maxL : Nat} {ret : Option FieldType} {av : List Value} {E : Int32} (hy : plainFor y = true) (hw : ws = Cond.code y cc maxL ret :: ws') (hret : ret = some .int) (hlen : (lg_sl av).length ≤ maxL)
    (body : ∀ (p : Program) (e : Env) (s : State) (m : MethodId) (args : Array Value) (below : List Frame) (meth : Method) (c : Code) (Q : State → Prop) (ls : Array Slot), p.tables.exec = Jvm.exec → c.code = cc → c.maxLocals = maxL → s.vm.findClass y.cls = some m.cls → (∀ w ∈ ws, w.before args s = true) →
      (∀ (pc : Nat) (ls : Array Slot), decode cc pc = .ok (.ireturn, 1) → W p l e rm s m args below meth c s.heap [] 0 0 Q (F0 m pc ls [.int E])) → lv_has ls maxL (lv_args 0 av) → W p l e rm s m args below meth c s.heap [] 0 0 Q (F0 m 0 ls [])) :
    Met l y ws rm (va_Pc av (fun _ => True)) (vp_Si (fun r => r = E)) 0 0 (fun _ => False) := by
  refine va_MetF (cc := cc) (maxL := maxL) (ret := ret) hy hw ?_
  intro p e s m args below meth c s₁ B hml hv
  obtain ⟨rfl, -⟩ := hv
  rw [lg_entry_eq]
  subst hret
  exact body p e s m _ below meth c _ _ B.exec B.bytes hml (findClass_of_methodNamed B.named) (atoms_spec (ws := ws) B.pre) (fun pc ls hd => tw_ri B.exec B.bytes B.returns B.notSynchronized rfl hd) (lv_entry av hlen)
abbrev rmJ9_floorMod_7cf53 : Room := { frames := 0, cells := 0, slots := 0, locals := 0 }
theorem kdJ9_floorMod_7cf53 : yJ9_floorMod_7cf53.cls ≠ "java/lang/invoke/MethodHandle" ∧ yJ9_floorMod_7cf53.cls ≠ "java/lang/invoke/VarHandle" ∧ (parseMethodDescriptor yJ9_floorMod_7cf53.desc).map (fun d => d.parameters.length) = some 2 := by decide +kernel
set_option maxHeartbeats 4000000 in
set_option maxRecDepth 100000 in
theorem c_J9_floorMod_7cf53 (l : Launch) (x : Int32) : Met l yJ9_floorMod_7cf53 wsJ9_floorMod_7cf53 rmJ9_floorMod_7cf53 (va_Pc [.int x, .int 255] (fun _ => True)) (vp_Si (fun r => r = nI (tw_fm x))) 0 0 (fun _ => False) := by
  refine tw_metSF (by decide +kernel) rfl rfl (Nat.le_of_ble_eq_true rfl) ?_
  intro p e s m args below meth c Q ls hx hb hml hown hts hend hl
  have hown : s.vm.findClass RJ9 = some m.cls := hown
  have hl : lv_has ls 3 [(0, .int x), (1, .int 255)] := hl
  refine lv_iload_n hx hb dJ9_floorMod_7cf53_0 rfl (lv_at hl 0 rfl) ?_
  refine lv_iload_n hx hb dJ9_floorMod_7cf53_1 rfl (lv_at hl 1 rfl) ?_
  refine lv_irem hx hb dJ9_floorMod_7cf53_2 (by decide) ?_
  refine lv_topi (fun x2_3 ex2_3 => ?_)
  refine lv_istore_n (lv' := [(2, .int x2_3), (0, .int x), (1, .int 255)]) hx hb dJ9_floorMod_7cf53_3 rfl hl (by decide) rfl (fun ls hl => ?_)
  refine lv_iload_n hx hb dJ9_floorMod_7cf53_4 rfl (lv_at hl 1 rfl) ?_
  refine lv_iload_n hx hb dJ9_floorMod_7cf53_5 rfl (lv_at hl 2 rfl) ?_
  refine lv_ixor hx hb dJ9_floorMod_7cf53_6 ?_
  refine lv_if_ge (tgt := 18) hx hb dJ9_floorMod_7cf53_7 (by decide) (fun c_7 => ?_) (fun c_7 => ?_)
  · refine lv_iload_n hx hb dJ9_floorMod_7cf53_18 rfl (lv_at hl 0 rfl) ?_
    refine tw_topr (x' := nI (tw_fm x)) (by first | (rw [ex2_3]; exact tw_fmC c_7) | (rw [ex2_3] at c_11 ⊢; exact tw_fmA (by rw [c_11]; decide))) ?_
    exact hend _ _ dJ9_floorMod_7cf53_19
  · refine lv_iload_n hx hb dJ9_floorMod_7cf53_10 rfl (lv_at hl 0 rfl) ?_
    refine lv_if_eq (tgt := 18) hx hb dJ9_floorMod_7cf53_11 (by decide) (fun c_11 => ?_) (fun c_11 => ?_)
    · refine lv_iload_n hx hb dJ9_floorMod_7cf53_18 rfl (lv_at hl 0 rfl) ?_
      refine tw_topr (x' := nI (tw_fm x)) (by first | (rw [ex2_3]; exact tw_fmC c_7) | (rw [ex2_3] at c_11 ⊢; exact tw_fmA (by rw [c_11]; decide))) ?_
      exact hend _ _ dJ9_floorMod_7cf53_19
    · refine lv_iload_n hx hb dJ9_floorMod_7cf53_14 rfl (lv_at hl 0 rfl) ?_
      refine lv_iload_n hx hb dJ9_floorMod_7cf53_15 rfl (lv_at hl 2 rfl) ?_
      refine lv_iadd hx hb dJ9_floorMod_7cf53_16 ?_
      refine tw_topr (x' := nI (tw_fm x)) (by rw [ex2_3]; exact tw_fmD c_7 (by rw [← ex2_3]; exact c_11)) ?_
      exact hend _ _ dJ9_floorMod_7cf53_17
abbrev rmX0_lostCount : Room := { frames := 1, cells := 0, slots := 0, locals := 20 }
theorem inX0_lostCount : ∀ w ∈ wsX00, w ∈ wsX0_lostCount := fun _ h => List.mem_cons_of_mem _ (List.mem_append_right _ h)
theorem fX0_lostCount_17 : Cond.fieldLink RX0 17 "TwinParity" "lostUnits" "I" ∈ wsX0_lostCount := List.mem_of_getElem? (i := 1) rfl
theorem kdX0_lostCount : yX0_lostCount.cls = RX0 ∧ yX0_lostCount.cls ≠ "java/lang/invoke/MethodHandle" ∧ yX0_lostCount.cls ≠ "java/lang/invoke/VarHandle" ∧ (parseMethodDescriptor yX0_lostCount.desc).map (fun d => d.parameters.length) = some 0 := by decide +kernel
set_option maxHeartbeats 4000000 in
set_option maxRecDepth 100000 in
theorem c_X0_lostCount (l : Launch) (D : va_G) (cA : ClassId) (h0 a0 k : Nat) (lo : Int32) (F : Nat → BitVec 8)  : Met l yX0_lostCount wsX0_lostCount rmX0_lostCount (va_Pc [.ref h0] (tw_B D (tw_X cA h0 a0 k lo F) (tw_tX cA))) (vp_Si (fun r => r = tw_bc lo)) 0 0 (fun _ => False) := by
  refine tw_metR (by decide) rfl rfl (Nat.le_of_ble_eq_true rfl) ?_
  intro p e s m args below meth c Q ls hx hb hml hown hts hP hK hend hl
  have hown : s.vm.findClass RX0 = some m.cls := hown
  have hl : lv_has ls 1 [(0, .ref h0)] := hl
  refine lv_aload_n hx hb dX0_lostCount_0 rfl (lv_at hl 0 rfl) ?_
  refine va_get (D := D) (ci := 0) (v := .int lo) (C := RX0) (T := TX0) (N := 3) hx hb hts inX0_lostCount hown hK hP 0 rfl rfl 2 (by decide) (hts _ fX0_lostCount_17) (fun _ h9 => h9) rfl dX0_lostCount_1 ?_
  refine tw_s ⟨hx, hb, hml, hown, hts⟩ (c_J6_bitCount_0f7a4 l lo) (va_cwS 1 hts gX0_lostCount_J6_bitCount_0f7a4 rfl rfl rfl kdJ6_bitCount_0f7a4 ⟨Nat.le_of_ble_eq_true rfl, Nat.le_of_ble_eq_true rfl⟩) rfl hl.1 rfl (Nat.le_of_ble_eq_true rfl) dX0_lostCount_4 ⟨Nat.zero_le _, Nat.zero_le _⟩ ?_
  exact hend _ _ dX0_lostCount_7
abbrev rmX0_byteAt : Room := { frames := 0, cells := 0, slots := 0, locals := 0 }
theorem inX0_byteAt : ∀ w ∈ wsX00, w ∈ wsX0_byteAt := fun _ h => List.mem_cons_of_mem _ (List.mem_append_right _ h)
theorem fX0_byteAt_9 : Cond.fieldLink RX0 9 "TwinParity" "bytes" "[I" ∈ wsX0_byteAt := List.mem_of_getElem? (i := 1) rfl
theorem kdX0_byteAt : yX0_byteAt.cls = RX0 ∧ yX0_byteAt.cls ≠ "java/lang/invoke/MethodHandle" ∧ yX0_byteAt.cls ≠ "java/lang/invoke/VarHandle" ∧ (parseMethodDescriptor yX0_byteAt.desc).map (fun d => d.parameters.length) = some 2 := by decide +kernel
set_option maxHeartbeats 4000000 in
set_option maxRecDepth 100000 in
theorem c_X0_byteAt (l : Launch) (D : va_G) (cA : ClassId) (h0 a0 k : Nat) (lo : Int32) (F : Nat → BitVec 8) (u i : Nat) (h : 64 * u + i < 1024) : Met l yX0_byteAt wsX0_byteAt rmX0_byteAt (va_Pc [.ref h0, .int (nI u), .int (nI i)] (tw_B D (tw_X cA h0 a0 k lo F) (tw_tX cA))) (vp_Si (fun r => r = tq_eb (F (64 * u + i)))) 0 0 (fun _ => False) := by
  refine tw_metR (by decide) rfl rfl (Nat.le_of_ble_eq_true rfl) ?_
  intro p e s m args below meth c Q ls hx hb hml hown hts hP hK hend hl
  have hown : s.vm.findClass RX0 = some m.cls := hown
  have hl : lv_has ls 3 [(0, .ref h0), (1, .int (nI u)), (2, .int (nI i))] := hl
  refine lv_aload_n hx hb dX0_byteAt_0 rfl (lv_at hl 0 rfl) ?_
  refine va_get (D := D) (ci := 0) (v := .ref a0) (C := RX0) (T := TX0) (N := 3) hx hb hts inX0_byteAt hown hK hP 0 rfl rfl 0 (by decide) (hts _ fX0_byteAt_9) (fun _ h9 => h9) rfl dX0_byteAt_1 ?_
  refine lv_iload_n hx hb dX0_byteAt_4 rfl (lv_at hl 1 rfl) ?_
  refine lv_bipush (v := 64) hx hb dX0_byteAt_5 (by decide) ?_
  refine lv_imul hx hb dX0_byteAt_7 ?_
  refine lv_iload_n hx hb dX0_byteAt_8 rfl (lv_at hl 2 rfl) ?_
  refine lv_iadd hx hb dX0_byteAt_9 ?_
  refine tw_ld hx hb hK hP 1 0 rfl rfl (n := 64 * u + i) (tw_ix u i) (h) (by decide) dX0_byteAt_10 ?_
  exact hend _ _ dX0_byteAt_11
def tw_lf (k : Nat) (lo : Int32) (f : Nat) : Int32 := if tw_low (tw_lb lo) f (k + 2 - f) = k + 2 then -1 else nI (tw_low (tw_lb lo) f (k + 2 - f))
abbrev rmX0_lostFrom : Room := { frames := 1, cells := 0, slots := 0, locals := 21 }
theorem inX0_lostFrom : ∀ w ∈ wsX00, w ∈ wsX0_lostFrom := fun _ h => List.mem_cons_of_mem _ (List.mem_append_right _ h)
theorem fX0_lostFrom_13 : Cond.fieldLink RX0 13 "TwinParity" "dataUnits" "I" ∈ wsX0_lostFrom := List.mem_of_getElem? (i := 6) rfl
theorem fX0_lostFrom_17 : Cond.fieldLink RX0 17 "TwinParity" "lostUnits" "I" ∈ wsX0_lostFrom := List.mem_of_getElem? (i := 11) rfl
theorem kdX0_lostFrom : yX0_lostFrom.cls = RX0 ∧ yX0_lostFrom.cls ≠ "java/lang/invoke/MethodHandle" ∧ yX0_lostFrom.cls ≠ "java/lang/invoke/VarHandle" ∧ (parseMethodDescriptor yX0_lostFrom.desc).map (fun d => d.parameters.length) = some 1 := by decide +kernel
set_option maxHeartbeats 4000000 in
set_option maxRecDepth 100000 in
theorem c_X0_lostFrom (l : Launch) (D : va_G) (cA : ClassId) (h0 a0 k : Nat) (lo : Int32) (F : Nat → BitVec 8) (f : Nat) (hf : f ≤ k + 2) (hk : k ≤ 14) : Met l yX0_lostFrom wsX0_lostFrom rmX0_lostFrom (va_Pc [.ref h0, .int (nI f)] (tw_B D (tw_X cA h0 a0 k lo F) (tw_tX cA))) (vp_Si (fun r => r = tw_lf k lo f)) 0 0 (fun _ => False) := by
  refine tw_metR (by decide) rfl rfl (Nat.le_of_ble_eq_true rfl) ?_
  intro p e s m args below meth c Q ls hx hb hml hown hts hP hK hend hl
  have hown : s.vm.findClass RX0 = some m.cls := hown
  have hl : lv_has ls 3 [(0, .ref h0), (1, .int (nI f))] := hl
  have loop : ∀ (n j : Nat) (ls : Array Slot), j + n = k + 2 → tw_low (tw_lb lo) f (k + 2 - f) = tw_low (tw_lb lo) j n → lv_has ls 3 [(0, .ref h0), (1, .int (nI f)), (2, .int (nI j))] → W p l e rmX0_lostFrom s m args below meth c s.heap [] 0 0 Q (F0 m 2 ls []) := by
    intro n
    induction n with
    | zero =>
      intro j ls hj hlow hl
      refine lv_iload_n hx hb dX0_lostFrom_2 rfl (lv_at hl 2 rfl) ?_
      refine lv_aload_n hx hb dX0_lostFrom_3 rfl (lv_at hl 0 rfl) ?_
      refine tw_rX ⟨hx, hb, hml, hown, hts⟩ hK hP (c_X0_units l D cA h0 a0 k lo F ) (cwV 0 hts gX0_lostFrom_X0_units rfl rfl rfl kdX0_units ⟨Nat.le_of_ble_eq_true rfl, Nat.le_of_ble_eq_true rfl⟩) rfl hl.1 rfl (Nat.le_of_ble_eq_true rfl) dX0_lostFrom_4 ⟨Nat.zero_le _, Nat.zero_le _⟩ ?_
      refine lv_icmp_ge (tgt := 26) hx hb dX0_lostFrom_7 (by decide) (fun c_7 => ?_) (fun c_7 => ?_)
      · refine lv_iconst (v := (-1)) hx hb dX0_lostFrom_26 (by decide) ?_
        refine tw_topr (x' := tw_lf k lo f) (by rw [tw_lf, hlow, show j = k + 2 by omega]; simp [tw_low]) ?_
        exact hend _ _ dX0_lostFrom_27
      · exact absurd (nI_le (by omega) (by omega)) c_7
    | succ n ih =>
      intro j ls hj hlow hl
      refine lv_iload_n hx hb dX0_lostFrom_2 rfl (lv_at hl 2 rfl) ?_
      refine lv_aload_n hx hb dX0_lostFrom_3 rfl (lv_at hl 0 rfl) ?_
      refine tw_rX ⟨hx, hb, hml, hown, hts⟩ hK hP (c_X0_units l D cA h0 a0 k lo F ) (cwV 0 hts gX0_lostFrom_X0_units rfl rfl rfl kdX0_units ⟨Nat.le_of_ble_eq_true rfl, Nat.le_of_ble_eq_true rfl⟩) rfl hl.1 rfl (Nat.le_of_ble_eq_true rfl) dX0_lostFrom_4 ⟨Nat.zero_le _, Nat.zero_le _⟩ ?_
      refine lv_icmp_ge (tgt := 26) hx hb dX0_lostFrom_7 (by decide) (fun c_7 => ?_) (fun c_7 => ?_)
      · exact absurd c_7 (nI_ge (by omega) (by omega))
      · refine lv_aload_n hx hb dX0_lostFrom_10 rfl (lv_at hl 0 rfl) ?_
        refine lv_iload_n hx hb dX0_lostFrom_11 rfl (lv_at hl 2 rfl) ?_
        refine tw_rX ⟨hx, hb, hml, hown, hts⟩ hK hP (c_X0_isLost l D cA h0 a0 k lo F j) (cwV 1 hts gX0_lostFrom_X0_isLost rfl rfl rfl kdX0_isLost ⟨Nat.le_of_ble_eq_true rfl, Nat.le_of_ble_eq_true rfl⟩) rfl hl.1 rfl (Nat.le_of_ble_eq_true rfl) dX0_lostFrom_12 ⟨Nat.zero_le _, Nat.zero_le _⟩ ?_
        refine lv_if_eq (tgt := 20) hx hb dX0_lostFrom_15 (by decide) (fun c_15 => ?_) (fun c_15 => ?_)
        · refine lv_iinc (v := nI (j + 1)) (lv' := [(2, .int (nI (j + 1))), (0, .ref h0), (1, .int (nI f))]) hx hb dX0_lostFrom_20 hl (k := 2) rfl (nI_1 j) (by decide) rfl (fun ls hl => ?_)
          refine lv_goto (tgt := 2) hx hb dX0_lostFrom_23 (by decide) ?_
          exact ih (j + 1) ls (by omega) (by rw [hlow, tw_low, if_neg (by rw [tw_bI0.mp c_15]; decide)]) (lv_sub hl [1, 2, 0] rfl)
        · refine lv_iload_n hx hb dX0_lostFrom_18 rfl (lv_at hl 2 rfl) ?_
          refine tw_topr (x' := tw_lf k lo f) (by rw [tw_lf, hlow, tw_low, if_pos (tw_bI1.mp c_15), if_neg (by omega)]) ?_
          exact hend _ _ dX0_lostFrom_19
  refine lv_iload_n hx hb dX0_lostFrom_0 rfl (lv_at hl 1 rfl) ?_
  refine lv_istore_n (lv' := [(2, .int (nI f)), (0, .ref h0), (1, .int (nI f))]) hx hb dX0_lostFrom_1 rfl hl (by decide) rfl (fun ls hl => ?_)
  exact loop (k + 2 - f) f ls (by omega) rfl (lv_sub hl [1, 2, 0] rfl)
abbrev rmX0_differenceP : Room := { frames := 1, cells := 0, slots := 0, locals := 22 }
theorem inX0_differenceP : ∀ w ∈ wsX00, w ∈ wsX0_differenceP := fun _ h => List.mem_cons_of_mem _ (List.mem_append_right _ h)
theorem fX0_differenceP_13 : Cond.fieldLink RX0 13 "TwinParity" "dataUnits" "I" ∈ wsX0_differenceP := List.mem_of_getElem? (i := 1) rfl
theorem fX0_differenceP_9 : Cond.fieldLink RX0 9 "TwinParity" "bytes" "[I" ∈ wsX0_differenceP := List.mem_of_getElem? (i := 11) rfl
theorem kdX0_differenceP : yX0_differenceP.cls = RX0 ∧ yX0_differenceP.cls ≠ "java/lang/invoke/MethodHandle" ∧ yX0_differenceP.cls ≠ "java/lang/invoke/VarHandle" ∧ (parseMethodDescriptor yX0_differenceP.desc).map (fun d => d.parameters.length) = some 1 := by decide +kernel
set_option maxHeartbeats 4000000 in
set_option maxRecDepth 100000 in
theorem c_X0_differenceP (l : Launch) (D : va_G) (cA : ClassId) (h0 a0 k : Nat) (lo : Int32) (F : Nat → BitVec 8) (i : Nat) (hi : i < 64) (hk : k ≤ 14) : Met l yX0_differenceP wsX0_differenceP rmX0_differenceP (va_Pc [.ref h0, .int (nI i)] (tw_B D (tw_X cA h0 a0 k lo F) (tw_tX cA))) (vp_Si (fun r => r = tq_eb (tq_dP k (tq_col F i)))) 0 0 (fun _ => False) := by
  refine tw_metR (by decide) rfl rfl (Nat.le_of_ble_eq_true rfl) ?_
  intro p e s m args below meth c Q ls hx hb hml hown hts hP hK hend hl
  have hown : s.vm.findClass RX0 = some m.cls := hown
  have hl : lv_has ls 4 [(0, .ref h0), (1, .int (nI i))] := hl
  have loop : ∀ (n j : Nat) (ls : Array Slot), j + n = k → lv_has ls 4 [(0, .ref h0), (1, .int (nI i)), (2, .int (tq_eb (tq_col F i k ^^^ tq_xs (tq_col F i) j))), (3, .int (nI j))] → W p l e rmX0_differenceP s m args below meth c s.heap [] 0 0 Q (F0 m 12 ls []) := by
    intro n
    induction n with
    | zero =>
      intro j ls hj hl
      refine lv_iload_n hx hb dX0_differenceP_12 rfl (lv_at hl 3 rfl) ?_
      refine lv_aload_n hx hb dX0_differenceP_13 rfl (lv_at hl 0 rfl) ?_
      refine va_get (D := D) (ci := 0) (v := .int (nI k)) (C := RX0) (T := TX0) (N := 3) hx hb hts inX0_differenceP hown hK hP 0 rfl rfl 1 (by decide) (hts _ fX0_differenceP_13) (fun _ h9 => h9) rfl dX0_differenceP_14 ?_
      refine lv_icmp_ge (tgt := 35) hx hb dX0_differenceP_17 (by decide) (fun c_17 => ?_) (fun c_17 => ?_)
      · refine lv_iload_n hx hb dX0_differenceP_35 rfl (lv_at hl 2 rfl) ?_
        refine tw_topr (x' := tq_eb (tq_dP k (tq_col F i))) (by rw [show j = k by omega]; rfl) ?_
        exact hend _ _ dX0_differenceP_36
      · exact absurd (nI_le (by omega) (by omega)) c_17
    | succ n ih =>
      intro j ls hj hl
      refine lv_iload_n hx hb dX0_differenceP_12 rfl (lv_at hl 3 rfl) ?_
      refine lv_aload_n hx hb dX0_differenceP_13 rfl (lv_at hl 0 rfl) ?_
      refine va_get (D := D) (ci := 0) (v := .int (nI k)) (C := RX0) (T := TX0) (N := 3) hx hb hts inX0_differenceP hown hK hP 0 rfl rfl 1 (by decide) (hts _ fX0_differenceP_13) (fun _ h9 => h9) rfl dX0_differenceP_14 ?_
      refine lv_icmp_ge (tgt := 35) hx hb dX0_differenceP_17 (by decide) (fun c_17 => ?_) (fun c_17 => ?_)
      · exact absurd c_17 (nI_ge (by omega) (by omega))
      · refine lv_iload_n hx hb dX0_differenceP_20 rfl (lv_at hl 2 rfl) ?_
        refine lv_aload_n hx hb dX0_differenceP_21 rfl (lv_at hl 0 rfl) ?_
        refine lv_iload_n hx hb dX0_differenceP_22 rfl (lv_at hl 3 rfl) ?_
        refine lv_iload_n hx hb dX0_differenceP_23 rfl (lv_at hl 1 rfl) ?_
        refine tw_rX ⟨hx, hb, hml, hown, hts⟩ hK hP (c_X0_byteAt l D cA h0 a0 k lo F j i (by omega)) (cwV 2 hts gX0_differenceP_X0_byteAt rfl rfl rfl kdX0_byteAt ⟨Nat.le_of_ble_eq_true rfl, Nat.le_of_ble_eq_true rfl⟩) rfl hl.1 rfl (Nat.le_of_ble_eq_true rfl) dX0_differenceP_24 ⟨Nat.zero_le _, Nat.zero_le _⟩ ?_
        refine lv_ixor hx hb dX0_differenceP_27 ?_
        refine tw_topr (x' := tq_eb (tq_col F i k ^^^ tq_xs (tq_col F i) (j + 1))) (by rw [tq_eb_xor, BitVec.xor_assoc]; rfl) ?_
        refine lv_istore_n (lv' := [(2, .int (tq_eb (tq_col F i k ^^^ tq_xs (tq_col F i) (j + 1)))), (0, .ref h0), (1, .int (nI i)), (3, .int (nI j))]) hx hb dX0_differenceP_28 rfl hl (by decide) rfl (fun ls hl => ?_)
        refine lv_iinc (v := nI (j + 1)) (lv' := [(3, .int (nI (j + 1))), (2, .int (tq_eb (tq_col F i k ^^^ tq_xs (tq_col F i) (j + 1)))), (0, .ref h0), (1, .int (nI i))]) hx hb dX0_differenceP_29 hl (k := 3) rfl (nI_1 j) (by decide) rfl (fun ls hl => ?_)
        refine lv_goto (tgt := 12) hx hb dX0_differenceP_32 (by decide) ?_
        exact ih (j + 1) ls (by omega) (lv_sub hl [2, 3, 1, 0] rfl)
  refine lv_aload_n hx hb dX0_differenceP_0 rfl (lv_at hl 0 rfl) ?_
  refine lv_aload_n hx hb dX0_differenceP_1 rfl (lv_at hl 0 rfl) ?_
  refine tw_rX ⟨hx, hb, hml, hown, hts⟩ hK hP (c_X0_unitP l D cA h0 a0 k lo F ) (cwV 0 hts gX0_differenceP_X0_unitP rfl rfl rfl kdX0_unitP ⟨Nat.le_of_ble_eq_true rfl, Nat.le_of_ble_eq_true rfl⟩) rfl hl.1 rfl (Nat.le_of_ble_eq_true rfl) dX0_differenceP_2 ⟨Nat.zero_le _, Nat.zero_le _⟩ ?_
  refine lv_iload_n hx hb dX0_differenceP_5 rfl (lv_at hl 1 rfl) ?_
  refine tw_rX ⟨hx, hb, hml, hown, hts⟩ hK hP (c_X0_byteAt l D cA h0 a0 k lo F k i (by omega)) (cwV 2 hts gX0_differenceP_X0_byteAt rfl rfl rfl kdX0_byteAt ⟨Nat.le_of_ble_eq_true rfl, Nat.le_of_ble_eq_true rfl⟩) rfl hl.1 rfl (Nat.le_of_ble_eq_true rfl) dX0_differenceP_6 ⟨Nat.zero_le _, Nat.zero_le _⟩ ?_
  refine tw_topr (x' := tq_eb (tq_col F i k ^^^ tq_xs (tq_col F i) 0)) (by simp [tq_col, tq_xs]) ?_
  refine lv_istore_n (lv' := [(2, .int (tq_eb (tq_col F i k ^^^ tq_xs (tq_col F i) 0))), (0, .ref h0), (1, .int (nI i))]) hx hb dX0_differenceP_9 rfl hl (by decide) rfl (fun ls hl => ?_)
  refine lv_iconst (v := 0) hx hb dX0_differenceP_10 (by decide) ?_
  refine lv_istore_n (lv' := [(3, .int 0), (2, .int (tq_eb (tq_col F i k ^^^ tq_xs (tq_col F i) 0))), (0, .ref h0), (1, .int (nI i))]) hx hb dX0_differenceP_11 rfl hl (by decide) rfl (fun ls hl => ?_)
  exact loop k 0 ls (by omega) (lv_sub hl [2, 3, 1, 0] rfl)
abbrev rmX0_differenceQ : Room := { frames := 1, cells := 0, slots := 0, locals := 22 }
theorem inX0_differenceQ : ∀ w ∈ wsX00, w ∈ wsX0_differenceQ := fun _ h => List.mem_cons_of_mem _ (List.mem_append_right _ h)
theorem fX0_differenceQ_13 : Cond.fieldLink RX0 13 "TwinParity" "dataUnits" "I" ∈ wsX0_differenceQ := List.mem_of_getElem? (i := 1) rfl
theorem fX0_differenceQ_9 : Cond.fieldLink RX0 9 "TwinParity" "bytes" "[I" ∈ wsX0_differenceQ := List.mem_of_getElem? (i := 10) rfl
theorem kdX0_differenceQ : yX0_differenceQ.cls = RX0 ∧ yX0_differenceQ.cls ≠ "java/lang/invoke/MethodHandle" ∧ yX0_differenceQ.cls ≠ "java/lang/invoke/VarHandle" ∧ (parseMethodDescriptor yX0_differenceQ.desc).map (fun d => d.parameters.length) = some 1 := by decide +kernel
set_option maxHeartbeats 4000000 in
set_option maxRecDepth 100000 in
theorem c_X0_differenceQ (l : Launch) (D : va_G) (cA : ClassId) (h0 a0 k : Nat) (lo : Int32) (F : Nat → BitVec 8) (i : Nat) (hi : i < 64) (hk : k ≤ 14) : Met l yX0_differenceQ wsX0_differenceQ rmX0_differenceQ (va_Pc [.ref h0, .int (nI i)] (tw_B D (tw_X cA h0 a0 k lo F) (tw_tX cA))) (vp_Si (fun r => r = tq_eb (tq_dQ k (tq_col F i)))) 0 0 (fun _ => False) := by
  refine tw_metR (by decide) rfl rfl (Nat.le_of_ble_eq_true rfl) ?_
  intro p e s m args below meth c Q ls hx hb hml hown hts hP hK hend hl
  have hown : s.vm.findClass RX0 = some m.cls := hown
  have hl : lv_has ls 4 [(0, .ref h0), (1, .int (nI i))] := hl
  have loop : ∀ (n : Nat) (ls : Array Slot), n ≤ k → lv_has ls 4 [(0, .ref h0), (1, .int (nI i)), (2, .int (tq_eb (tq_hs (tq_col F i) n (k - n)))), (3, .int (nI n - 1))] → W p l e rmX0_differenceQ s m args below meth c s.heap [] 0 0 Q (F0 m 9 ls []) := by
    intro n
    induction n with
    | zero =>
      intro ls hn hl
      have hl : lv_has ls 4 [(0, .ref h0), (1, .int (nI i)), (2, .int (tq_eb (tq_hs (tq_col F i) 0 (k - 0)))), (3, .int ((-1)))] := hl
      refine lv_iload_n hx hb dX0_differenceQ_9 rfl (lv_at hl 3 rfl) ?_
      refine lv_if_lt (tgt := 31) hx hb dX0_differenceQ_10 (by decide) (fun c_10 => ?_) (fun c_10 => ?_)
      · refine lv_iload_n hx hb dX0_differenceQ_31 rfl (lv_at hl 2 rfl) ?_
        refine lv_aload_n hx hb dX0_differenceQ_32 rfl (lv_at hl 0 rfl) ?_
        refine lv_aload_n hx hb dX0_differenceQ_33 rfl (lv_at hl 0 rfl) ?_
        refine tw_rX ⟨hx, hb, hml, hown, hts⟩ hK hP (c_X0_unitQ l D cA h0 a0 k lo F ) (cwV 0 hts gX0_differenceQ_X0_unitQ rfl rfl rfl kdX0_unitQ ⟨Nat.le_of_ble_eq_true rfl, Nat.le_of_ble_eq_true rfl⟩) rfl hl.1 rfl (Nat.le_of_ble_eq_true rfl) dX0_differenceQ_34 ⟨Nat.zero_le _, Nat.zero_le _⟩ ?_
        refine lv_iload_n hx hb dX0_differenceQ_37 rfl (lv_at hl 1 rfl) ?_
        refine tw_rX ⟨hx, hb, hml, hown, hts⟩ hK hP (c_X0_byteAt l D cA h0 a0 k lo F (k + 1) i (by omega)) (cwV 2 hts gX0_differenceQ_X0_byteAt rfl rfl rfl kdX0_byteAt ⟨Nat.le_of_ble_eq_true rfl, Nat.le_of_ble_eq_true rfl⟩) rfl hl.1 rfl (Nat.le_of_ble_eq_true rfl) dX0_differenceQ_38 ⟨Nat.zero_le _, Nat.zero_le _⟩ ?_
        refine lv_ixor hx hb dX0_differenceQ_41 ?_
        refine tw_topr (x' := tq_eb (tq_dQ k (tq_col F i))) (by rw [tq_eb_xor]; rfl) ?_
        exact hend _ _ dX0_differenceQ_42
      · exact absurd (by decide) c_10
    | succ n ih =>
      intro ls hn hl
      rw [nI_pred] at hl
      refine lv_iload_n hx hb dX0_differenceQ_9 rfl (lv_at hl 3 rfl) ?_
      refine lv_if_lt (tgt := 31) hx hb dX0_differenceQ_10 (by decide) (fun c_10 => ?_) (fun c_10 => ?_)
      · exact absurd c_10 (nI_pos (by omega))
      · refine lv_iload_n hx hb dX0_differenceQ_13 rfl (lv_at hl 2 rfl) ?_
        refine tw_s ⟨hx, hb, hml, hown, hts⟩ (c_X0_doubled l (tq_hs (tq_col F i) (n + 1) (k - (n + 1)))) (va_cwS 1 hts gX0_differenceQ_X0_doubled rfl rfl rfl kdX0_doubled ⟨Nat.le_of_ble_eq_true rfl, Nat.le_of_ble_eq_true rfl⟩) rfl hl.1 rfl (Nat.le_of_ble_eq_true rfl) dX0_differenceQ_14 ⟨Nat.zero_le _, Nat.zero_le _⟩ ?_
        refine lv_aload_n hx hb dX0_differenceQ_17 rfl (lv_at hl 0 rfl) ?_
        refine lv_iload_n hx hb dX0_differenceQ_18 rfl (lv_at hl 3 rfl) ?_
        refine lv_iload_n hx hb dX0_differenceQ_19 rfl (lv_at hl 1 rfl) ?_
        refine tw_rX ⟨hx, hb, hml, hown, hts⟩ hK hP (c_X0_byteAt l D cA h0 a0 k lo F n i (by omega)) (cwV 2 hts gX0_differenceQ_X0_byteAt rfl rfl rfl kdX0_byteAt ⟨Nat.le_of_ble_eq_true rfl, Nat.le_of_ble_eq_true rfl⟩) rfl hl.1 rfl (Nat.le_of_ble_eq_true rfl) dX0_differenceQ_20 ⟨Nat.zero_le _, Nat.zero_le _⟩ ?_
        refine lv_ixor hx hb dX0_differenceQ_23 ?_
        refine tw_topr (x' := tq_eb (tq_hs (tq_col F i) n (k - n))) (by rw [tq_eb_xor, show k - n = (k - (n + 1)) + 1 by omega]; rfl) ?_
        refine lv_istore_n (lv' := [(2, .int (tq_eb (tq_hs (tq_col F i) n (k - n)))), (0, .ref h0), (1, .int (nI i)), (3, .int (nI n))]) hx hb dX0_differenceQ_24 rfl hl (by decide) rfl (fun ls hl => ?_)
        refine lv_iinc (v := nI n - 1) (lv' := [(3, .int (nI n - 1)), (2, .int (tq_eb (tq_hs (tq_col F i) n (k - n)))), (0, .ref h0), (1, .int (nI i))]) hx hb dX0_differenceQ_25 hl (k := 3) rfl (tw_dec n) (by decide) rfl (fun ls hl => ?_)
        refine lv_goto (tgt := 9) hx hb dX0_differenceQ_28 (by decide) ?_
        exact ih ls (by omega) (lv_sub hl [2, 3, 1, 0] rfl)
  refine lv_iconst (v := 0) hx hb dX0_differenceQ_0 (by decide) ?_
  refine tw_topr (x' := tq_eb (tq_hs (tq_col F i) k (k - k))) (by rw [Nat.sub_self]; rfl) ?_
  refine lv_istore_n (lv' := [(2, .int (tq_eb (tq_hs (tq_col F i) k (k - k)))), (0, .ref h0), (1, .int (nI i))]) hx hb dX0_differenceQ_1 rfl hl (by decide) rfl (fun ls hl => ?_)
  refine lv_aload_n hx hb dX0_differenceQ_2 rfl (lv_at hl 1 rfl) ?_
  refine va_get (D := D) (ci := 0) (v := .int (nI k)) (C := RX0) (T := TX0) (N := 3) hx hb hts inX0_differenceQ hown hK hP 0 rfl rfl 1 (by decide) (hts _ fX0_differenceQ_13) (fun _ h9 => h9) rfl dX0_differenceQ_3 ?_
  refine lv_iconst (v := 1) hx hb dX0_differenceQ_6 (by decide) ?_
  refine lv_isub hx hb dX0_differenceQ_7 ?_
  refine lv_istore_n (lv' := [(3, .int ((nI k) - 1)), (2, .int (tq_eb (tq_hs (tq_col F i) k (k - k)))), (0, .ref h0), (1, .int (nI i))]) hx hb dX0_differenceQ_8 rfl hl (by decide) rfl (fun ls hl => ?_)
  exact loop k ls (Nat.le_refl k) (lv_sub hl [2, 3, 1, 0] rfl)
def tw_of (k : Nat) (F : Nat → BitVec 8) (i : Nat) : Int32 := tq_off k (tq_col F i)
abbrev rmX0_offAt : Room := { frames := 2, cells := 0, slots := 0, locals := 45 }
theorem inX0_offAt : ∀ w ∈ wsX00, w ∈ wsX0_offAt := fun _ h => List.mem_cons_of_mem _ (List.mem_append_right _ h)
theorem fX0_offAt_13 : Cond.fieldLink RX0 13 "TwinParity" "dataUnits" "I" ∈ wsX0_offAt := List.mem_of_getElem? (i := 1) rfl
theorem fX0_offAt_9 : Cond.fieldLink RX0 9 "TwinParity" "bytes" "[I" ∈ wsX0_offAt := List.mem_of_getElem? (i := 15) rfl
theorem kdX0_offAt : yX0_offAt.cls = RX0 ∧ yX0_offAt.cls ≠ "java/lang/invoke/MethodHandle" ∧ yX0_offAt.cls ≠ "java/lang/invoke/VarHandle" ∧ (parseMethodDescriptor yX0_offAt.desc).map (fun d => d.parameters.length) = some 1 := by decide +kernel
set_option maxHeartbeats 4000000 in
set_option maxRecDepth 100000 in
theorem c_X0_offAt (l : Launch) (D : va_G) (cA : ClassId) (h0 a0 k : Nat) (lo : Int32) (F : Nat → BitVec 8) (i : Nat) (hi : i < 64) (hk : k ≤ 14) : Met l yX0_offAt wsX0_offAt rmX0_offAt (va_Pc [.ref h0, .int (nI i)] (tw_B D (tw_X cA h0 a0 k lo F) (tw_tX cA))) (vp_Si (fun r => r = tw_of k F i)) 0 0 (fun _ => False) := by
  refine tw_metR (by decide) rfl rfl (Nat.le_of_ble_eq_true rfl) ?_
  intro p e s m args below meth c Q ls hx hb hml hown hts hP hK hend hl
  have hown : s.vm.findClass RX0 = some m.cls := hown
  have hl : lv_has ls 6 [(0, .ref h0), (1, .int (nI i))] := hl
  have loop : ∀ (n j : Nat) (ls : Array Slot), j + n = k → tw_of k F i = tq_fu (tq_dP k (tq_col F i)) (tq_dQ k (tq_col F i)) j n → lv_has ls 6 [(0, .ref h0), (1, .int (nI i)), (2, .int (tq_eb (tq_dP k (tq_col F i)))), (3, .int (tq_eb (tq_dQ k (tq_col F i)))), (4, .int (tq_eb (tq_p j (tq_dP k (tq_col F i))))), (5, .int (nI j))] → W p l e rmX0_offAt s m args below meth c s.heap [] 0 0 Q (F0 m 45 ls []) := by
    intro n
    induction n with
    | zero =>
      intro j ls hj hfu hl
      refine lv_iload hx hb dX0_offAt_45 (lv_at hl 5 rfl) ?_
      refine lv_aload_n hx hb dX0_offAt_47 rfl (lv_at hl 0 rfl) ?_
      refine va_get (D := D) (ci := 0) (v := .int (nI k)) (C := RX0) (T := TX0) (N := 3) hx hb hts inX0_offAt hown hK hP 0 rfl rfl 1 (by decide) (hts _ fX0_offAt_13) (fun _ h9 => h9) rfl dX0_offAt_48 ?_
      refine lv_icmp_ge (tgt := 76) hx hb dX0_offAt_51 (by decide) (fun c_51 => ?_) (fun c_51 => ?_)
      · refine lv_bipush (v := (-3)) hx hb dX0_offAt_76 (by decide) ?_
        refine tw_topr (x' := tw_of k F i) (by rw [hfu]; rfl) ?_
        exact hend _ _ dX0_offAt_78
      · exact absurd (nI_le (by omega) (by omega)) c_51
    | succ n ih =>
      intro j ls hj hfu hl
      refine lv_iload hx hb dX0_offAt_45 (lv_at hl 5 rfl) ?_
      refine lv_aload_n hx hb dX0_offAt_47 rfl (lv_at hl 0 rfl) ?_
      refine va_get (D := D) (ci := 0) (v := .int (nI k)) (C := RX0) (T := TX0) (N := 3) hx hb hts inX0_offAt hown hK hP 0 rfl rfl 1 (by decide) (hts _ fX0_offAt_13) (fun _ h9 => h9) rfl dX0_offAt_48 ?_
      refine lv_icmp_ge (tgt := 76) hx hb dX0_offAt_51 (by decide) (fun c_51 => ?_) (fun c_51 => ?_)
      · exact absurd c_51 (nI_ge (by omega) (by omega))
      · refine lv_iload hx hb dX0_offAt_54 (lv_at hl 4 rfl) ?_
        refine lv_iload_n hx hb dX0_offAt_56 rfl (lv_at hl 3 rfl) ?_
        refine lv_icmp_ne (tgt := 63) hx hb dX0_offAt_57 (by decide) (fun c_57 => ?_) (fun c_57 => ?_)
        · refine lv_iload hx hb dX0_offAt_63 (lv_at hl 4 rfl) ?_
          refine tw_s ⟨hx, hb, hml, hown, hts⟩ (c_X0_doubled l (tq_p j (tq_dP k (tq_col F i)))) (va_cwS 1 hts gX0_offAt_X0_doubled rfl rfl rfl kdX0_doubled ⟨Nat.le_of_ble_eq_true rfl, Nat.le_of_ble_eq_true rfl⟩) rfl hl.1 rfl (Nat.le_of_ble_eq_true rfl) dX0_offAt_65 ⟨Nat.zero_le _, Nat.zero_le _⟩ ?_
          refine lv_istore (lv' := [(4, .int (tq_eb (tq_d (tq_p j (tq_dP k (tq_col F i)))))), (0, .ref h0), (1, .int (nI i)), (2, .int (tq_eb (tq_dP k (tq_col F i)))), (3, .int (tq_eb (tq_dQ k (tq_col F i)))), (5, .int (nI j))]) hx hb dX0_offAt_68 hl (by decide) rfl (fun ls hl => ?_)
          refine lv_iinc (v := nI (j + 1)) (lv' := [(5, .int (nI (j + 1))), (4, .int (tq_eb (tq_d (tq_p j (tq_dP k (tq_col F i)))))), (0, .ref h0), (1, .int (nI i)), (2, .int (tq_eb (tq_dP k (tq_col F i)))), (3, .int (tq_eb (tq_dQ k (tq_col F i))))]) hx hb dX0_offAt_70 hl (k := 5) rfl (nI_1 j) (by decide) rfl (fun ls hl => ?_)
          refine lv_goto (tgt := 45) hx hb dX0_offAt_73 (by decide) ?_
          exact ih (j + 1) ls (by omega) (by rw [hfu, tq_fu, if_neg (fun q9 => c_57 (by rw [q9]))]) (lv_sub hl [2, 3, 4, 5, 1, 0] rfl)
        · refine lv_iload hx hb dX0_offAt_60 (lv_at hl 5 rfl) ?_
          refine tw_topr (x' := tw_of k F i) (by rw [hfu, tq_fu, if_pos (tq_eb_inj c_57)]) ?_
          exact hend _ _ dX0_offAt_62
  refine lv_aload_n hx hb dX0_offAt_0 rfl (lv_at hl 0 rfl) ?_
  refine lv_iload_n hx hb dX0_offAt_1 rfl (lv_at hl 1 rfl) ?_
  refine tw_rX ⟨hx, hb, hml, hown, hts⟩ hK hP (c_X0_differenceP l D cA h0 a0 k lo F i hi hk) (cwV 1 hts gX0_offAt_X0_differenceP rfl rfl rfl kdX0_differenceP ⟨Nat.le_of_ble_eq_true rfl, Nat.le_of_ble_eq_true rfl⟩) rfl hl.1 rfl (Nat.le_of_ble_eq_true rfl) dX0_offAt_2 ⟨Nat.zero_le _, Nat.zero_le _⟩ ?_
  refine lv_istore_n (lv' := [(2, .int (tq_eb (tq_dP k (tq_col F i)))), (0, .ref h0), (1, .int (nI i))]) hx hb dX0_offAt_5 rfl hl (by decide) rfl (fun ls hl => ?_)
  refine lv_aload_n hx hb dX0_offAt_6 rfl (lv_at hl 1 rfl) ?_
  refine lv_iload_n hx hb dX0_offAt_7 rfl (lv_at hl 2 rfl) ?_
  refine tw_rX ⟨hx, hb, hml, hown, hts⟩ hK hP (c_X0_differenceQ l D cA h0 a0 k lo F i hi hk) (cwV 1 hts gX0_offAt_X0_differenceQ rfl rfl rfl kdX0_differenceQ ⟨Nat.le_of_ble_eq_true rfl, Nat.le_of_ble_eq_true rfl⟩) rfl hl.1 rfl (Nat.le_of_ble_eq_true rfl) dX0_offAt_8 ⟨Nat.zero_le _, Nat.zero_le _⟩ ?_
  refine lv_istore_n (lv' := [(3, .int (tq_eb (tq_dQ k (tq_col F i)))), (2, .int (tq_eb (tq_dP k (tq_col F i)))), (0, .ref h0), (1, .int (nI i))]) hx hb dX0_offAt_11 rfl hl (by decide) rfl (fun ls hl => ?_)
  refine lv_iload_n hx hb dX0_offAt_12 rfl (lv_at hl 0 rfl) ?_
  refine lv_if_ne (tgt := 30) hx hb dX0_offAt_13 (by decide) (fun c_13 => ?_) (fun c_13 => ?_)
  · refine lv_iload_n hx hb dX0_offAt_30 rfl (lv_at hl 1 rfl) ?_
    refine lv_if_ne (tgt := 39) hx hb dX0_offAt_31 (by decide) (fun c_31 => ?_) (fun c_31 => ?_)
    · refine lv_iload_n hx hb dX0_offAt_39 rfl (lv_at hl 1 rfl) ?_
      refine lv_istore (lv' := [(4, .int (tq_eb (tq_dP k (tq_col F i)))), (3, .int (tq_eb (tq_dQ k (tq_col F i)))), (2, .int (tq_eb (tq_dP k (tq_col F i)))), (0, .ref h0), (1, .int (nI i))]) hx hb dX0_offAt_40 hl (by decide) rfl (fun ls hl => ?_)
      refine lv_iconst (v := 0) hx hb dX0_offAt_42 (by decide) ?_
      refine lv_istore (lv' := [(5, .int 0), (4, .int (tq_eb (tq_dP k (tq_col F i)))), (3, .int (tq_eb (tq_dQ k (tq_col F i)))), (2, .int (tq_eb (tq_dP k (tq_col F i)))), (0, .ref h0), (1, .int (nI i))]) hx hb dX0_offAt_43 hl (by decide) rfl (fun ls hl => ?_)
      exact loop k 0 ls (by omega) (by simp only [tq_eb_z] at c_13 c_31; simp [tw_of, tq_off, c_13, c_31]) (lv_sub hl [4, 5, 3, 2, 1, 0] rfl)
    · refine lv_aload_n hx hb dX0_offAt_34 rfl (lv_at hl 2 rfl) ?_
      refine tw_rX ⟨hx, hb, hml, hown, hts⟩ hK hP (c_X0_unitQ l D cA h0 a0 k lo F ) (cwV 0 hts gX0_offAt_X0_unitQ rfl rfl rfl kdX0_unitQ ⟨Nat.le_of_ble_eq_true rfl, Nat.le_of_ble_eq_true rfl⟩) rfl hl.1 rfl (Nat.le_of_ble_eq_true rfl) dX0_offAt_35 ⟨Nat.zero_le _, Nat.zero_le _⟩ ?_
      refine tw_topr (x' := tw_of k F i) (by simp only [tq_eb_z] at c_13 c_31; simp [tw_of, tq_off, c_13, c_31]) ?_
      exact hend _ _ dX0_offAt_38
  · refine lv_iload_n hx hb dX0_offAt_16 rfl (lv_at hl 1 rfl) ?_
    refine lv_if_ne (tgt := 25) hx hb dX0_offAt_17 (by decide) (fun c_17 => ?_) (fun c_17 => ?_)
    · refine lv_aload_n hx hb dX0_offAt_25 rfl (lv_at hl 2 rfl) ?_
      refine tw_rX ⟨hx, hb, hml, hown, hts⟩ hK hP (c_X0_unitP l D cA h0 a0 k lo F ) (cwV 0 hts gX0_offAt_X0_unitP rfl rfl rfl kdX0_unitP ⟨Nat.le_of_ble_eq_true rfl, Nat.le_of_ble_eq_true rfl⟩) rfl hl.1 rfl (Nat.le_of_ble_eq_true rfl) dX0_offAt_26 ⟨Nat.zero_le _, Nat.zero_le _⟩ ?_
      refine tw_topr (x' := tw_of k F i) (by simp only [tq_eb_z] at c_13 c_17; simp [tw_of, tq_off, c_13, c_17]) ?_
      exact hend _ _ dX0_offAt_29
    · refine lv_bipush (v := (-2)) hx hb dX0_offAt_20 (by decide) ?_
      refine lv_goto (tgt := 29) hx hb dX0_offAt_22 (by decide) ?_
      refine tw_topr (x' := tw_of k F i) (by simp only [tq_eb_z] at c_13 c_17; simp [tw_of, tq_off, c_13, c_17]) ?_
      exact hend _ _ dX0_offAt_29
def tw_ck (k : Nat) (lo : Int32) (F : Nat → BitVec 8) : Int32 := if lo = 0 then tq_ck (tw_of k F) (-2) 0 64 else -1
abbrev rmX0_check : Room := { frames := 3, cells := 0, slots := 0, locals := 70 }
theorem inX0_check : ∀ w ∈ wsX00, w ∈ wsX0_check := fun _ h => List.mem_cons_of_mem _ (List.mem_append_right _ h)
theorem fX0_check_17 : Cond.fieldLink RX0 17 "TwinParity" "lostUnits" "I" ∈ wsX0_check := List.mem_of_getElem? (i := 1) rfl
theorem fX0_check_13 : Cond.fieldLink RX0 13 "TwinParity" "dataUnits" "I" ∈ wsX0_check := List.mem_of_getElem? (i := 7) rfl
theorem fX0_check_9 : Cond.fieldLink RX0 9 "TwinParity" "bytes" "[I" ∈ wsX0_check := List.mem_of_getElem? (i := 20) rfl
theorem kdX0_check : yX0_check.cls = RX0 ∧ yX0_check.cls ≠ "java/lang/invoke/MethodHandle" ∧ yX0_check.cls ≠ "java/lang/invoke/VarHandle" ∧ (parseMethodDescriptor yX0_check.desc).map (fun d => d.parameters.length) = some 0 := by decide +kernel
set_option maxHeartbeats 4000000 in
set_option maxRecDepth 100000 in
theorem c_X0_check (l : Launch) (D : va_G) (cA : ClassId) (h0 a0 k : Nat) (lo : Int32) (F : Nat → BitVec 8) (hk : k ≤ 14) : Met l yX0_check wsX0_check rmX0_check (va_Pc [.ref h0] (tw_B D (tw_X cA h0 a0 k lo F) (tw_tX cA))) (vp_Si (fun r => r = tw_ck k lo F)) 0 0 (fun _ => False) := by
  refine tw_metR (by decide) rfl rfl (Nat.le_of_ble_eq_true rfl) ?_
  intro p e s m args below meth c Q ls hx hb hml hown hts hP hK hend hl
  have hown : s.vm.findClass RX0 = some m.cls := hown
  have hl : lv_has ls 4 [(0, .ref h0)] := hl
  refine lv_aload_n hx hb dX0_check_0 rfl (lv_at hl 0 rfl) ?_
  refine va_get (D := D) (ci := 0) (v := .int lo) (C := RX0) (T := TX0) (N := 3) hx hb hts inX0_check hown hK hP 0 rfl rfl 2 (by decide) (hts _ fX0_check_17) (fun _ h9 => h9) rfl dX0_check_1 ?_
  refine lv_if_eq (tgt := 9) hx hb dX0_check_4 (by decide) (fun c_4 => ?_) (fun c_4 => ?_)
  · have loop : ∀ (n j : Nat) (o : Int32) (ls : Array Slot), j + n = 64 → tq_ck (tw_of k F) (-2) 0 64 = tq_ck (tw_of k F) o j n → lv_has ls 4 [(0, .ref h0), (1, .int o), (2, .int (nI j))] → W p l e rmX0_check s m args below meth c s.heap [] 0 0 Q (F0 m 14 ls []) := by
      intro n
      induction n with
      | zero =>
        intro j o ls hj hck hl
        refine lv_iload_n hx hb dX0_check_14 rfl (lv_at hl 2 rfl) ?_
        refine lv_bipush (v := 64) hx hb dX0_check_15 (by decide) ?_
        refine lv_icmp_ge (tgt := 60) hx hb dX0_check_17 (by decide) (fun c_17 => ?_) (fun c_17 => ?_)
        · refine lv_iload_n hx hb dX0_check_60 rfl (lv_at hl 1 rfl) ?_
          refine tw_topr (x' := tw_ck k lo F) (by rw [tw_ck, if_pos c_4, hck]; rfl) ?_
          exact hend _ _ dX0_check_61
        · exact absurd (nI_le (a := 64) (by omega) (by omega)) c_17
      | succ n ih =>
        intro j o ls hj hck hl
        refine lv_iload_n hx hb dX0_check_14 rfl (lv_at hl 2 rfl) ?_
        refine lv_bipush (v := 64) hx hb dX0_check_15 (by decide) ?_
        refine lv_icmp_ge (tgt := 60) hx hb dX0_check_17 (by decide) (fun c_17 => ?_) (fun c_17 => ?_)
        · exact absurd c_17 (nI_ge (b := 64) (by omega) (by omega))
        · refine lv_aload_n hx hb dX0_check_20 rfl (lv_at hl 0 rfl) ?_
          refine lv_iload_n hx hb dX0_check_21 rfl (lv_at hl 2 rfl) ?_
          refine tw_rX ⟨hx, hb, hml, hown, hts⟩ hK hP (c_X0_offAt l D cA h0 a0 k lo F j (by omega) hk) (cwV 1 hts gX0_check_X0_offAt rfl rfl rfl kdX0_offAt ⟨Nat.le_of_ble_eq_true rfl, Nat.le_of_ble_eq_true rfl⟩) rfl hl.1 rfl (Nat.le_of_ble_eq_true rfl) dX0_check_22 ⟨Nat.zero_le _, Nat.zero_le _⟩ ?_
          refine lv_topi (fun x3_25 ex3_25 => ?_)
          refine lv_istore_n (lv' := [(3, .int x3_25), (0, .ref h0), (1, .int o), (2, .int (nI j))]) hx hb dX0_check_25 rfl hl (by decide) rfl (fun ls hl => ?_)
          refine lv_iload_n hx hb dX0_check_26 rfl (lv_at hl 0 rfl) ?_
          refine lv_bipush (v := (-2)) hx hb dX0_check_27 (by decide) ?_
          refine lv_icmp_eq (tgt := 46) hx hb dX0_check_29 (by decide) (fun c_29 => ?_) (fun c_29 => ?_)
          · refine lv_iload_n hx hb dX0_check_46 rfl (lv_at hl 0 rfl) ?_
            refine lv_bipush (v := (-2)) hx hb dX0_check_47 (by decide) ?_
            refine lv_icmp_eq (tgt := 54) hx hb dX0_check_49 (by decide) (fun c_49 => ?_) (fun c_49 => ?_)
            · refine lv_iinc (v := nI (j + 1)) (lv' := [(2, .int (nI (j + 1))), (3, .int x3_25), (0, .ref h0), (1, .int o)]) hx hb dX0_check_54 hl (k := 3) rfl (nI_1 j) (by decide) rfl (fun ls hl => ?_)
              refine lv_goto (tgt := 14) hx hb dX0_check_57 (by decide) ?_
              exact ih (j + 1) o ls (by omega) (by rw [hck, tq_ck, ← ex3_25]; first | (exact absurd c_29 c_49) | (exact absurd c_49 c_29) | (simp [c_29]; done) | (simp [c_35, c_49]; done) | (simp [c_40]; done) | (simp [c_40, c_49]; done)) (lv_sub hl [2, 3, 0] rfl)
            · refine lv_iload_n hx hb dX0_check_52 rfl (lv_at hl 0 rfl) ?_
              refine lv_istore_n (lv' := [(1, .int x3_25), (3, .int x3_25), (0, .ref h0), (2, .int (nI j))]) hx hb dX0_check_53 rfl hl (by decide) rfl (fun ls hl => ?_)
              refine lv_iinc (v := nI (j + 1)) (lv' := [(2, .int (nI (j + 1))), (1, .int x3_25), (3, .int x3_25), (0, .ref h0)]) hx hb dX0_check_54 hl (k := 3) rfl (nI_1 j) (by decide) rfl (fun ls hl => ?_)
              refine lv_goto (tgt := 14) hx hb dX0_check_57 (by decide) ?_
              exact ih (j + 1) x3_25 ls (by omega) (by rw [hck, tq_ck, ← ex3_25]; first | (exact absurd c_29 c_49) | (exact absurd c_49 c_29) | (simp [c_29]; done) | (simp [c_35, c_49]; done) | (simp [c_40]; done) | (simp [c_40, c_49]; done)) (lv_sub hl [3, 1, 0] rfl)
          · refine lv_iload_n hx hb dX0_check_32 rfl (lv_at hl 2 rfl) ?_
            refine lv_bipush (v := (-2)) hx hb dX0_check_33 (by decide) ?_
            refine lv_icmp_eq (tgt := 46) hx hb dX0_check_35 (by decide) (fun c_35 => ?_) (fun c_35 => ?_)
            · refine lv_iload_n hx hb dX0_check_46 rfl (lv_at hl 0 rfl) ?_
              refine lv_bipush (v := (-2)) hx hb dX0_check_47 (by decide) ?_
              refine lv_icmp_eq (tgt := 54) hx hb dX0_check_49 (by decide) (fun c_49 => ?_) (fun c_49 => ?_)
              · refine lv_iinc (v := nI (j + 1)) (lv' := [(2, .int (nI (j + 1))), (3, .int x3_25), (0, .ref h0), (1, .int o)]) hx hb dX0_check_54 hl (k := 3) rfl (nI_1 j) (by decide) rfl (fun ls hl => ?_)
                refine lv_goto (tgt := 14) hx hb dX0_check_57 (by decide) ?_
                exact ih (j + 1) o ls (by omega) (by rw [hck, tq_ck, ← ex3_25]; first | (exact absurd c_29 c_49) | (exact absurd c_49 c_29) | (simp [c_29]; done) | (simp [c_35, c_49]; done) | (simp [c_40]; done) | (simp [c_40, c_49]; done)) (lv_sub hl [2, 3, 0] rfl)
              · refine lv_iload_n hx hb dX0_check_52 rfl (lv_at hl 0 rfl) ?_
                refine lv_istore_n (lv' := [(1, .int x3_25), (3, .int x3_25), (0, .ref h0), (2, .int (nI j))]) hx hb dX0_check_53 rfl hl (by decide) rfl (fun ls hl => ?_)
                refine lv_iinc (v := nI (j + 1)) (lv' := [(2, .int (nI (j + 1))), (1, .int x3_25), (3, .int x3_25), (0, .ref h0)]) hx hb dX0_check_54 hl (k := 3) rfl (nI_1 j) (by decide) rfl (fun ls hl => ?_)
                refine lv_goto (tgt := 14) hx hb dX0_check_57 (by decide) ?_
                exact ih (j + 1) x3_25 ls (by omega) (by rw [hck, tq_ck, ← ex3_25]; first | (exact absurd c_29 c_49) | (exact absurd c_49 c_29) | (simp [c_29]; done) | (simp [c_35, c_49]; done) | (simp [c_40]; done) | (simp [c_40, c_49]; done)) (lv_sub hl [3, 1, 0] rfl)
            · refine lv_iload_n hx hb dX0_check_38 rfl (lv_at hl 0 rfl) ?_
              refine lv_iload_n hx hb dX0_check_39 rfl (lv_at hl 2 rfl) ?_
              refine lv_icmp_eq (tgt := 46) hx hb dX0_check_40 (by decide) (fun c_40 => ?_) (fun c_40 => ?_)
              · refine lv_iload_n hx hb dX0_check_46 rfl (lv_at hl 0 rfl) ?_
                refine lv_bipush (v := (-2)) hx hb dX0_check_47 (by decide) ?_
                refine lv_icmp_eq (tgt := 54) hx hb dX0_check_49 (by decide) (fun c_49 => ?_) (fun c_49 => ?_)
                · refine lv_iinc (v := nI (j + 1)) (lv' := [(2, .int (nI (j + 1))), (3, .int x3_25), (0, .ref h0), (1, .int o)]) hx hb dX0_check_54 hl (k := 3) rfl (nI_1 j) (by decide) rfl (fun ls hl => ?_)
                  refine lv_goto (tgt := 14) hx hb dX0_check_57 (by decide) ?_
                  exact ih (j + 1) o ls (by omega) (by rw [hck, tq_ck, ← ex3_25]; first | (exact absurd c_29 c_49) | (exact absurd c_49 c_29) | (simp [c_29]; done) | (simp [c_35, c_49]; done) | (simp [c_40]; done) | (simp [c_40, c_49]; done)) (lv_sub hl [2, 3, 0] rfl)
                · refine lv_iload_n hx hb dX0_check_52 rfl (lv_at hl 0 rfl) ?_
                  refine lv_istore_n (lv' := [(1, .int x3_25), (3, .int x3_25), (0, .ref h0), (2, .int (nI j))]) hx hb dX0_check_53 rfl hl (by decide) rfl (fun ls hl => ?_)
                  refine lv_iinc (v := nI (j + 1)) (lv' := [(2, .int (nI (j + 1))), (1, .int x3_25), (3, .int x3_25), (0, .ref h0)]) hx hb dX0_check_54 hl (k := 3) rfl (nI_1 j) (by decide) rfl (fun ls hl => ?_)
                  refine lv_goto (tgt := 14) hx hb dX0_check_57 (by decide) ?_
                  exact ih (j + 1) x3_25 ls (by omega) (by rw [hck, tq_ck, ← ex3_25]; first | (exact absurd c_29 c_49) | (exact absurd c_49 c_29) | (simp [c_29]; done) | (simp [c_35, c_49]; done) | (simp [c_40]; done) | (simp [c_40, c_49]; done)) (lv_sub hl [3, 1, 0] rfl)
              · refine lv_bipush (v := (-3)) hx hb dX0_check_43 (by decide) ?_
                refine tw_topr (x' := tw_ck k lo F) (by rw [tw_ck, if_pos c_4, hck, tq_ck, ← ex3_25, if_pos ⟨c_29, c_35, c_40⟩]) ?_
                exact hend _ _ dX0_check_45
    refine lv_bipush (v := (-2)) hx hb dX0_check_9 (by decide) ?_
    refine lv_istore_n (lv' := [(1, .int ((-2))), (0, .ref h0)]) hx hb dX0_check_11 rfl hl (by decide) rfl (fun ls hl => ?_)
    refine lv_iconst (v := 0) hx hb dX0_check_12 (by decide) ?_
    refine lv_istore_n (lv' := [(2, .int 0), (1, .int ((-2))), (0, .ref h0)]) hx hb dX0_check_13 rfl hl (by decide) rfl (fun ls hl => ?_)
    exact loop 64 0 (-2) ls (by omega) rfl (lv_sub hl [2, 1, 0] rfl)
  · refine lv_iconst (v := (-1)) hx hb dX0_check_7 (by decide) ?_
    refine tw_topr (x' := tw_ck k lo F) (by rw [tw_ck, if_neg c_4]) ?_
    exact hend _ _ dX0_check_8
