theorem inX0_init : ∀ w ∈ wsX00, w ∈ wsX0_init := fun _ h => List.mem_cons_of_mem _ (List.mem_append_right _ h)
theorem fX0_init_9 : Cond.fieldLink RX0 9 "TwinParity" "bytes" "[I" ∈ wsX0_init := List.mem_of_getElem? (i := 5) rfl
theorem fX0_init_13 : Cond.fieldLink RX0 13 "TwinParity" "dataUnits" "I" ∈ wsX0_init := List.mem_of_getElem? (i := 6) rfl
theorem fX0_init_17 : Cond.fieldLink RX0 17 "TwinParity" "lostUnits" "I" ∈ wsX0_init := List.mem_of_getElem? (i := 7) rfl
theorem kdX0_init : yX0_init.cls = RX0 ∧ yX0_init.cls ≠ "java/lang/invoke/MethodHandle" ∧ yX0_init.cls ≠ "java/lang/invoke/VarHandle" ∧ (parseMethodDescriptor yX0_init.desc).map (fun d => d.parameters.length) = some 0 := by decide +kernel
abbrev rmX0_init : Room := { frames := 1, cells := 1, slots := 1024, locals := 12 }
theorem eX0_init_ml : Cond.methodLink RX0 3 objectInit ∈ wsX0_init := List.mem_of_getElem? (i := 1) rfl
theorem eX0_init_im : Cond.instanceMethod objectInit ∈ wsX0_init := List.mem_of_getElem? (i := 2) rfl
theorem eX0_init_ob : Cond.code objectInit ⟨#[0xb1]⟩ 1 none ∈ wsX0_init := List.mem_of_getElem? (i := 3) rfl
theorem eX0_init_ar : Cond.arrayClass .int ∈ wsX0_init := List.mem_of_getElem? (i := 4) rfl
set_option maxHeartbeats 4000000 in
set_option maxRecDepth 100000 in
theorem c_X0_init (l : Launch) (D : va_G) (h0 sz : Nat) : Met l yX0_init wsX0_init rmX0_init (va_Pc [.ref h0] (tw_Pw D [(h0, .inr (0, [.null, .int 0, .int 0]))] [] sz)) (va_Qv (fun _ : ClassId × Nat => True) (fun (u : ClassId × Nat) (t : State) => tw_B D (tw_X u.1 h0 u.2 4 0 (fun _ => 0#8)) (tw_tX u.1) t ∧ va_D (va_A [(h0, .inr (0, [.null, .int 0, .int 0]))] sz) (tw_X u.1 h0 u.2 4 0 (fun _ => 0#8))) (va_A [(h0, .inr (0, [.null, .int 0, .int 0]))] sz)) 1 1024 (va_A [(h0, .inr (0, [.null, .int 0, .int 0]))] sz) := by
  refine Met.ofW (cc := cX0_init) (maxL := 1) (ret := none) (by decide) rfl ?_
  intro p e s m args below meth c s₁ B hml hv
  obtain ⟨rfl, hsz, ⟨hP, hK⟩, hD0⟩ := hv
  have hx := B.exec
  have hb := B.bytes
  have hr := B.returns
  have hts := atoms_spec (ws := wsX0_init) B.pre
  have hown : s.vm.findClass RX0 = some m.cls := findClass_of_methodNamed B.named
  have hlocks := B.notSynchronized
  have hin : meth.name = "<init>" := (name_of_methodNamed B.named B.method).1
  subst hsz
  have hD := hD0.self (sz := s.heap.size)
  generalize hAe : va_A [(h0, .inr (0, [.null, .int 0, .int 0]))] s.heap.size = A at hD ⊢
  have hA : ∀ q : Nat, s.heap.size ≤ q → A q := fun q h => by rw [← hAe]; exact Or.inr h
  have hS : va_S A s.heap s.heap [] := va_S.rf
  have hl := lv_entry ([.ref h0]) (n := 1) (Nat.le_of_ble_eq_true rfl)
  rw [lg_entry_eq]
  generalize (lg_sl ([.ref h0]) ++ List.replicate (1 - (lg_sl ([.ref h0])).length) Slot.unset).toArray = ls at hl ⊢
  have hl : lv_has ls 1 [(0, .ref h0)] := hl
  refine lv_aload_n hx hb dX0_init_0 rfl (lv_at hl 0 rfl) ?_
  refine W.objInit hx hb hown (hts _ eX0_init_ml) (hts _ eX0_init_im) (hts _ eX0_init_ob) rfl (by rw [hml]; exact hl.1) rfl dX0_init_1 (Nat.le_of_ble_eq_true rfl) (Nat.le_of_ble_eq_true rfl) ?_
  refine W.eq (g2 := F0 m 4 ls []) rfl ?_
  refine lv_aload_n hx hb dX0_init_4 rfl (lv_at hl 0 rfl) ?_
  refine lv_sipush (v := 1024) hx hb dX0_init_5 (by decide) ?_
  refine va_newa (atype := .int) (a0 := (1024, .inl (fun j => tq_eb ((fun _ => 0#8) j)))) (N' := 1024) hx hb (hts _ eX0_init_ar) rfl hK hP hD hS hA (fun cA => rfl) (by decide) (by decide) (Nat.le_of_ble_eq_true rfl) (Nat.le_of_ble_eq_true rfl) (Nat.le_of_ble_eq_true rfl) dX0_init_8 (fun a0 cA H hK hP hD hS => ?_)
  have hP : va_P D vwCl [(h0, .inr (0, [.null, .int 0, .int 0])), (a0, .inl (cA, 1024, .inl (fun j => tq_eb ((fun _ => 0#8) j))))] H := hP
  have hD : va_D A [(h0, .inr (0, [.null, .int 0, .int 0])), (a0, .inl (cA, 1024, .inl (fun j => tq_eb ((fun _ => 0#8) j))))] := hD
  have hK : va_K D vwCl (tw_tX cA) s := hK
  refine W.widen (k := 1) (n := 1024) (Nat.le_of_ble_eq_true rfl) (Nat.le_of_ble_eq_true rfl) ?_
  refine va_putF (D := D) (ci := 0) (v := .ref a0) (ty := .array .int) (C := RX0) (T := TX0) (N := 3) hx hb hts inX0_init tyX0 tyX0_ok nmX0 hown hK hP hD hS 0 rfl rfl 0 (by decide) (hts _ fX0_init_9) (fun _ h9 => h9) rfl hin rfl (by decide +kernel) rfl rfl (Nat.le_of_ble_eq_true rfl) dX0_init_10 (fun H locs hP hD hS => ?_)
  have hP : va_P D vwCl [(h0, .inr (0, [.ref a0, .int 0, .int 0])), (a0, .inl (cA, 1024, .inl (fun j => tq_eb ((fun _ => 0#8) j))))] H := hP
  have hD : va_D A [(h0, .inr (0, [.ref a0, .int 0, .int 0])), (a0, .inl (cA, 1024, .inl (fun j => tq_eb ((fun _ => 0#8) j))))] := hD
  refine lv_aload_n hx hb dX0_init_13 rfl (lv_at hl 0 rfl) ?_
  refine lv_iconst (v := 4) hx hb dX0_init_14 (by decide) ?_
  refine va_put (D := D) (ci := 0) (v := .int 4) (ty := .int) (C := RX0) (T := TX0) (N := 3) hx hb hts inX0_init tyX0 tyX0_ok nmX0 hown hK hP hD hS 0 rfl rfl 1 (by decide) (hts _ fX0_init_13) (fun _ h9 => h9) rfl (by decide +kernel) rfl rfl (Nat.le_of_ble_eq_true rfl) dX0_init_15 (fun H locs hP hD hS => ?_)
  have hP : va_P D vwCl [(h0, .inr (0, [.ref a0, .int 4, .int 0])), (a0, .inl (cA, 1024, .inl (fun j => tq_eb ((fun _ => 0#8) j))))] H := hP
  have hD : va_D A [(h0, .inr (0, [.ref a0, .int 4, .int 0])), (a0, .inl (cA, 1024, .inl (fun j => tq_eb ((fun _ => 0#8) j))))] := hD
  refine lv_aload_n hx hb dX0_init_18 rfl (lv_at hl 0 rfl) ?_
  refine lv_iconst (v := 0) hx hb dX0_init_19 (by decide) ?_
  refine va_put (D := D) (ci := 0) (v := .int 0) (ty := .int) (C := RX0) (T := TX0) (N := 3) hx hb hts inX0_init tyX0 tyX0_ok nmX0 hown hK hP hD hS 0 rfl rfl 2 (by decide) (hts _ fX0_init_17) (fun _ h9 => h9) rfl (by decide +kernel) rfl rfl (Nat.le_of_ble_eq_true rfl) dX0_init_20 (fun H locs hP hD hS => ?_)
  have hP : va_P D vwCl (tw_X cA h0 a0 4 0 (fun _ => 0#8)) H := hP
  have hD : va_D A (tw_X cA h0 a0 4 0 (fun _ => 0#8)) := hD
  exact W.vret hx hb hr (fun t ht hW => ⟨⟨(cA, a0), rfl, trivial, ⟨by rw [ht]; exact hP, va_K.moved hW.alike hK⟩, hD⟩, hS.F ht⟩) hS.2.2 dX0_init_23
theorem inX1_init : ∀ w ∈ wsX10, w ∈ wsX1_init := fun _ h => List.mem_cons_of_mem _ (List.mem_append_right _ h)
theorem fX1_init_7 : Cond.fieldLink RX1 7 "TwinParityModel" "bytes" "[I" ∈ wsX1_init := List.mem_of_getElem? (i := 5) rfl
theorem fX1_init_13 : Cond.fieldLink RX1 13 "TwinParityModel" "lost" "[Z" ∈ wsX1_init := List.mem_of_getElem? (i := 7) rfl
theorem fX1_init_21 : Cond.fieldLink RX1 21 "TwinParityModel" "thrown" "I" ∈ wsX1_init := List.mem_of_getElem? (i := 13) rfl
theorem fX1_init_25 : Cond.fieldLink RX1 25 "TwinParityModel" "units" "I" ∈ wsX1_init := List.mem_of_getElem? (i := 14) rfl
theorem kdX1_init : yX1_init.cls = RX1 ∧ yX1_init.cls ≠ "java/lang/invoke/MethodHandle" ∧ yX1_init.cls ≠ "java/lang/invoke/VarHandle" ∧ (parseMethodDescriptor yX1_init.desc).map (fun d => d.parameters.length) = some 0 := by decide +kernel
abbrev rmX1_init : Room := { frames := 1, cells := 2, slots := 1040, locals := 22 }
theorem eX1_init_ml : Cond.methodLink RX1 1 objectInit ∈ wsX1_init := List.mem_of_getElem? (i := 1) rfl
theorem eX1_init_im : Cond.instanceMethod objectInit ∈ wsX1_init := List.mem_of_getElem? (i := 2) rfl
theorem eX1_init_ob : Cond.code objectInit ⟨#[0xb1]⟩ 1 none ∈ wsX1_init := List.mem_of_getElem? (i := 3) rfl
theorem eX1_init_ar : Cond.arrayClass .int ∈ wsX1_init := List.mem_of_getElem? (i := 4) rfl
theorem eX1_init_az : Cond.arrayClass .boolean ∈ wsX1_init := List.mem_of_getElem? (i := 6) rfl
set_option maxHeartbeats 4000000 in
set_option maxRecDepth 100000 in
theorem c_X1_init (l : Launch) (D : va_G) (h0 sz : Nat) : Met l yX1_init wsX1_init rmX1_init (va_Pc [.ref h0] (tw_Pw D [(h0, .inr (1, [.int 0, .int 0, .null, .null]))] [] sz)) (va_Qv (fun _ : ClassId × ClassId × Nat × Nat => True) (fun (u : ClassId × ClassId × Nat × Nat) (t : State) => tw_B D (tw_M u.1 u.2.1 h0 u.2.2.1 u.2.2.2 4 (tw_fl (fun _ => 0#8) 1024) (tw_gl (fun _ => false) 16)) (tw_tM u.1 u.2.1) t ∧ va_D (va_A [(h0, .inr (1, [.int 0, .int 0, .null, .null]))] sz) (tw_M u.1 u.2.1 h0 u.2.2.1 u.2.2.2 4 (tw_fl (fun _ => 0#8) 1024) (tw_gl (fun _ => false) 16))) (va_A [(h0, .inr (1, [.int 0, .int 0, .null, .null]))] sz)) 2 1040 (va_A [(h0, .inr (1, [.int 0, .int 0, .null, .null]))] sz) := by
  refine Met.ofW (cc := cX1_init) (maxL := 2) (ret := none) (by decide) rfl ?_
  intro p e s m args below meth c s₁ B hml hv
  obtain ⟨rfl, hsz, ⟨hP, hK⟩, hD0⟩ := hv
  have hx := B.exec
  have hb := B.bytes
  have hr := B.returns
  have hts := atoms_spec (ws := wsX1_init) B.pre
  have hown : s.vm.findClass RX1 = some m.cls := findClass_of_methodNamed B.named
  have hlocks := B.notSynchronized
  have hin : meth.name = "<init>" := (name_of_methodNamed B.named B.method).1
  subst hsz
  have hD := hD0.self (sz := s.heap.size)
  generalize hAe : va_A [(h0, .inr (1, [.int 0, .int 0, .null, .null]))] s.heap.size = A at hD ⊢
  have hA : ∀ q : Nat, s.heap.size ≤ q → A q := fun q h => by rw [← hAe]; exact Or.inr h
  have hS : va_S A s.heap s.heap [] := va_S.rf
  have hl := lv_entry ([.ref h0]) (n := 2) (Nat.le_of_ble_eq_true rfl)
  rw [lg_entry_eq]
  generalize (lg_sl ([.ref h0]) ++ List.replicate (2 - (lg_sl ([.ref h0])).length) Slot.unset).toArray = ls at hl ⊢
  have hl : lv_has ls 2 [(0, .ref h0)] := hl
  refine lv_aload_n hx hb dX1_init_0 rfl (lv_at hl 0 rfl) ?_
  refine W.objInit hx hb hown (hts _ eX1_init_ml) (hts _ eX1_init_im) (hts _ eX1_init_ob) rfl (by rw [hml]; exact hl.1) rfl dX1_init_1 (Nat.le_of_ble_eq_true rfl) (Nat.le_of_ble_eq_true rfl) ?_
  refine W.eq (g2 := F0 m 4 ls []) rfl ?_
  refine lv_aload_n hx hb dX1_init_4 rfl (lv_at hl 0 rfl) ?_
  refine lv_sipush (v := 1024) hx hb dX1_init_5 (by decide) ?_
  refine va_newa (atype := .int) (a0 := (1024, .inl (fun j => tq_eb ((fun _ => 0#8) j)))) (N' := 1024) hx hb (hts _ eX1_init_ar) rfl hK hP hD hS hA (fun cA => rfl) (by decide) (by decide) (Nat.le_of_ble_eq_true rfl) (Nat.le_of_ble_eq_true rfl) (Nat.le_of_ble_eq_true rfl) dX1_init_8 (fun a0 cA H hK hP hD hS => ?_)
  have hP : va_P D vwCl [(h0, .inr (1, [.int 0, .int 0, .null, .null])), (a0, .inl (cA, 1024, .inl (fun j => tq_eb ((fun _ => 0#8) j))))] H := hP
  have hD : va_D A [(h0, .inr (1, [.int 0, .int 0, .null, .null])), (a0, .inl (cA, 1024, .inl (fun j => tq_eb ((fun _ => 0#8) j))))] := hD
  have hK : va_K D vwCl (tw_tX cA) s := hK
  refine W.widen (k := 1) (n := 1024) (Nat.le_of_ble_eq_true rfl) (Nat.le_of_ble_eq_true rfl) ?_
  refine va_putF (D := D) (ci := 1) (v := .ref a0) (ty := .array .int) (C := RX1) (T := TX1) (N := 4) hx hb hts inX1_init tyX1 tyX1_ok nmX1 hown hK hP hD hS 0 rfl rfl 2 (by decide) (hts _ fX1_init_7) (fun _ h9 => h9) rfl hin rfl (by decide +kernel) rfl rfl (Nat.le_of_ble_eq_true rfl) dX1_init_10 (fun H locs hP hD hS => ?_)
  have hP : va_P D vwCl [(h0, .inr (1, [.int 0, .int 0, .ref a0, .null])), (a0, .inl (cA, 1024, .inl (fun j => tq_eb ((fun _ => 0#8) j))))] H := hP
  have hD : va_D A [(h0, .inr (1, [.int 0, .int 0, .ref a0, .null])), (a0, .inl (cA, 1024, .inl (fun j => tq_eb ((fun _ => 0#8) j))))] := hD
  refine lv_aload_n hx hb dX1_init_13 rfl (lv_at hl 0 rfl) ?_
  refine lv_bipush (v := 16) hx hb dX1_init_14 (by decide) ?_
  refine va_newa (atype := .boolean) (a0 := (16, .inl (fun j => tw_bI ((fun _ => false) j)))) (N' := 16) hx hb (hts _ eX1_init_az) rfl hK hP hD hS hA (fun cA => rfl) (by decide) (by decide) (Nat.le_of_ble_eq_true rfl) (Nat.le_of_ble_eq_true rfl) (Nat.le_of_ble_eq_true rfl) dX1_init_16 (fun b0 cB H hK hP hD hS => ?_)
  have hP : va_P D vwCl [(h0, .inr (1, [.int 0, .int 0, .ref a0, .null])), (a0, .inl (cA, 1024, .inl (fun j => tq_eb ((fun _ => 0#8) j)))), (b0, .inl (cB, 16, .inl (fun j => tw_bI ((fun _ => false) j))))] H := hP
  have hD : va_D A [(h0, .inr (1, [.int 0, .int 0, .ref a0, .null])), (a0, .inl (cA, 1024, .inl (fun j => tq_eb ((fun _ => 0#8) j)))), (b0, .inl (cB, 16, .inl (fun j => tw_bI ((fun _ => false) j))))] := hD
  have hK : va_K D vwCl (tw_tM cA cB) s := hK
  refine W.widen (k := 2) (n := 1040) (Nat.le_of_ble_eq_true rfl) (Nat.le_of_ble_eq_true rfl) ?_
  refine va_putF (D := D) (ci := 1) (v := .ref b0) (ty := .array .boolean) (C := RX1) (T := TX1) (N := 4) hx hb hts inX1_init tyX1 tyX1_ok nmX1 hown hK hP hD hS 0 rfl rfl 3 (by decide) (hts _ fX1_init_13) (fun _ h9 => h9) rfl hin rfl (by decide +kernel) rfl rfl (Nat.le_of_ble_eq_true rfl) dX1_init_18 (fun H locs hP hD hS => ?_)
  have e9 : (0 : Int32) = nI (4294967294 + 2) := by decide +kernel
  have hP : va_P D vwCl [(h0, .inr (1, [.int 0, .int 0, .ref a0, .ref b0])), (a0, .inl (cA, 1024, .inl (fun j => tq_eb ((fun _ => 0#8) j)))), (b0, .inl (cB, 16, .inl (fun j => tw_bI ((fun _ => false) j))))] H := hP
  have hD : va_D A [(h0, .inr (1, [.int 0, .int 0, .ref a0, .ref b0])), (a0, .inl (cA, 1024, .inl (fun j => tq_eb ((fun _ => 0#8) j)))), (b0, .inl (cB, 16, .inl (fun j => tw_bI ((fun _ => false) j))))] := hD
  have hP : va_P D vwCl (tw_M cA cB h0 a0 b0 4294967294 (fun _ => 0#8) (fun _ => false)) H := by
    show va_P D vwCl [(h0, .inr (1, [.int 0, .int (nI (4294967294 + 2)), .ref a0, .ref b0])), (a0, .inl (cA, 1024, .inl (fun j => tq_eb ((fun _ => 0#8) j)))), (b0, .inl (cB, 16, .inl (fun j => tw_bI ((fun _ => false) j))))] H
    rw [← e9]; exact hP
  have hD : va_D A (tw_M cA cB h0 a0 b0 4294967294 (fun _ => 0#8) (fun _ => false)) := by
    show va_D A [(h0, .inr (1, [.int 0, .int (nI (4294967294 + 2)), .ref a0, .ref b0])), (a0, .inl (cA, 1024, .inl (fun j => tq_eb ((fun _ => 0#8) j)))), (b0, .inl (cB, 16, .inl (fun j => tw_bI ((fun _ => false) j))))]
    rw [← e9]; exact hD
  refine lv_aload_n hx hb dX1_init_21 rfl (lv_at hl 0 rfl) ?_
  refine lv_iconst (v := 4) hx hb dX1_init_22 (by decide) ?_
  refine tw_wi (wr := []) (ci := 1) (q := (RX1, TX1, 4)) ⟨hx, hb, hml, hown, hts⟩ hK hP hD hS hA [0, 1, 2] [] rfl rfl rfl rfl (fun _ h => by cases h) hP rfl rfl (c_X1_begin l D cA cB h0 a0 b0 4294967294 (fun _ => 0#8) (fun _ => false) _ 4) (cwV 1 hts gX1_init_X1_begin rfl rfl rfl kdX1_begin ⟨Nat.le_of_ble_eq_true rfl, Nat.le_of_ble_eq_true rfl⟩) rfl hl.1 rfl (Nat.le_of_ble_eq_true rfl) dX1_init_23 ⟨Nat.le_of_ble_eq_true rfl, Nat.le_of_ble_eq_true rfl⟩ (fun r u H locs hru hP hD hS => ?_)
  have h2 := (Prod.mk.inj (hru.trans (show tw_mbegin 4294967294 (fun _ => 0#8) (fun _ => false) 4 = (6, (4, tw_fl (fun _ => 0#8) 1024, tw_gl (fun _ => false) 16)) from by rw [tw_mbegin, if_neg (by decide)]; rfl))).2
  subst h2
  have hP : va_P D vwCl (tw_M cA cB h0 a0 b0 4 (tw_fl (fun _ => 0#8) 1024) (tw_gl (fun _ => false) 16)) H := hP
  have hD : va_D A (tw_M cA cB h0 a0 b0 4 (tw_fl (fun _ => 0#8) 1024) (tw_gl (fun _ => false) 16)) := hD
  refine lv_istore_n (lv' := [(1, .int r), (0, .ref h0)]) hx hb dX1_init_26 rfl hl (by decide) rfl (fun ls hl => ?_)
  exact W.vret hx hb hr (fun t ht hW => ⟨⟨(cA, cB, a0, b0), rfl, trivial, ⟨by rw [ht]; exact hP, va_K.moved hW.alike hK⟩, hD⟩, hS.F ht⟩) hS.2.2 dX1_init_27
