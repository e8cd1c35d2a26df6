abbrev rmX0_change : Room := { frames := 0, cells := 0, slots := 0, locals := 0 }
theorem inX0_change : ∀ w ∈ wsX00, w ∈ wsX0_change := fun _ h => List.mem_cons_of_mem _ (List.mem_append_right _ h)
theorem fX0_change_9 : Cond.fieldLink RX0 9 "TwinParity" "bytes" "[I" ∈ wsX0_change := List.mem_of_getElem? (i := 1) rfl
theorem kdX0_change : yX0_change.cls = RX0 ∧ yX0_change.cls ≠ "java/lang/invoke/MethodHandle" ∧ yX0_change.cls ≠ "java/lang/invoke/VarHandle" ∧ (parseMethodDescriptor yX0_change.desc).map (fun d => d.parameters.length) = some 3 := by decide +kernel
set_option maxHeartbeats 4000000 in
set_option maxRecDepth 100000 in
theorem c_X0_change (l : Launch) (D : va_G) (cA : ClassId) (h0 a0 k : Nat) (lo : Int32) (F : Nat → BitVec 8) (sz : Nat) (u i : Nat) (d : BitVec 8) (h : 64 * u + i < 1024) : Met l yX0_change wsX0_change rmX0_change (va_Pc [.ref h0, .int (nI u), .int (nI i), .int (tq_eb d)] (tw_Pw D (tw_X cA h0 a0 k lo F) (tw_tX cA) sz)) (va_Qv (fun _ : Unit => True) (tw_Qw D (fun _ : Unit => (tw_X cA h0 a0 k lo (tw_ch F u i d))) (tw_tX cA) (va_A (tw_X cA h0 a0 k lo F) sz)) (va_A (tw_X cA h0 a0 k lo F) sz)) 0 0 (va_A (tw_X cA h0 a0 k lo F) sz) := by
  refine tw_metV (by decide) rfl rfl (Nat.le_of_ble_eq_true rfl) ?_
  intro p e s m args below meth c Q ls A hx hb hml hown hts hP hK hD hS hA hend hl
  have hown : s.vm.findClass RX0 = some m.cls := hown
  have hl : lv_has ls 4 [(0, .ref h0), (1, .int (nI u)), (2, .int (nI i)), (3, .int (tq_eb d))] := hl
  refine lv_aload_n hx hb dX0_change_0 rfl (lv_at hl 0 rfl) ?_
  refine va_get (D := D) (ci := 0) (v := .ref a0) (C := RX0) (T := TX0) (N := 3) hx hb hts inX0_change hown hK hP 0 rfl rfl 0 (by decide) (hts _ fX0_change_9) (fun _ h9 => h9) rfl dX0_change_1 ?_
  refine lv_iload_n hx hb dX0_change_4 rfl (lv_at hl 1 rfl) ?_
  refine lv_bipush (v := 64) hx hb dX0_change_5 (by decide) ?_
  refine lv_imul hx hb dX0_change_7 ?_
  refine lv_iload_n hx hb dX0_change_8 rfl (lv_at hl 2 rfl) ?_
  refine lv_iadd hx hb dX0_change_9 ?_
  refine tw_topr (x' := nI (64 * u + i)) (tw_ix u i) ?_
  refine lv_dup2_11 hx hb dX0_change_10 rfl rfl ?_
  refine tw_ld hx hb hK hP 1 0 rfl rfl (n := 64 * u + i) (rfl) (h) (by decide) dX0_change_11 ?_
  refine lv_iload_n hx hb dX0_change_12 rfl (lv_at hl 3 rfl) ?_
  refine lv_ixor hx hb dX0_change_13 ?_
  refine tw_st hx hb hK hP hD hS 1 0 rfl rfl (n := 64 * u + i) (v := F (64 * u + i) ^^^ d) (rfl) (tq_eb_xor _ _) (h) (by decide) dX0_change_14 (fun H locs hP hD hS => ?_)
  have hP : va_P D vwCl (tw_X cA h0 a0 k lo (va_up F (64 * u + i) (F (64 * u + i) ^^^ d))) H := hP
  have hD : va_D A (tw_X cA h0 a0 k lo (va_up F (64 * u + i) (F (64 * u + i) ^^^ d))) := hD
  exact hend _ _ _ _ dX0_change_15 hP hD hS
abbrev rmX0_changeWithParities : Room := { frames := 2, cells := 0, slots := 0, locals := 44 }
theorem inX0_changeWithParities : ∀ w ∈ wsX00, w ∈ wsX0_changeWithParities := fun _ h => List.mem_cons_of_mem _ (List.mem_append_right _ h)
theorem fX0_changeWithParities_9 : Cond.fieldLink RX0 9 "TwinParity" "bytes" "[I" ∈ wsX0_changeWithParities := List.mem_of_getElem? (i := 6) rfl
theorem fX0_changeWithParities_13 : Cond.fieldLink RX0 13 "TwinParity" "dataUnits" "I" ∈ wsX0_changeWithParities := List.mem_of_getElem? (i := 11) rfl
theorem fX0_changeWithParities_17 : Cond.fieldLink RX0 17 "TwinParity" "lostUnits" "I" ∈ wsX0_changeWithParities := List.mem_of_getElem? (i := 16) rfl
theorem kdX0_changeWithParities : yX0_changeWithParities.cls = RX0 ∧ yX0_changeWithParities.cls ≠ "java/lang/invoke/MethodHandle" ∧ yX0_changeWithParities.cls ≠ "java/lang/invoke/VarHandle" ∧ (parseMethodDescriptor yX0_changeWithParities.desc).map (fun d => d.parameters.length) = some 3 := by decide +kernel
set_option maxHeartbeats 4000000 in
set_option maxRecDepth 100000 in
theorem c_X0_changeWithParities (l : Launch) (D : va_G) (cA : ClassId) (h0 a0 k : Nat) (lo : Int32) (F : Nat → BitVec 8) (sz : Nat) (u i : Nat) (d : BitVec 8) (hu : u < k) (hi : i < 64) (hk : k ≤ 14) : Met l yX0_changeWithParities wsX0_changeWithParities rmX0_changeWithParities (va_Pc [.ref h0, .int (nI u), .int (nI i), .int (tq_eb d)] (tw_Pw D (tw_X cA h0 a0 k lo F) (tw_tX cA) sz)) (va_Qv (fun _ : Unit => True) (tw_Qw D (fun _ : Unit => (tw_X cA h0 a0 k lo (tw_cw k lo F u i d))) (tw_tX cA) (va_A (tw_X cA h0 a0 k lo F) sz)) (va_A (tw_X cA h0 a0 k lo F) sz)) 0 0 (va_A (tw_X cA h0 a0 k lo F) sz) := by
  refine tw_metV (by decide) rfl rfl (Nat.le_of_ble_eq_true rfl) ?_
  intro p e s m args below meth c Q ls A hx hb hml hown hts hP hK hD hS hA hend hl
  have hown : s.vm.findClass RX0 = some m.cls := hown
  have hl : lv_has ls 4 [(0, .ref h0), (1, .int (nI u)), (2, .int (nI i)), (3, .int (tq_eb d))] := hl
  refine lv_aload_n hx hb dX0_changeWithParities_0 rfl (lv_at hl 0 rfl) ?_
  refine lv_iload_n hx hb dX0_changeWithParities_1 rfl (lv_at hl 1 rfl) ?_
  refine lv_iload_n hx hb dX0_changeWithParities_2 rfl (lv_at hl 2 rfl) ?_
  refine lv_iload_n hx hb dX0_changeWithParities_3 rfl (lv_at hl 3 rfl) ?_
  refine tw_wXv ⟨hx, hb, hml, hown, hts⟩ hK hP hD hS hA (c_X0_change l D cA h0 a0 k lo F _ u i d (by omega)) (cwV 3 hts gX0_changeWithParities_X0_change rfl rfl rfl kdX0_change ⟨Nat.le_of_ble_eq_true rfl, Nat.le_of_ble_eq_true rfl⟩) rfl hl.1 rfl (Nat.le_of_ble_eq_true rfl) dX0_changeWithParities_4 ⟨Nat.zero_le _, Nat.zero_le _⟩ (fun H locs hP hD hS => ?_)
  have hP : va_P D vwCl (tw_X cA h0 a0 k lo (tw_ch F u i d)) H := hP
  have hD : va_D A (tw_X cA h0 a0 k lo (tw_ch F u i d)) := hD
  refine lv_aload_n hx hb dX0_changeWithParities_7 rfl (lv_at hl 0 rfl) ?_
  refine lv_aload_n hx hb dX0_changeWithParities_8 rfl (lv_at hl 0 rfl) ?_
  refine tw_rX ⟨hx, hb, hml, hown, hts⟩ hK hP (c_X0_unitP l D cA h0 a0 k lo (tw_ch F u i d) ) (cwV 0 hts gX0_changeWithParities_X0_unitP rfl rfl rfl kdX0_unitP ⟨Nat.le_of_ble_eq_true rfl, Nat.le_of_ble_eq_true rfl⟩) rfl hl.1 rfl (Nat.le_of_ble_eq_true rfl) dX0_changeWithParities_9 ⟨Nat.zero_le _, Nat.zero_le _⟩ ?_
  refine tw_rX ⟨hx, hb, hml, hown, hts⟩ hK hP (c_X0_isLost l D cA h0 a0 k lo (tw_ch F u i d) k) (cwV 1 hts gX0_changeWithParities_X0_isLost rfl rfl rfl kdX0_isLost ⟨Nat.le_of_ble_eq_true rfl, Nat.le_of_ble_eq_true rfl⟩) rfl hl.1 rfl (Nat.le_of_ble_eq_true rfl) dX0_changeWithParities_12 ⟨Nat.zero_le _, Nat.zero_le _⟩ ?_
  refine lv_if_ne (tgt := 28) hx hb dX0_changeWithParities_15 (by decide) (fun c_15 => ?_) (fun c_15 => ?_)
  · rw [tw_bI1] at c_15
    refine lv_aload_n hx hb dX0_changeWithParities_28 rfl (lv_at hl 0 rfl) ?_
    refine lv_aload_n hx hb dX0_changeWithParities_29 rfl (lv_at hl 0 rfl) ?_
    refine tw_rX ⟨hx, hb, hml, hown, hts⟩ hK hP (c_X0_unitQ l D cA h0 a0 k lo (tw_ch F u i d) ) (cwV 0 hts gX0_changeWithParities_X0_unitQ rfl rfl rfl kdX0_unitQ ⟨Nat.le_of_ble_eq_true rfl, Nat.le_of_ble_eq_true rfl⟩) rfl hl.1 rfl (Nat.le_of_ble_eq_true rfl) dX0_changeWithParities_30 ⟨Nat.zero_le _, Nat.zero_le _⟩ ?_
    refine tw_rX ⟨hx, hb, hml, hown, hts⟩ hK hP (c_X0_isLost l D cA h0 a0 k lo (tw_ch F u i d) (k + 1)) (cwV 1 hts gX0_changeWithParities_X0_isLost rfl rfl rfl kdX0_isLost ⟨Nat.le_of_ble_eq_true rfl, Nat.le_of_ble_eq_true rfl⟩) rfl hl.1 rfl (Nat.le_of_ble_eq_true rfl) dX0_changeWithParities_33 ⟨Nat.zero_le _, Nat.zero_le _⟩ ?_
    refine lv_if_ne (tgt := 53) hx hb dX0_changeWithParities_36 (by decide) (fun c_36 => ?_) (fun c_36 => ?_)
    · rw [tw_bI1] at c_36
      rw [show tw_ch F u i d = tw_cw k lo F u i d from by simp [tw_cw, c_15, c_36]] at hP hD
      exact hend _ _ _ _ dX0_changeWithParities_53 hP hD hS
    · rw [tw_bI0] at c_36
      refine lv_aload_n hx hb dX0_changeWithParities_39 rfl (lv_at hl 0 rfl) ?_
      refine lv_aload_n hx hb dX0_changeWithParities_40 rfl (lv_at hl 0 rfl) ?_
      refine tw_rX ⟨hx, hb, hml, hown, hts⟩ hK hP (c_X0_unitQ l D cA h0 a0 k lo (tw_ch F u i d) ) (cwV 0 hts gX0_changeWithParities_X0_unitQ rfl rfl rfl kdX0_unitQ ⟨Nat.le_of_ble_eq_true rfl, Nat.le_of_ble_eq_true rfl⟩) rfl hl.1 rfl (Nat.le_of_ble_eq_true rfl) dX0_changeWithParities_41 ⟨Nat.zero_le _, Nat.zero_le _⟩ ?_
      refine lv_iload_n hx hb dX0_changeWithParities_44 rfl (lv_at hl 2 rfl) ?_
      refine lv_iload_n hx hb dX0_changeWithParities_45 rfl (lv_at hl 3 rfl) ?_
      refine lv_iload_n hx hb dX0_changeWithParities_46 rfl (lv_at hl 1 rfl) ?_
      refine tw_s ⟨hx, hb, hml, hown, hts⟩ (c_X0_timesPower l d u (by omega)) (va_cwS 2 hts gX0_changeWithParities_X0_timesPower rfl rfl rfl kdX0_timesPower ⟨Nat.le_of_ble_eq_true rfl, Nat.le_of_ble_eq_true rfl⟩) rfl hl.1 rfl (Nat.le_of_ble_eq_true rfl) dX0_changeWithParities_47 ⟨Nat.zero_le _, Nat.zero_le _⟩ ?_
      refine tw_wXv ⟨hx, hb, hml, hown, hts⟩ hK hP hD hS hA (c_X0_change l D cA h0 a0 k lo (tw_ch F u i d) _ (k + 1) i (tq_p u d) (by omega)) (cwV 3 hts gX0_changeWithParities_X0_change rfl rfl rfl kdX0_change ⟨Nat.le_of_ble_eq_true rfl, Nat.le_of_ble_eq_true rfl⟩) rfl hl.1 rfl (Nat.le_of_ble_eq_true rfl) dX0_changeWithParities_50 ⟨Nat.zero_le _, Nat.zero_le _⟩ (fun H locs hP hD hS => ?_)
      have hP : va_P D vwCl (tw_X cA h0 a0 k lo (tw_ch (tw_ch F u i d) (k + 1) i (tq_p u d))) H := hP
      have hD : va_D A (tw_X cA h0 a0 k lo (tw_ch (tw_ch F u i d) (k + 1) i (tq_p u d))) := hD
      rw [show tw_ch (tw_ch F u i d) (k + 1) i (tq_p u d) = tw_cw k lo F u i d from by simp [tw_cw, c_15, c_36]] at hP hD
      exact hend _ _ _ _ dX0_changeWithParities_53 hP hD hS
  · rw [tw_bI0] at c_15
    refine lv_aload_n hx hb dX0_changeWithParities_18 rfl (lv_at hl 0 rfl) ?_
    refine lv_aload_n hx hb dX0_changeWithParities_19 rfl (lv_at hl 0 rfl) ?_
    refine tw_rX ⟨hx, hb, hml, hown, hts⟩ hK hP (c_X0_unitP l D cA h0 a0 k lo (tw_ch F u i d) ) (cwV 0 hts gX0_changeWithParities_X0_unitP rfl rfl rfl kdX0_unitP ⟨Nat.le_of_ble_eq_true rfl, Nat.le_of_ble_eq_true rfl⟩) rfl hl.1 rfl (Nat.le_of_ble_eq_true rfl) dX0_changeWithParities_20 ⟨Nat.zero_le _, Nat.zero_le _⟩ ?_
    refine lv_iload_n hx hb dX0_changeWithParities_23 rfl (lv_at hl 2 rfl) ?_
    refine lv_iload_n hx hb dX0_changeWithParities_24 rfl (lv_at hl 3 rfl) ?_
    refine tw_wXv ⟨hx, hb, hml, hown, hts⟩ hK hP hD hS hA (c_X0_change l D cA h0 a0 k lo (tw_ch F u i d) _ k i d (by omega)) (cwV 3 hts gX0_changeWithParities_X0_change rfl rfl rfl kdX0_change ⟨Nat.le_of_ble_eq_true rfl, Nat.le_of_ble_eq_true rfl⟩) rfl hl.1 rfl (Nat.le_of_ble_eq_true rfl) dX0_changeWithParities_25 ⟨Nat.zero_le _, Nat.zero_le _⟩ (fun H locs hP hD hS => ?_)
    have hP : va_P D vwCl (tw_X cA h0 a0 k lo (tw_ch (tw_ch F u i d) k i d)) H := hP
    have hD : va_D A (tw_X cA h0 a0 k lo (tw_ch (tw_ch F u i d) k i d)) := hD
    refine lv_aload_n hx hb dX0_changeWithParities_28 rfl (lv_at hl 0 rfl) ?_
    refine lv_aload_n hx hb dX0_changeWithParities_29 rfl (lv_at hl 0 rfl) ?_
    refine tw_rX ⟨hx, hb, hml, hown, hts⟩ hK hP (c_X0_unitQ l D cA h0 a0 k lo (tw_ch (tw_ch F u i d) k i d) ) (cwV 0 hts gX0_changeWithParities_X0_unitQ rfl rfl rfl kdX0_unitQ ⟨Nat.le_of_ble_eq_true rfl, Nat.le_of_ble_eq_true rfl⟩) rfl hl.1 rfl (Nat.le_of_ble_eq_true rfl) dX0_changeWithParities_30 ⟨Nat.zero_le _, Nat.zero_le _⟩ ?_
    refine tw_rX ⟨hx, hb, hml, hown, hts⟩ hK hP (c_X0_isLost l D cA h0 a0 k lo (tw_ch (tw_ch F u i d) k i d) (k + 1)) (cwV 1 hts gX0_changeWithParities_X0_isLost rfl rfl rfl kdX0_isLost ⟨Nat.le_of_ble_eq_true rfl, Nat.le_of_ble_eq_true rfl⟩) rfl hl.1 rfl (Nat.le_of_ble_eq_true rfl) dX0_changeWithParities_33 ⟨Nat.zero_le _, Nat.zero_le _⟩ ?_
    refine lv_if_ne (tgt := 53) hx hb dX0_changeWithParities_36 (by decide) (fun c_36 => ?_) (fun c_36 => ?_)
    · rw [tw_bI1] at c_36
      rw [show tw_ch (tw_ch F u i d) k i d = tw_cw k lo F u i d from by simp [tw_cw, c_15, c_36]] at hP hD
      exact hend _ _ _ _ dX0_changeWithParities_53 hP hD hS
    · rw [tw_bI0] at c_36
      refine lv_aload_n hx hb dX0_changeWithParities_39 rfl (lv_at hl 0 rfl) ?_
      refine lv_aload_n hx hb dX0_changeWithParities_40 rfl (lv_at hl 0 rfl) ?_
      refine tw_rX ⟨hx, hb, hml, hown, hts⟩ hK hP (c_X0_unitQ l D cA h0 a0 k lo (tw_ch (tw_ch F u i d) k i d) ) (cwV 0 hts gX0_changeWithParities_X0_unitQ rfl rfl rfl kdX0_unitQ ⟨Nat.le_of_ble_eq_true rfl, Nat.le_of_ble_eq_true rfl⟩) rfl hl.1 rfl (Nat.le_of_ble_eq_true rfl) dX0_changeWithParities_41 ⟨Nat.zero_le _, Nat.zero_le _⟩ ?_
      refine lv_iload_n hx hb dX0_changeWithParities_44 rfl (lv_at hl 2 rfl) ?_
      refine lv_iload_n hx hb dX0_changeWithParities_45 rfl (lv_at hl 3 rfl) ?_
      refine lv_iload_n hx hb dX0_changeWithParities_46 rfl (lv_at hl 1 rfl) ?_
      refine tw_s ⟨hx, hb, hml, hown, hts⟩ (c_X0_timesPower l d u (by omega)) (va_cwS 2 hts gX0_changeWithParities_X0_timesPower rfl rfl rfl kdX0_timesPower ⟨Nat.le_of_ble_eq_true rfl, Nat.le_of_ble_eq_true rfl⟩) rfl hl.1 rfl (Nat.le_of_ble_eq_true rfl) dX0_changeWithParities_47 ⟨Nat.zero_le _, Nat.zero_le _⟩ ?_
      refine tw_wXv ⟨hx, hb, hml, hown, hts⟩ hK hP hD hS hA (c_X0_change l D cA h0 a0 k lo (tw_ch (tw_ch F u i d) k i d) _ (k + 1) i (tq_p u d) (by omega)) (cwV 3 hts gX0_changeWithParities_X0_change rfl rfl rfl kdX0_change ⟨Nat.le_of_ble_eq_true rfl, Nat.le_of_ble_eq_true rfl⟩) rfl hl.1 rfl (Nat.le_of_ble_eq_true rfl) dX0_changeWithParities_50 ⟨Nat.zero_le _, Nat.zero_le _⟩ (fun H locs hP hD hS => ?_)
      have hP : va_P D vwCl (tw_X cA h0 a0 k lo (tw_ch (tw_ch (tw_ch F u i d) k i d) (k + 1) i (tq_p u d))) H := hP
      have hD : va_D A (tw_X cA h0 a0 k lo (tw_ch (tw_ch (tw_ch F u i d) k i d) (k + 1) i (tq_p u d))) := hD
      rw [show tw_ch (tw_ch (tw_ch F u i d) k i d) (k + 1) i (tq_p u d) = tw_cw k lo F u i d from by simp [tw_cw, c_15, c_36]] at hP hD
      exact hend _ _ _ _ dX0_changeWithParities_53 hP hD hS
def ty_rp (k u : Nat) (F : Nat → BitVec 8) : Nat → Nat → BitVec 8
  | 0 => F
  | n + 1 => tw_ch (ty_rp k u F n) u n (tq_dP k (tq_col (ty_rp k u F n) n))
abbrev rmX0_restoreByP : Room := { frames := 2, cells := 0, slots := 0, locals := 45 }
theorem inX0_restoreByP : ∀ w ∈ wsX00, w ∈ wsX0_restoreByP := fun _ h => List.mem_cons_of_mem _ (List.mem_append_right _ h)
theorem fX0_restoreByP_13 : Cond.fieldLink RX0 13 "TwinParity" "dataUnits" "I" ∈ wsX0_restoreByP := List.mem_of_getElem? (i := 6) rfl
theorem fX0_restoreByP_9 : Cond.fieldLink RX0 9 "TwinParity" "bytes" "[I" ∈ wsX0_restoreByP := List.mem_of_getElem? (i := 15) rfl
theorem kdX0_restoreByP : yX0_restoreByP.cls = RX0 ∧ yX0_restoreByP.cls ≠ "java/lang/invoke/MethodHandle" ∧ yX0_restoreByP.cls ≠ "java/lang/invoke/VarHandle" ∧ (parseMethodDescriptor yX0_restoreByP.desc).map (fun d => d.parameters.length) = some 1 := by decide +kernel
set_option maxHeartbeats 4000000 in
set_option maxRecDepth 100000 in
theorem c_X0_restoreByP (l : Launch) (D : va_G) (cA : ClassId) (h0 a0 k : Nat) (lo : Int32) (F : Nat → BitVec 8) (sz : Nat) (u : Nat) (hu : u ≤ k + 1) (hk : k ≤ 14) : Met l yX0_restoreByP wsX0_restoreByP rmX0_restoreByP (va_Pc [.ref h0, .int (nI u)] (tw_Pw D (tw_X cA h0 a0 k lo F) (tw_tX cA) sz)) (va_Qv (fun _ : Unit => True) (tw_Qw D (fun _ : Unit => (tw_X cA h0 a0 k lo (ty_rp k u F 64))) (tw_tX cA) (va_A (tw_X cA h0 a0 k lo F) sz)) (va_A (tw_X cA h0 a0 k lo F) sz)) 0 0 (va_A (tw_X cA h0 a0 k lo F) sz) := by
  refine tw_metV (by decide) rfl rfl (Nat.le_of_ble_eq_true rfl) ?_
  intro p e s m args below meth c Q ls A hx hb hml hown hts hP hK hD hS hA hend hl
  have hown : s.vm.findClass RX0 = some m.cls := hown
  have hl : lv_has ls 3 [(0, .ref h0), (1, .int (nI u))] := hl
  have loop : ∀ (n j : Nat) (ls : Array Slot) (H : Heap) (locs : List Loc), j + n = 64 → va_P D vwCl (tw_X cA h0 a0 k lo (ty_rp k u F j)) H → va_D A (tw_X cA h0 a0 k lo (ty_rp k u F j)) → va_S A s.heap H locs → lv_has ls 3 [(0, .ref h0), (1, .int (nI u)), (2, .int (nI j))] → W p l e rmX0_restoreByP s m args below meth c H locs 0 0 Q (F0 m 2 ls []) := by
    intro n
    induction n with
    | zero =>
      intro j ls H locs hj hP hD hS hl
      refine lv_iload_n hx hb dX0_restoreByP_2 rfl (lv_at hl 2 rfl) ?_
      refine lv_bipush (v := 64) hx hb dX0_restoreByP_3 (by decide) ?_
      refine lv_icmp_ge (tgt := 25) hx hb dX0_restoreByP_5 (by decide) (fun c_5 => ?_) (fun c_5 => ?_)
      · rw [show j = 64 by omega] at hP hD
        exact hend _ _ _ _ dX0_restoreByP_25 hP hD hS
      · exact absurd (nI_le (a := 64) (by omega) (by omega)) c_5
    | succ n ih =>
      intro j ls H locs hj hP hD hS hl
      refine lv_iload_n hx hb dX0_restoreByP_2 rfl (lv_at hl 2 rfl) ?_
      refine lv_bipush (v := 64) hx hb dX0_restoreByP_3 (by decide) ?_
      refine lv_icmp_ge (tgt := 25) hx hb dX0_restoreByP_5 (by decide) (fun c_5 => ?_) (fun c_5 => ?_)
      · exact absurd c_5 (nI_ge (b := 64) (by omega) (by omega))
      · refine lv_aload_n hx hb dX0_restoreByP_8 rfl (lv_at hl 0 rfl) ?_
        refine lv_iload_n hx hb dX0_restoreByP_9 rfl (lv_at hl 1 rfl) ?_
        refine lv_iload_n hx hb dX0_restoreByP_10 rfl (lv_at hl 2 rfl) ?_
        refine lv_aload_n hx hb dX0_restoreByP_11 rfl (lv_at hl 0 rfl) ?_
        refine lv_iload_n hx hb dX0_restoreByP_12 rfl (lv_at hl 2 rfl) ?_
        refine tw_rX ⟨hx, hb, hml, hown, hts⟩ hK hP (c_X0_differenceP l D cA h0 a0 k lo (ty_rp k u F j) j (by omega) hk) (cwV 1 hts gX0_restoreByP_X0_differenceP rfl rfl rfl kdX0_differenceP ⟨Nat.le_of_ble_eq_true rfl, Nat.le_of_ble_eq_true rfl⟩) rfl hl.1 rfl (Nat.le_of_ble_eq_true rfl) dX0_restoreByP_13 ⟨Nat.zero_le _, Nat.zero_le _⟩ ?_
        refine tw_wXv ⟨hx, hb, hml, hown, hts⟩ hK hP hD hS hA (c_X0_change l D cA h0 a0 k lo (ty_rp k u F j) _ u j (tq_dP k (tq_col (ty_rp k u F j) j)) (by omega)) (cwV 3 hts gX0_restoreByP_X0_change rfl rfl rfl kdX0_change ⟨Nat.le_of_ble_eq_true rfl, Nat.le_of_ble_eq_true rfl⟩) rfl hl.1 rfl (Nat.le_of_ble_eq_true rfl) dX0_restoreByP_16 ⟨Nat.zero_le _, Nat.zero_le _⟩ (fun H locs hP hD hS => ?_)
        have hP : va_P D vwCl (tw_X cA h0 a0 k lo (ty_rp k u F (j + 1))) H := hP
        have hD : va_D A (tw_X cA h0 a0 k lo (ty_rp k u F (j + 1))) := hD
        refine lv_iinc (v := nI (j + 1)) (lv' := [(2, .int (nI (j + 1))), (0, .ref h0), (1, .int (nI u))]) hx hb dX0_restoreByP_19 hl (k := 2) rfl (nI_1 j) (by decide) rfl (fun ls hl => ?_)
        refine lv_goto (tgt := 2) hx hb dX0_restoreByP_22 (by decide) ?_
        exact ih (j + 1) ls H locs (by omega) hP hD hS (lv_sub hl [1, 2, 0] rfl)
  refine lv_iconst (v := 0) hx hb dX0_restoreByP_0 (by decide) ?_
  refine lv_istore_n (lv' := [(2, .int 0), (0, .ref h0), (1, .int (nI u))]) hx hb dX0_restoreByP_1 rfl hl (by decide) rfl (fun ls hl => ?_)
  exact loop 64 0 ls _ _ (by omega) hP hD hS (lv_sub hl [1, 2, 0] rfl)
def tw_fq (k u : Nat) : BitVec 8 := if u = k + 1 then 1#8 else tq_i (tq_p u 1#8)
def ty_rq (k u : Nat) (F : Nat → BitVec 8) : Nat → Nat → BitVec 8
  | 0 => F
  | n + 1 => tw_ch (ty_rq k u F n) u n (tq_m (tq_dQ k (tq_col (ty_rq k u F n) n)) (tw_fq k u))
abbrev rmX0_restoreByQ : Room := { frames := 3, cells := 0, slots := 0, locals := 68 }
theorem inX0_restoreByQ : ∀ w ∈ wsX00, w ∈ wsX0_restoreByQ := fun _ h => List.mem_cons_of_mem _ (List.mem_append_right _ h)
theorem fX0_restoreByQ_13 : Cond.fieldLink RX0 13 "TwinParity" "dataUnits" "I" ∈ wsX0_restoreByQ := List.mem_of_getElem? (i := 6) rfl
theorem fX0_restoreByQ_9 : Cond.fieldLink RX0 9 "TwinParity" "bytes" "[I" ∈ wsX0_restoreByQ := List.mem_of_getElem? (i := 27) rfl
theorem kdX0_restoreByQ : yX0_restoreByQ.cls = RX0 ∧ yX0_restoreByQ.cls ≠ "java/lang/invoke/MethodHandle" ∧ yX0_restoreByQ.cls ≠ "java/lang/invoke/VarHandle" ∧ (parseMethodDescriptor yX0_restoreByQ.desc).map (fun d => d.parameters.length) = some 1 := by decide +kernel
set_option maxHeartbeats 4000000 in
set_option maxRecDepth 100000 in
theorem c_X0_restoreByQ (l : Launch) (D : va_G) (cA : ClassId) (h0 a0 k : Nat) (lo : Int32) (F : Nat → BitVec 8) (sz : Nat) (u : Nat) (hu : u ≤ k + 1) (hk : k ≤ 14) : Met l yX0_restoreByQ wsX0_restoreByQ rmX0_restoreByQ (va_Pc [.ref h0, .int (nI u)] (tw_Pw D (tw_X cA h0 a0 k lo F) (tw_tX cA) sz)) (va_Qv (fun _ : Unit => True) (tw_Qw D (fun _ : Unit => (tw_X cA h0 a0 k lo (ty_rq k u F 64))) (tw_tX cA) (va_A (tw_X cA h0 a0 k lo F) sz)) (va_A (tw_X cA h0 a0 k lo F) sz)) 0 0 (va_A (tw_X cA h0 a0 k lo F) sz) := by
  refine tw_metV (by decide) rfl rfl (Nat.le_of_ble_eq_true rfl) ?_
  intro p e s m args below meth c Q ls A hx hb hml hown hts hP hK hD hS hA hend hl
  have hown : s.vm.findClass RX0 = some m.cls := hown
  have hl : lv_has ls 4 [(0, .ref h0), (1, .int (nI u))] := hl
  have loop : ∀ (n j : Nat) (ls : Array Slot) (H : Heap) (locs : List Loc), j + n = 64 → va_P D vwCl (tw_X cA h0 a0 k lo (ty_rq k u F j)) H → va_D A (tw_X cA h0 a0 k lo (ty_rq k u F j)) → va_S A s.heap H locs → lv_has ls 4 [(0, .ref h0), (1, .int (nI u)), (2, .int (tq_eb (tw_fq k u))), (3, .int (nI j))] → W p l e rmX0_restoreByQ s m args below meth c H locs 0 0 Q (F0 m 23 ls []) := by
    intro n
    induction n with
    | zero =>
      intro j ls H locs hj hP hD hS hl
      refine lv_iload_n hx hb dX0_restoreByQ_23 rfl (lv_at hl 3 rfl) ?_
      refine lv_bipush (v := 64) hx hb dX0_restoreByQ_24 (by decide) ?_
      refine lv_icmp_ge (tgt := 50) hx hb dX0_restoreByQ_26 (by decide) (fun c_26 => ?_) (fun c_26 => ?_)
      · rw [show j = 64 by omega] at hP hD
        exact hend _ _ _ _ dX0_restoreByQ_50 hP hD hS
      · exact absurd (nI_le (a := 64) (by omega) (by omega)) c_26
    | succ n ih =>
      intro j ls H locs hj hP hD hS hl
      refine lv_iload_n hx hb dX0_restoreByQ_23 rfl (lv_at hl 3 rfl) ?_
      refine lv_bipush (v := 64) hx hb dX0_restoreByQ_24 (by decide) ?_
      refine lv_icmp_ge (tgt := 50) hx hb dX0_restoreByQ_26 (by decide) (fun c_26 => ?_) (fun c_26 => ?_)
      · exact absurd c_26 (nI_ge (b := 64) (by omega) (by omega))
      · refine lv_aload_n hx hb dX0_restoreByQ_29 rfl (lv_at hl 0 rfl) ?_
        refine lv_iload_n hx hb dX0_restoreByQ_30 rfl (lv_at hl 1 rfl) ?_
        refine lv_iload_n hx hb dX0_restoreByQ_31 rfl (lv_at hl 3 rfl) ?_
        refine lv_aload_n hx hb dX0_restoreByQ_32 rfl (lv_at hl 0 rfl) ?_
        refine lv_iload_n hx hb dX0_restoreByQ_33 rfl (lv_at hl 3 rfl) ?_
        refine tw_rX ⟨hx, hb, hml, hown, hts⟩ hK hP (c_X0_differenceQ l D cA h0 a0 k lo (ty_rq k u F j) j (by omega) hk) (cwV 1 hts gX0_restoreByQ_X0_differenceQ rfl rfl rfl kdX0_differenceQ ⟨Nat.le_of_ble_eq_true rfl, Nat.le_of_ble_eq_true rfl⟩) rfl hl.1 rfl (Nat.le_of_ble_eq_true rfl) dX0_restoreByQ_34 ⟨Nat.zero_le _, Nat.zero_le _⟩ ?_
        refine lv_iload_n hx hb dX0_restoreByQ_37 rfl (lv_at hl 2 rfl) ?_
        refine tw_s ⟨hx, hb, hml, hown, hts⟩ (c_X0_multiplied l (tq_dQ k (tq_col (ty_rq k u F j) j)) (tw_fq k u)) (va_cwS 2 hts gX0_restoreByQ_X0_multiplied rfl rfl rfl kdX0_multiplied ⟨Nat.le_of_ble_eq_true rfl, Nat.le_of_ble_eq_true rfl⟩) rfl hl.1 rfl (Nat.le_of_ble_eq_true rfl) dX0_restoreByQ_38 ⟨Nat.zero_le _, Nat.zero_le _⟩ ?_
        refine tw_wXv ⟨hx, hb, hml, hown, hts⟩ hK hP hD hS hA (c_X0_change l D cA h0 a0 k lo (ty_rq k u F j) _ u j (tq_m (tq_dQ k (tq_col (ty_rq k u F j) j)) (tw_fq k u)) (by omega)) (cwV 3 hts gX0_restoreByQ_X0_change rfl rfl rfl kdX0_change ⟨Nat.le_of_ble_eq_true rfl, Nat.le_of_ble_eq_true rfl⟩) rfl hl.1 rfl (Nat.le_of_ble_eq_true rfl) dX0_restoreByQ_41 ⟨Nat.zero_le _, Nat.zero_le _⟩ (fun H locs hP hD hS => ?_)
        have hP : va_P D vwCl (tw_X cA h0 a0 k lo (ty_rq k u F (j + 1))) H := hP
        have hD : va_D A (tw_X cA h0 a0 k lo (ty_rq k u F (j + 1))) := hD
        refine lv_iinc (v := nI (j + 1)) (lv' := [(3, .int (nI (j + 1))), (0, .ref h0), (1, .int (nI u)), (2, .int (tq_eb (tw_fq k u)))]) hx hb dX0_restoreByQ_44 hl (k := 3) rfl (nI_1 j) (by decide) rfl (fun ls hl => ?_)
        refine lv_goto (tgt := 23) hx hb dX0_restoreByQ_47 (by decide) ?_
        exact ih (j + 1) ls H locs (by omega) hP hD hS (lv_sub hl [1, 2, 3, 0] rfl)
  refine lv_iload_n hx hb dX0_restoreByQ_0 rfl (lv_at hl 1 rfl) ?_
  refine lv_aload_n hx hb dX0_restoreByQ_1 rfl (lv_at hl 0 rfl) ?_
  refine tw_rX ⟨hx, hb, hml, hown, hts⟩ hK hP (c_X0_unitQ l D cA h0 a0 k lo F ) (cwV 0 hts gX0_restoreByQ_X0_unitQ rfl rfl rfl kdX0_unitQ ⟨Nat.le_of_ble_eq_true rfl, Nat.le_of_ble_eq_true rfl⟩) rfl hl.1 rfl (Nat.le_of_ble_eq_true rfl) dX0_restoreByQ_2 ⟨Nat.zero_le _, Nat.zero_le _⟩ ?_
  refine lv_icmp_ne (tgt := 12) hx hb dX0_restoreByQ_5 (by decide) (fun c_5 => ?_) (fun c_5 => ?_)
  · have c_5 : ¬ u = k + 1 := fun q9 => c_5 (by rw [q9])
    refine lv_iconst (v := 1) hx hb dX0_restoreByQ_12 (by decide) ?_
    refine lv_iload_n hx hb dX0_restoreByQ_13 rfl (lv_at hl 1 rfl) ?_
    refine tw_s ⟨hx, hb, hml, hown, hts⟩ (c_X0_timesPower l 1#8 u (by omega)) (va_cwS 2 hts gX0_restoreByQ_X0_timesPower rfl rfl rfl kdX0_timesPower ⟨Nat.le_of_ble_eq_true rfl, Nat.le_of_ble_eq_true rfl⟩) rfl hl.1 rfl (Nat.le_of_ble_eq_true rfl) dX0_restoreByQ_14 ⟨Nat.zero_le _, Nat.zero_le _⟩ ?_
    refine tw_s ⟨hx, hb, hml, hown, hts⟩ (c_X0_inverse l (tq_p u 1#8)) (va_cwS 1 hts gX0_restoreByQ_X0_inverse rfl rfl rfl kdX0_inverse ⟨Nat.le_of_ble_eq_true rfl, Nat.le_of_ble_eq_true rfl⟩) rfl hl.1 rfl (Nat.le_of_ble_eq_true rfl) dX0_restoreByQ_17 ⟨Nat.zero_le _, Nat.zero_le _⟩ ?_
    refine tw_topr (x' := tq_eb (tw_fq k u)) (by first | (rw [tw_fq, if_pos c_5]; rfl) | rw [tw_fq, if_neg c_5]) ?_
    refine lv_istore_n (lv' := [(2, .int (tq_eb (tw_fq k u))), (0, .ref h0), (1, .int (nI u))]) hx hb dX0_restoreByQ_20 rfl hl (by decide) rfl (fun ls hl => ?_)
    refine lv_iconst (v := 0) hx hb dX0_restoreByQ_21 (by decide) ?_
    refine lv_istore_n (lv' := [(3, .int 0), (2, .int (tq_eb (tw_fq k u))), (0, .ref h0), (1, .int (nI u))]) hx hb dX0_restoreByQ_22 rfl hl (by decide) rfl (fun ls hl => ?_)
    exact loop 64 0 ls _ _ (by omega) hP hD hS (lv_sub hl [2, 3, 1, 0] rfl)
  · have c_5 : u = k + 1 := (nI_eq (by omega) (by omega)).mp c_5
    refine lv_iconst (v := 1) hx hb dX0_restoreByQ_8 (by decide) ?_
    refine lv_goto (tgt := 20) hx hb dX0_restoreByQ_9 (by decide) ?_
    refine tw_topr (x' := tq_eb (tw_fq k u)) (by first | (rw [tw_fq, if_pos c_5]; rfl) | rw [tw_fq, if_neg c_5]) ?_
    refine lv_istore_n (lv' := [(2, .int (tq_eb (tw_fq k u))), (0, .ref h0), (1, .int (nI u))]) hx hb dX0_restoreByQ_20 rfl hl (by decide) rfl (fun ls hl => ?_)
    refine lv_iconst (v := 0) hx hb dX0_restoreByQ_21 (by decide) ?_
    refine lv_istore_n (lv' := [(3, .int 0), (2, .int (tq_eb (tw_fq k u))), (0, .ref h0), (1, .int (nI u))]) hx hb dX0_restoreByQ_22 rfl hl (by decide) rfl (fun ls hl => ?_)
    exact loop 64 0 ls _ _ (by omega) hP hD hS (lv_sub hl [2, 3, 1, 0] rfl)
def tw_fd (a b : Nat) : BitVec 8 := tq_i (tq_p a 1#8 ^^^ tq_p b 1#8)
def tw_yd (k a b : Nat) (c : Nat → BitVec 8) : BitVec 8 := tq_m (tq_dQ k c ^^^ tq_p a (tq_dP k c)) (tw_fd a b)
def ty_rd (k a b : Nat) (F : Nat → BitVec 8) : Nat → Nat → BitVec 8
  | 0 => F
  | n + 1 => tw_ch (tw_ch (ty_rd k a b F n) a n (tq_dP k (tq_col (ty_rd k a b F n) n) ^^^ tw_yd k a b (tq_col (ty_rd k a b F n) n))) b n (tw_yd k a b (tq_col (ty_rd k a b F n) n))
abbrev rmX0_restoreDataPair : Room := { frames := 3, cells := 0, slots := 0, locals := 68 }
theorem inX0_restoreDataPair : ∀ w ∈ wsX00, w ∈ wsX0_restoreDataPair := fun _ h => List.mem_cons_of_mem _ (List.mem_append_right _ h)
theorem fX0_restoreDataPair_13 : Cond.fieldLink RX0 13 "TwinParity" "dataUnits" "I" ∈ wsX0_restoreDataPair := List.mem_of_getElem? (i := 18) rfl
theorem fX0_restoreDataPair_9 : Cond.fieldLink RX0 9 "TwinParity" "bytes" "[I" ∈ wsX0_restoreDataPair := List.mem_of_getElem? (i := 27) rfl
theorem kdX0_restoreDataPair : yX0_restoreDataPair.cls = RX0 ∧ yX0_restoreDataPair.cls ≠ "java/lang/invoke/MethodHandle" ∧ yX0_restoreDataPair.cls ≠ "java/lang/invoke/VarHandle" ∧ (parseMethodDescriptor yX0_restoreDataPair.desc).map (fun d => d.parameters.length) = some 2 := by decide +kernel
set_option maxHeartbeats 4000000 in
set_option maxRecDepth 100000 in
theorem c_X0_restoreDataPair (l : Launch) (D : va_G) (cA : ClassId) (h0 a0 k : Nat) (lo : Int32) (F : Nat → BitVec 8) (sz : Nat) (a b : Nat) (ha : a < k) (hb9 : b < k) (hk : k ≤ 14) : Met l yX0_restoreDataPair wsX0_restoreDataPair rmX0_restoreDataPair (va_Pc [.ref h0, .int (nI a), .int (nI b)] (tw_Pw D (tw_X cA h0 a0 k lo F) (tw_tX cA) sz)) (va_Qv (fun _ : Unit => True) (tw_Qw D (fun _ : Unit => (tw_X cA h0 a0 k lo (ty_rd k a b F 64))) (tw_tX cA) (va_A (tw_X cA h0 a0 k lo F) sz)) (va_A (tw_X cA h0 a0 k lo F) sz)) 0 0 (va_A (tw_X cA h0 a0 k lo F) sz) := by
  refine tw_metV (by decide) rfl rfl (Nat.le_of_ble_eq_true rfl) ?_
  intro p e s m args below meth c Q ls A hx hb hml hown hts hP hK hD hS hA hend hl
  have hown : s.vm.findClass RX0 = some m.cls := hown
  have hl : lv_has ls 7 [(0, .ref h0), (1, .int (nI a)), (2, .int (nI b))] := hl
  have loop : ∀ (n j : Nat) (ls : Array Slot) (H : Heap) (locs : List Loc), j + n = 64 → va_P D vwCl (tw_X cA h0 a0 k lo (ty_rd k a b F j)) H → va_D A (tw_X cA h0 a0 k lo (ty_rd k a b F j)) → va_S A s.heap H locs → lv_has ls 7 [(0, .ref h0), (1, .int (nI a)), (2, .int (nI b)), (3, .int (tq_eb (tw_fd a b))), (4, .int (nI j))] → W p l e rmX0_restoreDataPair s m args below meth c H locs 0 0 Q (F0 m 18 ls []) := by
    intro n
    induction n with
    | zero =>
      intro j ls H locs hj hP hD hS hl
      refine lv_iload hx hb dX0_restoreDataPair_18 (lv_at hl 4 rfl) ?_
      refine lv_bipush (v := 64) hx hb dX0_restoreDataPair_20 (by decide) ?_
      refine lv_icmp_ge (tgt := 79) hx hb dX0_restoreDataPair_22 (by decide) (fun c_22 => ?_) (fun c_22 => ?_)
      · rw [show j = 64 by omega] at hP hD
        exact hend _ _ _ _ dX0_restoreDataPair_79 hP hD hS
      · exact absurd (nI_le (a := 64) (by omega) (by omega)) c_22
    | succ n ih =>
      intro j ls H locs hj hP hD hS hl
      refine lv_iload hx hb dX0_restoreDataPair_18 (lv_at hl 4 rfl) ?_
      refine lv_bipush (v := 64) hx hb dX0_restoreDataPair_20 (by decide) ?_
      refine lv_icmp_ge (tgt := 79) hx hb dX0_restoreDataPair_22 (by decide) (fun c_22 => ?_) (fun c_22 => ?_)
      · exact absurd c_22 (nI_ge (b := 64) (by omega) (by omega))
      · refine lv_aload_n hx hb dX0_restoreDataPair_25 rfl (lv_at hl 0 rfl) ?_
        refine lv_iload hx hb dX0_restoreDataPair_26 (lv_at hl 4 rfl) ?_
        refine tw_rX ⟨hx, hb, hml, hown, hts⟩ hK hP (c_X0_differenceP l D cA h0 a0 k lo (ty_rd k a b F j) j (by omega) hk) (cwV 1 hts gX0_restoreDataPair_X0_differenceP rfl rfl rfl kdX0_differenceP ⟨Nat.le_of_ble_eq_true rfl, Nat.le_of_ble_eq_true rfl⟩) rfl hl.1 rfl (Nat.le_of_ble_eq_true rfl) dX0_restoreDataPair_28 ⟨Nat.zero_le _, Nat.zero_le _⟩ ?_
        refine lv_istore (lv' := [(5, .int (tq_eb (tq_dP k (tq_col (ty_rd k a b F j) j)))), (0, .ref h0), (1, .int (nI a)), (2, .int (nI b)), (3, .int (tq_eb (tw_fd a b))), (4, .int (nI j))]) hx hb dX0_restoreDataPair_31 hl (by decide) rfl (fun ls hl => ?_)
        refine lv_aload_n hx hb dX0_restoreDataPair_33 rfl (lv_at hl 1 rfl) ?_
        refine lv_iload hx hb dX0_restoreDataPair_34 (lv_at hl 5 rfl) ?_
        refine tw_rX ⟨hx, hb, hml, hown, hts⟩ hK hP (c_X0_differenceQ l D cA h0 a0 k lo (ty_rd k a b F j) j (by omega) hk) (cwV 1 hts gX0_restoreDataPair_X0_differenceQ rfl rfl rfl kdX0_differenceQ ⟨Nat.le_of_ble_eq_true rfl, Nat.le_of_ble_eq_true rfl⟩) rfl hl.1 rfl (Nat.le_of_ble_eq_true rfl) dX0_restoreDataPair_36 ⟨Nat.zero_le _, Nat.zero_le _⟩ ?_
        refine lv_iload hx hb dX0_restoreDataPair_39 (lv_at hl 0 rfl) ?_
        refine lv_iload_n hx hb dX0_restoreDataPair_41 rfl (lv_at hl 2 rfl) ?_
        refine tw_s ⟨hx, hb, hml, hown, hts⟩ (c_X0_timesPower l (tq_dP k (tq_col (ty_rd k a b F j) j)) a (by omega)) (va_cwS 2 hts gX0_restoreDataPair_X0_timesPower rfl rfl rfl kdX0_timesPower ⟨Nat.le_of_ble_eq_true rfl, Nat.le_of_ble_eq_true rfl⟩) rfl hl.1 rfl (Nat.le_of_ble_eq_true rfl) dX0_restoreDataPair_42 ⟨Nat.zero_le _, Nat.zero_le _⟩ ?_
        refine lv_ixor hx hb dX0_restoreDataPair_45 ?_
        refine tw_topr (x' := tq_eb (tq_dQ k (tq_col (ty_rd k a b F j) j) ^^^ tq_p a (tq_dP k (tq_col (ty_rd k a b F j) j)))) (tq_eb_xor _ _) ?_
        refine lv_iload_n hx hb dX0_restoreDataPair_46 rfl (lv_at hl 4 rfl) ?_
        refine tw_s ⟨hx, hb, hml, hown, hts⟩ (c_X0_multiplied l (tq_dQ k (tq_col (ty_rd k a b F j) j) ^^^ tq_p a (tq_dP k (tq_col (ty_rd k a b F j) j))) (tw_fd a b)) (va_cwS 2 hts gX0_restoreDataPair_X0_multiplied rfl rfl rfl kdX0_multiplied ⟨Nat.le_of_ble_eq_true rfl, Nat.le_of_ble_eq_true rfl⟩) rfl hl.1 rfl (Nat.le_of_ble_eq_true rfl) dX0_restoreDataPair_47 ⟨Nat.zero_le _, Nat.zero_le _⟩ ?_
        refine lv_istore (lv' := [(6, .int (tq_eb (tw_yd k a b (tq_col (ty_rd k a b F j) j)))), (5, .int (tq_eb (tq_dP k (tq_col (ty_rd k a b F j) j)))), (0, .ref h0), (1, .int (nI a)), (2, .int (nI b)), (3, .int (tq_eb (tw_fd a b))), (4, .int (nI j))]) hx hb dX0_restoreDataPair_50 hl (by decide) rfl (fun ls hl => ?_)
        refine lv_aload_n hx hb dX0_restoreDataPair_52 rfl (lv_at hl 2 rfl) ?_
        refine lv_iload_n hx hb dX0_restoreDataPair_53 rfl (lv_at hl 3 rfl) ?_
        refine lv_iload hx hb dX0_restoreDataPair_54 (lv_at hl 6 rfl) ?_
        refine lv_iload hx hb dX0_restoreDataPair_56 (lv_at hl 1 rfl) ?_
        refine lv_iload hx hb dX0_restoreDataPair_58 (lv_at hl 0 rfl) ?_
        refine lv_ixor hx hb dX0_restoreDataPair_60 ?_
        refine tw_topr (x' := tq_eb (tq_dP k (tq_col (ty_rd k a b F j) j) ^^^ tw_yd k a b (tq_col (ty_rd k a b F j) j))) (tq_eb_xor _ _) ?_
        refine tw_wXv ⟨hx, hb, hml, hown, hts⟩ hK hP hD hS hA (c_X0_change l D cA h0 a0 k lo (ty_rd k a b F j) _ a j (tq_dP k (tq_col (ty_rd k a b F j) j) ^^^ tw_yd k a b (tq_col (ty_rd k a b F j) j)) (by omega)) (cwV 3 hts gX0_restoreDataPair_X0_change rfl rfl rfl kdX0_change ⟨Nat.le_of_ble_eq_true rfl, Nat.le_of_ble_eq_true rfl⟩) rfl hl.1 rfl (Nat.le_of_ble_eq_true rfl) dX0_restoreDataPair_61 ⟨Nat.zero_le _, Nat.zero_le _⟩ (fun H locs hP hD hS => ?_)
        have hP : va_P D vwCl (tw_X cA h0 a0 k lo (tw_ch (ty_rd k a b F j) a j (tq_dP k (tq_col (ty_rd k a b F j) j) ^^^ tw_yd k a b (tq_col (ty_rd k a b F j) j)))) H := hP
        have hD : va_D A (tw_X cA h0 a0 k lo (tw_ch (ty_rd k a b F j) a j (tq_dP k (tq_col (ty_rd k a b F j) j) ^^^ tw_yd k a b (tq_col (ty_rd k a b F j) j)))) := hD
        refine lv_aload_n hx hb dX0_restoreDataPair_64 rfl (lv_at hl 2 rfl) ?_
        refine lv_iload_n hx hb dX0_restoreDataPair_65 rfl (lv_at hl 4 rfl) ?_
        refine lv_iload hx hb dX0_restoreDataPair_66 (lv_at hl 6 rfl) ?_
        refine lv_iload hx hb dX0_restoreDataPair_68 (lv_at hl 0 rfl) ?_
        refine tw_wXv ⟨hx, hb, hml, hown, hts⟩ hK hP hD hS hA (c_X0_change l D cA h0 a0 k lo (tw_ch (ty_rd k a b F j) a j (tq_dP k (tq_col (ty_rd k a b F j) j) ^^^ tw_yd k a b (tq_col (ty_rd k a b F j) j))) _ b j (tw_yd k a b (tq_col (ty_rd k a b F j) j)) (by omega)) (cwV 3 hts gX0_restoreDataPair_X0_change rfl rfl rfl kdX0_change ⟨Nat.le_of_ble_eq_true rfl, Nat.le_of_ble_eq_true rfl⟩) rfl hl.1 rfl (Nat.le_of_ble_eq_true rfl) dX0_restoreDataPair_70 ⟨Nat.zero_le _, Nat.zero_le _⟩ (fun H locs hP hD hS => ?_)
        have hP : va_P D vwCl (tw_X cA h0 a0 k lo (ty_rd k a b F (j + 1))) H := hP
        have hD : va_D A (tw_X cA h0 a0 k lo (ty_rd k a b F (j + 1))) := hD
        refine lv_iinc (v := nI (j + 1)) (lv' := [(4, .int (nI (j + 1))), (6, .int (tq_eb (tw_yd k a b (tq_col (ty_rd k a b F j) j)))), (5, .int (tq_eb (tq_dP k (tq_col (ty_rd k a b F j) j)))), (0, .ref h0), (1, .int (nI a)), (2, .int (nI b)), (3, .int (tq_eb (tw_fd a b)))]) hx hb dX0_restoreDataPair_73 hl (k := 6) rfl (nI_1 j) (by decide) rfl (fun ls hl => ?_)
        refine lv_goto (tgt := 18) hx hb dX0_restoreDataPair_76 (by decide) ?_
        exact ih (j + 1) ls H locs (by omega) hP hD hS (lv_sub hl [3, 4, 5, 6, 0] rfl)
  refine lv_iconst (v := 1) hx hb dX0_restoreDataPair_0 (by decide) ?_
  refine lv_iload_n hx hb dX0_restoreDataPair_1 rfl (lv_at hl 1 rfl) ?_
  refine tw_s ⟨hx, hb, hml, hown, hts⟩ (c_X0_timesPower l 1#8 a (by omega)) (va_cwS 2 hts gX0_restoreDataPair_X0_timesPower rfl rfl rfl kdX0_timesPower ⟨Nat.le_of_ble_eq_true rfl, Nat.le_of_ble_eq_true rfl⟩) rfl hl.1 rfl (Nat.le_of_ble_eq_true rfl) dX0_restoreDataPair_2 ⟨Nat.zero_le _, Nat.zero_le _⟩ ?_
  refine lv_iconst (v := 1) hx hb dX0_restoreDataPair_5 (by decide) ?_
  refine lv_iload_n hx hb dX0_restoreDataPair_6 rfl (lv_at hl 2 rfl) ?_
  refine tw_s ⟨hx, hb, hml, hown, hts⟩ (c_X0_timesPower l 1#8 b (by omega)) (va_cwS 2 hts gX0_restoreDataPair_X0_timesPower rfl rfl rfl kdX0_timesPower ⟨Nat.le_of_ble_eq_true rfl, Nat.le_of_ble_eq_true rfl⟩) rfl hl.1 rfl (Nat.le_of_ble_eq_true rfl) dX0_restoreDataPair_7 ⟨Nat.zero_le _, Nat.zero_le _⟩ ?_
  refine lv_ixor hx hb dX0_restoreDataPair_10 ?_
  refine tw_topr (x' := tq_eb (tq_p a 1#8 ^^^ tq_p b 1#8)) (tq_eb_xor _ _) ?_
  refine tw_s ⟨hx, hb, hml, hown, hts⟩ (c_X0_inverse l (tq_p a 1#8 ^^^ tq_p b 1#8)) (va_cwS 1 hts gX0_restoreDataPair_X0_inverse rfl rfl rfl kdX0_inverse ⟨Nat.le_of_ble_eq_true rfl, Nat.le_of_ble_eq_true rfl⟩) rfl hl.1 rfl (Nat.le_of_ble_eq_true rfl) dX0_restoreDataPair_11 ⟨Nat.zero_le _, Nat.zero_le _⟩ ?_
  refine lv_istore_n (lv' := [(3, .int (tq_eb (tw_fd a b))), (0, .ref h0), (1, .int (nI a)), (2, .int (nI b))]) hx hb dX0_restoreDataPair_14 rfl hl (by decide) rfl (fun ls hl => ?_)
  refine lv_iconst (v := 0) hx hb dX0_restoreDataPair_15 (by decide) ?_
  refine lv_istore (lv' := [(4, .int 0), (3, .int (tq_eb (tw_fd a b))), (0, .ref h0), (1, .int (nI a)), (2, .int (nI b))]) hx hb dX0_restoreDataPair_16 hl (by decide) rfl (fun ls hl => ?_)
  exact loop 64 0 ls _ _ (by omega) hP hD hS (lv_sub hl [2, 3, 4, 1, 0] rfl)
def ty_ro (k u : Nat) (F : Nat → BitVec 8) : Nat → BitVec 8 := if u = k + 1 then ty_rq k u F 64 else ty_rp k u F 64
def ty_rt (k a b : Nat) (F : Nat → BitVec 8) : Nat → BitVec 8 := if b = k + 1 then ty_rq k b (ty_rp k a F 64) 64 else if b = k then ty_rp k b (ty_rq k a F 64) 64 else ty_rd k a b F 64
abbrev rmX0_restoreOne : Room := { frames := 4, cells := 0, slots := 0, locals := 91 }
theorem inX0_restoreOne : ∀ w ∈ wsX00, w ∈ wsX0_restoreOne := fun _ h => List.mem_cons_of_mem _ (List.mem_append_right _ h)
theorem fX0_restoreOne_13 : Cond.fieldLink RX0 13 "TwinParity" "dataUnits" "I" ∈ wsX0_restoreOne := List.mem_of_getElem? (i := 6) rfl
theorem fX0_restoreOne_9 : Cond.fieldLink RX0 9 "TwinParity" "bytes" "[I" ∈ wsX0_restoreOne := List.mem_of_getElem? (i := 31) rfl
theorem kdX0_restoreOne : yX0_restoreOne.cls = RX0 ∧ yX0_restoreOne.cls ≠ "java/lang/invoke/MethodHandle" ∧ yX0_restoreOne.cls ≠ "java/lang/invoke/VarHandle" ∧ (parseMethodDescriptor yX0_restoreOne.desc).map (fun d => d.parameters.length) = some 1 := by decide +kernel
set_option maxHeartbeats 4000000 in
set_option maxRecDepth 100000 in
theorem c_X0_restoreOne (l : Launch) (D : va_G) (cA : ClassId) (h0 a0 k : Nat) (lo : Int32) (F : Nat → BitVec 8) (sz : Nat) (u : Nat) (hu : u ≤ k + 1) (hk : k ≤ 14) : Met l yX0_restoreOne wsX0_restoreOne rmX0_restoreOne (va_Pc [.ref h0, .int (nI u)] (tw_Pw D (tw_X cA h0 a0 k lo F) (tw_tX cA) sz)) (va_Qv (fun _ : Unit => True) (tw_Qw D (fun _ : Unit => (tw_X cA h0 a0 k lo (ty_ro k u F))) (tw_tX cA) (va_A (tw_X cA h0 a0 k lo F) sz)) (va_A (tw_X cA h0 a0 k lo F) sz)) 0 0 (va_A (tw_X cA h0 a0 k lo F) sz) := by
  refine tw_metV (by decide) rfl rfl (Nat.le_of_ble_eq_true rfl) ?_
  intro p e s m args below meth c Q ls A hx hb hml hown hts hP hK hD hS hA hend hl
  have hown : s.vm.findClass RX0 = some m.cls := hown
  have hl : lv_has ls 2 [(0, .ref h0), (1, .int (nI u))] := hl
  refine lv_iload_n hx hb dX0_restoreOne_0 rfl (lv_at hl 1 rfl) ?_
  refine lv_aload_n hx hb dX0_restoreOne_1 rfl (lv_at hl 0 rfl) ?_
  refine tw_rX ⟨hx, hb, hml, hown, hts⟩ hK hP (c_X0_unitQ l D cA h0 a0 k lo F ) (cwV 0 hts gX0_restoreOne_X0_unitQ rfl rfl rfl kdX0_unitQ ⟨Nat.le_of_ble_eq_true rfl, Nat.le_of_ble_eq_true rfl⟩) rfl hl.1 rfl (Nat.le_of_ble_eq_true rfl) dX0_restoreOne_2 ⟨Nat.zero_le _, Nat.zero_le _⟩ ?_
  refine lv_icmp_ne (tgt := 16) hx hb dX0_restoreOne_5 (by decide) (fun c_5 => ?_) (fun c_5 => ?_)
  · have c_5 : ¬ u = k + 1 := fun q9 => c_5 (by rw [q9])
    refine lv_aload_n hx hb dX0_restoreOne_16 rfl (lv_at hl 0 rfl) ?_
    refine lv_iload_n hx hb dX0_restoreOne_17 rfl (lv_at hl 1 rfl) ?_
    refine tw_wXv ⟨hx, hb, hml, hown, hts⟩ hK hP hD hS hA (c_X0_restoreByP l D cA h0 a0 k lo F _ u hu hk) (cwV 1 hts gX0_restoreOne_X0_restoreByP rfl rfl rfl kdX0_restoreByP ⟨Nat.le_of_ble_eq_true rfl, Nat.le_of_ble_eq_true rfl⟩) rfl hl.1 rfl (Nat.le_of_ble_eq_true rfl) dX0_restoreOne_18 ⟨Nat.zero_le _, Nat.zero_le _⟩ (fun H locs hP hD hS => ?_)
    have hP : va_P D vwCl (tw_X cA h0 a0 k lo (ty_rp k u F 64)) H := hP
    have hD : va_D A (tw_X cA h0 a0 k lo (ty_rp k u F 64)) := hD
    have e9 : ty_rp k u F 64 = ty_ro k u F := by first | (rw [ty_ro, if_pos c_5]; done) | (rw [ty_ro, if_neg c_5]; done) | (rw [ty_ro, if_neg c_5, if_pos c_26]; done) | (rw [ty_ro, if_neg c_5, if_neg c_26]; done)
    rw [e9] at hP hD
    exact hend _ _ _ _ dX0_restoreOne_21 hP hD hS
  · have c_5 : u = k + 1 := (nI_eq (by omega) (by omega)).mp c_5
    refine lv_aload_n hx hb dX0_restoreOne_8 rfl (lv_at hl 0 rfl) ?_
    refine lv_iload_n hx hb dX0_restoreOne_9 rfl (lv_at hl 1 rfl) ?_
    refine tw_wXv ⟨hx, hb, hml, hown, hts⟩ hK hP hD hS hA (c_X0_restoreByQ l D cA h0 a0 k lo F _ u hu hk) (cwV 1 hts gX0_restoreOne_X0_restoreByQ rfl rfl rfl kdX0_restoreByQ ⟨Nat.le_of_ble_eq_true rfl, Nat.le_of_ble_eq_true rfl⟩) rfl hl.1 rfl (Nat.le_of_ble_eq_true rfl) dX0_restoreOne_10 ⟨Nat.zero_le _, Nat.zero_le _⟩ (fun H locs hP hD hS => ?_)
    have hP : va_P D vwCl (tw_X cA h0 a0 k lo (ty_rq k u F 64)) H := hP
    have hD : va_D A (tw_X cA h0 a0 k lo (ty_rq k u F 64)) := hD
    refine lv_goto (tgt := 21) hx hb dX0_restoreOne_13 (by decide) ?_
    have e9 : ty_rq k u F 64 = ty_ro k u F := by first | (rw [ty_ro, if_pos c_5]; done) | (rw [ty_ro, if_neg c_5]; done) | (rw [ty_ro, if_neg c_5, if_pos c_26]; done) | (rw [ty_ro, if_neg c_5, if_neg c_26]; done)
    rw [e9] at hP hD
    exact hend _ _ _ _ dX0_restoreOne_21 hP hD hS
abbrev rmX0_restoreTwo : Room := { frames := 4, cells := 0, slots := 0, locals := 94 }
theorem inX0_restoreTwo : ∀ w ∈ wsX00, w ∈ wsX0_restoreTwo := fun _ h => List.mem_cons_of_mem _ (List.mem_append_right _ h)
theorem fX0_restoreTwo_13 : Cond.fieldLink RX0 13 "TwinParity" "dataUnits" "I" ∈ wsX0_restoreTwo := List.mem_of_getElem? (i := 6) rfl
theorem fX0_restoreTwo_9 : Cond.fieldLink RX0 9 "TwinParity" "bytes" "[I" ∈ wsX0_restoreTwo := List.mem_of_getElem? (i := 23) rfl
theorem kdX0_restoreTwo : yX0_restoreTwo.cls = RX0 ∧ yX0_restoreTwo.cls ≠ "java/lang/invoke/MethodHandle" ∧ yX0_restoreTwo.cls ≠ "java/lang/invoke/VarHandle" ∧ (parseMethodDescriptor yX0_restoreTwo.desc).map (fun d => d.parameters.length) = some 2 := by decide +kernel
set_option maxHeartbeats 4000000 in
set_option maxRecDepth 100000 in
theorem c_X0_restoreTwo (l : Launch) (D : va_G) (cA : ClassId) (h0 a0 k : Nat) (lo : Int32) (F : Nat → BitVec 8) (sz : Nat) (a b : Nat) (hab : a < b) (hb9 : b ≤ k + 1) (hk : k ≤ 14) : Met l yX0_restoreTwo wsX0_restoreTwo rmX0_restoreTwo (va_Pc [.ref h0, .int (nI a), .int (nI b)] (tw_Pw D (tw_X cA h0 a0 k lo F) (tw_tX cA) sz)) (va_Qv (fun _ : Unit => True) (tw_Qw D (fun _ : Unit => (tw_X cA h0 a0 k lo (ty_rt k a b F))) (tw_tX cA) (va_A (tw_X cA h0 a0 k lo F) sz)) (va_A (tw_X cA h0 a0 k lo F) sz)) 0 0 (va_A (tw_X cA h0 a0 k lo F) sz) := by
  refine tw_metV (by decide) rfl rfl (Nat.le_of_ble_eq_true rfl) ?_
  intro p e s m args below meth c Q ls A hx hb hml hown hts hP hK hD hS hA hend hl
  have hown : s.vm.findClass RX0 = some m.cls := hown
  have hl : lv_has ls 3 [(0, .ref h0), (1, .int (nI a)), (2, .int (nI b))] := hl
  refine lv_iload_n hx hb dX0_restoreTwo_0 rfl (lv_at hl 2 rfl) ?_
  refine lv_aload_n hx hb dX0_restoreTwo_1 rfl (lv_at hl 0 rfl) ?_
  refine tw_rX ⟨hx, hb, hml, hown, hts⟩ hK hP (c_X0_unitQ l D cA h0 a0 k lo F ) (cwV 0 hts gX0_restoreTwo_X0_unitQ rfl rfl rfl kdX0_unitQ ⟨Nat.le_of_ble_eq_true rfl, Nat.le_of_ble_eq_true rfl⟩) rfl hl.1 rfl (Nat.le_of_ble_eq_true rfl) dX0_restoreTwo_2 ⟨Nat.zero_le _, Nat.zero_le _⟩ ?_
  refine lv_icmp_ne (tgt := 21) hx hb dX0_restoreTwo_5 (by decide) (fun c_5 => ?_) (fun c_5 => ?_)
  · have c_5 : ¬ b = k + 1 := fun q9 => c_5 (by rw [q9])
    refine lv_iload_n hx hb dX0_restoreTwo_21 rfl (lv_at hl 2 rfl) ?_
    refine lv_aload_n hx hb dX0_restoreTwo_22 rfl (lv_at hl 0 rfl) ?_
    refine tw_rX ⟨hx, hb, hml, hown, hts⟩ hK hP (c_X0_unitP l D cA h0 a0 k lo F ) (cwV 0 hts gX0_restoreTwo_X0_unitP rfl rfl rfl kdX0_unitP ⟨Nat.le_of_ble_eq_true rfl, Nat.le_of_ble_eq_true rfl⟩) rfl hl.1 rfl (Nat.le_of_ble_eq_true rfl) dX0_restoreTwo_23 ⟨Nat.zero_le _, Nat.zero_le _⟩ ?_
    refine lv_icmp_ne (tgt := 42) hx hb dX0_restoreTwo_26 (by decide) (fun c_26 => ?_) (fun c_26 => ?_)
    · have c_26 : ¬ b = k := fun q9 => c_26 (by rw [q9])
      refine lv_aload_n hx hb dX0_restoreTwo_42 rfl (lv_at hl 0 rfl) ?_
      refine lv_iload_n hx hb dX0_restoreTwo_43 rfl (lv_at hl 1 rfl) ?_
      refine lv_iload_n hx hb dX0_restoreTwo_44 rfl (lv_at hl 2 rfl) ?_
      refine tw_wXv ⟨hx, hb, hml, hown, hts⟩ hK hP hD hS hA (c_X0_restoreDataPair l D cA h0 a0 k lo F _ a b (by omega) (by omega) hk) (cwV 2 hts gX0_restoreTwo_X0_restoreDataPair rfl rfl rfl kdX0_restoreDataPair ⟨Nat.le_of_ble_eq_true rfl, Nat.le_of_ble_eq_true rfl⟩) rfl hl.1 rfl (Nat.le_of_ble_eq_true rfl) dX0_restoreTwo_45 ⟨Nat.zero_le _, Nat.zero_le _⟩ (fun H locs hP hD hS => ?_)
      have hP : va_P D vwCl (tw_X cA h0 a0 k lo (ty_rd k a b F 64)) H := hP
      have hD : va_D A (tw_X cA h0 a0 k lo (ty_rd k a b F 64)) := hD
      have e9 : ty_rd k a b F 64 = ty_rt k a b F := by first | (rw [ty_rt, if_pos c_5]; done) | (rw [ty_rt, if_neg c_5]; done) | (rw [ty_rt, if_neg c_5, if_pos c_26]; done) | (rw [ty_rt, if_neg c_5, if_neg c_26]; done)
      rw [e9] at hP hD
      exact hend _ _ _ _ dX0_restoreTwo_48 hP hD hS
    · have c_26 : b = k := (nI_eq (by omega) (by omega)).mp c_26
      refine lv_aload_n hx hb dX0_restoreTwo_29 rfl (lv_at hl 0 rfl) ?_
      refine lv_iload_n hx hb dX0_restoreTwo_30 rfl (lv_at hl 1 rfl) ?_
      refine tw_wXv ⟨hx, hb, hml, hown, hts⟩ hK hP hD hS hA (c_X0_restoreByQ l D cA h0 a0 k lo F _ a (by omega) hk) (cwV 1 hts gX0_restoreTwo_X0_restoreByQ rfl rfl rfl kdX0_restoreByQ ⟨Nat.le_of_ble_eq_true rfl, Nat.le_of_ble_eq_true rfl⟩) rfl hl.1 rfl (Nat.le_of_ble_eq_true rfl) dX0_restoreTwo_31 ⟨Nat.zero_le _, Nat.zero_le _⟩ (fun H locs hP hD hS => ?_)
      have hP : va_P D vwCl (tw_X cA h0 a0 k lo (ty_rq k a F 64)) H := hP
      have hD : va_D A (tw_X cA h0 a0 k lo (ty_rq k a F 64)) := hD
      refine lv_aload_n hx hb dX0_restoreTwo_34 rfl (lv_at hl 0 rfl) ?_
      refine lv_iload_n hx hb dX0_restoreTwo_35 rfl (lv_at hl 2 rfl) ?_
      refine tw_wXv ⟨hx, hb, hml, hown, hts⟩ hK hP hD hS hA (c_X0_restoreByP l D cA h0 a0 k lo (ty_rq k a F 64) _ b (by omega) hk) (cwV 1 hts gX0_restoreTwo_X0_restoreByP rfl rfl rfl kdX0_restoreByP ⟨Nat.le_of_ble_eq_true rfl, Nat.le_of_ble_eq_true rfl⟩) rfl hl.1 rfl (Nat.le_of_ble_eq_true rfl) dX0_restoreTwo_36 ⟨Nat.zero_le _, Nat.zero_le _⟩ (fun H locs hP hD hS => ?_)
      have hP : va_P D vwCl (tw_X cA h0 a0 k lo (ty_rp k b (ty_rq k a F 64) 64)) H := hP
      have hD : va_D A (tw_X cA h0 a0 k lo (ty_rp k b (ty_rq k a F 64) 64)) := hD
      refine lv_goto (tgt := 48) hx hb dX0_restoreTwo_39 (by decide) ?_
      have e9 : ty_rp k b (ty_rq k a F 64) 64 = ty_rt k a b F := by first | (rw [ty_rt, if_pos c_5]; done) | (rw [ty_rt, if_neg c_5]; done) | (rw [ty_rt, if_neg c_5, if_pos c_26]; done) | (rw [ty_rt, if_neg c_5, if_neg c_26]; done)
      rw [e9] at hP hD
      exact hend _ _ _ _ dX0_restoreTwo_48 hP hD hS
  · have c_5 : b = k + 1 := (nI_eq (by omega) (by omega)).mp c_5
    refine lv_aload_n hx hb dX0_restoreTwo_8 rfl (lv_at hl 0 rfl) ?_
    refine lv_iload_n hx hb dX0_restoreTwo_9 rfl (lv_at hl 1 rfl) ?_
    refine tw_wXv ⟨hx, hb, hml, hown, hts⟩ hK hP hD hS hA (c_X0_restoreByP l D cA h0 a0 k lo F _ a (by omega) hk) (cwV 1 hts gX0_restoreTwo_X0_restoreByP rfl rfl rfl kdX0_restoreByP ⟨Nat.le_of_ble_eq_true rfl, Nat.le_of_ble_eq_true rfl⟩) rfl hl.1 rfl (Nat.le_of_ble_eq_true rfl) dX0_restoreTwo_10 ⟨Nat.zero_le _, Nat.zero_le _⟩ (fun H locs hP hD hS => ?_)
    have hP : va_P D vwCl (tw_X cA h0 a0 k lo (ty_rp k a F 64)) H := hP
    have hD : va_D A (tw_X cA h0 a0 k lo (ty_rp k a F 64)) := hD
    refine lv_aload_n hx hb dX0_restoreTwo_13 rfl (lv_at hl 0 rfl) ?_
    refine lv_iload_n hx hb dX0_restoreTwo_14 rfl (lv_at hl 2 rfl) ?_
    refine tw_wXv ⟨hx, hb, hml, hown, hts⟩ hK hP hD hS hA (c_X0_restoreByQ l D cA h0 a0 k lo (ty_rp k a F 64) _ b (by omega) hk) (cwV 1 hts gX0_restoreTwo_X0_restoreByQ rfl rfl rfl kdX0_restoreByQ ⟨Nat.le_of_ble_eq_true rfl, Nat.le_of_ble_eq_true rfl⟩) rfl hl.1 rfl (Nat.le_of_ble_eq_true rfl) dX0_restoreTwo_15 ⟨Nat.zero_le _, Nat.zero_le _⟩ (fun H locs hP hD hS => ?_)
    have hP : va_P D vwCl (tw_X cA h0 a0 k lo (ty_rq k b (ty_rp k a F 64) 64)) H := hP
    have hD : va_D A (tw_X cA h0 a0 k lo (ty_rq k b (ty_rp k a F 64) 64)) := hD
    refine lv_goto (tgt := 48) hx hb dX0_restoreTwo_18 (by decide) ?_
    have e9 : ty_rq k b (ty_rp k a F 64) 64 = ty_rt k a b F := by first | (rw [ty_rt, if_pos c_5]; done) | (rw [ty_rt, if_neg c_5]; done) | (rw [ty_rt, if_neg c_5, if_pos c_26]; done) | (rw [ty_rt, if_neg c_5, if_neg c_26]; done)
    rw [e9] at hP hD
    exact hend _ _ _ _ dX0_restoreTwo_48 hP hD hS
