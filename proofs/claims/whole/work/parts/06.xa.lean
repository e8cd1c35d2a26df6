abbrev rmX0_doubled : Room := { frames := 0, cells := 0, slots := 0, locals := 0 }
theorem kdX0_doubled : yX0_doubled.cls ≠ "java/lang/invoke/MethodHandle" ∧ yX0_doubled.cls ≠ "java/lang/invoke/VarHandle" ∧ (parseMethodDescriptor yX0_doubled.desc).map (fun d => d.parameters.length) = some 1 := by decide +kernel
set_option maxHeartbeats 4000000 in
set_option maxRecDepth 100000 in
theorem c_X0_doubled (l : Launch) (x : BitVec 8) : Met l yX0_doubled wsX0_doubled rmX0_doubled (va_Pc [.int (tq_eb x)] (fun _ => True)) (vp_Si (fun r => r = tq_eb (tq_d x))) 0 0 (fun _ => False) := by
  refine tw_metS (by decide) rfl rfl (Nat.le_of_ble_eq_true rfl) ?_
  intro p e s m args below meth c Q ls hx hb hml hown hts hend hl
  have hown : s.vm.findClass RX0 = some m.cls := hown
  have hl : lv_has ls 2 [(0, .int (tq_eb x))] := hl
  refine lv_iload_n hx hb dX0_doubled_0 rfl (lv_at hl 0 rfl) ?_
  refine lv_iconst (v := 1) hx hb dX0_doubled_1 (by decide) ?_
  refine lv_ishl hx hb dX0_doubled_2 ?_
  refine lv_topi (fun x1_3 ex1_3 => ?_)
  refine lv_istore_n (lv' := [(1, .int x1_3), (0, .int (tq_eb x))]) hx hb dX0_doubled_3 rfl hl (by decide) rfl (fun ls hl => ?_)
  refine lv_iload_n hx hb dX0_doubled_4 rfl (lv_at hl 0 rfl) ?_
  refine lv_sipush (v := 256) hx hb dX0_doubled_5 (by decide) ?_
  refine lv_icmp_ge (tgt := 15) hx hb dX0_doubled_8 (by decide) (fun c_8 => ?_) (fun c_8 => ?_)
  · refine lv_iload_n hx hb dX0_doubled_15 rfl (lv_at hl 0 rfl) ?_
    refine lv_sipush (v := 285) hx hb dX0_doubled_16 (by decide) ?_
    refine lv_ixor hx hb dX0_doubled_19 ?_
    refine tw_topr (x' := tq_eb (tq_d x)) (by rw [← tq_dbl_i x, ← ex1_3]; first | exact (if_pos c_8).symm | exact (if_neg c_8).symm) ?_
    exact hend _ _ dX0_doubled_20
  · refine lv_iload_n hx hb dX0_doubled_11 rfl (lv_at hl 0 rfl) ?_
    refine lv_goto (tgt := 20) hx hb dX0_doubled_12 (by decide) ?_
    refine tw_topr (x' := tq_eb (tq_d x)) (by rw [← tq_dbl_i x, ← ex1_3]; first | exact (if_pos c_8).symm | exact (if_neg c_8).symm) ?_
    exact hend _ _ dX0_doubled_20
abbrev rmX0_timesPower : Room := { frames := 1, cells := 0, slots := 0, locals := 21 }
theorem kdX0_timesPower : yX0_timesPower.cls ≠ "java/lang/invoke/MethodHandle" ∧ yX0_timesPower.cls ≠ "java/lang/invoke/VarHandle" ∧ (parseMethodDescriptor yX0_timesPower.desc).map (fun d => d.parameters.length) = some 2 := by decide +kernel
set_option maxHeartbeats 4000000 in
set_option maxRecDepth 100000 in
theorem c_X0_timesPower (l : Launch) (x : BitVec 8) (i : Nat) (hi : i < 2 ^ 31) : Met l yX0_timesPower wsX0_timesPower rmX0_timesPower (va_Pc [.int (tq_eb x), .int (nI i)] (fun _ => True)) (vp_Si (fun r => r = tq_eb (tq_p i x))) 0 0 (fun _ => False) := by
  refine tw_metS (by decide) rfl rfl (Nat.le_of_ble_eq_true rfl) ?_
  intro p e s m args below meth c Q ls hx hb hml hown hts hend hl
  have hown : s.vm.findClass RX0 = some m.cls := hown
  have hl : lv_has ls 4 [(0, .int (tq_eb x)), (1, .int (nI i))] := hl
  have loop : ∀ (n j : Nat) (ls : Array Slot), j + n = i → lv_has ls 4 [(0, .int (tq_eb x)), (1, .int (nI i)), (2, .int (tq_eb (tq_p j x))), (3, .int (nI j))] → W p l e rmX0_timesPower s m args below meth c s.heap [] 0 0 Q (F0 m 4 ls []) := by
    intro n
    induction n with
    | zero =>
      intro j ls hj hl
      refine lv_iload_n hx hb dX0_timesPower_4 rfl (lv_at hl 3 rfl) ?_
      refine lv_iload_n hx hb dX0_timesPower_5 rfl (lv_at hl 1 rfl) ?_
      refine lv_icmp_ge (tgt := 20) hx hb dX0_timesPower_6 (by decide) (fun c_6 => ?_) (fun c_6 => ?_)
      · refine lv_iload_n hx hb dX0_timesPower_20 rfl (lv_at hl 2 rfl) ?_
        refine tw_topr (x' := tq_eb (tq_p i x)) (by rw [show j = i by omega]) ?_
        exact hend _ _ dX0_timesPower_21
      · exact absurd (nI_le (by omega) (by omega)) c_6
    | succ n ih =>
      intro j ls hj hl
      refine lv_iload_n hx hb dX0_timesPower_4 rfl (lv_at hl 3 rfl) ?_
      refine lv_iload_n hx hb dX0_timesPower_5 rfl (lv_at hl 1 rfl) ?_
      refine lv_icmp_ge (tgt := 20) hx hb dX0_timesPower_6 (by decide) (fun c_6 => ?_) (fun c_6 => ?_)
      · exact absurd c_6 (nI_ge (by omega) (by omega))
      · refine lv_iload_n hx hb dX0_timesPower_9 rfl (lv_at hl 2 rfl) ?_
        refine tw_s ⟨hx, hb, hml, hown, hts⟩ (c_X0_doubled l (tq_p j x)) (va_cwS 1 hts gX0_timesPower_X0_doubled rfl rfl rfl kdX0_doubled ⟨Nat.le_of_ble_eq_true rfl, Nat.le_of_ble_eq_true rfl⟩) rfl hl.1 rfl (Nat.le_of_ble_eq_true rfl) dX0_timesPower_10 ⟨Nat.zero_le _, Nat.zero_le _⟩ ?_
        refine lv_istore_n (lv' := [(2, .int (tq_eb (tq_d (tq_p j x)))), (0, .int (tq_eb x)), (1, .int (nI i)), (3, .int (nI j))]) hx hb dX0_timesPower_13 rfl hl (by decide) rfl (fun ls hl => ?_)
        refine lv_iinc (v := nI (j + 1)) (lv' := [(3, .int (nI (j + 1))), (2, .int (tq_eb (tq_d (tq_p j x)))), (0, .int (tq_eb x)), (1, .int (nI i))]) hx hb dX0_timesPower_14 hl (k := 3) rfl (nI_1 j) (by decide) rfl (fun ls hl => ?_)
        refine lv_goto (tgt := 4) hx hb dX0_timesPower_17 (by decide) ?_
        exact ih (j + 1) ls (by omega) (lv_sub hl [2, 3, 1, 0] rfl)
  refine lv_iload_n hx hb dX0_timesPower_0 rfl (lv_at hl 0 rfl) ?_
  refine lv_istore_n (lv' := [(2, .int (tq_eb x)), (0, .int (tq_eb x)), (1, .int (nI i))]) hx hb dX0_timesPower_1 rfl hl (by decide) rfl (fun ls hl => ?_)
  refine lv_iconst (v := 0) hx hb dX0_timesPower_2 (by decide) ?_
  refine lv_istore_n (lv' := [(3, .int 0), (2, .int (tq_eb x)), (0, .int (tq_eb x)), (1, .int (nI i))]) hx hb dX0_timesPower_3 rfl hl (by decide) rfl (fun ls hl => ?_)
  exact loop i 0 ls (by omega) (lv_sub hl [2, 3, 1, 0] rfl)
abbrev rmX0_multiplied : Room := { frames := 1, cells := 0, slots := 0, locals := 21 }
theorem kdX0_multiplied : yX0_multiplied.cls ≠ "java/lang/invoke/MethodHandle" ∧ yX0_multiplied.cls ≠ "java/lang/invoke/VarHandle" ∧ (parseMethodDescriptor yX0_multiplied.desc).map (fun d => d.parameters.length) = some 2 := by decide +kernel
set_option maxHeartbeats 4000000 in
set_option maxRecDepth 100000 in
theorem c_X0_multiplied (l : Launch) (a b : BitVec 8) : Met l yX0_multiplied wsX0_multiplied rmX0_multiplied (va_Pc [.int (tq_eb a), .int (tq_eb b)] (fun _ => True)) (vp_Si (fun r => r = tq_eb (tq_m a b))) 0 0 (fun _ => False) := by
  refine tw_metS (by decide) rfl rfl (Nat.le_of_ble_eq_true rfl) ?_
  intro p e s m args below meth c Q ls hx hb hml hown hts hend hl
  have hown : s.vm.findClass RX0 = some m.cls := hown
  have hl : lv_has ls 5 [(0, .int (tq_eb a)), (1, .int (tq_eb b))] := hl
  have loop : ∀ (n j : Nat) (ls : Array Slot), j + n = 8 → lv_has ls 5 [(0, .int (tq_eb a)), (1, .int (tq_eb b)), (2, .int (tq_eb (tq_ms a b j))), (3, .int (tq_eb (tq_p j a))), (4, .int (nI j))] → W p l e rmX0_multiplied s m args below meth c s.heap [] 0 0 Q (F0 m 7 ls []) := by
    intro n
    induction n with
    | zero =>
      intro j ls hj hl
      refine lv_iload hx hb dX0_multiplied_7 (lv_at hl 4 rfl) ?_
      refine lv_bipush (v := 8) hx hb dX0_multiplied_9 (by decide) ?_
      refine lv_icmp_ge (tgt := 38) hx hb dX0_multiplied_11 (by decide) (fun c_11 => ?_) (fun c_11 => ?_)
      · refine lv_iload_n hx hb dX0_multiplied_38 rfl (lv_at hl 2 rfl) ?_
        refine tw_topr (x' := tq_eb (tq_m a b)) (by rw [show j = 8 by omega]; rfl) ?_
        exact hend _ _ dX0_multiplied_39
      · exact absurd (nI_le (a := 8) (by omega) (by omega)) c_11
    | succ n ih =>
      intro j ls hj hl
      refine lv_iload hx hb dX0_multiplied_7 (lv_at hl 4 rfl) ?_
      refine lv_bipush (v := 8) hx hb dX0_multiplied_9 (by decide) ?_
      refine lv_icmp_ge (tgt := 38) hx hb dX0_multiplied_11 (by decide) (fun c_11 => ?_) (fun c_11 => ?_)
      · exact absurd c_11 (nI_ge (b := 8) (by omega) (by omega))
      · refine lv_iload_n hx hb dX0_multiplied_14 rfl (lv_at hl 1 rfl) ?_
        refine lv_iload hx hb dX0_multiplied_15 (lv_at hl 4 rfl) ?_
        refine lv_ishr hx hb dX0_multiplied_17 ?_
        refine lv_iconst (v := 1) hx hb dX0_multiplied_18 (by decide) ?_
        refine lv_iand hx hb dX0_multiplied_19 ?_
        rw [tq_bit_i b j (by omega)]
        refine lv_if_eq (tgt := 27) hx hb dX0_multiplied_20 (by decide) (fun c_20 => ?_) (fun c_20 => ?_)
        · have hbit : b.getLsbD j = false := by cases hq : b.getLsbD j with | false => rfl | true => rw [hq] at c_20; exact absurd c_20 (by decide)
          refine lv_iload_n hx hb dX0_multiplied_27 rfl (lv_at hl 3 rfl) ?_
          refine tw_s ⟨hx, hb, hml, hown, hts⟩ (c_X0_doubled l (tq_p j a)) (va_cwS 1 hts gX0_multiplied_X0_doubled rfl rfl rfl kdX0_doubled ⟨Nat.le_of_ble_eq_true rfl, Nat.le_of_ble_eq_true rfl⟩) rfl hl.1 rfl (Nat.le_of_ble_eq_true rfl) dX0_multiplied_28 ⟨Nat.zero_le _, Nat.zero_le _⟩ ?_
          refine lv_istore_n (lv' := [(3, .int (tq_eb (tq_d (tq_p j a)))), (0, .int (tq_eb a)), (1, .int (tq_eb b)), (2, .int (tq_eb (tq_ms a b j))), (4, .int (nI j))]) hx hb dX0_multiplied_31 rfl hl (by decide) rfl (fun ls hl => ?_)
          refine lv_iinc (v := nI (j + 1)) (lv' := [(4, .int (nI (j + 1))), (3, .int (tq_eb (tq_d (tq_p j a)))), (0, .int (tq_eb a)), (1, .int (tq_eb b)), (2, .int (tq_eb (tq_ms a b j)))]) hx hb dX0_multiplied_32 hl (k := 4) rfl (nI_1 j) (by decide) rfl (fun ls hl => ?_)
          refine lv_goto (tgt := 7) hx hb dX0_multiplied_35 (by decide) ?_
          have hl : lv_has ls 5 [(0, .int (tq_eb a)), (1, .int (tq_eb b)), (2, .int (tq_eb (tq_ms a b (j + 1)))), (3, .int (tq_eb (tq_p (j + 1) a))), (4, .int (nI (j + 1)))] := by
            have := (lv_sub hl [2, 3, 4, 1, 0] rfl)
            simp only [tq_ms, hbit, if_true, Bool.false_eq_true, if_false]
            exact this
          exact ih (j + 1) ls (by omega) hl
        · have hbit : b.getLsbD j = true := by cases hq : b.getLsbD j with | true => rfl | false => rw [hq] at c_20; exact absurd rfl c_20
          refine lv_iload_n hx hb dX0_multiplied_23 rfl (lv_at hl 2 rfl) ?_
          refine lv_iload_n hx hb dX0_multiplied_24 rfl (lv_at hl 3 rfl) ?_
          refine lv_ixor hx hb dX0_multiplied_25 ?_
          refine tw_topr (x' := tq_eb (tq_ms a b j ^^^ tq_p j a)) (tq_eb_xor _ _) ?_
          refine lv_istore_n (lv' := [(2, .int (tq_eb (tq_ms a b j ^^^ tq_p j a))), (0, .int (tq_eb a)), (1, .int (tq_eb b)), (3, .int (tq_eb (tq_p j a))), (4, .int (nI j))]) hx hb dX0_multiplied_26 rfl hl (by decide) rfl (fun ls hl => ?_)
          refine lv_iload_n hx hb dX0_multiplied_27 rfl (lv_at hl 3 rfl) ?_
          refine tw_s ⟨hx, hb, hml, hown, hts⟩ (c_X0_doubled l (tq_p j a)) (va_cwS 1 hts gX0_multiplied_X0_doubled rfl rfl rfl kdX0_doubled ⟨Nat.le_of_ble_eq_true rfl, Nat.le_of_ble_eq_true rfl⟩) rfl hl.1 rfl (Nat.le_of_ble_eq_true rfl) dX0_multiplied_28 ⟨Nat.zero_le _, Nat.zero_le _⟩ ?_
          refine lv_istore_n (lv' := [(3, .int (tq_eb (tq_d (tq_p j a)))), (2, .int (tq_eb (tq_ms a b j ^^^ tq_p j a))), (0, .int (tq_eb a)), (1, .int (tq_eb b)), (4, .int (nI j))]) hx hb dX0_multiplied_31 rfl hl (by decide) rfl (fun ls hl => ?_)
          refine lv_iinc (v := nI (j + 1)) (lv' := [(4, .int (nI (j + 1))), (3, .int (tq_eb (tq_d (tq_p j a)))), (2, .int (tq_eb (tq_ms a b j ^^^ tq_p j a))), (0, .int (tq_eb a)), (1, .int (tq_eb b))]) hx hb dX0_multiplied_32 hl (k := 4) rfl (nI_1 j) (by decide) rfl (fun ls hl => ?_)
          refine lv_goto (tgt := 7) hx hb dX0_multiplied_35 (by decide) ?_
          have hl : lv_has ls 5 [(0, .int (tq_eb a)), (1, .int (tq_eb b)), (2, .int (tq_eb (tq_ms a b (j + 1)))), (3, .int (tq_eb (tq_p (j + 1) a))), (4, .int (nI (j + 1)))] := by
            have := (lv_sub hl [3, 4, 2, 1, 0] rfl)
            simp only [tq_ms, hbit, if_true, Bool.false_eq_true, if_false]
            exact this
          exact ih (j + 1) ls (by omega) hl
  refine lv_iconst (v := 0) hx hb dX0_multiplied_0 (by decide) ?_
  refine lv_istore_n (lv' := [(2, .int 0), (0, .int (tq_eb a)), (1, .int (tq_eb b))]) hx hb dX0_multiplied_1 rfl hl (by decide) rfl (fun ls hl => ?_)
  refine lv_iload_n hx hb dX0_multiplied_2 rfl (lv_at hl 1 rfl) ?_
  refine lv_istore_n (lv' := [(3, .int (tq_eb a)), (2, .int 0), (0, .int (tq_eb a)), (1, .int (tq_eb b))]) hx hb dX0_multiplied_3 rfl hl (by decide) rfl (fun ls hl => ?_)
  refine lv_iconst (v := 0) hx hb dX0_multiplied_4 (by decide) ?_
  refine lv_istore (lv' := [(4, .int 0), (3, .int (tq_eb a)), (2, .int 0), (0, .int (tq_eb a)), (1, .int (tq_eb b))]) hx hb dX0_multiplied_5 hl (by decide) rfl (fun ls hl => ?_)
  exact loop 8 0 ls (by omega) (lv_sub hl [3, 4, 2, 1, 0] rfl)
abbrev rmX0_inverse : Room := { frames := 2, cells := 0, slots := 0, locals := 45 }
theorem kdX0_inverse : yX0_inverse.cls ≠ "java/lang/invoke/MethodHandle" ∧ yX0_inverse.cls ≠ "java/lang/invoke/VarHandle" ∧ (parseMethodDescriptor yX0_inverse.desc).map (fun d => d.parameters.length) = some 1 := by decide +kernel
set_option maxHeartbeats 4000000 in
set_option maxRecDepth 100000 in
theorem c_X0_inverse (l : Launch) (a : BitVec 8) : Met l yX0_inverse wsX0_inverse rmX0_inverse (va_Pc [.int (tq_eb a)] (fun _ => True)) (vp_Si (fun r => r = tq_eb (tq_i a))) 0 0 (fun _ => False) := by
  refine tw_metS (by decide) rfl rfl (Nat.le_of_ble_eq_true rfl) ?_
  intro p e s m args below meth c Q ls hx hb hml hown hts hend hl
  have hown : s.vm.findClass RX0 = some m.cls := hown
  have hl : lv_has ls 4 [(0, .int (tq_eb a))] := hl
  have loop : ∀ (n j : Nat) (ls : Array Slot), j + n = 7 → lv_has ls 4 [(0, .int (tq_eb a)), (1, .int (tq_eb (tq_is a j).1)), (2, .int (tq_eb (tq_is a j).2)), (3, .int (nI (j + 1)))] → W p l e rmX0_inverse s m args below meth c s.heap [] 0 0 Q (F0 m 6 ls []) := by
    intro n
    induction n with
    | zero =>
      intro j ls hj hl
      refine lv_iload_n hx hb dX0_inverse_6 rfl (lv_at hl 3 rfl) ?_
      refine lv_bipush (v := 8) hx hb dX0_inverse_7 (by decide) ?_
      refine lv_icmp_ge (tgt := 30) hx hb dX0_inverse_9 (by decide) (fun c_9 => ?_) (fun c_9 => ?_)
      · refine lv_iload_n hx hb dX0_inverse_30 rfl (lv_at hl 2 rfl) ?_
        refine tw_topr (x' := tq_eb (tq_i a)) (by rw [show j = 7 by omega]; rfl) ?_
        exact hend _ _ dX0_inverse_31
      · exact absurd (nI_le (a := 8) (by omega) (by omega)) c_9
    | succ n ih =>
      intro j ls hj hl
      refine lv_iload_n hx hb dX0_inverse_6 rfl (lv_at hl 3 rfl) ?_
      refine lv_bipush (v := 8) hx hb dX0_inverse_7 (by decide) ?_
      refine lv_icmp_ge (tgt := 30) hx hb dX0_inverse_9 (by decide) (fun c_9 => ?_) (fun c_9 => ?_)
      · exact absurd c_9 (nI_ge (b := 8) (by omega) (by omega))
      · refine lv_iload_n hx hb dX0_inverse_12 rfl (lv_at hl 1 rfl) ?_
        refine lv_iload_n hx hb dX0_inverse_13 rfl (lv_at hl 1 rfl) ?_
        refine tw_s ⟨hx, hb, hml, hown, hts⟩ (c_X0_multiplied l (tq_is a j).1 (tq_is a j).1) (va_cwS 2 hts gX0_inverse_X0_multiplied rfl rfl rfl kdX0_multiplied ⟨Nat.le_of_ble_eq_true rfl, Nat.le_of_ble_eq_true rfl⟩) rfl hl.1 rfl (Nat.le_of_ble_eq_true rfl) dX0_inverse_14 ⟨Nat.zero_le _, Nat.zero_le _⟩ ?_
        refine lv_istore_n (lv' := [(1, .int (tq_eb (tq_m (tq_is a j).1 (tq_is a j).1))), (0, .int (tq_eb a)), (2, .int (tq_eb (tq_is a j).2)), (3, .int (nI (j + 1)))]) hx hb dX0_inverse_17 rfl hl (by decide) rfl (fun ls hl => ?_)
        refine lv_iload_n hx hb dX0_inverse_18 rfl (lv_at hl 2 rfl) ?_
        refine lv_iload_n hx hb dX0_inverse_19 rfl (lv_at hl 0 rfl) ?_
        refine tw_s ⟨hx, hb, hml, hown, hts⟩ (c_X0_multiplied l (tq_is a j).2 (tq_m (tq_is a j).1 (tq_is a j).1)) (va_cwS 2 hts gX0_inverse_X0_multiplied rfl rfl rfl kdX0_multiplied ⟨Nat.le_of_ble_eq_true rfl, Nat.le_of_ble_eq_true rfl⟩) rfl hl.1 rfl (Nat.le_of_ble_eq_true rfl) dX0_inverse_20 ⟨Nat.zero_le _, Nat.zero_le _⟩ ?_
        refine lv_istore_n (lv' := [(2, .int (tq_eb (tq_m (tq_is a j).2 (tq_m (tq_is a j).1 (tq_is a j).1)))), (1, .int (tq_eb (tq_m (tq_is a j).1 (tq_is a j).1))), (0, .int (tq_eb a)), (3, .int (nI (j + 1)))]) hx hb dX0_inverse_23 rfl hl (by decide) rfl (fun ls hl => ?_)
        refine lv_iinc (v := nI (j + 2)) (lv' := [(3, .int (nI (j + 2))), (2, .int (tq_eb (tq_m (tq_is a j).2 (tq_m (tq_is a j).1 (tq_is a j).1)))), (1, .int (tq_eb (tq_m (tq_is a j).1 (tq_is a j).1))), (0, .int (tq_eb a))]) hx hb dX0_inverse_24 hl (k := 3) rfl (nI_1 (j + 1)) (by decide) rfl (fun ls hl => ?_)
        refine lv_goto (tgt := 6) hx hb dX0_inverse_27 (by decide) ?_
        exact ih (j + 1) ls (by omega) (lv_sub hl [3, 2, 1, 0] rfl)
  refine lv_iload_n hx hb dX0_inverse_0 rfl (lv_at hl 0 rfl) ?_
  refine lv_istore_n (lv' := [(1, .int (tq_eb a)), (0, .int (tq_eb a))]) hx hb dX0_inverse_1 rfl hl (by decide) rfl (fun ls hl => ?_)
  refine lv_iconst (v := 1) hx hb dX0_inverse_2 (by decide) ?_
  refine lv_istore_n (lv' := [(2, .int 1), (1, .int (tq_eb a)), (0, .int (tq_eb a))]) hx hb dX0_inverse_3 rfl hl (by decide) rfl (fun ls hl => ?_)
  refine lv_iconst (v := 1) hx hb dX0_inverse_4 (by decide) ?_
  refine lv_istore_n (lv' := [(3, .int 1), (2, .int 1), (1, .int (tq_eb a)), (0, .int (tq_eb a))]) hx hb dX0_inverse_5 rfl hl (by decide) rfl (fun ls hl => ?_)
  exact loop 7 0 ls (by omega) (lv_sub hl [3, 2, 1, 0] rfl)
abbrev rmX0_isSpan : Room := { frames := 0, cells := 0, slots := 0, locals := 0 }
theorem kdX0_isSpan : yX0_isSpan.cls ≠ "java/lang/invoke/MethodHandle" ∧ yX0_isSpan.cls ≠ "java/lang/invoke/VarHandle" ∧ (parseMethodDescriptor yX0_isSpan.desc).map (fun d => d.parameters.length) = some 3 := by decide +kernel
set_option maxHeartbeats 4000000 in
set_option maxRecDepth 100000 in
theorem c_X0_isSpan (l : Launch) (z n most : Int32) : Met l yX0_isSpan wsX0_isSpan rmX0_isSpan (va_Pc [.int z, .int n, .int most] (fun _ => True)) (vp_Si (fun r => r = tw_bI (tw_sp z n most))) 0 0 (fun _ => False) := by
  refine tw_metT (by decide) rfl rfl (Nat.le_of_ble_eq_true rfl) ?_
  intro p e s m args below meth c Q ls hx hb hml hown hts hend hl
  have hown : s.vm.findClass RX0 = some m.cls := hown
  have hl : lv_has ls 3 [(0, .int z), (1, .int n), (2, .int most)] := hl
  refine lv_iload_n hx hb dX0_isSpan_0 rfl (lv_at hl 1 rfl) ?_
  refine lv_iconst (v := 1) hx hb dX0_isSpan_1 (by decide) ?_
  refine lv_icmp_lt (tgt := 26) hx hb dX0_isSpan_2 (by decide) (fun c_2 => ?_) (fun c_2 => ?_)
  · refine lv_iconst (v := 0) hx hb dX0_isSpan_26 (by decide) ?_
    refine tw_topr (x' := tw_bI (tw_sp z n most)) (by simp [tw_sp, tw_bI, *]) ?_
    exact hend _ _ dX0_isSpan_27
  · refine lv_iload_n hx hb dX0_isSpan_5 rfl (lv_at hl 1 rfl) ?_
    refine lv_iload_n hx hb dX0_isSpan_6 rfl (lv_at hl 2 rfl) ?_
    refine lv_icmp_gt (tgt := 26) hx hb dX0_isSpan_7 (by decide) (fun c_7 => ?_) (fun c_7 => ?_)
    · refine lv_iconst (v := 0) hx hb dX0_isSpan_26 (by decide) ?_
      refine tw_topr (x' := tw_bI (tw_sp z n most)) (by simp [tw_sp, tw_bI, *]) ?_
      exact hend _ _ dX0_isSpan_27
    · refine lv_iload_n hx hb dX0_isSpan_10 rfl (lv_at hl 0 rfl) ?_
      refine lv_if_lt (tgt := 26) hx hb dX0_isSpan_11 (by decide) (fun c_11 => ?_) (fun c_11 => ?_)
      · refine lv_iconst (v := 0) hx hb dX0_isSpan_26 (by decide) ?_
        refine tw_topr (x' := tw_bI (tw_sp z n most)) (by simp [tw_sp, tw_bI, *]) ?_
        exact hend _ _ dX0_isSpan_27
      · refine lv_iload_n hx hb dX0_isSpan_14 rfl (lv_at hl 0 rfl) ?_
        refine lv_bipush (v := 64) hx hb dX0_isSpan_15 (by decide) ?_
        refine lv_iload_n hx hb dX0_isSpan_17 rfl (lv_at hl 1 rfl) ?_
        refine lv_isub hx hb dX0_isSpan_18 ?_
        refine lv_icmp_gt (tgt := 26) hx hb dX0_isSpan_19 (by decide) (fun c_19 => ?_) (fun c_19 => ?_)
        · refine lv_iconst (v := 0) hx hb dX0_isSpan_26 (by decide) ?_
          refine tw_topr (x' := tw_bI (tw_sp z n most)) (by simp [tw_sp, tw_bI, *]) ?_
          exact hend _ _ dX0_isSpan_27
        · refine lv_iconst (v := 1) hx hb dX0_isSpan_22 (by decide) ?_
          refine lv_goto (tgt := 27) hx hb dX0_isSpan_23 (by decide) ?_
          refine tw_topr (x' := tw_bI (tw_sp z n most)) (by simp [tw_sp, tw_bI, *]) ?_
          exact hend _ _ dX0_isSpan_27
abbrev rmX0_isElement : Room := { frames := 0, cells := 0, slots := 0, locals := 0 }
theorem kdX0_isElement : yX0_isElement.cls ≠ "java/lang/invoke/MethodHandle" ∧ yX0_isElement.cls ≠ "java/lang/invoke/VarHandle" ∧ (parseMethodDescriptor yX0_isElement.desc).map (fun d => d.parameters.length) = some 1 := by decide +kernel
set_option maxHeartbeats 4000000 in
set_option maxRecDepth 100000 in
theorem c_X0_isElement (l : Launch) (x : Int32) : Met l yX0_isElement wsX0_isElement rmX0_isElement (va_Pc [.int x] (fun _ => True)) (vp_Si (fun r => r = tw_bI (tw_el x))) 0 0 (fun _ => False) := by
  refine tw_metT (by decide) rfl rfl (Nat.le_of_ble_eq_true rfl) ?_
  intro p e s m args below meth c Q ls hx hb hml hown hts hend hl
  have hown : s.vm.findClass RX0 = some m.cls := hown
  have hl : lv_has ls 1 [(0, .int x)] := hl
  refine lv_iload_n hx hb dX0_isElement_0 rfl (lv_at hl 0 rfl) ?_
  refine lv_if_lt (tgt := 15) hx hb dX0_isElement_1 (by decide) (fun c_1 => ?_) (fun c_1 => ?_)
  · refine lv_iconst (v := 0) hx hb dX0_isElement_15 (by decide) ?_
    refine tw_topr (x' := tw_bI (tw_el x)) (by simp [tw_el, tw_bI, *]) ?_
    exact hend _ _ dX0_isElement_16
  · refine lv_iload_n hx hb dX0_isElement_4 rfl (lv_at hl 0 rfl) ?_
    refine lv_sipush (v := 256) hx hb dX0_isElement_5 (by decide) ?_
    refine lv_icmp_ge (tgt := 15) hx hb dX0_isElement_8 (by decide) (fun c_8 => ?_) (fun c_8 => ?_)
    · refine lv_iconst (v := 0) hx hb dX0_isElement_15 (by decide) ?_
      refine tw_topr (x' := tw_bI (tw_el x)) (by simp [tw_el, tw_bI, *]) ?_
      exact hend _ _ dX0_isElement_16
    · refine lv_iconst (v := 1) hx hb dX0_isElement_11 (by decide) ?_
      refine lv_goto (tgt := 16) hx hb dX0_isElement_12 (by decide) ?_
      refine tw_topr (x' := tw_bI (tw_el x)) (by simp [tw_el, tw_bI, *]) ?_
      exact hend _ _ dX0_isElement_16
abbrev rmX0_units : Room := { frames := 0, cells := 0, slots := 0, locals := 0 }
theorem inX0_units : ∀ w ∈ wsX00, w ∈ wsX0_units := fun _ h => List.mem_cons_of_mem _ (List.mem_append_right _ h)
theorem fX0_units_13 : Cond.fieldLink RX0 13 "TwinParity" "dataUnits" "I" ∈ wsX0_units := List.mem_of_getElem? (i := 1) rfl
theorem kdX0_units : yX0_units.cls = RX0 ∧ yX0_units.cls ≠ "java/lang/invoke/MethodHandle" ∧ yX0_units.cls ≠ "java/lang/invoke/VarHandle" ∧ (parseMethodDescriptor yX0_units.desc).map (fun d => d.parameters.length) = some 0 := by decide +kernel
set_option maxHeartbeats 4000000 in
set_option maxRecDepth 100000 in
theorem c_X0_units (l : Launch) (D : va_G) (cA : ClassId) (h0 a0 k : Nat) (lo : Int32) (F : Nat → BitVec 8)  : Met l yX0_units wsX0_units rmX0_units (va_Pc [.ref h0] (tw_B D (tw_X cA h0 a0 k lo F) (tw_tX cA))) (vp_Si (fun r => r = nI (k + 2))) 0 0 (fun _ => False) := by
  refine tw_metR (by decide) rfl rfl (Nat.le_of_ble_eq_true rfl) ?_
  intro p e s m args below meth c Q ls hx hb hml hown hts hP hK hend hl
  have hown : s.vm.findClass RX0 = some m.cls := hown
  have hl : lv_has ls 1 [(0, .ref h0)] := hl
  refine lv_aload_n hx hb dX0_units_0 rfl (lv_at hl 0 rfl) ?_
  refine va_get (D := D) (ci := 0) (v := .int (nI k)) (C := RX0) (T := TX0) (N := 3) hx hb hts inX0_units hown hK hP 0 rfl rfl 1 (by decide) (hts _ fX0_units_13) (fun _ h9 => h9) rfl dX0_units_1 ?_
  refine lv_iconst (v := 2) hx hb dX0_units_4 (by decide) ?_
  refine lv_iadd hx hb dX0_units_5 ?_
  refine tw_topr (x' := nI (k + 2)) (nI_add k 2) ?_
  exact hend _ _ dX0_units_6
abbrev rmX0_unitP : Room := { frames := 0, cells := 0, slots := 0, locals := 0 }
theorem inX0_unitP : ∀ w ∈ wsX00, w ∈ wsX0_unitP := fun _ h => List.mem_cons_of_mem _ (List.mem_append_right _ h)
theorem fX0_unitP_13 : Cond.fieldLink RX0 13 "TwinParity" "dataUnits" "I" ∈ wsX0_unitP := List.mem_of_getElem? (i := 1) rfl
theorem kdX0_unitP : yX0_unitP.cls = RX0 ∧ yX0_unitP.cls ≠ "java/lang/invoke/MethodHandle" ∧ yX0_unitP.cls ≠ "java/lang/invoke/VarHandle" ∧ (parseMethodDescriptor yX0_unitP.desc).map (fun d => d.parameters.length) = some 0 := by decide +kernel
set_option maxHeartbeats 4000000 in
set_option maxRecDepth 100000 in
theorem c_X0_unitP (l : Launch) (D : va_G) (cA : ClassId) (h0 a0 k : Nat) (lo : Int32) (F : Nat → BitVec 8)  : Met l yX0_unitP wsX0_unitP rmX0_unitP (va_Pc [.ref h0] (tw_B D (tw_X cA h0 a0 k lo F) (tw_tX cA))) (vp_Si (fun r => r = nI k)) 0 0 (fun _ => False) := by
  refine tw_metR (by decide) rfl rfl (Nat.le_of_ble_eq_true rfl) ?_
  intro p e s m args below meth c Q ls hx hb hml hown hts hP hK hend hl
  have hown : s.vm.findClass RX0 = some m.cls := hown
  have hl : lv_has ls 1 [(0, .ref h0)] := hl
  refine lv_aload_n hx hb dX0_unitP_0 rfl (lv_at hl 0 rfl) ?_
  refine va_get (D := D) (ci := 0) (v := .int (nI k)) (C := RX0) (T := TX0) (N := 3) hx hb hts inX0_unitP hown hK hP 0 rfl rfl 1 (by decide) (hts _ fX0_unitP_13) (fun _ h9 => h9) rfl dX0_unitP_1 ?_
  exact hend _ _ dX0_unitP_4
abbrev rmX0_unitQ : Room := { frames := 0, cells := 0, slots := 0, locals := 0 }
theorem inX0_unitQ : ∀ w ∈ wsX00, w ∈ wsX0_unitQ := fun _ h => List.mem_cons_of_mem _ (List.mem_append_right _ h)
theorem fX0_unitQ_13 : Cond.fieldLink RX0 13 "TwinParity" "dataUnits" "I" ∈ wsX0_unitQ := List.mem_of_getElem? (i := 1) rfl
theorem kdX0_unitQ : yX0_unitQ.cls = RX0 ∧ yX0_unitQ.cls ≠ "java/lang/invoke/MethodHandle" ∧ yX0_unitQ.cls ≠ "java/lang/invoke/VarHandle" ∧ (parseMethodDescriptor yX0_unitQ.desc).map (fun d => d.parameters.length) = some 0 := by decide +kernel
set_option maxHeartbeats 4000000 in
set_option maxRecDepth 100000 in
theorem c_X0_unitQ (l : Launch) (D : va_G) (cA : ClassId) (h0 a0 k : Nat) (lo : Int32) (F : Nat → BitVec 8)  : Met l yX0_unitQ wsX0_unitQ rmX0_unitQ (va_Pc [.ref h0] (tw_B D (tw_X cA h0 a0 k lo F) (tw_tX cA))) (vp_Si (fun r => r = nI (k + 1))) 0 0 (fun _ => False) := by
  refine tw_metR (by decide) rfl rfl (Nat.le_of_ble_eq_true rfl) ?_
  intro p e s m args below meth c Q ls hx hb hml hown hts hP hK hend hl
  have hown : s.vm.findClass RX0 = some m.cls := hown
  have hl : lv_has ls 1 [(0, .ref h0)] := hl
  refine lv_aload_n hx hb dX0_unitQ_0 rfl (lv_at hl 0 rfl) ?_
  refine va_get (D := D) (ci := 0) (v := .int (nI k)) (C := RX0) (T := TX0) (N := 3) hx hb hts inX0_unitQ hown hK hP 0 rfl rfl 1 (by decide) (hts _ fX0_unitQ_13) (fun _ h9 => h9) rfl dX0_unitQ_1 ?_
  refine lv_iconst (v := 1) hx hb dX0_unitQ_4 (by decide) ?_
  refine lv_iadd hx hb dX0_unitQ_5 ?_
  refine tw_topr (x' := nI (k + 1)) (nI_add k 1) ?_
  exact hend _ _ dX0_unitQ_6
abbrev rmX0_isLost : Room := { frames := 0, cells := 0, slots := 0, locals := 0 }
theorem inX0_isLost : ∀ w ∈ wsX00, w ∈ wsX0_isLost := fun _ h => List.mem_cons_of_mem _ (List.mem_append_right _ h)
theorem fX0_isLost_17 : Cond.fieldLink RX0 17 "TwinParity" "lostUnits" "I" ∈ wsX0_isLost := List.mem_of_getElem? (i := 1) rfl
theorem kdX0_isLost : yX0_isLost.cls = RX0 ∧ yX0_isLost.cls ≠ "java/lang/invoke/MethodHandle" ∧ yX0_isLost.cls ≠ "java/lang/invoke/VarHandle" ∧ (parseMethodDescriptor yX0_isLost.desc).map (fun d => d.parameters.length) = some 1 := by decide +kernel
set_option maxHeartbeats 4000000 in
set_option maxRecDepth 100000 in
theorem c_X0_isLost (l : Launch) (D : va_G) (cA : ClassId) (h0 a0 k : Nat) (lo : Int32) (F : Nat → BitVec 8) (u : Nat) : Met l yX0_isLost wsX0_isLost rmX0_isLost (va_Pc [.ref h0, .int (nI u)] (tw_B D (tw_X cA h0 a0 k lo F) (tw_tX cA))) (vp_Si (fun r => r = tw_bI (tw_lb lo u))) 0 0 (fun _ => False) := by
  refine tw_metZ (by decide) rfl rfl (Nat.le_of_ble_eq_true rfl) ?_
  intro p e s m args below meth c Q ls hx hb hml hown hts hP hK hend hl
  have hown : s.vm.findClass RX0 = some m.cls := hown
  have hl : lv_has ls 2 [(0, .ref h0), (1, .int (nI u))] := hl
  refine lv_aload_n hx hb dX0_isLost_0 rfl (lv_at hl 0 rfl) ?_
  refine va_get (D := D) (ci := 0) (v := .int lo) (C := RX0) (T := TX0) (N := 3) hx hb hts inX0_isLost hown hK hP 0 rfl rfl 2 (by decide) (hts _ fX0_isLost_17) (fun _ h9 => h9) rfl dX0_isLost_1 ?_
  refine lv_iload_n hx hb dX0_isLost_4 rfl (lv_at hl 1 rfl) ?_
  refine lv_ishr hx hb dX0_isLost_5 ?_
  refine lv_iconst (v := 1) hx hb dX0_isLost_6 (by decide) ?_
  refine lv_iand hx hb dX0_isLost_7 ?_
  refine lv_if_eq (tgt := 15) hx hb dX0_isLost_8 (by decide) (fun c_8 => ?_) (fun c_8 => ?_)
  · refine lv_iconst (v := 0) hx hb dX0_isLost_15 (by decide) ?_
    refine tw_topr (x' := tw_bI (tw_lb lo u)) (by simp [tw_lb, tw_bI, c_8]) ?_
    exact hend _ _ dX0_isLost_16
  · refine lv_iconst (v := 1) hx hb dX0_isLost_11 (by decide) ?_
    refine lv_goto (tgt := 16) hx hb dX0_isLost_12 (by decide) ?_
    refine tw_topr (x' := tw_bI (tw_lb lo u)) (by simp [tw_lb, tw_bI, c_8]) ?_
    exact hend _ _ dX0_isLost_16
abbrev rmX0_isThere : Room := { frames := 1, cells := 0, slots := 0, locals := 21 }
theorem inX0_isThere : ∀ w ∈ wsX00, w ∈ wsX0_isThere := fun _ h => List.mem_cons_of_mem _ (List.mem_append_right _ h)
theorem fX0_isThere_13 : Cond.fieldLink RX0 13 "TwinParity" "dataUnits" "I" ∈ wsX0_isThere := List.mem_of_getElem? (i := 6) rfl
theorem fX0_isThere_17 : Cond.fieldLink RX0 17 "TwinParity" "lostUnits" "I" ∈ wsX0_isThere := List.mem_of_getElem? (i := 11) rfl
theorem kdX0_isThere : yX0_isThere.cls = RX0 ∧ yX0_isThere.cls ≠ "java/lang/invoke/MethodHandle" ∧ yX0_isThere.cls ≠ "java/lang/invoke/VarHandle" ∧ (parseMethodDescriptor yX0_isThere.desc).map (fun d => d.parameters.length) = some 1 := by decide +kernel
set_option maxHeartbeats 4000000 in
set_option maxRecDepth 100000 in
theorem c_X0_isThere (l : Launch) (D : va_G) (cA : ClassId) (h0 a0 k : Nat) (lo : Int32) (F : Nat → BitVec 8) (x : Int32) (hk : k ≤ 14) : Met l yX0_isThere wsX0_isThere rmX0_isThere (va_Pc [.ref h0, .int x] (tw_B D (tw_X cA h0 a0 k lo F) (tw_tX cA))) (vp_Si (fun r => r = tw_bI (tw_th k lo x))) 0 0 (fun _ => False) := by
  refine tw_metZ (by decide) rfl rfl (Nat.le_of_ble_eq_true rfl) ?_
  intro p e s m args below meth c Q ls hx hb hml hown hts hP hK hend hl
  have hown : s.vm.findClass RX0 = some m.cls := hown
  have hl : lv_has ls 2 [(0, .ref h0), (1, .int x)] := hl
  generalize hE : tw_th k lo x = E at hend
  refine lv_iload_n hx hb dX0_isThere_0 rfl (lv_at hl 1 rfl) ?_
  refine lv_if_lt (tgt := 24) hx hb dX0_isThere_1 (by decide) (fun c_1 => ?_) (fun c_1 => ?_)
  · refine lv_iconst (v := 0) hx hb dX0_isThere_24 (by decide) ?_
    refine tw_topr (x' := tw_bI E) (by rw [← hE]; simp [tw_th, tw_bI, *]) ?_
    exact hend _ _ dX0_isThere_25
  · refine lv_iload_n hx hb dX0_isThere_4 rfl (lv_at hl 1 rfl) ?_
    refine lv_aload_n hx hb dX0_isThere_5 rfl (lv_at hl 0 rfl) ?_
    refine tw_rX ⟨hx, hb, hml, hown, hts⟩ hK hP (c_X0_units l D cA h0 a0 k lo F ) (cwV 0 hts gX0_isThere_X0_units rfl rfl rfl kdX0_units ⟨Nat.le_of_ble_eq_true rfl, Nat.le_of_ble_eq_true rfl⟩) rfl hl.1 rfl (Nat.le_of_ble_eq_true rfl) dX0_isThere_6 ⟨Nat.zero_le _, Nat.zero_le _⟩ ?_
    refine lv_icmp_ge (tgt := 24) hx hb dX0_isThere_9 (by decide) (fun c_9 => ?_) (fun c_9 => ?_)
    · refine lv_iconst (v := 0) hx hb dX0_isThere_24 (by decide) ?_
      refine tw_topr (x' := tw_bI E) (by rw [← hE]; simp [tw_th, tw_bI, *]) ?_
      exact hend _ _ dX0_isThere_25
    · obtain ⟨u, hu, rfl⟩ := nI_of c_1
      have hcl : (nI u).toNatClampNeg = u := nI_clamp hu
      have hl : lv_has ls 2 [(0, .ref h0), (1, .int (nI u))] := hl
      refine lv_aload_n hx hb dX0_isThere_12 rfl (lv_at hl 0 rfl) ?_
      refine lv_iload_n hx hb dX0_isThere_13 rfl (lv_at hl 1 rfl) ?_
      refine tw_rX ⟨hx, hb, hml, hown, hts⟩ hK hP (c_X0_isLost l D cA h0 a0 k lo F u) (cwV 1 hts gX0_isThere_X0_isLost rfl rfl rfl kdX0_isLost ⟨Nat.le_of_ble_eq_true rfl, Nat.le_of_ble_eq_true rfl⟩) rfl hl.1 rfl (Nat.le_of_ble_eq_true rfl) dX0_isThere_14 ⟨Nat.zero_le _, Nat.zero_le _⟩ ?_
      refine lv_if_ne (tgt := 24) hx hb dX0_isThere_17 (by decide) (fun c_17 => ?_) (fun c_17 => ?_)
      · rw [tw_bI1] at c_17
        refine lv_iconst (v := 0) hx hb dX0_isThere_24 (by decide) ?_
        refine tw_topr (x' := tw_bI E) (by rw [← hE]; simp [tw_th, tw_bI, *]) ?_
        exact hend _ _ dX0_isThere_25
      · rw [tw_bI0] at c_17
        refine lv_iconst (v := 1) hx hb dX0_isThere_20 (by decide) ?_
        refine lv_goto (tgt := 25) hx hb dX0_isThere_21 (by decide) ?_
        refine tw_topr (x' := tw_bI E) (by rw [← hE]; simp [tw_th, tw_bI, *]) ?_
        exact hend _ _ dX0_isThere_25
