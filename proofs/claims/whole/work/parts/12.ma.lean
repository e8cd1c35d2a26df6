/-! ===== words of the reference ===== -/
def tw_ml (g : Nat → Bool) (c : Nat → BitVec 8) (u : Nat) : BitVec 8 := if g u then 0#8 else c u
def tw_sm (b : Bool) (c : Nat → BitVec 8) (n : Nat) : BitVec 8 := if b then tq_qs c n else tq_xs c n
def tw_mc (g : Nat → Bool) : Nat → Nat
  | 0 => 0
  | n + 1 => tw_mc g n + (if g n then 1 else 0)
def tw_nu (k : Nat) (x : Int32) : Bool := decide (x < 0) || !decide (x < nI (k + 2))
theorem tq_nI {j : Nat} (h : j < 256) : nI j = tq_eb (BitVec.ofNat 8 j) := by
  unfold tq_eb
  rw [BitVec.toNat_ofNat, Nat.mod_eq_of_lt h]
theorem tq_ebN (x : BitVec 8) : tq_eb x = nI x.toNat := rfl
theorem tw_p_i (k : Nat) : nI (k + 2) - 2 = nI k := pk_sub (a := k + 2) (b := 2) (by omega)
theorem tw_q_i (k : Nat) : nI (k + 2) - 1 = nI (k + 1) := pk_sub (a := k + 2) (b := 1) (by omega)
theorem tw_mc_le (g : Nat → Bool) (n : Nat) : tw_mc g n ≤ n := by
  induction n with
  | zero => exact Nat.le_refl 0
  | succ n ih =>
    unfold tw_mc
    split <;> omega
abbrev rmX1_times : Room := { frames := 0, cells := 0, slots := 0, locals := 0 }
theorem kdX1_times : yX1_times.cls = RX1 ∧ yX1_times.cls ≠ "java/lang/invoke/MethodHandle" ∧ yX1_times.cls ≠ "java/lang/invoke/VarHandle" ∧ (parseMethodDescriptor yX1_times.desc).map (fun d => d.parameters.length) = some 2 := by decide +kernel
set_option maxHeartbeats 4000000 in
set_option maxRecDepth 100000 in
theorem c_X1_times (l : Launch) (D : va_G) (cA cB : ClassId) (h0 a0 b0 k : Nat) (F : Nat → BitVec 8) (g : Nat → Bool) (a b : BitVec 8) : Met l yX1_times wsX1_times rmX1_times (va_Pc [.ref h0, .int (tq_eb a), .int (tq_eb b)] (tw_B D (tw_M cA cB h0 a0 b0 k F g) (tw_tM cA cB))) (vp_Si (fun r => r = tq_eb (tq_m a b))) 0 0 (fun _ => False) := by
  refine tw_metR (by decide) rfl rfl (Nat.le_of_ble_eq_true rfl) ?_
  intro p e s m args below meth c Q ls hx hb hml hown hts hP hK hend hl
  have hown : s.vm.findClass RX1 = some m.cls := hown
  have hl : lv_has ls 6 [(0, .ref h0), (1, .int (tq_eb a)), (2, .int (tq_eb b))] := hl
  have loop : ∀ (n j : Nat) (ls : Array Slot), j + n = 8 → lv_has ls 6 [(0, .ref h0), (1, .int (tq_eb a)), (2, .int (tq_eb b)), (3, .int (tq_eb (tq_ms a b j))), (4, .int (tq_eb (tq_p j a))), (5, .int (nI j))] → W p l e rmX1_times s m args below meth c s.heap [] 0 0 Q (F0 m 8 ls []) := by
    intro n
    induction n with
    | zero =>
      intro j ls hj hl
      refine lv_iload hx hb dX1_times_8 (lv_at hl 5 rfl) ?_
      refine lv_bipush (v := 8) hx hb dX1_times_10 (by decide) ?_
      refine lv_icmp_ge (tgt := 65) hx hb dX1_times_12 (by decide) (fun c_12 => ?_) (fun c_12 => ?_)
      · refine lv_iload_n hx hb dX1_times_65 rfl (lv_at hl 3 rfl) ?_
        refine tw_topr (x' := tq_eb (tq_m a b)) (by rw [show j = 8 by omega]; rfl) ?_
        exact hend _ _ dX1_times_66
      · exact absurd (nI_le (a := 8) (by omega) (by omega)) c_12
    | succ n ih =>
      intro j ls hj hl
      refine lv_iload hx hb dX1_times_8 (lv_at hl 5 rfl) ?_
      refine lv_bipush (v := 8) hx hb dX1_times_10 (by decide) ?_
      refine lv_icmp_ge (tgt := 65) hx hb dX1_times_12 (by decide) (fun c_12 => ?_) (fun c_12 => ?_)
      · exact absurd c_12 (nI_ge (b := 8) (by omega) (by omega))
      · refine lv_iload_n hx hb dX1_times_15 rfl (lv_at hl 2 rfl) ?_
        refine lv_iload hx hb dX1_times_16 (lv_at hl 5 rfl) ?_
        refine lv_ishr hx hb dX1_times_18 ?_
        refine lv_iconst (v := 1) hx hb dX1_times_19 (by decide) ?_
        refine lv_iand hx hb dX1_times_20 ?_
        refine tw_topr (x' := if b.getLsbD j then 1 else 0) (tq_bit_i b j (by omega)) ?_
        refine lv_iconst (v := 1) hx hb dX1_times_21 (by decide) ?_
        refine lv_icmp_ne (tgt := 32) hx hb dX1_times_22 (by decide) (fun c_22 => ?_) (fun c_22 => ?_)
        · have hbit : b.getLsbD j = false := by cases hq : b.getLsbD j with | false => rfl | true => rw [hq] at c_22; exact absurd rfl c_22
          refine lv_iload_n hx hb dX1_times_32 rfl (lv_at hl 3 rfl) ?_
          refine tw_topr (x' := tq_eb (tq_ms a b (j + 1))) (by first | (rw [tq_eb_xor]; simp [tq_ms, hbit]; done) | (simp [tq_ms, hbit]; done)) ?_
          refine lv_istore_n (lv' := [(3, .int (tq_eb (tq_ms a b (j + 1)))), (0, .ref h0), (1, .int (tq_eb a)), (2, .int (tq_eb b)), (4, .int (tq_eb (tq_p j a))), (5, .int (nI j))]) hx hb dX1_times_33 rfl hl (by decide) rfl (fun ls hl => ?_)
          refine lv_iload hx hb dX1_times_34 (lv_at hl 4 rfl) ?_
          refine lv_sipush (v := 128) hx hb dX1_times_36 (by decide) ?_
          refine lv_icmp_ge (tgt := 49) hx hb dX1_times_39 (by decide) (fun c_39 => ?_) (fun c_39 => ?_)
          · refine lv_iconst (v := 2) hx hb dX1_times_49 (by decide) ?_
            refine lv_iload hx hb dX1_times_50 (lv_at hl 4 rfl) ?_
            refine lv_imul hx hb dX1_times_52 ?_
            refine lv_sipush (v := 285) hx hb dX1_times_53 (by decide) ?_
            refine lv_ixor hx hb dX1_times_56 ?_
            refine tw_topr (x' := tq_eb (tq_p (j + 1) a)) (by show _ = tq_eb (tq_d (tq_p j a)); rw [← tq_dbl_m]; first | exact (if_pos c_39).symm | exact (if_neg c_39).symm) ?_
            refine lv_istore (lv' := [(4, .int (tq_eb (tq_p (j + 1) a))), (3, .int (tq_eb (tq_ms a b (j + 1)))), (0, .ref h0), (1, .int (tq_eb a)), (2, .int (tq_eb b)), (5, .int (nI j))]) hx hb dX1_times_57 hl (by decide) rfl (fun ls hl => ?_)
            refine lv_iinc (v := nI (j + 1)) (lv' := [(5, .int (nI (j + 1))), (4, .int (tq_eb (tq_p (j + 1) a))), (3, .int (tq_eb (tq_ms a b (j + 1)))), (0, .ref h0), (1, .int (tq_eb a)), (2, .int (tq_eb b))]) hx hb dX1_times_59 hl (k := 5) rfl (nI_1 j) (by decide) rfl (fun ls hl => ?_)
            refine lv_goto (tgt := 8) hx hb dX1_times_62 (by decide) ?_
            exact ih (j + 1) ls (by omega) (lv_sub hl [3, 4, 5, 2, 1, 0] rfl)
          · refine lv_iconst (v := 2) hx hb dX1_times_42 (by decide) ?_
            refine lv_iload hx hb dX1_times_43 (lv_at hl 4 rfl) ?_
            refine lv_imul hx hb dX1_times_45 ?_
            refine lv_goto (tgt := 57) hx hb dX1_times_46 (by decide) ?_
            refine tw_topr (x' := tq_eb (tq_p (j + 1) a)) (by show _ = tq_eb (tq_d (tq_p j a)); rw [← tq_dbl_m]; first | exact (if_pos c_39).symm | exact (if_neg c_39).symm) ?_
            refine lv_istore (lv' := [(4, .int (tq_eb (tq_p (j + 1) a))), (3, .int (tq_eb (tq_ms a b (j + 1)))), (0, .ref h0), (1, .int (tq_eb a)), (2, .int (tq_eb b)), (5, .int (nI j))]) hx hb dX1_times_57 hl (by decide) rfl (fun ls hl => ?_)
            refine lv_iinc (v := nI (j + 1)) (lv' := [(5, .int (nI (j + 1))), (4, .int (tq_eb (tq_p (j + 1) a))), (3, .int (tq_eb (tq_ms a b (j + 1)))), (0, .ref h0), (1, .int (tq_eb a)), (2, .int (tq_eb b))]) hx hb dX1_times_59 hl (k := 5) rfl (nI_1 j) (by decide) rfl (fun ls hl => ?_)
            refine lv_goto (tgt := 8) hx hb dX1_times_62 (by decide) ?_
            exact ih (j + 1) ls (by omega) (lv_sub hl [3, 4, 5, 2, 1, 0] rfl)
        · have hbit : b.getLsbD j = true := by cases hq : b.getLsbD j with | true => rfl | false => rw [hq] at c_22; exact absurd c_22 (by decide)
          refine lv_iload_n hx hb dX1_times_25 rfl (lv_at hl 3 rfl) ?_
          refine lv_iload hx hb dX1_times_26 (lv_at hl 4 rfl) ?_
          refine lv_ixor hx hb dX1_times_28 ?_
          refine lv_goto (tgt := 33) hx hb dX1_times_29 (by decide) ?_
          refine tw_topr (x' := tq_eb (tq_ms a b (j + 1))) (by first | (rw [tq_eb_xor]; simp [tq_ms, hbit]; done) | (simp [tq_ms, hbit]; done)) ?_
          refine lv_istore_n (lv' := [(3, .int (tq_eb (tq_ms a b (j + 1)))), (0, .ref h0), (1, .int (tq_eb a)), (2, .int (tq_eb b)), (4, .int (tq_eb (tq_p j a))), (5, .int (nI j))]) hx hb dX1_times_33 rfl hl (by decide) rfl (fun ls hl => ?_)
          refine lv_iload hx hb dX1_times_34 (lv_at hl 4 rfl) ?_
          refine lv_sipush (v := 128) hx hb dX1_times_36 (by decide) ?_
          refine lv_icmp_ge (tgt := 49) hx hb dX1_times_39 (by decide) (fun c_39 => ?_) (fun c_39 => ?_)
          · refine lv_iconst (v := 2) hx hb dX1_times_49 (by decide) ?_
            refine lv_iload hx hb dX1_times_50 (lv_at hl 4 rfl) ?_
            refine lv_imul hx hb dX1_times_52 ?_
            refine lv_sipush (v := 285) hx hb dX1_times_53 (by decide) ?_
            refine lv_ixor hx hb dX1_times_56 ?_
            refine tw_topr (x' := tq_eb (tq_p (j + 1) a)) (by show _ = tq_eb (tq_d (tq_p j a)); rw [← tq_dbl_m]; first | exact (if_pos c_39).symm | exact (if_neg c_39).symm) ?_
            refine lv_istore (lv' := [(4, .int (tq_eb (tq_p (j + 1) a))), (3, .int (tq_eb (tq_ms a b (j + 1)))), (0, .ref h0), (1, .int (tq_eb a)), (2, .int (tq_eb b)), (5, .int (nI j))]) hx hb dX1_times_57 hl (by decide) rfl (fun ls hl => ?_)
            refine lv_iinc (v := nI (j + 1)) (lv' := [(5, .int (nI (j + 1))), (4, .int (tq_eb (tq_p (j + 1) a))), (3, .int (tq_eb (tq_ms a b (j + 1)))), (0, .ref h0), (1, .int (tq_eb a)), (2, .int (tq_eb b))]) hx hb dX1_times_59 hl (k := 5) rfl (nI_1 j) (by decide) rfl (fun ls hl => ?_)
            refine lv_goto (tgt := 8) hx hb dX1_times_62 (by decide) ?_
            exact ih (j + 1) ls (by omega) (lv_sub hl [3, 4, 5, 2, 1, 0] rfl)
          · refine lv_iconst (v := 2) hx hb dX1_times_42 (by decide) ?_
            refine lv_iload hx hb dX1_times_43 (lv_at hl 4 rfl) ?_
            refine lv_imul hx hb dX1_times_45 ?_
            refine lv_goto (tgt := 57) hx hb dX1_times_46 (by decide) ?_
            refine tw_topr (x' := tq_eb (tq_p (j + 1) a)) (by show _ = tq_eb (tq_d (tq_p j a)); rw [← tq_dbl_m]; first | exact (if_pos c_39).symm | exact (if_neg c_39).symm) ?_
            refine lv_istore (lv' := [(4, .int (tq_eb (tq_p (j + 1) a))), (3, .int (tq_eb (tq_ms a b (j + 1)))), (0, .ref h0), (1, .int (tq_eb a)), (2, .int (tq_eb b)), (5, .int (nI j))]) hx hb dX1_times_57 hl (by decide) rfl (fun ls hl => ?_)
            refine lv_iinc (v := nI (j + 1)) (lv' := [(5, .int (nI (j + 1))), (4, .int (tq_eb (tq_p (j + 1) a))), (3, .int (tq_eb (tq_ms a b (j + 1)))), (0, .ref h0), (1, .int (tq_eb a)), (2, .int (tq_eb b))]) hx hb dX1_times_59 hl (k := 5) rfl (nI_1 j) (by decide) rfl (fun ls hl => ?_)
            refine lv_goto (tgt := 8) hx hb dX1_times_62 (by decide) ?_
            exact ih (j + 1) ls (by omega) (lv_sub hl [3, 4, 5, 2, 1, 0] rfl)
  refine lv_iconst (v := 0) hx hb dX1_times_0 (by decide) ?_
  refine lv_istore_n (lv' := [(3, .int 0), (0, .ref h0), (1, .int (tq_eb a)), (2, .int (tq_eb b))]) hx hb dX1_times_1 rfl hl (by decide) rfl (fun ls hl => ?_)
  refine lv_iload_n hx hb dX1_times_2 rfl (lv_at hl 2 rfl) ?_
  refine lv_istore (lv' := [(4, .int (tq_eb a)), (3, .int 0), (0, .ref h0), (1, .int (tq_eb a)), (2, .int (tq_eb b))]) hx hb dX1_times_3 hl (by decide) rfl (fun ls hl => ?_)
  refine lv_iconst (v := 0) hx hb dX1_times_5 (by decide) ?_
  refine lv_istore (lv' := [(5, .int 0), (4, .int (tq_eb a)), (3, .int 0), (0, .ref h0), (1, .int (tq_eb a)), (2, .int (tq_eb b))]) hx hb dX1_times_6 hl (by decide) rfl (fun ls hl => ?_)
  exact loop 8 0 ls (by omega) (lv_sub hl [3, 4, 5, 2, 1, 0] rfl)
abbrev rmX1_twos : Room := { frames := 1, cells := 0, slots := 0, locals := 25 }
theorem kdX1_twos : yX1_twos.cls = RX1 ∧ yX1_twos.cls ≠ "java/lang/invoke/MethodHandle" ∧ yX1_twos.cls ≠ "java/lang/invoke/VarHandle" ∧ (parseMethodDescriptor yX1_twos.desc).map (fun d => d.parameters.length) = some 1 := by decide +kernel
set_option maxHeartbeats 4000000 in
set_option maxRecDepth 100000 in
theorem c_X1_twos (l : Launch) (D : va_G) (cA cB : ClassId) (h0 a0 b0 k : Nat) (F : Nat → BitVec 8) (g : Nat → Bool) (i : Nat) (hi : i < 2 ^ 31) : Met l yX1_twos wsX1_twos rmX1_twos (va_Pc [.ref h0, .int (nI i)] (tw_B D (tw_M cA cB h0 a0 b0 k F g) (tw_tM cA cB))) (vp_Si (fun r => r = tq_eb (tq_p i 1#8))) 0 0 (fun _ => False) := by
  refine tw_metR (by decide) rfl rfl (Nat.le_of_ble_eq_true rfl) ?_
  intro p e s m args below meth c Q ls hx hb hml hown hts hP hK hend hl
  have hown : s.vm.findClass RX1 = some m.cls := hown
  have hl : lv_has ls 4 [(0, .ref h0), (1, .int (nI i))] := hl
  have loop : ∀ (n j : Nat) (ls : Array Slot), j + n = i → lv_has ls 4 [(0, .ref h0), (1, .int (nI i)), (2, .int (tq_eb (tq_p j 1#8))), (3, .int (nI j))] → W p l e rmX1_twos s m args below meth c s.heap [] 0 0 Q (F0 m 4 ls []) := by
    intro n
    induction n with
    | zero =>
      intro j ls hj hl
      refine lv_iload_n hx hb dX1_twos_4 rfl (lv_at hl 3 rfl) ?_
      refine lv_iload_n hx hb dX1_twos_5 rfl (lv_at hl 1 rfl) ?_
      refine lv_icmp_ge (tgt := 22) hx hb dX1_twos_6 (by decide) (fun c_6 => ?_) (fun c_6 => ?_)
      · refine lv_iload_n hx hb dX1_twos_22 rfl (lv_at hl 2 rfl) ?_
        refine tw_topr (x' := tq_eb (tq_p i 1#8)) (by rw [show j = i by omega]) ?_
        exact hend _ _ dX1_twos_23
      · exact absurd (nI_le (by omega) (by omega)) c_6
    | succ n ih =>
      intro j ls hj hl
      refine lv_iload_n hx hb dX1_twos_4 rfl (lv_at hl 3 rfl) ?_
      refine lv_iload_n hx hb dX1_twos_5 rfl (lv_at hl 1 rfl) ?_
      refine lv_icmp_ge (tgt := 22) hx hb dX1_twos_6 (by decide) (fun c_6 => ?_) (fun c_6 => ?_)
      · exact absurd c_6 (nI_ge (by omega) (by omega))
      · refine lv_aload_n hx hb dX1_twos_9 rfl (lv_at hl 0 rfl) ?_
        refine lv_iload_n hx hb dX1_twos_10 rfl (lv_at hl 2 rfl) ?_
        refine lv_iconst (v := 2) hx hb dX1_twos_11 (by decide) ?_
        refine tw_rM ⟨hx, hb, hml, hown, hts⟩ hK hP (c_X1_times l D cA cB h0 a0 b0 k F g (tq_p j 1#8) 2#8) (cwV 2 hts gX1_twos_X1_times rfl rfl rfl kdX1_times ⟨Nat.le_of_ble_eq_true rfl, Nat.le_of_ble_eq_true rfl⟩) rfl hl.1 rfl (Nat.le_of_ble_eq_true rfl) dX1_twos_12 ⟨Nat.zero_le _, Nat.zero_le _⟩ ?_
        refine tw_topr (x' := tq_eb (tq_p (j + 1) 1#8)) (by rw [tq_m2]; rfl) ?_
        refine lv_istore_n (lv' := [(2, .int (tq_eb (tq_p (j + 1) 1#8))), (0, .ref h0), (1, .int (nI i)), (3, .int (nI j))]) hx hb dX1_twos_15 rfl hl (by decide) rfl (fun ls hl => ?_)
        refine lv_iinc (v := nI (j + 1)) (lv' := [(3, .int (nI (j + 1))), (2, .int (tq_eb (tq_p (j + 1) 1#8))), (0, .ref h0), (1, .int (nI i))]) hx hb dX1_twos_16 hl (k := 3) rfl (nI_1 j) (by decide) rfl (fun ls hl => ?_)
        refine lv_goto (tgt := 4) hx hb dX1_twos_19 (by decide) ?_
        exact ih (j + 1) ls (by omega) (lv_sub hl [2, 3, 1, 0] rfl)
  refine lv_iconst (v := 1) hx hb dX1_twos_0 (by decide) ?_
  refine lv_istore_n (lv' := [(2, .int 1), (0, .ref h0), (1, .int (nI i))]) hx hb dX1_twos_1 rfl hl (by decide) rfl (fun ls hl => ?_)
  refine lv_iconst (v := 0) hx hb dX1_twos_2 (by decide) ?_
  refine lv_istore_n (lv' := [(3, .int 0), (2, .int 1), (0, .ref h0), (1, .int (nI i))]) hx hb dX1_twos_3 rfl hl (by decide) rfl (fun ls hl => ?_)
  exact loop i 0 ls (by omega) (lv_sub hl [2, 3, 1, 0] rfl)
abbrev rmX1_part : Room := { frames := 1, cells := 0, slots := 0, locals := 25 }
theorem kdX1_part : yX1_part.cls = RX1 ∧ yX1_part.cls ≠ "java/lang/invoke/MethodHandle" ∧ yX1_part.cls ≠ "java/lang/invoke/VarHandle" ∧ (parseMethodDescriptor yX1_part.desc).map (fun d => d.parameters.length) = some 2 := by decide +kernel
set_option maxHeartbeats 4000000 in
set_option maxRecDepth 100000 in
theorem c_X1_part (l : Launch) (D : va_G) (cA cB : ClassId) (h0 a0 b0 k : Nat) (F : Nat → BitVec 8) (g : Nat → Bool) (a b : BitVec 8) (hb0 : b ≠ 0#8) : Met l yX1_part wsX1_part rmX1_part (va_Pc [.ref h0, .int (tq_eb a), .int (tq_eb b)] (tw_B D (tw_M cA cB h0 a0 b0 k F g) (tw_tM cA cB))) (vp_Si (fun r => r = tq_eb (tq_m a (tq_i b)))) 0 0 (fun _ => False) := by
  refine tw_metR (by decide) rfl rfl (Nat.le_of_ble_eq_true rfl) ?_
  intro p e s m args below meth c Q ls hx hb hml hown hts hP hK hend hl
  have hown : s.vm.findClass RX1 = some m.cls := hown
  have hl : lv_has ls 4 [(0, .ref h0), (1, .int (tq_eb a)), (2, .int (tq_eb b))] := hl
  have hJ : (tq_m a (tq_i b)).toNat < 2 ^ 8 := (tq_m a (tq_i b)).isLt
  have loop : ∀ (n j : Nat) (ls : Array Slot), j + n = (tq_m a (tq_i b)).toNat → lv_has ls 4 [(0, .ref h0), (1, .int (tq_eb a)), (2, .int (tq_eb b)), (3, .int (nI j))] → W p l e rmX1_part s m args below meth c s.heap [] 0 0 Q (F0 m 2 ls []) := by
    intro n
    induction n with
    | zero =>
      intro j ls hj hl
      refine lv_iload_n hx hb dX1_part_2 rfl (lv_at hl 3 rfl) ?_
      refine lv_sipush (v := 256) hx hb dX1_part_3 (by decide) ?_
      refine lv_icmp_ge (tgt := 31) hx hb dX1_part_6 (by decide) (fun c_6 => ?_) (fun c_6 => ?_)
      · exact absurd c_6 (nI_ge (b := 256) (by omega) (by omega))
      · refine lv_iload_n hx hb dX1_part_9 rfl (lv_at hl 2 rfl) ?_
        refine lv_if_eq (tgt := 31) hx hb dX1_part_10 (by decide) (fun c_10 => ?_) (fun c_10 => ?_)
        · exact absurd (tq_eb_z.mp c_10) hb0
        · refine lv_aload_n hx hb dX1_part_13 rfl (lv_at hl 0 rfl) ?_
          refine lv_iload_n hx hb dX1_part_14 rfl (lv_at hl 3 rfl) ?_
          refine tw_topr (x' := tq_eb (BitVec.ofNat 8 j)) (tq_nI (by omega)) ?_
          refine lv_iload_n hx hb dX1_part_15 rfl (lv_at hl 2 rfl) ?_
          refine tw_rM ⟨hx, hb, hml, hown, hts⟩ hK hP (c_X1_times l D cA cB h0 a0 b0 k F g (BitVec.ofNat 8 j) b) (cwV 2 hts gX1_part_X1_times rfl rfl rfl kdX1_times ⟨Nat.le_of_ble_eq_true rfl, Nat.le_of_ble_eq_true rfl⟩) rfl hl.1 rfl (Nat.le_of_ble_eq_true rfl) dX1_part_16 ⟨Nat.zero_le _, Nat.zero_le _⟩ ?_
          refine lv_iload_n hx hb dX1_part_19 rfl (lv_at hl 1 rfl) ?_
          refine lv_icmp_ne (tgt := 25) hx hb dX1_part_20 (by decide) (fun c_20 => ?_) (fun c_20 => ?_)
          · exact absurd (by rw [show BitVec.ofNat 8 j = tq_m a (tq_i b) from by apply BitVec.eq_of_toNat_eq; rw [BitVec.toNat_ofNat, Nat.mod_eq_of_lt (by omega)]; omega, tq_i2 hb0]) c_20
          · refine lv_iload_n hx hb dX1_part_23 rfl (lv_at hl 3 rfl) ?_
            refine tw_topr (x' := tq_eb (tq_m a (tq_i b))) (by rw [tq_ebN]; congr 1) ?_
            exact hend _ _ dX1_part_24
    | succ n ih =>
      intro j ls hj hl
      refine lv_iload_n hx hb dX1_part_2 rfl (lv_at hl 3 rfl) ?_
      refine lv_sipush (v := 256) hx hb dX1_part_3 (by decide) ?_
      refine lv_icmp_ge (tgt := 31) hx hb dX1_part_6 (by decide) (fun c_6 => ?_) (fun c_6 => ?_)
      · exact absurd c_6 (nI_ge (b := 256) (by omega) (by omega))
      · refine lv_iload_n hx hb dX1_part_9 rfl (lv_at hl 2 rfl) ?_
        refine lv_if_eq (tgt := 31) hx hb dX1_part_10 (by decide) (fun c_10 => ?_) (fun c_10 => ?_)
        · exact absurd (tq_eb_z.mp c_10) hb0
        · refine lv_aload_n hx hb dX1_part_13 rfl (lv_at hl 0 rfl) ?_
          refine lv_iload_n hx hb dX1_part_14 rfl (lv_at hl 3 rfl) ?_
          refine tw_topr (x' := tq_eb (BitVec.ofNat 8 j)) (tq_nI (by omega)) ?_
          refine lv_iload_n hx hb dX1_part_15 rfl (lv_at hl 2 rfl) ?_
          refine tw_rM ⟨hx, hb, hml, hown, hts⟩ hK hP (c_X1_times l D cA cB h0 a0 b0 k F g (BitVec.ofNat 8 j) b) (cwV 2 hts gX1_part_X1_times rfl rfl rfl kdX1_times ⟨Nat.le_of_ble_eq_true rfl, Nat.le_of_ble_eq_true rfl⟩) rfl hl.1 rfl (Nat.le_of_ble_eq_true rfl) dX1_part_16 ⟨Nat.zero_le _, Nat.zero_le _⟩ ?_
          refine lv_iload_n hx hb dX1_part_19 rfl (lv_at hl 1 rfl) ?_
          refine lv_icmp_ne (tgt := 25) hx hb dX1_part_20 (by decide) (fun c_20 => ?_) (fun c_20 => ?_)
          · refine lv_iinc (v := nI (j + 1)) (lv' := [(3, .int (nI (j + 1))), (0, .ref h0), (1, .int (tq_eb a)), (2, .int (tq_eb b))]) hx hb dX1_part_25 hl (k := 3) rfl (nI_1 j) (by decide) rfl (fun ls hl => ?_)
            refine lv_goto (tgt := 2) hx hb dX1_part_28 (by decide) ?_
            exact ih (j + 1) ls (by omega) (lv_sub hl [1, 2, 3, 0] rfl)
          · have e9 : BitVec.ofNat 8 j = tq_m a (tq_i b) := tq_inj hb0 (by rw [tq_i2 hb0]; exact tq_eb_inj c_20)
            have e8 := congrArg BitVec.toNat e9
            rw [BitVec.toNat_ofNat, Nat.mod_eq_of_lt (by omega)] at e8
            omega
  refine lv_iconst (v := 0) hx hb dX1_part_0 (by decide) ?_
  refine lv_istore_n (lv' := [(3, .int 0), (0, .ref h0), (1, .int (tq_eb a)), (2, .int (tq_eb b))]) hx hb dX1_part_1 rfl hl (by decide) rfl (fun ls hl => ?_)
  exact loop _ 0 ls (Nat.zero_add _) (lv_sub hl [1, 2, 3, 0] rfl)
abbrev rmX1_p : Room := { frames := 0, cells := 0, slots := 0, locals := 0 }
theorem inX1_p : ∀ w ∈ wsX10, w ∈ wsX1_p := fun _ h => List.mem_cons_of_mem _ (List.mem_append_right _ h)
theorem fX1_p_25 : Cond.fieldLink RX1 25 "TwinParityModel" "units" "I" ∈ wsX1_p := List.mem_of_getElem? (i := 1) rfl
theorem kdX1_p : yX1_p.cls = RX1 ∧ yX1_p.cls ≠ "java/lang/invoke/MethodHandle" ∧ yX1_p.cls ≠ "java/lang/invoke/VarHandle" ∧ (parseMethodDescriptor yX1_p.desc).map (fun d => d.parameters.length) = some 0 := by decide +kernel
set_option maxHeartbeats 4000000 in
set_option maxRecDepth 100000 in
theorem c_X1_p (l : Launch) (D : va_G) (cA cB : ClassId) (h0 a0 b0 k : Nat) (F : Nat → BitVec 8) (g : Nat → Bool)  : Met l yX1_p wsX1_p rmX1_p (va_Pc [.ref h0] (tw_B D (tw_M cA cB h0 a0 b0 k F g) (tw_tM cA cB))) (vp_Si (fun r => r = nI k)) 0 0 (fun _ => False) := by
  refine tw_metR (by decide) rfl rfl (Nat.le_of_ble_eq_true rfl) ?_
  intro p e s m args below meth c Q ls hx hb hml hown hts hP hK hend hl
  have hown : s.vm.findClass RX1 = some m.cls := hown
  have hl : lv_has ls 1 [(0, .ref h0)] := hl
  refine lv_aload_n hx hb dX1_p_0 rfl (lv_at hl 0 rfl) ?_
  refine va_get (D := D) (ci := 1) (v := .int (nI (k + 2))) (C := RX1) (T := TX1) (N := 4) hx hb hts inX1_p hown hK hP 0 rfl rfl 1 (by decide) (hts _ fX1_p_25) (fun _ h9 => h9) rfl dX1_p_1 ?_
  refine lv_iconst (v := 2) hx hb dX1_p_4 (by decide) ?_
  refine lv_isub hx hb dX1_p_5 ?_
  refine tw_topr (x' := nI k) (tw_p_i k) ?_
  exact hend _ _ dX1_p_6
abbrev rmX1_q : Room := { frames := 0, cells := 0, slots := 0, locals := 0 }
theorem inX1_q : ∀ w ∈ wsX10, w ∈ wsX1_q := fun _ h => List.mem_cons_of_mem _ (List.mem_append_right _ h)
theorem fX1_q_25 : Cond.fieldLink RX1 25 "TwinParityModel" "units" "I" ∈ wsX1_q := List.mem_of_getElem? (i := 1) rfl
theorem kdX1_q : yX1_q.cls = RX1 ∧ yX1_q.cls ≠ "java/lang/invoke/MethodHandle" ∧ yX1_q.cls ≠ "java/lang/invoke/VarHandle" ∧ (parseMethodDescriptor yX1_q.desc).map (fun d => d.parameters.length) = some 0 := by decide +kernel
set_option maxHeartbeats 4000000 in
set_option maxRecDepth 100000 in
theorem c_X1_q (l : Launch) (D : va_G) (cA cB : ClassId) (h0 a0 b0 k : Nat) (F : Nat → BitVec 8) (g : Nat → Bool)  : Met l yX1_q wsX1_q rmX1_q (va_Pc [.ref h0] (tw_B D (tw_M cA cB h0 a0 b0 k F g) (tw_tM cA cB))) (vp_Si (fun r => r = nI (k + 1))) 0 0 (fun _ => False) := by
  refine tw_metR (by decide) rfl rfl (Nat.le_of_ble_eq_true rfl) ?_
  intro p e s m args below meth c Q ls hx hb hml hown hts hP hK hend hl
  have hown : s.vm.findClass RX1 = some m.cls := hown
  have hl : lv_has ls 1 [(0, .ref h0)] := hl
  refine lv_aload_n hx hb dX1_q_0 rfl (lv_at hl 0 rfl) ?_
  refine va_get (D := D) (ci := 1) (v := .int (nI (k + 2))) (C := RX1) (T := TX1) (N := 4) hx hb hts inX1_q hown hK hP 0 rfl rfl 1 (by decide) (hts _ fX1_q_25) (fun _ h9 => h9) rfl dX1_q_1 ?_
  refine lv_iconst (v := 1) hx hb dX1_q_4 (by decide) ?_
  refine lv_isub hx hb dX1_q_5 ?_
  refine tw_topr (x' := nI (k + 1)) (tw_q_i k) ?_
  exact hend _ _ dX1_q_6
abbrev rmX1_noUnit : Room := { frames := 0, cells := 0, slots := 0, locals := 0 }
theorem inX1_noUnit : ∀ w ∈ wsX10, w ∈ wsX1_noUnit := fun _ h => List.mem_cons_of_mem _ (List.mem_append_right _ h)
theorem fX1_noUnit_25 : Cond.fieldLink RX1 25 "TwinParityModel" "units" "I" ∈ wsX1_noUnit := List.mem_of_getElem? (i := 1) rfl
theorem kdX1_noUnit : yX1_noUnit.cls = RX1 ∧ yX1_noUnit.cls ≠ "java/lang/invoke/MethodHandle" ∧ yX1_noUnit.cls ≠ "java/lang/invoke/VarHandle" ∧ (parseMethodDescriptor yX1_noUnit.desc).map (fun d => d.parameters.length) = some 1 := by decide +kernel
set_option maxHeartbeats 4000000 in
set_option maxRecDepth 100000 in
theorem c_X1_noUnit (l : Launch) (D : va_G) (cA cB : ClassId) (h0 a0 b0 k : Nat) (F : Nat → BitVec 8) (g : Nat → Bool) (x : Int32) : Met l yX1_noUnit wsX1_noUnit rmX1_noUnit (va_Pc [.ref h0, .int x] (tw_B D (tw_M cA cB h0 a0 b0 k F g) (tw_tM cA cB))) (vp_Si (fun r => r = tw_bI (tw_nu k x))) 0 0 (fun _ => False) := by
  refine tw_metZ (by decide) rfl rfl (Nat.le_of_ble_eq_true rfl) ?_
  intro p e s m args below meth c Q ls hx hb hml hown hts hP hK hend hl
  have hown : s.vm.findClass RX1 = some m.cls := hown
  have hl : lv_has ls 2 [(0, .ref h0), (1, .int x)] := hl
  refine lv_iload_n hx hb dX1_noUnit_0 rfl (lv_at hl 1 rfl) ?_
  refine lv_if_lt (tgt := 12) hx hb dX1_noUnit_1 (by decide) (fun c_1 => ?_) (fun c_1 => ?_)
  · refine lv_iconst (v := 1) hx hb dX1_noUnit_12 (by decide) ?_
    refine lv_goto (tgt := 17) hx hb dX1_noUnit_13 (by decide) ?_
    refine tw_topr (x' := tw_bI (tw_nu k x)) (by simp [tw_nu, tw_bI, *]) ?_
    exact hend _ _ dX1_noUnit_17
  · refine lv_iload_n hx hb dX1_noUnit_4 rfl (lv_at hl 1 rfl) ?_
    refine lv_aload_n hx hb dX1_noUnit_5 rfl (lv_at hl 0 rfl) ?_
    refine va_get (D := D) (ci := 1) (v := .int (nI (k + 2))) (C := RX1) (T := TX1) (N := 4) hx hb hts inX1_noUnit hown hK hP 0 rfl rfl 1 (by decide) (hts _ fX1_noUnit_25) (fun _ h9 => h9) rfl dX1_noUnit_6 ?_
    refine lv_icmp_lt (tgt := 16) hx hb dX1_noUnit_9 (by decide) (fun c_9 => ?_) (fun c_9 => ?_)
    · refine lv_iconst (v := 0) hx hb dX1_noUnit_16 (by decide) ?_
      refine tw_topr (x' := tw_bI (tw_nu k x)) (by simp [tw_nu, tw_bI, *]) ?_
      exact hend _ _ dX1_noUnit_17
    · refine lv_iconst (v := 1) hx hb dX1_noUnit_12 (by decide) ?_
      refine lv_goto (tgt := 17) hx hb dX1_noUnit_13 (by decide) ?_
      refine tw_topr (x' := tw_bI (tw_nu k x)) (by simp [tw_nu, tw_bI, *]) ?_
      exact hend _ _ dX1_noUnit_17
abbrev rmX1_manyLost : Room := { frames := 0, cells := 0, slots := 0, locals := 0 }
theorem inX1_manyLost : ∀ w ∈ wsX10, w ∈ wsX1_manyLost := fun _ h => List.mem_cons_of_mem _ (List.mem_append_right _ h)
theorem fX1_manyLost_25 : Cond.fieldLink RX1 25 "TwinParityModel" "units" "I" ∈ wsX1_manyLost := List.mem_of_getElem? (i := 1) rfl
theorem fX1_manyLost_13 : Cond.fieldLink RX1 13 "TwinParityModel" "lost" "[Z" ∈ wsX1_manyLost := List.mem_of_getElem? (i := 2) rfl
theorem kdX1_manyLost : yX1_manyLost.cls = RX1 ∧ yX1_manyLost.cls ≠ "java/lang/invoke/MethodHandle" ∧ yX1_manyLost.cls ≠ "java/lang/invoke/VarHandle" ∧ (parseMethodDescriptor yX1_manyLost.desc).map (fun d => d.parameters.length) = some 0 := by decide +kernel
set_option maxHeartbeats 4000000 in
set_option maxRecDepth 100000 in
theorem c_X1_manyLost (l : Launch) (D : va_G) (cA cB : ClassId) (h0 a0 b0 k : Nat) (F : Nat → BitVec 8) (g : Nat → Bool) (hk : k ≤ 14) : Met l yX1_manyLost wsX1_manyLost rmX1_manyLost (va_Pc [.ref h0] (tw_B D (tw_M cA cB h0 a0 b0 k F g) (tw_tM cA cB))) (vp_Si (fun r => r = nI (tw_mc g (k + 2)))) 0 0 (fun _ => False) := by
  refine tw_metR (by decide) rfl rfl (Nat.le_of_ble_eq_true rfl) ?_
  intro p e s m args below meth c Q ls hx hb hml hown hts hP hK hend hl
  have hown : s.vm.findClass RX1 = some m.cls := hown
  have hl : lv_has ls 3 [(0, .ref h0)] := hl
  have loop : ∀ (n j : Nat) (ls : Array Slot), j + n = k + 2 → lv_has ls 3 [(0, .ref h0), (1, .int (nI (tw_mc g j))), (2, .int (nI j))] → W p l e rmX1_manyLost s m args below meth c s.heap [] 0 0 Q (F0 m 4 ls []) := by
    intro n
    induction n with
    | zero =>
      intro j ls hj hl
      refine lv_iload_n hx hb dX1_manyLost_4 rfl (lv_at hl 2 rfl) ?_
      refine lv_aload_n hx hb dX1_manyLost_5 rfl (lv_at hl 0 rfl) ?_
      refine va_get (D := D) (ci := 1) (v := .int (nI (k + 2))) (C := RX1) (T := TX1) (N := 4) hx hb hts inX1_manyLost hown hK hP 0 rfl rfl 1 (by decide) (hts _ fX1_manyLost_25) (fun _ h9 => h9) rfl dX1_manyLost_6 ?_
      refine lv_icmp_ge (tgt := 35) hx hb dX1_manyLost_9 (by decide) (fun c_9 => ?_) (fun c_9 => ?_)
      · refine lv_iload_n hx hb dX1_manyLost_35 rfl (lv_at hl 1 rfl) ?_
        refine tw_topr (x' := nI (tw_mc g (k + 2))) (by rw [show j = k + 2 by omega]) ?_
        exact hend _ _ dX1_manyLost_36
      · exact absurd (nI_le (by omega) (by omega)) c_9
    | succ n ih =>
      intro j ls hj hl
      refine lv_iload_n hx hb dX1_manyLost_4 rfl (lv_at hl 2 rfl) ?_
      refine lv_aload_n hx hb dX1_manyLost_5 rfl (lv_at hl 0 rfl) ?_
      refine va_get (D := D) (ci := 1) (v := .int (nI (k + 2))) (C := RX1) (T := TX1) (N := 4) hx hb hts inX1_manyLost hown hK hP 0 rfl rfl 1 (by decide) (hts _ fX1_manyLost_25) (fun _ h9 => h9) rfl dX1_manyLost_6 ?_
      refine lv_icmp_ge (tgt := 35) hx hb dX1_manyLost_9 (by decide) (fun c_9 => ?_) (fun c_9 => ?_)
      · exact absurd c_9 (nI_ge (by omega) (by omega))
      · refine lv_iload_n hx hb dX1_manyLost_12 rfl (lv_at hl 1 rfl) ?_
        refine lv_aload_n hx hb dX1_manyLost_13 rfl (lv_at hl 0 rfl) ?_
        refine va_get (D := D) (ci := 1) (v := .ref b0) (C := RX1) (T := TX1) (N := 4) hx hb hts inX1_manyLost hown hK hP 0 rfl rfl 3 (by decide) (hts _ fX1_manyLost_13) (fun _ h9 => h9) rfl dX1_manyLost_14 ?_
        refine lv_iload_n hx hb dX1_manyLost_17 rfl (lv_at hl 2 rfl) ?_
        refine tw_lz hx hb hK hP 2 1 rfl rfl (n := j) (rfl) (by omega) (by decide) dX1_manyLost_18 ?_
        refine lv_if_eq (tgt := 26) hx hb dX1_manyLost_19 (by decide) (fun c_19 => ?_) (fun c_19 => ?_)
        · refine lv_iconst (v := 0) hx hb dX1_manyLost_26 (by decide) ?_
          refine lv_iadd hx hb dX1_manyLost_27 ?_
          refine tw_topr (x' := nI (tw_mc g (j + 1))) (by first | (rw [tw_mc, if_pos (tw_bI1.mp c_19)]; exact nI_1 _) | (rw [tw_mc, if_neg (by rw [tw_bI0.mp c_19]; decide)]; exact nI_add _ 0)) ?_
          refine lv_istore_n (lv' := [(1, .int (nI (tw_mc g (j + 1)))), (0, .ref h0), (2, .int (nI j))]) hx hb dX1_manyLost_28 rfl hl (by decide) rfl (fun ls hl => ?_)
          refine lv_iinc (v := nI (j + 1)) (lv' := [(2, .int (nI (j + 1))), (1, .int (nI (tw_mc g (j + 1)))), (0, .ref h0)]) hx hb dX1_manyLost_29 hl (k := 2) rfl (nI_1 j) (by decide) rfl (fun ls hl => ?_)
          refine lv_goto (tgt := 4) hx hb dX1_manyLost_32 (by decide) ?_
          exact ih (j + 1) ls (by omega) (lv_sub hl [2, 1, 0] rfl)
        · refine lv_iconst (v := 1) hx hb dX1_manyLost_22 (by decide) ?_
          refine lv_goto (tgt := 27) hx hb dX1_manyLost_23 (by decide) ?_
          refine lv_iadd hx hb dX1_manyLost_27 ?_
          refine tw_topr (x' := nI (tw_mc g (j + 1))) (by first | (rw [tw_mc, if_pos (tw_bI1.mp c_19)]; exact nI_1 _) | (rw [tw_mc, if_neg (by rw [tw_bI0.mp c_19]; decide)]; exact nI_add _ 0)) ?_
          refine lv_istore_n (lv' := [(1, .int (nI (tw_mc g (j + 1)))), (0, .ref h0), (2, .int (nI j))]) hx hb dX1_manyLost_28 rfl hl (by decide) rfl (fun ls hl => ?_)
          refine lv_iinc (v := nI (j + 1)) (lv' := [(2, .int (nI (j + 1))), (1, .int (nI (tw_mc g (j + 1)))), (0, .ref h0)]) hx hb dX1_manyLost_29 hl (k := 2) rfl (nI_1 j) (by decide) rfl (fun ls hl => ?_)
          refine lv_goto (tgt := 4) hx hb dX1_manyLost_32 (by decide) ?_
          exact ih (j + 1) ls (by omega) (lv_sub hl [2, 1, 0] rfl)
  refine lv_iconst (v := 0) hx hb dX1_manyLost_0 (by decide) ?_
  refine lv_istore_n (lv' := [(1, .int 0), (0, .ref h0)]) hx hb dX1_manyLost_1 rfl hl (by decide) rfl (fun ls hl => ?_)
  refine lv_iconst (v := 0) hx hb dX1_manyLost_2 (by decide) ?_
  refine lv_istore_n (lv' := [(2, .int 0), (1, .int 0), (0, .ref h0)]) hx hb dX1_manyLost_3 rfl hl (by decide) rfl (fun ls hl => ?_)
  exact loop (k + 2) 0 ls (by omega) (lv_sub hl [2, 1, 0] rfl)
abbrev rmX1_sumAt : Room := { frames := 2, cells := 0, slots := 0, locals := 48 }
theorem inX1_sumAt : ∀ w ∈ wsX10, w ∈ wsX1_sumAt := fun _ h => List.mem_cons_of_mem _ (List.mem_append_right _ h)
theorem fX1_sumAt_13 : Cond.fieldLink RX1 13 "TwinParityModel" "lost" "[Z" ∈ wsX1_sumAt := List.mem_of_getElem? (i := 1) rfl
theorem fX1_sumAt_7 : Cond.fieldLink RX1 7 "TwinParityModel" "bytes" "[I" ∈ wsX1_sumAt := List.mem_of_getElem? (i := 2) rfl
theorem fX1_sumAt_25 : Cond.fieldLink RX1 25 "TwinParityModel" "units" "I" ∈ wsX1_sumAt := List.mem_of_getElem? (i := 8) rfl
theorem kdX1_sumAt : yX1_sumAt.cls = RX1 ∧ yX1_sumAt.cls ≠ "java/lang/invoke/MethodHandle" ∧ yX1_sumAt.cls ≠ "java/lang/invoke/VarHandle" ∧ (parseMethodDescriptor yX1_sumAt.desc).map (fun d => d.parameters.length) = some 2 := by decide +kernel
set_option maxHeartbeats 4000000 in
set_option maxRecDepth 100000 in
theorem c_X1_sumAt (l : Launch) (D : va_G) (cA cB : ClassId) (h0 a0 b0 k : Nat) (F : Nat → BitVec 8) (g : Nat → Bool) (i : Nat) (z : Bool) (hi : i < 64) (hk : k ≤ 14) : Met l yX1_sumAt wsX1_sumAt rmX1_sumAt (va_Pc [.ref h0, .int (nI i), .int (tw_bI z)] (tw_B D (tw_M cA cB h0 a0 b0 k F g) (tw_tM cA cB))) (vp_Si (fun r => r = tq_eb (tw_sm z (tw_ml g (tq_col F i)) k))) 0 0 (fun _ => False) := by
  refine tw_metR (by decide) rfl rfl (Nat.le_of_ble_eq_true rfl) ?_
  intro p e s m args below meth c Q ls hx hb hml hown hts hP hK hend hl
  have hown : s.vm.findClass RX1 = some m.cls := hown
  have hl : lv_has ls 6 [(0, .ref h0), (1, .int (nI i)), (2, .int (tw_bI z))] := hl
  have loop : ∀ (n j : Nat) (ls : Array Slot), j + n = k → lv_has ls 6 [(0, .ref h0), (1, .int (nI i)), (2, .int (tw_bI z)), (3, .int (tq_eb (tw_sm z (tw_ml g (tq_col F i)) j))), (4, .int (nI j))] → W p l e rmX1_sumAt s m args below meth c s.heap [] 0 0 Q (F0 m 5 ls []) := by
    intro n
    induction n with
    | zero =>
      intro j ls hj hl
      refine lv_iload hx hb dX1_sumAt_5 (lv_at hl 4 rfl) ?_
      refine lv_aload_n hx hb dX1_sumAt_7 rfl (lv_at hl 0 rfl) ?_
      refine tw_rM ⟨hx, hb, hml, hown, hts⟩ hK hP (c_X1_p l D cA cB h0 a0 b0 k F g ) (cwV 0 hts gX1_sumAt_X1_p rfl rfl rfl kdX1_p ⟨Nat.le_of_ble_eq_true rfl, Nat.le_of_ble_eq_true rfl⟩) rfl hl.1 rfl (Nat.le_of_ble_eq_true rfl) dX1_sumAt_8 ⟨Nat.zero_le _, Nat.zero_le _⟩ ?_
      refine lv_icmp_ge (tgt := 72) hx hb dX1_sumAt_11 (by decide) (fun c_11 => ?_) (fun c_11 => ?_)
      · refine lv_iload_n hx hb dX1_sumAt_72 rfl (lv_at hl 3 rfl) ?_
        refine tw_topr (x' := tq_eb (tw_sm z (tw_ml g (tq_col F i)) k)) (by rw [show j = k by omega]) ?_
        exact hend _ _ dX1_sumAt_73
      · exact absurd (nI_le (by omega) (by omega)) c_11
    | succ n ih =>
      intro j ls hj hl
      refine lv_iload hx hb dX1_sumAt_5 (lv_at hl 4 rfl) ?_
      refine lv_aload_n hx hb dX1_sumAt_7 rfl (lv_at hl 0 rfl) ?_
      refine tw_rM ⟨hx, hb, hml, hown, hts⟩ hK hP (c_X1_p l D cA cB h0 a0 b0 k F g ) (cwV 0 hts gX1_sumAt_X1_p rfl rfl rfl kdX1_p ⟨Nat.le_of_ble_eq_true rfl, Nat.le_of_ble_eq_true rfl⟩) rfl hl.1 rfl (Nat.le_of_ble_eq_true rfl) dX1_sumAt_8 ⟨Nat.zero_le _, Nat.zero_le _⟩ ?_
      refine lv_icmp_ge (tgt := 72) hx hb dX1_sumAt_11 (by decide) (fun c_11 => ?_) (fun c_11 => ?_)
      · exact absurd c_11 (nI_ge (by omega) (by omega))
      · refine lv_aload_n hx hb dX1_sumAt_14 rfl (lv_at hl 0 rfl) ?_
        refine va_get (D := D) (ci := 1) (v := .ref b0) (C := RX1) (T := TX1) (N := 4) hx hb hts inX1_sumAt hown hK hP 0 rfl rfl 3 (by decide) (hts _ fX1_sumAt_13) (fun _ h9 => h9) rfl dX1_sumAt_15 ?_
        refine lv_iload hx hb dX1_sumAt_18 (lv_at hl 4 rfl) ?_
        refine tw_lz hx hb hK hP 2 1 rfl rfl (n := j) (rfl) (by omega) (by decide) dX1_sumAt_20 ?_
        refine lv_if_eq (tgt := 28) hx hb dX1_sumAt_21 (by decide) (fun c_21 => ?_) (fun c_21 => ?_)
        · refine lv_aload_n hx hb dX1_sumAt_28 rfl (lv_at hl 0 rfl) ?_
          refine va_get (D := D) (ci := 1) (v := .ref a0) (C := RX1) (T := TX1) (N := 4) hx hb hts inX1_sumAt hown hK hP 0 rfl rfl 2 (by decide) (hts _ fX1_sumAt_7) (fun _ h9 => h9) rfl dX1_sumAt_29 ?_
          refine lv_bipush (v := 64) hx hb dX1_sumAt_32 (by decide) ?_
          refine lv_iload hx hb dX1_sumAt_34 (lv_at hl 4 rfl) ?_
          refine lv_imul hx hb dX1_sumAt_36 ?_
          refine lv_iload_n hx hb dX1_sumAt_37 rfl (lv_at hl 1 rfl) ?_
          refine lv_iadd hx hb dX1_sumAt_38 ?_
          refine tw_ld hx hb hK hP 1 0 rfl rfl (n := 64 * j + i) (tw_ix' j i) (by omega) (by decide) dX1_sumAt_39 ?_
          refine tw_topr (x' := tq_eb ((tw_ml g (tq_col F i)) j)) (by first | (rw [tw_ml, if_pos (tw_bI1.mp c_21)]; rfl) | (rw [tw_ml, if_neg (by rw [tw_bI0.mp c_21]; decide)]; rfl)) ?_
          refine lv_istore (lv' := [(5, .int (tq_eb ((tw_ml g (tq_col F i)) j))), (0, .ref h0), (1, .int (nI i)), (2, .int (tw_bI z)), (3, .int (tq_eb (tw_sm z (tw_ml g (tq_col F i)) j))), (4, .int (nI j))]) hx hb dX1_sumAt_40 hl (by decide) rfl (fun ls hl => ?_)
          refine lv_iload_n hx hb dX1_sumAt_42 rfl (lv_at hl 4 rfl) ?_
          refine lv_iload_n hx hb dX1_sumAt_43 rfl (lv_at hl 3 rfl) ?_
          refine lv_if_eq (tgt := 62) hx hb dX1_sumAt_44 (by decide) (fun c_44 => ?_) (fun c_44 => ?_)
          · have hz9 : z = false := tw_bI0.mp c_44
            refine lv_iload hx hb dX1_sumAt_62 (lv_at hl 0 rfl) ?_
            refine lv_ixor hx hb dX1_sumAt_64 ?_
            refine tw_topr (x' := tq_eb (tw_sm z (tw_ml g (tq_col F i)) (j + 1))) (by first | (rw [tq_eb_xor, tq_mp (show j < 16 by omega), tw_sm, tw_sm, hz9]; rfl) | (rw [tq_eb_xor, tw_sm, tw_sm, hz9]; rfl)) ?_
            refine lv_istore_n (lv' := [(3, .int (tq_eb (tw_sm z (tw_ml g (tq_col F i)) (j + 1)))), (5, .int (tq_eb ((tw_ml g (tq_col F i)) j))), (0, .ref h0), (1, .int (nI i)), (2, .int (tw_bI z)), (4, .int (nI j))]) hx hb dX1_sumAt_65 rfl hl (by decide) rfl (fun ls hl => ?_)
            refine lv_iinc (v := nI (j + 1)) (lv' := [(4, .int (nI (j + 1))), (3, .int (tq_eb (tw_sm z (tw_ml g (tq_col F i)) (j + 1)))), (5, .int (tq_eb ((tw_ml g (tq_col F i)) j))), (0, .ref h0), (1, .int (nI i)), (2, .int (tw_bI z))]) hx hb dX1_sumAt_66 hl (k := 5) rfl (nI_1 j) (by decide) rfl (fun ls hl => ?_)
            refine lv_goto (tgt := 5) hx hb dX1_sumAt_69 (by decide) ?_
            exact ih (j + 1) ls (by omega) (lv_sub hl [3, 4, 5, 1, 0] rfl)
          · have hz9 : z = true := tw_bI1.mp c_44
            refine lv_aload_n hx hb dX1_sumAt_47 rfl (lv_at hl 1 rfl) ?_
            refine lv_iload hx hb dX1_sumAt_48 (lv_at hl 0 rfl) ?_
            refine lv_aload_n hx hb dX1_sumAt_50 rfl (lv_at hl 1 rfl) ?_
            refine lv_iload hx hb dX1_sumAt_51 (lv_at hl 5 rfl) ?_
            refine tw_rM ⟨hx, hb, hml, hown, hts⟩ hK hP (c_X1_twos l D cA cB h0 a0 b0 k F g j (by omega)) (cwV 1 hts gX1_sumAt_X1_twos rfl rfl rfl kdX1_twos ⟨Nat.le_of_ble_eq_true rfl, Nat.le_of_ble_eq_true rfl⟩) rfl hl.1 rfl (Nat.le_of_ble_eq_true rfl) dX1_sumAt_53 ⟨Nat.zero_le _, Nat.zero_le _⟩ ?_
            refine tw_rM ⟨hx, hb, hml, hown, hts⟩ hK hP (c_X1_times l D cA cB h0 a0 b0 k F g ((tw_ml g (tq_col F i)) j) (tq_p j 1#8)) (cwV 2 hts gX1_sumAt_X1_times rfl rfl rfl kdX1_times ⟨Nat.le_of_ble_eq_true rfl, Nat.le_of_ble_eq_true rfl⟩) rfl hl.1 rfl (Nat.le_of_ble_eq_true rfl) dX1_sumAt_56 ⟨Nat.zero_le _, Nat.zero_le _⟩ ?_
            refine lv_goto (tgt := 64) hx hb dX1_sumAt_59 (by decide) ?_
            refine lv_ixor hx hb dX1_sumAt_64 ?_
            refine tw_topr (x' := tq_eb (tw_sm z (tw_ml g (tq_col F i)) (j + 1))) (by first | (rw [tq_eb_xor, tq_mp (show j < 16 by omega), tw_sm, tw_sm, hz9]; rfl) | (rw [tq_eb_xor, tw_sm, tw_sm, hz9]; rfl)) ?_
            refine lv_istore_n (lv' := [(3, .int (tq_eb (tw_sm z (tw_ml g (tq_col F i)) (j + 1)))), (5, .int (tq_eb ((tw_ml g (tq_col F i)) j))), (0, .ref h0), (1, .int (nI i)), (2, .int (tw_bI z)), (4, .int (nI j))]) hx hb dX1_sumAt_65 rfl hl (by decide) rfl (fun ls hl => ?_)
            refine lv_iinc (v := nI (j + 1)) (lv' := [(4, .int (nI (j + 1))), (3, .int (tq_eb (tw_sm z (tw_ml g (tq_col F i)) (j + 1)))), (5, .int (tq_eb ((tw_ml g (tq_col F i)) j))), (0, .ref h0), (1, .int (nI i)), (2, .int (tw_bI z))]) hx hb dX1_sumAt_66 hl (k := 5) rfl (nI_1 j) (by decide) rfl (fun ls hl => ?_)
            refine lv_goto (tgt := 5) hx hb dX1_sumAt_69 (by decide) ?_
            exact ih (j + 1) ls (by omega) (lv_sub hl [3, 4, 5, 1, 0] rfl)
        · refine lv_iconst (v := 0) hx hb dX1_sumAt_24 (by decide) ?_
          refine lv_goto (tgt := 40) hx hb dX1_sumAt_25 (by decide) ?_
          refine tw_topr (x' := tq_eb ((tw_ml g (tq_col F i)) j)) (by first | (rw [tw_ml, if_pos (tw_bI1.mp c_21)]; rfl) | (rw [tw_ml, if_neg (by rw [tw_bI0.mp c_21]; decide)]; rfl)) ?_
          refine lv_istore (lv' := [(5, .int (tq_eb ((tw_ml g (tq_col F i)) j))), (0, .ref h0), (1, .int (nI i)), (2, .int (tw_bI z)), (3, .int (tq_eb (tw_sm z (tw_ml g (tq_col F i)) j))), (4, .int (nI j))]) hx hb dX1_sumAt_40 hl (by decide) rfl (fun ls hl => ?_)
          refine lv_iload_n hx hb dX1_sumAt_42 rfl (lv_at hl 4 rfl) ?_
          refine lv_iload_n hx hb dX1_sumAt_43 rfl (lv_at hl 3 rfl) ?_
          refine lv_if_eq (tgt := 62) hx hb dX1_sumAt_44 (by decide) (fun c_44 => ?_) (fun c_44 => ?_)
          · have hz9 : z = false := tw_bI0.mp c_44
            refine lv_iload hx hb dX1_sumAt_62 (lv_at hl 0 rfl) ?_
            refine lv_ixor hx hb dX1_sumAt_64 ?_
            refine tw_topr (x' := tq_eb (tw_sm z (tw_ml g (tq_col F i)) (j + 1))) (by first | (rw [tq_eb_xor, tq_mp (show j < 16 by omega), tw_sm, tw_sm, hz9]; rfl) | (rw [tq_eb_xor, tw_sm, tw_sm, hz9]; rfl)) ?_
            refine lv_istore_n (lv' := [(3, .int (tq_eb (tw_sm z (tw_ml g (tq_col F i)) (j + 1)))), (5, .int (tq_eb ((tw_ml g (tq_col F i)) j))), (0, .ref h0), (1, .int (nI i)), (2, .int (tw_bI z)), (4, .int (nI j))]) hx hb dX1_sumAt_65 rfl hl (by decide) rfl (fun ls hl => ?_)
            refine lv_iinc (v := nI (j + 1)) (lv' := [(4, .int (nI (j + 1))), (3, .int (tq_eb (tw_sm z (tw_ml g (tq_col F i)) (j + 1)))), (5, .int (tq_eb ((tw_ml g (tq_col F i)) j))), (0, .ref h0), (1, .int (nI i)), (2, .int (tw_bI z))]) hx hb dX1_sumAt_66 hl (k := 5) rfl (nI_1 j) (by decide) rfl (fun ls hl => ?_)
            refine lv_goto (tgt := 5) hx hb dX1_sumAt_69 (by decide) ?_
            exact ih (j + 1) ls (by omega) (lv_sub hl [3, 4, 5, 1, 0] rfl)
          · have hz9 : z = true := tw_bI1.mp c_44
            refine lv_aload_n hx hb dX1_sumAt_47 rfl (lv_at hl 1 rfl) ?_
            refine lv_iload hx hb dX1_sumAt_48 (lv_at hl 0 rfl) ?_
            refine lv_aload_n hx hb dX1_sumAt_50 rfl (lv_at hl 1 rfl) ?_
            refine lv_iload hx hb dX1_sumAt_51 (lv_at hl 5 rfl) ?_
            refine tw_rM ⟨hx, hb, hml, hown, hts⟩ hK hP (c_X1_twos l D cA cB h0 a0 b0 k F g j (by omega)) (cwV 1 hts gX1_sumAt_X1_twos rfl rfl rfl kdX1_twos ⟨Nat.le_of_ble_eq_true rfl, Nat.le_of_ble_eq_true rfl⟩) rfl hl.1 rfl (Nat.le_of_ble_eq_true rfl) dX1_sumAt_53 ⟨Nat.zero_le _, Nat.zero_le _⟩ ?_
            refine tw_rM ⟨hx, hb, hml, hown, hts⟩ hK hP (c_X1_times l D cA cB h0 a0 b0 k F g ((tw_ml g (tq_col F i)) j) (tq_p j 1#8)) (cwV 2 hts gX1_sumAt_X1_times rfl rfl rfl kdX1_times ⟨Nat.le_of_ble_eq_true rfl, Nat.le_of_ble_eq_true rfl⟩) rfl hl.1 rfl (Nat.le_of_ble_eq_true rfl) dX1_sumAt_56 ⟨Nat.zero_le _, Nat.zero_le _⟩ ?_
            refine lv_goto (tgt := 64) hx hb dX1_sumAt_59 (by decide) ?_
            refine lv_ixor hx hb dX1_sumAt_64 ?_
            refine tw_topr (x' := tq_eb (tw_sm z (tw_ml g (tq_col F i)) (j + 1))) (by first | (rw [tq_eb_xor, tq_mp (show j < 16 by omega), tw_sm, tw_sm, hz9]; rfl) | (rw [tq_eb_xor, tw_sm, tw_sm, hz9]; rfl)) ?_
            refine lv_istore_n (lv' := [(3, .int (tq_eb (tw_sm z (tw_ml g (tq_col F i)) (j + 1)))), (5, .int (tq_eb ((tw_ml g (tq_col F i)) j))), (0, .ref h0), (1, .int (nI i)), (2, .int (tw_bI z)), (4, .int (nI j))]) hx hb dX1_sumAt_65 rfl hl (by decide) rfl (fun ls hl => ?_)
            refine lv_iinc (v := nI (j + 1)) (lv' := [(4, .int (nI (j + 1))), (3, .int (tq_eb (tw_sm z (tw_ml g (tq_col F i)) (j + 1)))), (5, .int (tq_eb ((tw_ml g (tq_col F i)) j))), (0, .ref h0), (1, .int (nI i)), (2, .int (tw_bI z))]) hx hb dX1_sumAt_66 hl (k := 5) rfl (nI_1 j) (by decide) rfl (fun ls hl => ?_)
            refine lv_goto (tgt := 5) hx hb dX1_sumAt_69 (by decide) ?_
            exact ih (j + 1) ls (by omega) (lv_sub hl [3, 4, 5, 1, 0] rfl)
  refine lv_iconst (v := 0) hx hb dX1_sumAt_0 (by decide) ?_
  refine tw_topr (x' := tq_eb (tw_sm z (tw_ml g (tq_col F i)) 0)) (by cases z <;> rfl) ?_
  refine lv_istore_n (lv' := [(3, .int (tq_eb (tw_sm z (tw_ml g (tq_col F i)) 0))), (0, .ref h0), (1, .int (nI i)), (2, .int (tw_bI z))]) hx hb dX1_sumAt_1 rfl hl (by decide) rfl (fun ls hl => ?_)
  refine lv_iconst (v := 0) hx hb dX1_sumAt_2 (by decide) ?_
  refine lv_istore (lv' := [(4, .int 0), (3, .int (tq_eb (tw_sm z (tw_ml g (tq_col F i)) 0))), (0, .ref h0), (1, .int (nI i)), (2, .int (tw_bI z))]) hx hb dX1_sumAt_3 hl (by decide) rfl (fun ls hl => ?_)
  exact loop k 0 ls (by omega) (lv_sub hl [2, 3, 4, 1, 0] rfl)
abbrev rmX1_lowest : Room := { frames := 0, cells := 0, slots := 0, locals := 0 }
theorem inX1_lowest : ∀ w ∈ wsX10, w ∈ wsX1_lowest := fun _ h => List.mem_cons_of_mem _ (List.mem_append_right _ h)
theorem fX1_lowest_25 : Cond.fieldLink RX1 25 "TwinParityModel" "units" "I" ∈ wsX1_lowest := List.mem_of_getElem? (i := 1) rfl
theorem fX1_lowest_13 : Cond.fieldLink RX1 13 "TwinParityModel" "lost" "[Z" ∈ wsX1_lowest := List.mem_of_getElem? (i := 2) rfl
theorem kdX1_lowest : yX1_lowest.cls = RX1 ∧ yX1_lowest.cls ≠ "java/lang/invoke/MethodHandle" ∧ yX1_lowest.cls ≠ "java/lang/invoke/VarHandle" ∧ (parseMethodDescriptor yX1_lowest.desc).map (fun d => d.parameters.length) = some 1 := by decide +kernel
set_option maxHeartbeats 4000000 in
set_option maxRecDepth 100000 in
theorem c_X1_lowest (l : Launch) (D : va_G) (cA cB : ClassId) (h0 a0 b0 k : Nat) (F : Nat → BitVec 8) (g : Nat → Bool) (f : Nat) (hf : f ≤ k + 2) (hk : k ≤ 14) : Met l yX1_lowest wsX1_lowest rmX1_lowest (va_Pc [.ref h0, .int (nI f)] (tw_B D (tw_M cA cB h0 a0 b0 k F g) (tw_tM cA cB))) (vp_Si (fun r => r = nI (tw_low g f (k + 2 - f)))) 0 0 (fun _ => False) := by
  refine tw_metR (by decide) rfl rfl (Nat.le_of_ble_eq_true rfl) ?_
  intro p e s m args below meth c Q ls hx hb hml hown hts hP hK hend hl
  have hown : s.vm.findClass RX1 = some m.cls := hown
  have hl : lv_has ls 3 [(0, .ref h0), (1, .int (nI f))] := hl
  have loop : ∀ (n j : Nat) (ls : Array Slot), j + n = k + 2 → tw_low g f (k + 2 - f) = tw_low g j n → lv_has ls 3 [(0, .ref h0), (1, .int (nI f)), (2, .int (nI j))] → W p l e rmX1_lowest s m args below meth c s.heap [] 0 0 Q (F0 m 2 ls []) := by
    intro n
    induction n with
    | zero =>
      intro j ls hj hlow hl
      refine lv_iload_n hx hb dX1_lowest_2 rfl (lv_at hl 2 rfl) ?_
      refine lv_aload_n hx hb dX1_lowest_3 rfl (lv_at hl 0 rfl) ?_
      refine va_get (D := D) (ci := 1) (v := .int (nI (k + 2))) (C := RX1) (T := TX1) (N := 4) hx hb hts inX1_lowest hown hK hP 0 rfl rfl 1 (by decide) (hts _ fX1_lowest_25) (fun _ h9 => h9) rfl dX1_lowest_4 ?_
      refine lv_icmp_ge (tgt := 25) hx hb dX1_lowest_7 (by decide) (fun c_7 => ?_) (fun c_7 => ?_)
      · refine lv_iload_n hx hb dX1_lowest_25 rfl (lv_at hl 2 rfl) ?_
        refine tw_topr (x' := nI (tw_low g f (k + 2 - f))) (by rw [hlow]; rfl) ?_
        exact hend _ _ dX1_lowest_26
      · exact absurd (nI_le (by omega) (by omega)) c_7
    | succ n ih =>
      intro j ls hj hlow hl
      refine lv_iload_n hx hb dX1_lowest_2 rfl (lv_at hl 2 rfl) ?_
      refine lv_aload_n hx hb dX1_lowest_3 rfl (lv_at hl 0 rfl) ?_
      refine va_get (D := D) (ci := 1) (v := .int (nI (k + 2))) (C := RX1) (T := TX1) (N := 4) hx hb hts inX1_lowest hown hK hP 0 rfl rfl 1 (by decide) (hts _ fX1_lowest_25) (fun _ h9 => h9) rfl dX1_lowest_4 ?_
      refine lv_icmp_ge (tgt := 25) hx hb dX1_lowest_7 (by decide) (fun c_7 => ?_) (fun c_7 => ?_)
      · exact absurd c_7 (nI_ge (by omega) (by omega))
      · refine lv_aload_n hx hb dX1_lowest_10 rfl (lv_at hl 0 rfl) ?_
        refine va_get (D := D) (ci := 1) (v := .ref b0) (C := RX1) (T := TX1) (N := 4) hx hb hts inX1_lowest hown hK hP 0 rfl rfl 3 (by decide) (hts _ fX1_lowest_13) (fun _ h9 => h9) rfl dX1_lowest_11 ?_
        refine lv_iload_n hx hb dX1_lowest_14 rfl (lv_at hl 2 rfl) ?_
        refine tw_lz hx hb hK hP 2 1 rfl rfl (n := j) (rfl) (by omega) (by decide) dX1_lowest_15 ?_
        refine lv_if_ne (tgt := 25) hx hb dX1_lowest_16 (by decide) (fun c_16 => ?_) (fun c_16 => ?_)
        · refine lv_iload_n hx hb dX1_lowest_25 rfl (lv_at hl 2 rfl) ?_
          refine tw_topr (x' := nI (tw_low g f (k + 2 - f))) (by rw [hlow, tw_low, if_pos (tw_bI1.mp c_16)]) ?_
          exact hend _ _ dX1_lowest_26
        · refine lv_iinc (v := nI (j + 1)) (lv' := [(2, .int (nI (j + 1))), (0, .ref h0), (1, .int (nI f))]) hx hb dX1_lowest_19 hl (k := 2) rfl (nI_1 j) (by decide) rfl (fun ls hl => ?_)
          refine lv_goto (tgt := 2) hx hb dX1_lowest_22 (by decide) ?_
          exact ih (j + 1) ls (by omega) (by rw [hlow, tw_low, if_neg (by rw [tw_bI0.mp c_16]; decide)]) (lv_sub hl [1, 2, 0] rfl)
  refine lv_iload_n hx hb dX1_lowest_0 rfl (lv_at hl 1 rfl) ?_
  refine lv_istore_n (lv' := [(2, .int (nI f)), (0, .ref h0), (1, .int (nI f))]) hx hb dX1_lowest_1 rfl hl (by decide) rfl (fun ls hl => ?_)
  exact loop (k + 2 - f) f ls (by omega) rfl (lv_sub hl [1, 2, 0] rfl)
