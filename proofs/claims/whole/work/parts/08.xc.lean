def tw_get (k : Nat) (lo : Int32) (F : Nat → BitVec 8) (x z : Int32) : Int32 := if tw_th k lo x && tw_sp z 1 1 then tq_eb (F (64 * x.toNatClampNeg + z.toNatClampNeg)) else -1
abbrev rmX0_get : Room := { frames := 2, cells := 0, slots := 0, locals := 42 }
theorem inX0_get : ∀ w ∈ wsX00, w ∈ wsX0_get := fun _ h => List.mem_cons_of_mem _ (List.mem_append_right _ h)
theorem fX0_get_13 : Cond.fieldLink RX0 13 "TwinParity" "dataUnits" "I" ∈ wsX0_get := List.mem_of_getElem? (i := 10) rfl
theorem fX0_get_17 : Cond.fieldLink RX0 17 "TwinParity" "lostUnits" "I" ∈ wsX0_get := List.mem_of_getElem? (i := 15) rfl
theorem fX0_get_9 : Cond.fieldLink RX0 9 "TwinParity" "bytes" "[I" ∈ wsX0_get := List.mem_of_getElem? (i := 23) rfl
theorem kdX0_get : yX0_get.cls = RX0 ∧ yX0_get.cls ≠ "java/lang/invoke/MethodHandle" ∧ yX0_get.cls ≠ "java/lang/invoke/VarHandle" ∧ (parseMethodDescriptor yX0_get.desc).map (fun d => d.parameters.length) = some 2 := by decide +kernel
set_option maxHeartbeats 4000000 in
set_option maxRecDepth 100000 in
theorem c_X0_get (l : Launch) (D : va_G) (cA : ClassId) (h0 a0 k : Nat) (lo : Int32) (F : Nat → BitVec 8) (x z : Int32) (hk : k ≤ 14) : Met l yX0_get wsX0_get rmX0_get (va_Pc [.ref h0, .int x, .int z] (tw_B D (tw_X cA h0 a0 k lo F) (tw_tX cA))) (vp_Si (fun r => r = tw_get k lo F x z)) 0 0 (fun _ => False) := by
  refine tw_metR (by decide) rfl rfl (Nat.le_of_ble_eq_true rfl) ?_
  intro p e s m args below meth c Q ls hx hb hml hown hts hP hK hend hl
  have hown : s.vm.findClass RX0 = some m.cls := hown
  have hl : lv_has ls 3 [(0, .ref h0), (1, .int x), (2, .int z)] := hl
  refine lv_aload_n hx hb dX0_get_0 rfl (lv_at hl 0 rfl) ?_
  refine lv_iload_n hx hb dX0_get_1 rfl (lv_at hl 1 rfl) ?_
  refine tw_rX ⟨hx, hb, hml, hown, hts⟩ hK hP (c_X0_isThere l D cA h0 a0 k lo F x hk) (cwV 1 hts gX0_get_X0_isThere rfl rfl rfl kdX0_isThere ⟨Nat.le_of_ble_eq_true rfl, Nat.le_of_ble_eq_true rfl⟩) rfl hl.1 rfl (Nat.le_of_ble_eq_true rfl) dX0_get_2 ⟨Nat.zero_le _, Nat.zero_le _⟩ ?_
  refine lv_if_eq (tgt := 17) hx hb dX0_get_5 (by decide) (fun c_5 => ?_) (fun c_5 => ?_)
  · rw [tw_bI0] at c_5
    refine lv_iconst (v := (-1)) hx hb dX0_get_17 (by decide) ?_
    refine tw_topr (x' := tw_get k lo F x z) (by first | (simp [tw_get, c_14]; done) | (simp [tw_get, c_5]; done)) ?_
    exact hend _ _ dX0_get_18
  · rw [tw_bI1] at c_5
    refine lv_iload_n hx hb dX0_get_8 rfl (lv_at hl 2 rfl) ?_
    refine lv_iconst (v := 1) hx hb dX0_get_9 (by decide) ?_
    refine lv_iconst (v := 1) hx hb dX0_get_10 (by decide) ?_
    refine tw_s ⟨hx, hb, hml, hown, hts⟩ (c_X0_isSpan l z 1 1) (va_cwS 3 hts gX0_get_X0_isSpan rfl rfl rfl kdX0_isSpan ⟨Nat.le_of_ble_eq_true rfl, Nat.le_of_ble_eq_true rfl⟩) rfl hl.1 rfl (Nat.le_of_ble_eq_true rfl) dX0_get_11 ⟨Nat.zero_le _, Nat.zero_le _⟩ ?_
    refine lv_if_ne (tgt := 19) hx hb dX0_get_14 (by decide) (fun c_14 => ?_) (fun c_14 => ?_)
    · rw [tw_bI1] at c_14
      generalize hE : tw_get k lo F x z = E at hend
      obtain ⟨u, hu, rfl, hlb⟩ := tw_thD hk c_5
      obtain ⟨i, j, rfl, hj, hj1, hj2, hij⟩ := tw_spD (mm := 1) (by decide) c_14
      refine lv_aload_n hx hb dX0_get_19 rfl (lv_at hl 0 rfl) ?_
      refine lv_iload_n hx hb dX0_get_20 rfl (lv_at hl 1 rfl) ?_
      refine lv_iload_n hx hb dX0_get_21 rfl (lv_at hl 2 rfl) ?_
      refine tw_rX ⟨hx, hb, hml, hown, hts⟩ hK hP (c_X0_byteAt l D cA h0 a0 k lo F u i (by omega)) (cwV 2 hts gX0_get_X0_byteAt rfl rfl rfl kdX0_byteAt ⟨Nat.le_of_ble_eq_true rfl, Nat.le_of_ble_eq_true rfl⟩) rfl hl.1 rfl (Nat.le_of_ble_eq_true rfl) dX0_get_22 ⟨Nat.zero_le _, Nat.zero_le _⟩ ?_
      refine tw_topr (x' := E) (by rw [← hE, tw_get, c_5, c_14, nI_clamp (by omega), nI_clamp (by omega)]; rfl) ?_
      exact hend _ _ dX0_get_25
    · rw [tw_bI0] at c_14
      refine lv_iconst (v := (-1)) hx hb dX0_get_17 (by decide) ?_
      refine tw_topr (x' := tw_get k lo F x z) (by first | (simp [tw_get, c_14]; done) | (simp [tw_get, c_5]; done)) ?_
      exact hend _ _ dX0_get_18
def tw_w8 (z : Int32) : Bool := !decide (z < 0) && !decide (8 ≤ z)
def tw_wval (F : Nat → BitVec 8) (u i : Nat) : Int64 := tq_wd (fun j => F (64 * u + (8 * i + j))) 8
def tw_word (k : Nat) (lo : Int32) (F : Nat → BitVec 8) (x z : Int32) : Int64 := if tw_th k lo x && tw_w8 z then tw_wval F x.toNatClampNeg z.toNatClampNeg else 0
abbrev rmX0_word : Room := { frames := 2, cells := 0, slots := 0, locals := 42 }
theorem inX0_word : ∀ w ∈ wsX00, w ∈ wsX0_word := fun _ h => List.mem_cons_of_mem _ (List.mem_append_right _ h)
theorem fX0_word_13 : Cond.fieldLink RX0 13 "TwinParity" "dataUnits" "I" ∈ wsX0_word := List.mem_of_getElem? (i := 10) rfl
theorem fX0_word_17 : Cond.fieldLink RX0 17 "TwinParity" "lostUnits" "I" ∈ wsX0_word := List.mem_of_getElem? (i := 15) rfl
theorem fX0_word_9 : Cond.fieldLink RX0 9 "TwinParity" "bytes" "[I" ∈ wsX0_word := List.mem_of_getElem? (i := 20) rfl
theorem kdX0_word : yX0_word.cls = RX0 ∧ yX0_word.cls ≠ "java/lang/invoke/MethodHandle" ∧ yX0_word.cls ≠ "java/lang/invoke/VarHandle" ∧ (parseMethodDescriptor yX0_word.desc).map (fun d => d.parameters.length) = some 2 := by decide +kernel
set_option maxHeartbeats 4000000 in
set_option maxRecDepth 100000 in
theorem c_X0_word (l : Launch) (D : va_G) (cA : ClassId) (h0 a0 k : Nat) (lo : Int32) (F : Nat → BitVec 8) (x z : Int32) (hk : k ≤ 14) : Met l yX0_word wsX0_word rmX0_word (va_Pc [.ref h0, .int x, .int z] (tw_B D (tw_X cA h0 a0 k lo F) (tw_tX cA))) (vp_Sl (fun r => r = tw_word k lo F x z)) 0 0 (fun _ => False) := by
  refine tw_metL (by decide) rfl rfl (Nat.le_of_ble_eq_true rfl) ?_
  intro p e s m args below meth c Q ls hx hb hml hown hts hP hK hend hl
  have hown : s.vm.findClass RX0 = some m.cls := hown
  have hl : lv_has ls 6 [(0, .ref h0), (1, .int x), (2, .int z)] := hl
  refine lv_aload_n hx hb dX0_word_0 rfl (lv_at hl 0 rfl) ?_
  refine lv_iload_n hx hb dX0_word_1 rfl (lv_at hl 1 rfl) ?_
  refine tw_rX ⟨hx, hb, hml, hown, hts⟩ hK hP (c_X0_isThere l D cA h0 a0 k lo F x hk) (cwV 1 hts gX0_word_X0_isThere rfl rfl rfl kdX0_isThere ⟨Nat.le_of_ble_eq_true rfl, Nat.le_of_ble_eq_true rfl⟩) rfl hl.1 rfl (Nat.le_of_ble_eq_true rfl) dX0_word_2 ⟨Nat.zero_le _, Nat.zero_le _⟩ ?_
  refine lv_if_eq (tgt := 18) hx hb dX0_word_5 (by decide) (fun c_5 => ?_) (fun c_5 => ?_)
  · rw [tw_bI0] at c_5
    refine lv_lconst (v := 0) hx hb dX0_word_18 (by decide) ?_
    refine tw_toprl (x' := tw_word k lo F x z) (by first | (simp [tw_word, c_5]; done) | (simp [tw_word, tw_w8, c_9]; done) | (simp [tw_word, tw_w8, Int32.not_lt.mp c_15]; done)) ?_
    exact hend _ _ dX0_word_19
  · rw [tw_bI1] at c_5
    refine lv_iload_n hx hb dX0_word_8 rfl (lv_at hl 2 rfl) ?_
    refine lv_if_lt (tgt := 18) hx hb dX0_word_9 (by decide) (fun c_9 => ?_) (fun c_9 => ?_)
    · refine lv_lconst (v := 0) hx hb dX0_word_18 (by decide) ?_
      refine tw_toprl (x' := tw_word k lo F x z) (by first | (simp [tw_word, c_5]; done) | (simp [tw_word, tw_w8, c_9]; done) | (simp [tw_word, tw_w8, Int32.not_lt.mp c_15]; done)) ?_
      exact hend _ _ dX0_word_19
    · refine lv_iload_n hx hb dX0_word_12 rfl (lv_at hl 2 rfl) ?_
      refine lv_bipush (v := 8) hx hb dX0_word_13 (by decide) ?_
      refine lv_icmp_lt (tgt := 20) hx hb dX0_word_15 (by decide) (fun c_15 => ?_) (fun c_15 => ?_)
      · generalize hE : tw_word k lo F x z = E at hend
        obtain ⟨u, hu, rfl, hlb⟩ := tw_thD hk c_5
        obtain ⟨i, hi0, rfl⟩ := nI_of c_9
        have hi : i < 8 := by rcases Nat.lt_or_ge i 8 with q | q; exact q; exact absurd c_15 (nI_nlt q hi0)
        have loop : ∀ (n : Nat) (ls : Array Slot), n ≤ 8 → lv_has ls 6 [(0, .ref h0), (1, .int (nI u)), (2, .int (nI i)), (3, .long (tq_wd (fun j => F (64 * u + (8 * i + j))) (8 - n))), (5, .int (nI n - 1))] → W p l e rmX0_word s m args below meth c s.heap [] 0 0 Q (F0 m 26 ls []) := by
          intro n
          induction n with
          | zero =>
            intro ls hn hl
            have hl : lv_has ls 6 [(0, .ref h0), (1, .int (nI u)), (2, .int (nI i)), (3, .long (tq_wd (fun j => F (64 * u + (8 * i + j))) (8 - 0))), (5, .int ((-1)))] := hl
            refine lv_iload hx hb dX0_word_26 (lv_at hl 4 rfl) ?_
            refine lv_if_lt (tgt := 56) hx hb dX0_word_28 (by decide) (fun c_28 => ?_) (fun c_28 => ?_)
            · refine lv_lload_n hx hb dX0_word_56 rfl (lv_at hl 3 rfl) ?_
              refine tw_toprl (x' := E) (by rw [← hE, tw_word, c_5, tw_w8]; simp [c_9, c_15, nI_clamp (show u < 2 ^ 31 by omega), nI_clamp (show i < 2 ^ 31 by omega)]; rfl) ?_
              exact hend _ _ dX0_word_57
            · exact absurd (by decide) c_28
          | succ n ih =>
            intro ls hn hl
            rw [nI_pred] at hl
            refine lv_iload hx hb dX0_word_26 (lv_at hl 4 rfl) ?_
            refine lv_if_lt (tgt := 56) hx hb dX0_word_28 (by decide) (fun c_28 => ?_) (fun c_28 => ?_)
            · exact absurd c_28 (nI_pos (by omega))
            · refine lv_lload_n hx hb dX0_word_31 rfl (lv_at hl 3 rfl) ?_
              refine lv_bipush (v := 8) hx hb dX0_word_32 (by decide) ?_
              refine lv_lshl hx hb dX0_word_34 rfl ?_
              refine lv_aload_n hx hb dX0_word_35 rfl (lv_at hl 0 rfl) ?_
              refine lv_iload_n hx hb dX0_word_36 rfl (lv_at hl 1 rfl) ?_
              refine lv_bipush (v := 8) hx hb dX0_word_37 (by decide) ?_
              refine lv_iload_n hx hb dX0_word_39 rfl (lv_at hl 2 rfl) ?_
              refine lv_imul hx hb dX0_word_40 ?_
              refine lv_iload hx hb dX0_word_41 (lv_at hl 4 rfl) ?_
              refine lv_iadd hx hb dX0_word_43 ?_
              refine tw_topr (x' := nI (8 * i + n)) (by rw [show (8 : Int32) = nI 8 from rfl, pk_mul, nI_add]) ?_
              refine tw_rX ⟨hx, hb, hml, hown, hts⟩ hK hP (c_X0_byteAt l D cA h0 a0 k lo F u (8 * i + n) (by omega)) (cwV 2 hts gX0_word_X0_byteAt rfl rfl rfl kdX0_byteAt ⟨Nat.le_of_ble_eq_true rfl, Nat.le_of_ble_eq_true rfl⟩) rfl hl.1 rfl (Nat.le_of_ble_eq_true rfl) dX0_word_44 ⟨Nat.zero_le _, Nat.zero_le _⟩ ?_
              refine lv_i2l hx hb dX0_word_47 rfl ?_
              refine lv_lor hx hb dX0_word_48 ?_
              refine tw_toprl (x' := tq_wd (fun j => F (64 * u + (8 * i + j))) (8 - n)) (by rw [show 8 - n = (8 - (n + 1)) + 1 by omega, tq_wd, show 7 - (8 - (n + 1)) = n by omega]) ?_
              refine lv_lstore_n (lv' := [(3, .long (tq_wd (fun j => F (64 * u + (8 * i + j))) (8 - n))), (0, .ref h0), (1, .int (nI u)), (2, .int (nI i)), (5, .int (nI n))]) hx hb dX0_word_49 rfl hl (by decide) rfl (fun ls hl => ?_)
              refine lv_iinc (v := nI n - 1) (lv' := [(5, .int (nI n - 1)), (3, .long (tq_wd (fun j => F (64 * u + (8 * i + j))) (8 - n))), (0, .ref h0), (1, .int (nI u)), (2, .int (nI i))]) hx hb dX0_word_50 hl (k := 4) rfl (tw_dec n) (by decide) rfl (fun ls hl => ?_)
              refine lv_goto (tgt := 26) hx hb dX0_word_53 (by decide) ?_
              exact ih ls (by omega) (lv_sub hl [2, 3, 4, 1, 0] rfl)
        refine lv_lconst (v := 0) hx hb dX0_word_20 (by decide) ?_
        refine lv_lstore_n (lv' := [(3, .long 0), (0, .ref h0), (1, .int (nI u)), (2, .int (nI i))]) hx hb dX0_word_21 rfl hl (by decide) rfl (fun ls hl => ?_)
        refine lv_bipush (v := 7) hx hb dX0_word_22 (by decide) ?_
        refine lv_istore (lv' := [(5, .int 7), (3, .long 0), (0, .ref h0), (1, .int (nI u)), (2, .int (nI i))]) hx hb dX0_word_24 hl (by decide) rfl (fun ls hl => ?_)
        exact loop 8 ls (Nat.le_refl 8) (lv_sub hl [2, 3, 4, 1, 0] rfl)
      · refine lv_lconst (v := 0) hx hb dX0_word_18 (by decide) ?_
        refine tw_toprl (x' := tw_word k lo F x z) (by first | (simp [tw_word, c_5]; done) | (simp [tw_word, tw_w8, c_9]; done) | (simp [tw_word, tw_w8, Int32.not_lt.mp c_15]; done)) ?_
        exact hend _ _ dX0_word_19
def tw_cnt (k : Nat) (lo x : Int32) : Int32 := if x = 0 then nI (k + 2) else if x = 1 then tw_bc lo else if x = 2 then tw_lf k lo 0 else -1
abbrev rmX0_count : Room := { frames := 2, cells := 0, slots := 0, locals := 43 }
theorem inX0_count : ∀ w ∈ wsX00, w ∈ wsX0_count := fun _ h => List.mem_cons_of_mem _ (List.mem_append_right _ h)
theorem fX0_count_13 : Cond.fieldLink RX0 13 "TwinParity" "dataUnits" "I" ∈ wsX0_count := List.mem_of_getElem? (i := 6) rfl
theorem fX0_count_17 : Cond.fieldLink RX0 17 "TwinParity" "lostUnits" "I" ∈ wsX0_count := List.mem_of_getElem? (i := 11) rfl
theorem kdX0_count : yX0_count.cls = RX0 ∧ yX0_count.cls ≠ "java/lang/invoke/MethodHandle" ∧ yX0_count.cls ≠ "java/lang/invoke/VarHandle" ∧ (parseMethodDescriptor yX0_count.desc).map (fun d => d.parameters.length) = some 1 := by decide +kernel
set_option maxHeartbeats 4000000 in
set_option maxRecDepth 100000 in
theorem c_X0_count (l : Launch) (D : va_G) (cA : ClassId) (h0 a0 k : Nat) (lo : Int32) (F : Nat → BitVec 8) (x : Int32) (hk : k ≤ 14) : Met l yX0_count wsX0_count rmX0_count (va_Pc [.ref h0, .int x] (tw_B D (tw_X cA h0 a0 k lo F) (tw_tX cA))) (vp_Si (fun r => r = tw_cnt k lo x)) 0 0 (fun _ => False) := by
  refine tw_metR (by decide) rfl rfl (Nat.le_of_ble_eq_true rfl) ?_
  intro p e s m args below meth c Q ls hx hb hml hown hts hP hK hend hl
  have hown : s.vm.findClass RX0 = some m.cls := hown
  have hl : lv_has ls 2 [(0, .ref h0), (1, .int x)] := hl
  refine lv_iload_n hx hb dX0_count_0 rfl (lv_at hl 1 rfl) ?_
  by_cases hv0 : x = 0
  · subst hv0
    refine lv_tableIn (tgt := 28) (off := 27) hx hb dX0_count_1 (by decide) (by decide) (by decide) (by decide) ?_
    refine lv_aload_n hx hb dX0_count_28 rfl (lv_at hl 0 rfl) ?_
    refine tw_rX ⟨hx, hb, hml, hown, hts⟩ hK hP (c_X0_units l D cA h0 a0 k lo F ) (cwV 0 hts gX0_count_X0_units rfl rfl rfl kdX0_units ⟨Nat.le_of_ble_eq_true rfl, Nat.le_of_ble_eq_true rfl⟩) rfl hl.1 rfl (Nat.le_of_ble_eq_true rfl) dX0_count_29 ⟨Nat.zero_le _, Nat.zero_le _⟩ ?_
    exact hend _ _ dX0_count_32
  by_cases hv1 : x = 1
  · subst hv1
    refine lv_tableIn (tgt := 33) (off := 32) hx hb dX0_count_1 (by decide) (by decide) (by decide) (by decide) ?_
    refine lv_aload_n hx hb dX0_count_33 rfl (lv_at hl 0 rfl) ?_
    refine tw_rX ⟨hx, hb, hml, hown, hts⟩ hK hP (c_X0_lostCount l D cA h0 a0 k lo F ) (cwV 0 hts gX0_count_X0_lostCount rfl rfl rfl kdX0_lostCount ⟨Nat.le_of_ble_eq_true rfl, Nat.le_of_ble_eq_true rfl⟩) rfl hl.1 rfl (Nat.le_of_ble_eq_true rfl) dX0_count_34 ⟨Nat.zero_le _, Nat.zero_le _⟩ ?_
    exact hend _ _ dX0_count_37
  by_cases hv2 : x = 2
  · subst hv2
    refine lv_tableIn (tgt := 38) (off := 37) hx hb dX0_count_1 (by decide) (by decide) (by decide) (by decide) ?_
    refine lv_aload_n hx hb dX0_count_38 rfl (lv_at hl 0 rfl) ?_
    refine lv_iconst (v := 0) hx hb dX0_count_39 (by decide) ?_
    refine tw_rX ⟨hx, hb, hml, hown, hts⟩ hK hP (c_X0_lostFrom l D cA h0 a0 k lo F 0 (by omega) hk) (cwV 1 hts gX0_count_X0_lostFrom rfl rfl rfl kdX0_lostFrom ⟨Nat.le_of_ble_eq_true rfl, Nat.le_of_ble_eq_true rfl⟩) rfl hl.1 rfl (Nat.le_of_ble_eq_true rfl) dX0_count_40 ⟨Nat.zero_le _, Nat.zero_le _⟩ ?_
    exact hend _ _ dX0_count_43
  refine lv_tableOut (tgt := 44) hx hb dX0_count_1 (by have := lv_neT (a := 0) hv0 (by decide); have := lv_neT (a := 1) hv1 (by decide); have := lv_neT (a := 2) hv2 (by decide); omega) (by decide) ?_
  refine lv_iconst (v := (-1)) hx hb dX0_count_44 (by decide) ?_
  refine tw_topr (x' := tw_cnt k lo x) (by simp [tw_cnt, hv0, hv1, hv2]) ?_
  exact hend _ _ dX0_count_45
def tw_pr (a b z : Int32) : Int32 := if tw_el a && (tw_el b && !(!decide (z = 0) && decide (b = 0))) then tq_eb (tq_m (tq_bv a) (if z = 0 then tq_bv b else tq_i (tq_bv b))) else -1
abbrev rmX0_product : Room := { frames := 3, cells := 0, slots := 0, locals := 68 }
theorem kdX0_product : yX0_product.cls = RX0 ∧ yX0_product.cls ≠ "java/lang/invoke/MethodHandle" ∧ yX0_product.cls ≠ "java/lang/invoke/VarHandle" ∧ (parseMethodDescriptor yX0_product.desc).map (fun d => d.parameters.length) = some 3 := by decide +kernel
set_option maxHeartbeats 4000000 in
set_option maxRecDepth 100000 in
theorem c_X0_product (l : Launch) (D : va_G) (cA : ClassId) (h0 a0 k : Nat) (lo : Int32) (F : Nat → BitVec 8) (a b z : Int32) : Met l yX0_product wsX0_product rmX0_product (va_Pc [.ref h0, .int a, .int b, .int z] (tw_B D (tw_X cA h0 a0 k lo F) (tw_tX cA))) (vp_Si (fun r => r = tw_pr a b z)) 0 0 (fun _ => False) := by
  refine tw_metR (by decide) rfl rfl (Nat.le_of_ble_eq_true rfl) ?_
  intro p e s m args below meth c Q ls hx hb hml hown hts hP hK hend hl
  have hown : s.vm.findClass RX0 = some m.cls := hown
  have hl : lv_has ls 4 [(0, .ref h0), (1, .int a), (2, .int b), (3, .int z)] := hl
  refine lv_iload_n hx hb dX0_product_0 rfl (lv_at hl 1 rfl) ?_
  refine tw_s ⟨hx, hb, hml, hown, hts⟩ (c_X0_isElement l a) (va_cwS 1 hts gX0_product_X0_isElement rfl rfl rfl kdX0_isElement ⟨Nat.le_of_ble_eq_true rfl, Nat.le_of_ble_eq_true rfl⟩) rfl hl.1 rfl (Nat.le_of_ble_eq_true rfl) dX0_product_1 ⟨Nat.zero_le _, Nat.zero_le _⟩ ?_
  refine lv_if_eq (tgt := 22) hx hb dX0_product_4 (by decide) (fun c_4 => ?_) (fun c_4 => ?_)
  · rw [tw_bI0] at c_4
    refine lv_iconst (v := (-1)) hx hb dX0_product_22 (by decide) ?_
    refine tw_topr (x' := tw_pr a b z) (by first | (simp [tw_pr, c_4]; done) | (simp [tw_pr, c_11]; done) | (simp [tw_pr, c_15, c_19]; done)) ?_
    exact hend _ _ dX0_product_23
  · rw [tw_bI1] at c_4
    refine lv_iload_n hx hb dX0_product_7 rfl (lv_at hl 2 rfl) ?_
    refine tw_s ⟨hx, hb, hml, hown, hts⟩ (c_X0_isElement l b) (va_cwS 1 hts gX0_product_X0_isElement rfl rfl rfl kdX0_isElement ⟨Nat.le_of_ble_eq_true rfl, Nat.le_of_ble_eq_true rfl⟩) rfl hl.1 rfl (Nat.le_of_ble_eq_true rfl) dX0_product_8 ⟨Nat.zero_le _, Nat.zero_le _⟩ ?_
    refine lv_if_eq (tgt := 22) hx hb dX0_product_11 (by decide) (fun c_11 => ?_) (fun c_11 => ?_)
    · rw [tw_bI0] at c_11
      refine lv_iconst (v := (-1)) hx hb dX0_product_22 (by decide) ?_
      refine tw_topr (x' := tw_pr a b z) (by first | (simp [tw_pr, c_4]; done) | (simp [tw_pr, c_11]; done) | (simp [tw_pr, c_15, c_19]; done)) ?_
      exact hend _ _ dX0_product_23
    · rw [tw_bI1] at c_11
      refine lv_iload_n hx hb dX0_product_14 rfl (lv_at hl 3 rfl) ?_
      refine lv_if_eq (tgt := 24) hx hb dX0_product_15 (by decide) (fun c_15 => ?_) (fun c_15 => ?_)
      · generalize hE : tw_pr a b z = E at hend
        obtain ⟨a2, rfl⟩ := tw_elD c_4
        obtain ⟨b2, rfl⟩ := tw_elD c_11
        refine lv_iload_n hx hb dX0_product_24 rfl (lv_at hl 1 rfl) ?_
        refine lv_iload_n hx hb dX0_product_25 rfl (lv_at hl 3 rfl) ?_
        refine lv_if_eq (tgt := 36) hx hb dX0_product_26 (by decide) (fun c_26 => ?_) (fun c_26 => ?_)
        · refine lv_iload_n hx hb dX0_product_36 rfl (lv_at hl 2 rfl) ?_
          refine tw_s ⟨hx, hb, hml, hown, hts⟩ (c_X0_multiplied l a2 b2) (va_cwS 2 hts gX0_product_X0_multiplied rfl rfl rfl kdX0_multiplied ⟨Nat.le_of_ble_eq_true rfl, Nat.le_of_ble_eq_true rfl⟩) rfl hl.1 rfl (Nat.le_of_ble_eq_true rfl) dX0_product_37 ⟨Nat.zero_le _, Nat.zero_le _⟩ ?_
          refine tw_topr (x' := E) (by first | exact absurd c_15 c_26 | exact absurd c_26 c_15 | (rw [← hE, tw_pr, c_4, c_11, tq_bv_eb, tq_bv_eb]; first | (simp [c_15]; done) | (simp [c_15, c_19]; done) | (simp [c_15, tq_eb_z]; simp only [tq_eb_z] at c_19; simp [c_19]; done))) ?_
          exact hend _ _ dX0_product_40
        · refine lv_iload_n hx hb dX0_product_29 rfl (lv_at hl 2 rfl) ?_
          refine tw_s ⟨hx, hb, hml, hown, hts⟩ (c_X0_inverse l b2) (va_cwS 1 hts gX0_product_X0_inverse rfl rfl rfl kdX0_inverse ⟨Nat.le_of_ble_eq_true rfl, Nat.le_of_ble_eq_true rfl⟩) rfl hl.1 rfl (Nat.le_of_ble_eq_true rfl) dX0_product_30 ⟨Nat.zero_le _, Nat.zero_le _⟩ ?_
          refine lv_goto (tgt := 37) hx hb dX0_product_33 (by decide) ?_
          refine tw_s ⟨hx, hb, hml, hown, hts⟩ (c_X0_multiplied l a2 (tq_i b2)) (va_cwS 2 hts gX0_product_X0_multiplied rfl rfl rfl kdX0_multiplied ⟨Nat.le_of_ble_eq_true rfl, Nat.le_of_ble_eq_true rfl⟩) rfl hl.1 rfl (Nat.le_of_ble_eq_true rfl) dX0_product_37 ⟨Nat.zero_le _, Nat.zero_le _⟩ ?_
          refine tw_topr (x' := E) (by first | exact absurd c_15 c_26 | exact absurd c_26 c_15 | (rw [← hE, tw_pr, c_4, c_11, tq_bv_eb, tq_bv_eb]; first | (simp [c_15]; done) | (simp [c_15, c_19]; done) | (simp [c_15, tq_eb_z]; simp only [tq_eb_z] at c_19; simp [c_19]; done))) ?_
          exact hend _ _ dX0_product_40
      · refine lv_iload_n hx hb dX0_product_18 rfl (lv_at hl 2 rfl) ?_
        refine lv_if_ne (tgt := 24) hx hb dX0_product_19 (by decide) (fun c_19 => ?_) (fun c_19 => ?_)
        · generalize hE : tw_pr a b z = E at hend
          obtain ⟨a2, rfl⟩ := tw_elD c_4
          obtain ⟨b2, rfl⟩ := tw_elD c_11
          refine lv_iload_n hx hb dX0_product_24 rfl (lv_at hl 1 rfl) ?_
          refine lv_iload_n hx hb dX0_product_25 rfl (lv_at hl 3 rfl) ?_
          refine lv_if_eq (tgt := 36) hx hb dX0_product_26 (by decide) (fun c_26 => ?_) (fun c_26 => ?_)
          · refine lv_iload_n hx hb dX0_product_36 rfl (lv_at hl 2 rfl) ?_
            refine tw_s ⟨hx, hb, hml, hown, hts⟩ (c_X0_multiplied l a2 b2) (va_cwS 2 hts gX0_product_X0_multiplied rfl rfl rfl kdX0_multiplied ⟨Nat.le_of_ble_eq_true rfl, Nat.le_of_ble_eq_true rfl⟩) rfl hl.1 rfl (Nat.le_of_ble_eq_true rfl) dX0_product_37 ⟨Nat.zero_le _, Nat.zero_le _⟩ ?_
            refine tw_topr (x' := E) (by first | exact absurd c_15 c_26 | exact absurd c_26 c_15 | (rw [← hE, tw_pr, c_4, c_11, tq_bv_eb, tq_bv_eb]; first | (simp [c_15]; done) | (simp [c_15, c_19]; done) | (simp [c_15, tq_eb_z]; simp only [tq_eb_z] at c_19; simp [c_19]; done))) ?_
            exact hend _ _ dX0_product_40
          · refine lv_iload_n hx hb dX0_product_29 rfl (lv_at hl 2 rfl) ?_
            refine tw_s ⟨hx, hb, hml, hown, hts⟩ (c_X0_inverse l b2) (va_cwS 1 hts gX0_product_X0_inverse rfl rfl rfl kdX0_inverse ⟨Nat.le_of_ble_eq_true rfl, Nat.le_of_ble_eq_true rfl⟩) rfl hl.1 rfl (Nat.le_of_ble_eq_true rfl) dX0_product_30 ⟨Nat.zero_le _, Nat.zero_le _⟩ ?_
            refine lv_goto (tgt := 37) hx hb dX0_product_33 (by decide) ?_
            refine tw_s ⟨hx, hb, hml, hown, hts⟩ (c_X0_multiplied l a2 (tq_i b2)) (va_cwS 2 hts gX0_product_X0_multiplied rfl rfl rfl kdX0_multiplied ⟨Nat.le_of_ble_eq_true rfl, Nat.le_of_ble_eq_true rfl⟩) rfl hl.1 rfl (Nat.le_of_ble_eq_true rfl) dX0_product_37 ⟨Nat.zero_le _, Nat.zero_le _⟩ ?_
            refine tw_topr (x' := E) (by first | exact absurd c_15 c_26 | exact absurd c_26 c_15 | (rw [← hE, tw_pr, c_4, c_11, tq_bv_eb, tq_bv_eb]; first | (simp [c_15]; done) | (simp [c_15, c_19]; done) | (simp [c_15, tq_eb_z]; simp only [tq_eb_z] at c_19; simp [c_19]; done))) ?_
            exact hend _ _ dX0_product_40
        · refine lv_iconst (v := (-1)) hx hb dX0_product_22 (by decide) ?_
          refine tw_topr (x' := tw_pr a b z) (by first | (simp [tw_pr, c_4]; done) | (simp [tw_pr, c_11]; done) | (simp [tw_pr, c_15, c_19]; done)) ?_
          exact hend _ _ dX0_product_23
abbrev rmX0_power : Room := { frames := 2, cells := 0, slots := 0, locals := 44 }
theorem kdX0_power : yX0_power.cls = RX0 ∧ yX0_power.cls ≠ "java/lang/invoke/MethodHandle" ∧ yX0_power.cls ≠ "java/lang/invoke/VarHandle" ∧ (parseMethodDescriptor yX0_power.desc).map (fun d => d.parameters.length) = some 1 := by decide +kernel
set_option maxHeartbeats 4000000 in
set_option maxRecDepth 100000 in
theorem c_X0_power (l : Launch) (D : va_G) (cA : ClassId) (h0 a0 k : Nat) (lo : Int32) (F : Nat → BitVec 8) (x : Int32) : Met l yX0_power wsX0_power rmX0_power (va_Pc [.ref h0, .int x] (tw_B D (tw_X cA h0 a0 k lo F) (tw_tX cA))) (vp_Si (fun r => r = tq_eb (tq_p (tw_fm x) 1#8))) 0 0 (fun _ => False) := by
  refine tw_metR (by decide) rfl rfl (Nat.le_of_ble_eq_true rfl) ?_
  intro p e s m args below meth c Q ls hx hb hml hown hts hP hK hend hl
  have hown : s.vm.findClass RX0 = some m.cls := hown
  have hl : lv_has ls 2 [(0, .ref h0), (1, .int x)] := hl
  refine lv_iconst (v := 1) hx hb dX0_power_0 (by decide) ?_
  refine lv_iload_n hx hb dX0_power_1 rfl (lv_at hl 1 rfl) ?_
  refine lv_sipush (v := 255) hx hb dX0_power_2 (by decide) ?_
  refine tw_s ⟨hx, hb, hml, hown, hts⟩ (c_J9_floorMod_7cf53 l x) (va_cwS 2 hts gX0_power_J9_floorMod_7cf53 rfl rfl rfl kdJ9_floorMod_7cf53 ⟨Nat.le_of_ble_eq_true rfl, Nat.le_of_ble_eq_true rfl⟩) rfl hl.1 rfl (Nat.le_of_ble_eq_true rfl) dX0_power_5 ⟨Nat.zero_le _, Nat.zero_le _⟩ ?_
  refine tw_s ⟨hx, hb, hml, hown, hts⟩ (c_X0_timesPower l 1#8 (tw_fm x) (by have := tw_fm_lt x; omega)) (va_cwS 2 hts gX0_power_X0_timesPower rfl rfl rfl kdX0_timesPower ⟨Nat.le_of_ble_eq_true rfl, Nat.le_of_ble_eq_true rfl⟩) rfl hl.1 rfl (Nat.le_of_ble_eq_true rfl) dX0_power_8 ⟨Nat.zero_le _, Nat.zero_le _⟩ ?_
  exact hend _ _ dX0_power_11
