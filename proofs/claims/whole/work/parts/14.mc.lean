def tw_gl (g : Nat → Bool) (n : Nat) : Nat → Bool := fun j => if j < n then false else g j
theorem tw_gl_0 (g : Nat → Bool) : tw_gl g 0 = g := by funext j; simp [tw_gl]
theorem tw_gl_s (g : Nat → Bool) (n : Nat) : va_up (tw_gl g n) n false = tw_gl g (n + 1) := by
  funext j
  unfold va_up tw_gl
  by_cases h : j = n
  · simp [h]
  · rw [if_neg h]
    by_cases h2 : j < n
    · rw [if_pos h2, if_pos (by omega)]
    · rw [if_neg h2, if_neg (by omega)]
theorem tw_el_a {a : Int32} (h1 : ¬ a < 0) (h2 : ¬ 255 < a) : tw_el a = true := by
  have h3 : ¬ 256 ≤ a := by
    rw [Int32.le_iff_toInt_le]
    rw [Int32.lt_iff_toInt_lt] at h2
    have e0 : (255 : Int32).toInt = 255 := by decide
    have e2 : (256 : Int32).toInt = 256 := by decide
    omega
  simp [tw_el, h1, h3]
theorem tw_el_b {a : Int32} (h2 : 255 < a) : tw_el a = false := by
  have h3 : 256 ≤ a := by
    rw [Int32.le_iff_toInt_le]
    rw [Int32.lt_iff_toInt_lt] at h2
    have e0 : (255 : Int32).toInt = 255 := by decide
    have e2 : (256 : Int32).toInt = 256 := by decide
    omega
  simp [tw_el, h3]
theorem tw_el_c {a : Int32} (h2 : a < 0) : tw_el a = false := by simp [tw_el, h2]
theorem tw_nuD {k : Nat} {x : Int32} (hk : k ≤ 14) (h : tw_nu k x = false) : ∃ u : Nat, u < k + 2 ∧ x = nI u := by
  simp only [tw_nu, Bool.or_eq_false_iff, decide_eq_false_iff_not, Bool.not_eq_false', decide_eq_true_eq] at h
  obtain ⟨u, hu, rfl⟩ := nI_of h.1
  exact ⟨u, (nI_ltI hu (by omega)).mp h.2, rfl⟩
theorem tw_nuI {k u : Nat} (hk : k ≤ 14) (hu : u < k + 2) : tw_nu k (nI u) = false := by
  have h1 : ¬ nI u < 0 := nI_pos (by omega)
  have h2 : nI u < nI (k + 2) := nI_lt hu (by omega)
  simp [tw_nu, h1, h2]
def tw_mbegin (k : Nat) (F : Nat → BitVec 8) (g : Nat → Bool) (x : Int32) : Int32 × (Nat × (Nat → BitVec 8) × (Nat → Bool)) := if x < 2 ∨ ¬ x ≤ 14 then (-1, (k, F, g)) else (x + 2, (x.toNatClampNeg, tw_fl F 1024, tw_gl g 16))
abbrev rmX1_begin : Room := { frames := 0, cells := 0, slots := 0, locals := 0 }
theorem inX1_begin : ∀ w ∈ wsX10, w ∈ wsX1_begin := fun _ h => List.mem_cons_of_mem _ (List.mem_append_right _ h)
theorem fX1_begin_21 : Cond.fieldLink RX1 21 "TwinParityModel" "thrown" "I" ∈ wsX1_begin := List.mem_of_getElem? (i := 1) rfl
theorem fX1_begin_25 : Cond.fieldLink RX1 25 "TwinParityModel" "units" "I" ∈ wsX1_begin := List.mem_of_getElem? (i := 2) rfl
theorem fX1_begin_7 : Cond.fieldLink RX1 7 "TwinParityModel" "bytes" "[I" ∈ wsX1_begin := List.mem_of_getElem? (i := 3) rfl
theorem fX1_begin_13 : Cond.fieldLink RX1 13 "TwinParityModel" "lost" "[Z" ∈ wsX1_begin := List.mem_of_getElem? (i := 4) rfl
theorem kdX1_begin : yX1_begin.cls = RX1 ∧ yX1_begin.cls ≠ "java/lang/invoke/MethodHandle" ∧ yX1_begin.cls ≠ "java/lang/invoke/VarHandle" ∧ (parseMethodDescriptor yX1_begin.desc).map (fun d => d.parameters.length) = some 1 := by decide +kernel
set_option maxHeartbeats 4000000 in
set_option maxRecDepth 100000 in
theorem c_X1_begin (l : Launch) (D : va_G) (cA cB : ClassId) (h0 a0 b0 k : Nat) (F : Nat → BitVec 8) (g : Nat → Bool) (sz : Nat) (x : Int32) : Met l yX1_begin wsX1_begin rmX1_begin (va_Pc [.ref h0, .int x] (tw_Pw D (tw_M cA cB h0 a0 b0 k F g) (tw_tM cA cB) sz)) (va_Qi (fun (r : Int32) (u : Nat × (Nat → BitVec 8) × (Nat → Bool)) => (r, u) = tw_mbegin k F g x) (tw_Qw D (fun u : Nat × (Nat → BitVec 8) × (Nat → Bool) => tw_M cA cB h0 a0 b0 u.1 u.2.1 u.2.2) (tw_tM cA cB) (va_A (tw_M cA cB h0 a0 b0 k F g) sz)) (va_A (tw_M cA cB h0 a0 b0 k F g) sz)) 0 0 (va_A (tw_M cA cB h0 a0 b0 k F g) sz) := by
  refine tw_metW (by decide) rfl rfl (Nat.le_of_ble_eq_true rfl) ?_
  intro p e s m args below meth c Q ls A hx hb hml hown hts hP hK hD hS hA hend hl
  have hown : s.vm.findClass RX1 = some m.cls := hown
  have hl : lv_has ls 3 [(0, .ref h0), (1, .int x)] := hl
  generalize hE : tw_mbegin k F g x = E at hend
  refine lv_aload_n hx hb dX1_begin_0 rfl (lv_at hl 0 rfl) ?_
  refine lv_iconst (v := 0) hx hb dX1_begin_1 (by decide) ?_
  refine va_put (D := D) (ci := 1) (v := .int 0) (ty := .int) (C := RX1) (T := TX1) (N := 4) hx hb hts inX1_begin tyX1 tyX1_ok nmX1 hown hK hP hD hS 0 rfl rfl 0 (by decide) (hts _ fX1_begin_21) (fun _ h9 => h9) rfl (by decide +kernel) rfl rfl (Nat.le_of_ble_eq_true rfl) dX1_begin_2 (fun H locs hP hD hS => ?_)
  have hP : va_P D vwCl (tw_M cA cB h0 a0 b0 k F g) H := hP
  have hD : va_D A (tw_M cA cB h0 a0 b0 k F g) := hD
  refine lv_iload_n hx hb dX1_begin_5 rfl (lv_at hl 1 rfl) ?_
  refine lv_iconst (v := 2) hx hb dX1_begin_6 (by decide) ?_
  refine lv_icmp_lt (tgt := 16) hx hb dX1_begin_7 (by decide) (fun c_7 => ?_) (fun c_7 => ?_)
  · refine lv_iconst (v := (-1)) hx hb dX1_begin_16 (by decide) ?_
    exact hend _ _ _ (k, F, g) _ _ dX1_begin_17 (by rw [← hE, tw_mbegin, if_pos (by first | exact Or.inl c_7 | exact Or.inr c_13)]) hP hD hS
  · refine lv_iload_n hx hb dX1_begin_10 rfl (lv_at hl 1 rfl) ?_
    refine lv_bipush (v := 14) hx hb dX1_begin_11 (by decide) ?_
    refine lv_icmp_le (tgt := 18) hx hb dX1_begin_13 (by decide) (fun c_13 => ?_) (fun c_13 => ?_)
    · obtain ⟨j, hj31, rfl⟩ := nI_of (tw_nneg c_7)
      have hj14 : j ≤ 14 := (nI_leI hj31 (by decide)).mp (show nI j ≤ nI 14 from c_13)
      refine lv_aload_n hx hb dX1_begin_18 rfl (lv_at hl 0 rfl) ?_
      refine lv_iload_n hx hb dX1_begin_19 rfl (lv_at hl 1 rfl) ?_
      refine lv_iconst (v := 2) hx hb dX1_begin_20 (by decide) ?_
      refine lv_iadd hx hb dX1_begin_21 ?_
      refine tw_topr (x' := nI (j + 2)) (nI_add j 2) ?_
      refine va_put (D := D) (ci := 1) (v := .int (nI (j + 2))) (ty := .int) (C := RX1) (T := TX1) (N := 4) hx hb hts inX1_begin tyX1 tyX1_ok nmX1 hown hK hP hD hS 0 rfl rfl 1 (by decide) (hts _ fX1_begin_25) (fun _ h9 => h9) rfl (by decide +kernel) rfl rfl (Nat.le_of_ble_eq_true rfl) dX1_begin_22 (fun H locs hP hD hS => ?_)
      have hP : va_P D vwCl (tw_M cA cB h0 a0 b0 j F g) H := hP
      have hD : va_D A (tw_M cA cB h0 a0 b0 j F g) := hD
      have loop2 : ∀ (n i : Nat) (ls : Array Slot) (H : Heap) (locs : List Loc), i + n = 16 → va_P D vwCl (tw_M cA cB h0 a0 b0 j (tw_fl F 1024) (tw_gl g i)) H → va_D A (tw_M cA cB h0 a0 b0 j (tw_fl F 1024) (tw_gl g i)) → va_S A s.heap H locs → lv_has ls 3 [(0, .ref h0), (2, .int (nI i))] → W p l e rmX1_begin s m args below meth c H locs 0 0 Q (F0 m 49 ls []) := by
        intro n
        induction n with
        | zero =>
          intro i ls H locs hj hP hD hS hl
          refine lv_iload_n hx hb dX1_begin_49 rfl (lv_at hl 1 rfl) ?_
          refine lv_bipush (v := 16) hx hb dX1_begin_50 (by decide) ?_
          refine lv_icmp_ge (tgt := 68) hx hb dX1_begin_52 (by decide) (fun c_52 => ?_) (fun c_52 => ?_)
          · rw [show i = 16 by omega] at hP hD
            refine lv_aload_n hx hb dX1_begin_68 rfl (lv_at hl 0 rfl) ?_
            refine va_get (D := D) (ci := 1) (v := .int (nI (j + 2))) (C := RX1) (T := TX1) (N := 4) hx hb hts inX1_begin hown hK hP 0 rfl rfl 1 (by decide) (hts _ fX1_begin_25) (fun _ h9 => h9) rfl dX1_begin_69 ?_
            exact hend _ _ _ (j, tw_fl F 1024, tw_gl g 16) _ _ dX1_begin_72 (by rw [← hE, tw_mbegin, if_neg (fun q9 => q9.elim c_7 (fun q8 => q8 c_13)), nI_clamp hj31, show nI j + 2 = nI (j + 2) from nI_add j 2]) hP hD hS
          · exact absurd (nI_le (a := 16) (by omega) (by omega)) c_52
        | succ n ih =>
          intro i ls H locs hj hP hD hS hl
          refine lv_iload_n hx hb dX1_begin_49 rfl (lv_at hl 1 rfl) ?_
          refine lv_bipush (v := 16) hx hb dX1_begin_50 (by decide) ?_
          refine lv_icmp_ge (tgt := 68) hx hb dX1_begin_52 (by decide) (fun c_52 => ?_) (fun c_52 => ?_)
          · exact absurd c_52 (nI_ge (b := 16) (by omega) (by omega))
          · refine lv_aload_n hx hb dX1_begin_55 rfl (lv_at hl 0 rfl) ?_
            refine va_get (D := D) (ci := 1) (v := .ref b0) (C := RX1) (T := TX1) (N := 4) hx hb hts inX1_begin hown hK hP 0 rfl rfl 3 (by decide) (hts _ fX1_begin_13) (fun _ h9 => h9) rfl dX1_begin_56 ?_
            refine lv_iload_n hx hb dX1_begin_59 rfl (lv_at hl 1 rfl) ?_
            refine lv_iconst (v := 0) hx hb dX1_begin_60 (by decide) ?_
            refine tw_sz hx hb hK hP hD hS 2 1 rfl rfl (n := i) (v := false) (rfl) (rfl) (by omega) (by decide) dX1_begin_61 (fun H locs hP hD hS => ?_)
            have hP : va_P D vwCl (tw_M cA cB h0 a0 b0 j (tw_fl F 1024) (va_up (tw_gl g i) (i) (false))) H := hP
            have hD : va_D A (tw_M cA cB h0 a0 b0 j (tw_fl F 1024) (va_up (tw_gl g i) (i) (false))) := hD
            rw [show va_up (tw_gl g i) (i) (false) = tw_gl g (i + 1) from tw_gl_s g i] at hP hD
            refine lv_iinc (v := nI (i + 1)) (lv' := [(2, .int (nI (i + 1))), (0, .ref h0)]) hx hb dX1_begin_62 hl (k := 1) rfl (nI_1 i) (by decide) rfl (fun ls hl => ?_)
            refine lv_goto (tgt := 49) hx hb dX1_begin_65 (by decide) ?_
            exact ih (i + 1) ls H locs (by omega) hP hD hS (lv_sub hl [1, 0] rfl)
      have loop1 : ∀ (n i : Nat) (ls : Array Slot) (H : Heap) (locs : List Loc), i + n = 1024 → va_P D vwCl (tw_M cA cB h0 a0 b0 j (tw_fl F i) g) H → va_D A (tw_M cA cB h0 a0 b0 j (tw_fl F i) g) → va_S A s.heap H locs → lv_has ls 3 [(0, .ref h0), (2, .int (nI i))] → W p l e rmX1_begin s m args below meth c H locs 0 0 Q (F0 m 27 ls []) := by
        intro n
        induction n with
        | zero =>
          intro i ls H locs hj hP hD hS hl
          refine lv_iload_n hx hb dX1_begin_27 rfl (lv_at hl 1 rfl) ?_
          refine lv_sipush (v := 1024) hx hb dX1_begin_28 (by decide) ?_
          refine lv_icmp_ge (tgt := 47) hx hb dX1_begin_31 (by decide) (fun c_31 => ?_) (fun c_31 => ?_)
          · rw [show i = 1024 by omega] at hP hD
            refine lv_iconst (v := 0) hx hb dX1_begin_47 (by decide) ?_
            refine lv_istore_n (lv' := [(2, .int 0), (0, .ref h0)]) hx hb dX1_begin_48 rfl hl (by decide) rfl (fun ls hl => ?_)
            have hP : va_P D vwCl (tw_M cA cB h0 a0 b0 j (tw_fl F 1024) (tw_gl g 0)) H := by rw [tw_gl_0]; exact hP
            have hD : va_D A (tw_M cA cB h0 a0 b0 j (tw_fl F 1024) (tw_gl g 0)) := by rw [tw_gl_0]; exact hD
            exact loop2 16 0 ls H locs (by omega) hP hD hS (lv_sub hl [1, 0] rfl)
          · exact absurd (nI_le (a := 1024) (by omega) (by omega)) c_31
        | succ n ih =>
          intro i ls H locs hj hP hD hS hl
          refine lv_iload_n hx hb dX1_begin_27 rfl (lv_at hl 1 rfl) ?_
          refine lv_sipush (v := 1024) hx hb dX1_begin_28 (by decide) ?_
          refine lv_icmp_ge (tgt := 47) hx hb dX1_begin_31 (by decide) (fun c_31 => ?_) (fun c_31 => ?_)
          · exact absurd c_31 (nI_ge (b := 1024) (by omega) (by omega))
          · refine lv_aload_n hx hb dX1_begin_34 rfl (lv_at hl 0 rfl) ?_
            refine va_get (D := D) (ci := 1) (v := .ref a0) (C := RX1) (T := TX1) (N := 4) hx hb hts inX1_begin hown hK hP 0 rfl rfl 2 (by decide) (hts _ fX1_begin_7) (fun _ h9 => h9) rfl dX1_begin_35 ?_
            refine lv_iload_n hx hb dX1_begin_38 rfl (lv_at hl 1 rfl) ?_
            refine lv_iconst (v := 0) hx hb dX1_begin_39 (by decide) ?_
            refine tw_st hx hb hK hP hD hS 1 0 rfl rfl (n := i) (v := 0#8) (rfl) (rfl) (by omega) (by decide) dX1_begin_40 (fun H locs hP hD hS => ?_)
            have hP : va_P D vwCl (tw_M cA cB h0 a0 b0 j (va_up (tw_fl F i) (i) (0#8)) g) H := hP
            have hD : va_D A (tw_M cA cB h0 a0 b0 j (va_up (tw_fl F i) (i) (0#8)) g) := hD
            rw [show va_up (tw_fl F i) (i) (0#8) = tw_fl F (i + 1) from tw_fl_s F i] at hP hD
            refine lv_iinc (v := nI (i + 1)) (lv' := [(2, .int (nI (i + 1))), (0, .ref h0)]) hx hb dX1_begin_41 hl (k := 1) rfl (nI_1 i) (by decide) rfl (fun ls hl => ?_)
            refine lv_goto (tgt := 27) hx hb dX1_begin_44 (by decide) ?_
            exact ih (i + 1) ls H locs (by omega) hP hD hS (lv_sub hl [1, 0] rfl)
      refine lv_iconst (v := 0) hx hb dX1_begin_25 (by decide) ?_
      refine lv_istore_n (lv' := [(2, .int 0), (0, .ref h0), (1, .int (nI j))]) hx hb dX1_begin_26 rfl hl (by decide) rfl (fun ls hl => ?_)
      have hP : va_P D vwCl (tw_M cA cB h0 a0 b0 j (tw_fl F 0) g) H := by rw [tw_fl_0]; exact hP
      have hD : va_D A (tw_M cA cB h0 a0 b0 j (tw_fl F 0) g) := by rw [tw_fl_0]; exact hD
      exact loop1 1024 0 ls H locs (by omega) hP hD hS (lv_sub hl [1, 0] rfl)
    · refine lv_iconst (v := (-1)) hx hb dX1_begin_16 (by decide) ?_
      exact hend _ _ _ (k, F, g) _ _ dX1_begin_17 (by rw [← hE, tw_mbegin, if_pos (by first | exact Or.inl c_7 | exact Or.inr c_13)]) hP hD hS
abbrev rmX1_product : Room := { frames := 2, cells := 0, slots := 0, locals := 48 }
theorem inX1_product : ∀ w ∈ wsX10, w ∈ wsX1_product := fun _ h => List.mem_cons_of_mem _ (List.mem_append_right _ h)
theorem fX1_product_21 : Cond.fieldLink RX1 21 "TwinParityModel" "thrown" "I" ∈ wsX1_product := List.mem_of_getElem? (i := 1) rfl
theorem kdX1_product : yX1_product.cls = RX1 ∧ yX1_product.cls ≠ "java/lang/invoke/MethodHandle" ∧ yX1_product.cls ≠ "java/lang/invoke/VarHandle" ∧ (parseMethodDescriptor yX1_product.desc).map (fun d => d.parameters.length) = some 3 := by decide +kernel
set_option maxHeartbeats 4000000 in
set_option maxRecDepth 100000 in
theorem c_X1_product (l : Launch) (D : va_G) (cA cB : ClassId) (h0 a0 b0 k : Nat) (F : Nat → BitVec 8) (g : Nat → Bool) (sz : Nat) (a b z : Int32) : Met l yX1_product wsX1_product rmX1_product (va_Pc [.ref h0, .int a, .int b, .int z] (tw_Pw D (tw_M cA cB h0 a0 b0 k F g) (tw_tM cA cB) sz)) (va_Qi (fun (r : Int32) (u : Nat × (Nat → BitVec 8) × (Nat → Bool)) => (r, u) = (tw_pr a b z, (k, F, g))) (tw_Qw D (fun u : Nat × (Nat → BitVec 8) × (Nat → Bool) => tw_M cA cB h0 a0 b0 u.1 u.2.1 u.2.2) (tw_tM cA cB) (va_A (tw_M cA cB h0 a0 b0 k F g) sz)) (va_A (tw_M cA cB h0 a0 b0 k F g) sz)) 0 0 (va_A (tw_M cA cB h0 a0 b0 k F g) sz) := by
  refine tw_metW (by decide) rfl rfl (Nat.le_of_ble_eq_true rfl) ?_
  intro p e s m args below meth c Q ls A hx hb hml hown hts hP hK hD hS hA hend hl
  have hown : s.vm.findClass RX1 = some m.cls := hown
  have hl : lv_has ls 4 [(0, .ref h0), (1, .int a), (2, .int b), (3, .int z)] := hl
  generalize hE : tw_pr a b z = E at hend
  refine lv_aload_n hx hb dX1_product_0 rfl (lv_at hl 0 rfl) ?_
  refine lv_iconst (v := 0) hx hb dX1_product_1 (by decide) ?_
  refine va_put (D := D) (ci := 1) (v := .int 0) (ty := .int) (C := RX1) (T := TX1) (N := 4) hx hb hts inX1_product tyX1 tyX1_ok nmX1 hown hK hP hD hS 0 rfl rfl 0 (by decide) (hts _ fX1_product_21) (fun _ h9 => h9) rfl (by decide +kernel) rfl rfl (Nat.le_of_ble_eq_true rfl) dX1_product_2 (fun H locs hP hD hS => ?_)
  have hP : va_P D vwCl (tw_M cA cB h0 a0 b0 k F g) H := hP
  have hD : va_D A (tw_M cA cB h0 a0 b0 k F g) := hD
  refine lv_iload_n hx hb dX1_product_5 rfl (lv_at hl 1 rfl) ?_
  refine lv_if_lt (tgt := 35) hx hb dX1_product_6 (by decide) (fun c_6 => ?_) (fun c_6 => ?_)
  · refine lv_iconst (v := (-1)) hx hb dX1_product_35 (by decide) ?_
    exact hend _ _ _ (k, F, g) _ _ dX1_product_36 (by rw [← hE, tw_pr]; first | (rw [tw_el_c c_6]; rfl) | (rw [tw_el_b c_13]; rfl) | (rw [tw_el_c c_17, Bool.false_and, Bool.and_false]; rfl) | (rw [tw_el_b c_24, Bool.false_and, Bool.and_false]; rfl) | (simp [c_28, c_32]; done)) hP hD hS
  · refine lv_iload_n hx hb dX1_product_9 rfl (lv_at hl 1 rfl) ?_
    refine lv_sipush (v := 255) hx hb dX1_product_10 (by decide) ?_
    refine lv_icmp_gt (tgt := 35) hx hb dX1_product_13 (by decide) (fun c_13 => ?_) (fun c_13 => ?_)
    · refine lv_iconst (v := (-1)) hx hb dX1_product_35 (by decide) ?_
      exact hend _ _ _ (k, F, g) _ _ dX1_product_36 (by rw [← hE, tw_pr]; first | (rw [tw_el_c c_6]; rfl) | (rw [tw_el_b c_13]; rfl) | (rw [tw_el_c c_17, Bool.false_and, Bool.and_false]; rfl) | (rw [tw_el_b c_24, Bool.false_and, Bool.and_false]; rfl) | (simp [c_28, c_32]; done)) hP hD hS
    · refine lv_iload_n hx hb dX1_product_16 rfl (lv_at hl 2 rfl) ?_
      refine lv_if_lt (tgt := 35) hx hb dX1_product_17 (by decide) (fun c_17 => ?_) (fun c_17 => ?_)
      · refine lv_iconst (v := (-1)) hx hb dX1_product_35 (by decide) ?_
        exact hend _ _ _ (k, F, g) _ _ dX1_product_36 (by rw [← hE, tw_pr]; first | (rw [tw_el_c c_6]; rfl) | (rw [tw_el_b c_13]; rfl) | (rw [tw_el_c c_17, Bool.false_and, Bool.and_false]; rfl) | (rw [tw_el_b c_24, Bool.false_and, Bool.and_false]; rfl) | (simp [c_28, c_32]; done)) hP hD hS
      · refine lv_iload_n hx hb dX1_product_20 rfl (lv_at hl 2 rfl) ?_
        refine lv_sipush (v := 255) hx hb dX1_product_21 (by decide) ?_
        refine lv_icmp_gt (tgt := 35) hx hb dX1_product_24 (by decide) (fun c_24 => ?_) (fun c_24 => ?_)
        · refine lv_iconst (v := (-1)) hx hb dX1_product_35 (by decide) ?_
          exact hend _ _ _ (k, F, g) _ _ dX1_product_36 (by rw [← hE, tw_pr]; first | (rw [tw_el_c c_6]; rfl) | (rw [tw_el_b c_13]; rfl) | (rw [tw_el_c c_17, Bool.false_and, Bool.and_false]; rfl) | (rw [tw_el_b c_24, Bool.false_and, Bool.and_false]; rfl) | (simp [c_28, c_32]; done)) hP hD hS
        · refine lv_iload_n hx hb dX1_product_27 rfl (lv_at hl 3 rfl) ?_
          refine lv_if_eq (tgt := 37) hx hb dX1_product_28 (by decide) (fun c_28 => ?_) (fun c_28 => ?_)
          · have ea : tw_el a = true := tw_el_a c_6 c_13
            have eb : tw_el b = true := tw_el_a c_17 c_24
            obtain ⟨a2, rfl⟩ := tw_elD ea
            obtain ⟨b2, rfl⟩ := tw_elD eb
            refine lv_iload_n hx hb dX1_product_37 rfl (lv_at hl 3 rfl) ?_
            refine lv_if_eq (tgt := 50) hx hb dX1_product_38 (by decide) (fun c_38 => ?_) (fun c_38 => ?_)
            · refine lv_aload_n hx hb dX1_product_50 rfl (lv_at hl 0 rfl) ?_
              refine lv_iload_n hx hb dX1_product_51 rfl (lv_at hl 1 rfl) ?_
              refine lv_iload_n hx hb dX1_product_52 rfl (lv_at hl 2 rfl) ?_
              refine tw_rM ⟨hx, hb, hml, hown, hts⟩ hK hP (c_X1_times l D cA cB h0 a0 b0 k F g a2 b2) (cwV 2 hts gX1_product_X1_times rfl rfl rfl kdX1_times ⟨Nat.le_of_ble_eq_true rfl, Nat.le_of_ble_eq_true rfl⟩) rfl hl.1 rfl (Nat.le_of_ble_eq_true rfl) dX1_product_53 ⟨Nat.zero_le _, Nat.zero_le _⟩ ?_
              exact hend _ _ _ (k, F, g) _ _ dX1_product_56 (by first | (exact absurd c_28 c_38) | (exact absurd c_38 c_28) | (rw [← hE, tw_pr, ea, eb, tq_bv_eb, tq_bv_eb]; first | (simp [c_28]; done) | (simp [c_28, c_32]; done))) hP hD hS
            · refine lv_aload_n hx hb dX1_product_41 rfl (lv_at hl 0 rfl) ?_
              refine lv_iload_n hx hb dX1_product_42 rfl (lv_at hl 1 rfl) ?_
              refine lv_iload_n hx hb dX1_product_43 rfl (lv_at hl 2 rfl) ?_
              refine tw_rM ⟨hx, hb, hml, hown, hts⟩ hK hP (c_X1_part l D cA cB h0 a0 b0 k F g a2 b2 (by first | (exact absurd c_28 c_38) | (intro h9; exact c_32 (by rw [h9]; rfl)))) (cwV 2 hts gX1_product_X1_part rfl rfl rfl kdX1_part ⟨Nat.le_of_ble_eq_true rfl, Nat.le_of_ble_eq_true rfl⟩) rfl hl.1 rfl (Nat.le_of_ble_eq_true rfl) dX1_product_44 ⟨Nat.zero_le _, Nat.zero_le _⟩ ?_
              refine lv_goto (tgt := 56) hx hb dX1_product_47 (by decide) ?_
              exact hend _ _ _ (k, F, g) _ _ dX1_product_56 (by first | (exact absurd c_28 c_38) | (exact absurd c_38 c_28) | (rw [← hE, tw_pr, ea, eb, tq_bv_eb, tq_bv_eb]; first | (simp [c_28]; done) | (simp [c_28, c_32]; done))) hP hD hS
          · refine lv_iload_n hx hb dX1_product_31 rfl (lv_at hl 2 rfl) ?_
            refine lv_if_ne (tgt := 37) hx hb dX1_product_32 (by decide) (fun c_32 => ?_) (fun c_32 => ?_)
            · have ea : tw_el a = true := tw_el_a c_6 c_13
              have eb : tw_el b = true := tw_el_a c_17 c_24
              obtain ⟨a2, rfl⟩ := tw_elD ea
              obtain ⟨b2, rfl⟩ := tw_elD eb
              refine lv_iload_n hx hb dX1_product_37 rfl (lv_at hl 3 rfl) ?_
              refine lv_if_eq (tgt := 50) hx hb dX1_product_38 (by decide) (fun c_38 => ?_) (fun c_38 => ?_)
              · refine lv_aload_n hx hb dX1_product_50 rfl (lv_at hl 0 rfl) ?_
                refine lv_iload_n hx hb dX1_product_51 rfl (lv_at hl 1 rfl) ?_
                refine lv_iload_n hx hb dX1_product_52 rfl (lv_at hl 2 rfl) ?_
                refine tw_rM ⟨hx, hb, hml, hown, hts⟩ hK hP (c_X1_times l D cA cB h0 a0 b0 k F g a2 b2) (cwV 2 hts gX1_product_X1_times rfl rfl rfl kdX1_times ⟨Nat.le_of_ble_eq_true rfl, Nat.le_of_ble_eq_true rfl⟩) rfl hl.1 rfl (Nat.le_of_ble_eq_true rfl) dX1_product_53 ⟨Nat.zero_le _, Nat.zero_le _⟩ ?_
                exact hend _ _ _ (k, F, g) _ _ dX1_product_56 (by first | (exact absurd c_28 c_38) | (exact absurd c_38 c_28) | (rw [← hE, tw_pr, ea, eb, tq_bv_eb, tq_bv_eb]; first | (simp [c_28]; done) | (simp [c_28, c_32]; done))) hP hD hS
              · refine lv_aload_n hx hb dX1_product_41 rfl (lv_at hl 0 rfl) ?_
                refine lv_iload_n hx hb dX1_product_42 rfl (lv_at hl 1 rfl) ?_
                refine lv_iload_n hx hb dX1_product_43 rfl (lv_at hl 2 rfl) ?_
                refine tw_rM ⟨hx, hb, hml, hown, hts⟩ hK hP (c_X1_part l D cA cB h0 a0 b0 k F g a2 b2 (by first | (exact absurd c_28 c_38) | (intro h9; exact c_32 (by rw [h9]; rfl)))) (cwV 2 hts gX1_product_X1_part rfl rfl rfl kdX1_part ⟨Nat.le_of_ble_eq_true rfl, Nat.le_of_ble_eq_true rfl⟩) rfl hl.1 rfl (Nat.le_of_ble_eq_true rfl) dX1_product_44 ⟨Nat.zero_le _, Nat.zero_le _⟩ ?_
                refine lv_goto (tgt := 56) hx hb dX1_product_47 (by decide) ?_
                exact hend _ _ _ (k, F, g) _ _ dX1_product_56 (by first | (exact absurd c_28 c_38) | (exact absurd c_38 c_28) | (rw [← hE, tw_pr, ea, eb, tq_bv_eb, tq_bv_eb]; first | (simp [c_28]; done) | (simp [c_28, c_32]; done))) hP hD hS
            · refine lv_iconst (v := (-1)) hx hb dX1_product_35 (by decide) ?_
              exact hend _ _ _ (k, F, g) _ _ dX1_product_36 (by rw [← hE, tw_pr]; first | (rw [tw_el_c c_6]; rfl) | (rw [tw_el_b c_13]; rfl) | (rw [tw_el_c c_17, Bool.false_and, Bool.and_false]; rfl) | (rw [tw_el_b c_24, Bool.false_and, Bool.and_false]; rfl) | (simp [c_28, c_32]; done)) hP hD hS
abbrev rmX1_power : Room := { frames := 2, cells := 0, slots := 0, locals := 48 }
theorem inX1_power : ∀ w ∈ wsX10, w ∈ wsX1_power := fun _ h => List.mem_cons_of_mem _ (List.mem_append_right _ h)
theorem fX1_power_21 : Cond.fieldLink RX1 21 "TwinParityModel" "thrown" "I" ∈ wsX1_power := List.mem_of_getElem? (i := 1) rfl
theorem kdX1_power : yX1_power.cls = RX1 ∧ yX1_power.cls ≠ "java/lang/invoke/MethodHandle" ∧ yX1_power.cls ≠ "java/lang/invoke/VarHandle" ∧ (parseMethodDescriptor yX1_power.desc).map (fun d => d.parameters.length) = some 1 := by decide +kernel
set_option maxHeartbeats 4000000 in
set_option maxRecDepth 100000 in
theorem c_X1_power (l : Launch) (D : va_G) (cA cB : ClassId) (h0 a0 b0 k : Nat) (F : Nat → BitVec 8) (g : Nat → Bool) (sz : Nat) (x : Int32) : Met l yX1_power wsX1_power rmX1_power (va_Pc [.ref h0, .int x] (tw_Pw D (tw_M cA cB h0 a0 b0 k F g) (tw_tM cA cB) sz)) (va_Qi (fun (r : Int32) (u : Nat × (Nat → BitVec 8) × (Nat → Bool)) => (r, u) = (tq_eb (tq_p (tw_fm x) 1#8), (k, F, g))) (tw_Qw D (fun u : Nat × (Nat → BitVec 8) × (Nat → Bool) => tw_M cA cB h0 a0 b0 u.1 u.2.1 u.2.2) (tw_tM cA cB) (va_A (tw_M cA cB h0 a0 b0 k F g) sz)) (va_A (tw_M cA cB h0 a0 b0 k F g) sz)) 0 0 (va_A (tw_M cA cB h0 a0 b0 k F g) sz) := by
  refine tw_metW (by decide) rfl rfl (Nat.le_of_ble_eq_true rfl) ?_
  intro p e s m args below meth c Q ls A hx hb hml hown hts hP hK hD hS hA hend hl
  have hown : s.vm.findClass RX1 = some m.cls := hown
  have hl : lv_has ls 3 [(0, .ref h0), (1, .int x)] := hl
  refine lv_aload_n hx hb dX1_power_0 rfl (lv_at hl 0 rfl) ?_
  refine lv_iconst (v := 0) hx hb dX1_power_1 (by decide) ?_
  refine va_put (D := D) (ci := 1) (v := .int 0) (ty := .int) (C := RX1) (T := TX1) (N := 4) hx hb hts inX1_power tyX1 tyX1_ok nmX1 hown hK hP hD hS 0 rfl rfl 0 (by decide) (hts _ fX1_power_21) (fun _ h9 => h9) rfl (by decide +kernel) rfl rfl (Nat.le_of_ble_eq_true rfl) dX1_power_2 (fun H locs hP hD hS => ?_)
  have hP : va_P D vwCl (tw_M cA cB h0 a0 b0 k F g) H := hP
  have hD : va_D A (tw_M cA cB h0 a0 b0 k F g) := hD
  refine lv_iload_n hx hb dX1_power_5 rfl (lv_at hl 1 rfl) ?_
  refine lv_sipush (v := 255) hx hb dX1_power_6 (by decide) ?_
  refine lv_irem hx hb dX1_power_9 (by decide) ?_
  refine lv_topi (fun x2_10 ex2_10 => ?_)
  refine lv_istore_n (lv' := [(2, .int x2_10), (0, .ref h0), (1, .int x)]) hx hb dX1_power_10 rfl hl (by decide) rfl (fun ls hl => ?_)
  refine lv_aload_n hx hb dX1_power_11 rfl (lv_at hl 1 rfl) ?_
  refine lv_iload_n hx hb dX1_power_12 rfl (lv_at hl 0 rfl) ?_
  refine lv_if_ge (tgt := 24) hx hb dX1_power_13 (by decide) (fun c_13 => ?_) (fun c_13 => ?_)
  · refine lv_iload_n hx hb dX1_power_24 rfl (lv_at hl 0 rfl) ?_
    refine tw_topr (x' := nI (tw_fm x)) (by rw [ex2_10] at c_13 ⊢; first | exact tw_fmA (Int32.not_lt.mpr c_13) | exact tw_fmB (Int32.not_le.mp c_13)) ?_
    refine tw_rM ⟨hx, hb, hml, hown, hts⟩ hK hP (c_X1_twos l D cA cB h0 a0 b0 k F g (tw_fm x) (by have := tw_fm_lt x; omega)) (cwV 1 hts gX1_power_X1_twos rfl rfl rfl kdX1_twos ⟨Nat.le_of_ble_eq_true rfl, Nat.le_of_ble_eq_true rfl⟩) rfl hl.1 rfl (Nat.le_of_ble_eq_true rfl) dX1_power_25 ⟨Nat.zero_le _, Nat.zero_le _⟩ ?_
    exact hend _ _ _ (k, F, g) _ _ dX1_power_28 (rfl) hP hD hS
  · refine lv_iload_n hx hb dX1_power_16 rfl (lv_at hl 0 rfl) ?_
    refine lv_sipush (v := 255) hx hb dX1_power_17 (by decide) ?_
    refine lv_iadd hx hb dX1_power_20 ?_
    refine lv_goto (tgt := 25) hx hb dX1_power_21 (by decide) ?_
    refine tw_topr (x' := nI (tw_fm x)) (by rw [ex2_10] at c_13 ⊢; first | exact tw_fmA (Int32.not_lt.mpr c_13) | exact tw_fmB (Int32.not_le.mp c_13)) ?_
    refine tw_rM ⟨hx, hb, hml, hown, hts⟩ hK hP (c_X1_twos l D cA cB h0 a0 b0 k F g (tw_fm x) (by have := tw_fm_lt x; omega)) (cwV 1 hts gX1_power_X1_twos rfl rfl rfl kdX1_twos ⟨Nat.le_of_ble_eq_true rfl, Nat.le_of_ble_eq_true rfl⟩) rfl hl.1 rfl (Nat.le_of_ble_eq_true rfl) dX1_power_25 ⟨Nat.zero_le _, Nat.zero_le _⟩ ?_
    exact hend _ _ _ (k, F, g) _ _ dX1_power_28 (rfl) hP hD hS
def tw_mst (k u i : Nat) (now : BitVec 8) (G : Nat → BitVec 8) : Nat → BitVec 8 :=
  tw_ch (tw_ch (va_up G (64 * u + i) now) k i (G (64 * u + i) ^^^ now)) (k + 1) i (tq_p u (G (64 * u + i) ^^^ now))
def tw_mps (k u i : Nat) (v : Int64) (F : Nat → BitVec 8) : Nat → Nat → BitVec 8
  | 0 => F
  | j + 1 => tw_mst k u (i + j) (tw_by v j) (tw_mps k u i v F j)
def tw_mput (k : Nat) (F : Nat → BitVec 8) (g : Nat → Bool) (x z n : Int32) (v : Int64) : Int32 × (Nat × (Nat → BitVec 8) × (Nat → Bool)) := if !decide (x < 0) && (!decide (nI k ≤ x) && (!g x.toNatClampNeg && tw_sp z n 8)) then (n, (k, tw_mps k x.toNatClampNeg z.toNatClampNeg v F n.toNatClampNeg, g)) else (-1, (k, F, g))
abbrev rmX1_put : Room := { frames := 2, cells := 0, slots := 0, locals := 48 }
theorem inX1_put : ∀ w ∈ wsX10, w ∈ wsX1_put := fun _ h => List.mem_cons_of_mem _ (List.mem_append_right _ h)
theorem fX1_put_21 : Cond.fieldLink RX1 21 "TwinParityModel" "thrown" "I" ∈ wsX1_put := List.mem_of_getElem? (i := 1) rfl
theorem fX1_put_13 : Cond.fieldLink RX1 13 "TwinParityModel" "lost" "[Z" ∈ wsX1_put := List.mem_of_getElem? (i := 2) rfl
theorem fX1_put_42 : Cond.constantLong RX1 42 (255) ∈ wsX1_put := List.mem_of_getElem? (i := 3) rfl
theorem fX1_put_7 : Cond.fieldLink RX1 7 "TwinParityModel" "bytes" "[I" ∈ wsX1_put := List.mem_of_getElem? (i := 4) rfl
theorem fX1_put_25 : Cond.fieldLink RX1 25 "TwinParityModel" "units" "I" ∈ wsX1_put := List.mem_of_getElem? (i := 10) rfl
theorem kdX1_put : yX1_put.cls = RX1 ∧ yX1_put.cls ≠ "java/lang/invoke/MethodHandle" ∧ yX1_put.cls ≠ "java/lang/invoke/VarHandle" ∧ (parseMethodDescriptor yX1_put.desc).map (fun d => d.parameters.length) = some 4 := by decide +kernel
set_option maxHeartbeats 4000000 in
set_option maxRecDepth 100000 in
theorem c_X1_put (l : Launch) (D : va_G) (cA cB : ClassId) (h0 a0 b0 k : Nat) (F : Nat → BitVec 8) (g : Nat → Bool) (sz : Nat) (x z n : Int32) (v : Int64) (hk : k ≤ 14) : Met l yX1_put wsX1_put rmX1_put (va_Pc [.ref h0, .int x, .int z, .int n, .long v] (tw_Pw D (tw_M cA cB h0 a0 b0 k F g) (tw_tM cA cB) sz)) (va_Qi (fun (r : Int32) (u : Nat × (Nat → BitVec 8) × (Nat → Bool)) => (r, u) = tw_mput k F g x z n v) (tw_Qw D (fun u : Nat × (Nat → BitVec 8) × (Nat → Bool) => tw_M cA cB h0 a0 b0 u.1 u.2.1 u.2.2) (tw_tM cA cB) (va_A (tw_M cA cB h0 a0 b0 k F g) sz)) (va_A (tw_M cA cB h0 a0 b0 k F g) sz)) 0 0 (va_A (tw_M cA cB h0 a0 b0 k F g) sz) := by
  refine tw_metW (by decide) rfl rfl (Nat.le_of_ble_eq_true rfl) ?_
  intro p e s m args below meth c Q ls A hx hb hml hown hts hP hK hD hS hA hend hl
  have hown : s.vm.findClass RX1 = some m.cls := hown
  have hl : lv_has ls 10 [(0, .ref h0), (1, .int x), (2, .int z), (3, .int n), (4, .long v)] := hl
  generalize hE : tw_mput k F g x z n v = E at hend
  refine lv_aload_n hx hb dX1_put_0 rfl (lv_at hl 0 rfl) ?_
  refine lv_iconst (v := 0) hx hb dX1_put_1 (by decide) ?_
  refine va_put (D := D) (ci := 1) (v := .int 0) (ty := .int) (C := RX1) (T := TX1) (N := 4) hx hb hts inX1_put tyX1 tyX1_ok nmX1 hown hK hP hD hS 0 rfl rfl 0 (by decide) (hts _ fX1_put_21) (fun _ h9 => h9) rfl (by decide +kernel) rfl rfl (Nat.le_of_ble_eq_true rfl) dX1_put_2 (fun H locs hP hD hS => ?_)
  have hP : va_P D vwCl (tw_M cA cB h0 a0 b0 k F g) H := hP
  have hD : va_D A (tw_M cA cB h0 a0 b0 k F g) := hD
  refine lv_iload_n hx hb dX1_put_5 rfl (lv_at hl 1 rfl) ?_
  refine lv_if_lt (tgt := 49) hx hb dX1_put_6 (by decide) (fun c_6 => ?_) (fun c_6 => ?_)
  · refine lv_iconst (v := (-1)) hx hb dX1_put_49 (by decide) ?_
    exact hend _ _ _ (k, F, g) _ _ dX1_put_50 (by rw [← hE, tw_mput, if_neg (by first | (simp [c_6]; done) | (simp [c_14]; done) | (simp [hcu, c_23]; done) | (simp [tw_sp, c_28]; done) | (simp [tw_sp, c_34]; done) | (simp [tw_sp, c_38]; done) | (simp [tw_sp, Int32.not_le.mp c_46]; done))]) hP hD hS
  · refine lv_iload_n hx hb dX1_put_9 rfl (lv_at hl 1 rfl) ?_
    refine lv_aload_n hx hb dX1_put_10 rfl (lv_at hl 0 rfl) ?_
    refine tw_rM ⟨hx, hb, hml, hown, hts⟩ hK hP (c_X1_p l D cA cB h0 a0 b0 k F g ) (cwV 0 hts gX1_put_X1_p rfl rfl rfl kdX1_p ⟨Nat.le_of_ble_eq_true rfl, Nat.le_of_ble_eq_true rfl⟩) rfl hl.1 rfl (Nat.le_of_ble_eq_true rfl) dX1_put_11 ⟨Nat.zero_le _, Nat.zero_le _⟩ ?_
    refine lv_icmp_ge (tgt := 49) hx hb dX1_put_14 (by decide) (fun c_14 => ?_) (fun c_14 => ?_)
    · refine lv_iconst (v := (-1)) hx hb dX1_put_49 (by decide) ?_
      exact hend _ _ _ (k, F, g) _ _ dX1_put_50 (by rw [← hE, tw_mput, if_neg (by first | (simp [c_6]; done) | (simp [c_14]; done) | (simp [hcu, c_23]; done) | (simp [tw_sp, c_28]; done) | (simp [tw_sp, c_34]; done) | (simp [tw_sp, c_38]; done) | (simp [tw_sp, Int32.not_le.mp c_46]; done))]) hP hD hS
    · obtain ⟨u, hu0, rfl⟩ := nI_of c_6
      have huk : u < k := by rcases Nat.lt_or_ge u k with h9 | h9; exact h9; exact absurd (nI_le h9 (by omega)) c_14
      have hcu : (nI u).toNatClampNeg = u := nI_clamp (by omega)
      refine lv_aload_n hx hb dX1_put_17 rfl (lv_at hl 0 rfl) ?_
      refine va_get (D := D) (ci := 1) (v := .ref b0) (C := RX1) (T := TX1) (N := 4) hx hb hts inX1_put hown hK hP 0 rfl rfl 3 (by decide) (hts _ fX1_put_13) (fun _ h9 => h9) rfl dX1_put_18 ?_
      refine lv_iload_n hx hb dX1_put_21 rfl (lv_at hl 1 rfl) ?_
      refine tw_lz hx hb hK hP 2 1 rfl rfl (n := u) (rfl) (by omega) (by decide) dX1_put_22 ?_
      refine lv_if_ne (tgt := 49) hx hb dX1_put_23 (by decide) (fun c_23 => ?_) (fun c_23 => ?_)
      · rw [tw_bI1] at c_23
        refine lv_iconst (v := (-1)) hx hb dX1_put_49 (by decide) ?_
        exact hend _ _ _ (k, F, g) _ _ dX1_put_50 (by rw [← hE, tw_mput, if_neg (by first | (simp [c_6]; done) | (simp [c_14]; done) | (simp [hcu, c_23]; done) | (simp [tw_sp, c_28]; done) | (simp [tw_sp, c_34]; done) | (simp [tw_sp, c_38]; done) | (simp [tw_sp, Int32.not_le.mp c_46]; done))]) hP hD hS
      · rw [tw_bI0] at c_23
        refine lv_iload_n hx hb dX1_put_26 rfl (lv_at hl 3 rfl) ?_
        refine lv_iconst (v := 1) hx hb dX1_put_27 (by decide) ?_
        refine lv_icmp_lt (tgt := 49) hx hb dX1_put_28 (by decide) (fun c_28 => ?_) (fun c_28 => ?_)
        · refine lv_iconst (v := (-1)) hx hb dX1_put_49 (by decide) ?_
          exact hend _ _ _ (k, F, g) _ _ dX1_put_50 (by rw [← hE, tw_mput, if_neg (by first | (simp [c_6]; done) | (simp [c_14]; done) | (simp [hcu, c_23]; done) | (simp [tw_sp, c_28]; done) | (simp [tw_sp, c_34]; done) | (simp [tw_sp, c_38]; done) | (simp [tw_sp, Int32.not_le.mp c_46]; done))]) hP hD hS
        · refine lv_iload_n hx hb dX1_put_31 rfl (lv_at hl 3 rfl) ?_
          refine lv_bipush (v := 8) hx hb dX1_put_32 (by decide) ?_
          refine lv_icmp_gt (tgt := 49) hx hb dX1_put_34 (by decide) (fun c_34 => ?_) (fun c_34 => ?_)
          · refine lv_iconst (v := (-1)) hx hb dX1_put_49 (by decide) ?_
            exact hend _ _ _ (k, F, g) _ _ dX1_put_50 (by rw [← hE, tw_mput, if_neg (by first | (simp [c_6]; done) | (simp [c_14]; done) | (simp [hcu, c_23]; done) | (simp [tw_sp, c_28]; done) | (simp [tw_sp, c_34]; done) | (simp [tw_sp, c_38]; done) | (simp [tw_sp, Int32.not_le.mp c_46]; done))]) hP hD hS
          · refine lv_iload_n hx hb dX1_put_37 rfl (lv_at hl 2 rfl) ?_
            refine lv_if_lt (tgt := 49) hx hb dX1_put_38 (by decide) (fun c_38 => ?_) (fun c_38 => ?_)
            · refine lv_iconst (v := (-1)) hx hb dX1_put_49 (by decide) ?_
              exact hend _ _ _ (k, F, g) _ _ dX1_put_50 (by rw [← hE, tw_mput, if_neg (by first | (simp [c_6]; done) | (simp [c_14]; done) | (simp [hcu, c_23]; done) | (simp [tw_sp, c_28]; done) | (simp [tw_sp, c_34]; done) | (simp [tw_sp, c_38]; done) | (simp [tw_sp, Int32.not_le.mp c_46]; done))]) hP hD hS
            · refine lv_iload_n hx hb dX1_put_41 rfl (lv_at hl 2 rfl) ?_
              refine lv_bipush (v := 64) hx hb dX1_put_42 (by decide) ?_
              refine lv_iload_n hx hb dX1_put_44 rfl (lv_at hl 3 rfl) ?_
              refine lv_isub hx hb dX1_put_45 ?_
              refine lv_icmp_le (tgt := 51) hx hb dX1_put_46 (by decide) (fun c_46 => ?_) (fun c_46 => ?_)
              · have hsp : tw_sp z n 8 = true := by simp [tw_sp, c_28, c_34, c_38, Int32.not_lt.mpr c_46]
                have hsp2 := hsp
                obtain ⟨i, q, rfl, rfl, hq1, hq2, hiq⟩ := tw_spD (mm := 8) (by decide) hsp2
                have loop : ∀ (n j : Nat) (ls : Array Slot) (H : Heap) (locs : List Loc), j + n = q → va_P D vwCl (tw_M cA cB h0 a0 b0 k (tw_mps k u i v F j) g) H → va_D A (tw_M cA cB h0 a0 b0 k (tw_mps k u i v F j) g) → va_S A s.heap H locs → lv_has ls 10 [(0, .ref h0), (1, .int (nI u)), (2, .int (nI i)), (3, .int (nI q)), (4, .long v), (6, .int (nI j))] → W p l e rmX1_put s m args below meth c H locs 0 0 Q (F0 m 54 ls []) := by
                  intro n
                  induction n with
                  | zero =>
                    intro j ls H locs hj hP hD hS hl
                    refine lv_iload hx hb dX1_put_54 (lv_at hl 5 rfl) ?_
                    refine lv_iload_n hx hb dX1_put_56 rfl (lv_at hl 3 rfl) ?_
                    refine lv_icmp_ge (tgt := 167) hx hb dX1_put_57 (by decide) (fun c_57 => ?_) (fun c_57 => ?_)
                    · refine lv_iload_n hx hb dX1_put_167 rfl (lv_at hl 3 rfl) ?_
                      rw [show j = q by omega] at hP hD
                      exact hend _ _ _ (k, tw_mps k u i v F q, g) _ _ dX1_put_168 (by rw [← hE, tw_mput, hcu, hsp]; simp [c_6, c_14, c_23, nI_clamp (show i < 2 ^ 31 by omega), nI_clamp (show q < 2 ^ 31 by omega)]) hP hD hS
                    · exact absurd (nI_le (by omega) (by omega)) c_57
                  | succ n ih =>
                    intro j ls H locs hj hP hD hS hl
                    refine lv_iload hx hb dX1_put_54 (lv_at hl 5 rfl) ?_
                    refine lv_iload_n hx hb dX1_put_56 rfl (lv_at hl 3 rfl) ?_
                    refine lv_icmp_ge (tgt := 167) hx hb dX1_put_57 (by decide) (fun c_57 => ?_) (fun c_57 => ?_)
                    · exact absurd c_57 (nI_ge (by omega) (by omega))
                    · refine lv_iload_n hx hb dX1_put_60 rfl (lv_at hl 2 rfl) ?_
                      refine lv_iload hx hb dX1_put_61 (lv_at hl 5 rfl) ?_
                      refine lv_iadd hx hb dX1_put_63 ?_
                      refine tw_topr (x' := nI (i + j)) (nI_add i j) ?_
                      refine lv_istore (lv' := [(7, .int (nI (i + j))), (0, .ref h0), (1, .int (nI u)), (2, .int (nI i)), (3, .int (nI q)), (4, .long v), (6, .int (nI j))]) hx hb dX1_put_64 hl (by decide) rfl (fun ls hl => ?_)
                      refine lv_lload hx hb dX1_put_66 (lv_at hl 5 rfl) ?_
                      refine lv_bipush (v := 8) hx hb dX1_put_68 (by decide) ?_
                      refine lv_iload hx hb dX1_put_70 (lv_at hl 6 rfl) ?_
                      refine lv_imul hx hb dX1_put_72 ?_
                      refine lv_lshr hx hb dX1_put_73 rfl ?_
                      refine lv_ldc2 (v := 255) hx hb hown (hts _ fX1_put_42) dX1_put_74 ?_
                      refine lv_land hx hb dX1_put_77 ?_
                      refine lv_l2i hx hb dX1_put_78 rfl ?_
                      refine tw_topr (x' := tq_eb (tw_by v j)) (tw_by_m v j (by omega)) ?_
                      refine lv_istore (lv' := [(8, .int (tq_eb (tw_by v j))), (7, .int (nI (i + j))), (0, .ref h0), (1, .int (nI u)), (2, .int (nI i)), (3, .int (nI q)), (4, .long v), (6, .int (nI j))]) hx hb dX1_put_79 hl (by decide) rfl (fun ls hl => ?_)
                      refine lv_aload_n hx hb dX1_put_81 rfl (lv_at hl 2 rfl) ?_
                      refine va_get (D := D) (ci := 1) (v := .ref a0) (C := RX1) (T := TX1) (N := 4) hx hb hts inX1_put hown hK hP 0 rfl rfl 2 (by decide) (hts _ fX1_put_7) (fun _ h9 => h9) rfl dX1_put_82 ?_
                      refine lv_bipush (v := 64) hx hb dX1_put_85 (by decide) ?_
                      refine lv_iload_n hx hb dX1_put_87 rfl (lv_at hl 3 rfl) ?_
                      refine lv_imul hx hb dX1_put_88 ?_
                      refine lv_iload hx hb dX1_put_89 (lv_at hl 1 rfl) ?_
                      refine lv_iadd hx hb dX1_put_91 ?_
                      refine tw_ld hx hb hK hP 1 0 rfl rfl (n := 64 * u + (i + j)) (tw_ix' u (i + j)) (by omega) (by decide) dX1_put_92 ?_
                      refine lv_iload hx hb dX1_put_93 (lv_at hl 0 rfl) ?_
                      refine lv_ixor hx hb dX1_put_95 ?_
                      refine tw_topr (x' := tq_eb ((tw_mps k u i v F j) (64 * u + (i + j)) ^^^ tw_by v j)) (tq_eb_xor _ _) ?_
                      refine lv_istore (lv' := [(9, .int (tq_eb ((tw_mps k u i v F j) (64 * u + (i + j)) ^^^ tw_by v j))), (8, .int (tq_eb (tw_by v j))), (7, .int (nI (i + j))), (0, .ref h0), (1, .int (nI u)), (2, .int (nI i)), (3, .int (nI q)), (4, .long v), (6, .int (nI j))]) hx hb dX1_put_96 hl (by decide) rfl (fun ls hl => ?_)
                      refine lv_aload_n hx hb dX1_put_98 rfl (lv_at hl 3 rfl) ?_
                      refine va_get (D := D) (ci := 1) (v := .ref a0) (C := RX1) (T := TX1) (N := 4) hx hb hts inX1_put hown hK hP 0 rfl rfl 2 (by decide) (hts _ fX1_put_7) (fun _ h9 => h9) rfl dX1_put_99 ?_
                      refine lv_bipush (v := 64) hx hb dX1_put_102 (by decide) ?_
                      refine lv_iload_n hx hb dX1_put_104 rfl (lv_at hl 4 rfl) ?_
                      refine lv_imul hx hb dX1_put_105 ?_
                      refine lv_iload hx hb dX1_put_106 (lv_at hl 2 rfl) ?_
                      refine lv_iadd hx hb dX1_put_108 ?_
                      refine tw_topr (x' := nI (64 * u + (i + j))) (tw_ix' u (i + j)) ?_
                      refine lv_iload hx hb dX1_put_109 (lv_at hl 1 rfl) ?_
                      refine tw_st hx hb hK hP hD hS 1 0 rfl rfl (n := 64 * u + (i + j)) (v := tw_by v j) (rfl) (rfl) (by omega) (by decide) dX1_put_111 (fun H locs hP hD hS => ?_)
                      have hP : va_P D vwCl (tw_M cA cB h0 a0 b0 k (va_up (tw_mps k u i v F j) (64 * u + (i + j)) (tw_by v j)) g) H := hP
                      have hD : va_D A (tw_M cA cB h0 a0 b0 k (va_up (tw_mps k u i v F j) (64 * u + (i + j)) (tw_by v j)) g) := hD
                      refine lv_aload_n hx hb dX1_put_112 rfl (lv_at hl 3 rfl) ?_
                      refine va_get (D := D) (ci := 1) (v := .ref a0) (C := RX1) (T := TX1) (N := 4) hx hb hts inX1_put hown hK hP 0 rfl rfl 2 (by decide) (hts _ fX1_put_7) (fun _ h9 => h9) rfl dX1_put_113 ?_
                      refine lv_bipush (v := 64) hx hb dX1_put_116 (by decide) ?_
                      refine lv_aload_n hx hb dX1_put_118 rfl (lv_at hl 3 rfl) ?_
                      refine tw_rM ⟨hx, hb, hml, hown, hts⟩ hK hP (c_X1_p l D cA cB h0 a0 b0 k (va_up (tw_mps k u i v F j) (64 * u + (i + j)) (tw_by v j)) g ) (cwV 0 hts gX1_put_X1_p rfl rfl rfl kdX1_p ⟨Nat.le_of_ble_eq_true rfl, Nat.le_of_ble_eq_true rfl⟩) rfl hl.1 rfl (Nat.le_of_ble_eq_true rfl) dX1_put_119 ⟨Nat.zero_le _, Nat.zero_le _⟩ ?_
                      refine lv_imul hx hb dX1_put_122 ?_
                      refine lv_iload hx hb dX1_put_123 (lv_at hl 2 rfl) ?_
                      refine lv_iadd hx hb dX1_put_125 ?_
                      refine tw_topr (x' := nI (64 * k + (i + j))) (tw_ix' k (i + j)) ?_
                      refine lv_dup2_11 hx hb dX1_put_126 rfl rfl ?_
                      refine tw_ld hx hb hK hP 1 0 rfl rfl (n := 64 * k + (i + j)) (rfl) (by omega) (by decide) dX1_put_127 ?_
                      refine lv_iload hx hb dX1_put_128 (lv_at hl 0 rfl) ?_
                      refine lv_ixor hx hb dX1_put_130 ?_
                      refine tw_st hx hb hK hP hD hS 1 0 rfl rfl (n := 64 * k + (i + j)) (v := (va_up (tw_mps k u i v F j) (64 * u + (i + j)) (tw_by v j)) (64 * k + (i + j)) ^^^ ((tw_mps k u i v F j) (64 * u + (i + j)) ^^^ tw_by v j)) (rfl) (tq_eb_xor _ _) (by omega) (by decide) dX1_put_131 (fun H locs hP hD hS => ?_)
                      have hP : va_P D vwCl (tw_M cA cB h0 a0 b0 k (va_up (va_up (tw_mps k u i v F j) (64 * u + (i + j)) (tw_by v j)) (64 * k + (i + j)) ((va_up (tw_mps k u i v F j) (64 * u + (i + j)) (tw_by v j)) (64 * k + (i + j)) ^^^ ((tw_mps k u i v F j) (64 * u + (i + j)) ^^^ tw_by v j))) g) H := hP
                      have hD : va_D A (tw_M cA cB h0 a0 b0 k (va_up (va_up (tw_mps k u i v F j) (64 * u + (i + j)) (tw_by v j)) (64 * k + (i + j)) ((va_up (tw_mps k u i v F j) (64 * u + (i + j)) (tw_by v j)) (64 * k + (i + j)) ^^^ ((tw_mps k u i v F j) (64 * u + (i + j)) ^^^ tw_by v j))) g) := hD
                      refine lv_aload_n hx hb dX1_put_132 rfl (lv_at hl 3 rfl) ?_
                      refine va_get (D := D) (ci := 1) (v := .ref a0) (C := RX1) (T := TX1) (N := 4) hx hb hts inX1_put hown hK hP 0 rfl rfl 2 (by decide) (hts _ fX1_put_7) (fun _ h9 => h9) rfl dX1_put_133 ?_
                      refine lv_bipush (v := 64) hx hb dX1_put_136 (by decide) ?_
                      refine lv_aload_n hx hb dX1_put_138 rfl (lv_at hl 3 rfl) ?_
                      refine tw_rM ⟨hx, hb, hml, hown, hts⟩ hK hP (c_X1_q l D cA cB h0 a0 b0 k (va_up (va_up (tw_mps k u i v F j) (64 * u + (i + j)) (tw_by v j)) (64 * k + (i + j)) ((va_up (tw_mps k u i v F j) (64 * u + (i + j)) (tw_by v j)) (64 * k + (i + j)) ^^^ ((tw_mps k u i v F j) (64 * u + (i + j)) ^^^ tw_by v j))) g ) (cwV 0 hts gX1_put_X1_q rfl rfl rfl kdX1_q ⟨Nat.le_of_ble_eq_true rfl, Nat.le_of_ble_eq_true rfl⟩) rfl hl.1 rfl (Nat.le_of_ble_eq_true rfl) dX1_put_139 ⟨Nat.zero_le _, Nat.zero_le _⟩ ?_
                      refine lv_imul hx hb dX1_put_142 ?_
                      refine lv_iload hx hb dX1_put_143 (lv_at hl 2 rfl) ?_
                      refine lv_iadd hx hb dX1_put_145 ?_
                      refine tw_topr (x' := nI (64 * (k + 1) + (i + j))) (tw_ix' (k + 1) (i + j)) ?_
                      refine lv_dup2_11 hx hb dX1_put_146 rfl rfl ?_
                      refine tw_ld hx hb hK hP 1 0 rfl rfl (n := 64 * (k + 1) + (i + j)) (rfl) (by omega) (by decide) dX1_put_147 ?_
                      refine lv_aload_n hx hb dX1_put_148 rfl (lv_at hl 3 rfl) ?_
                      refine lv_iload hx hb dX1_put_149 (lv_at hl 0 rfl) ?_
                      refine lv_aload_n hx hb dX1_put_151 rfl (lv_at hl 3 rfl) ?_
                      refine lv_iload_n hx hb dX1_put_152 rfl (lv_at hl 4 rfl) ?_
                      refine tw_rM ⟨hx, hb, hml, hown, hts⟩ hK hP (c_X1_twos l D cA cB h0 a0 b0 k (va_up (va_up (tw_mps k u i v F j) (64 * u + (i + j)) (tw_by v j)) (64 * k + (i + j)) ((va_up (tw_mps k u i v F j) (64 * u + (i + j)) (tw_by v j)) (64 * k + (i + j)) ^^^ ((tw_mps k u i v F j) (64 * u + (i + j)) ^^^ tw_by v j))) g u (by omega)) (cwV 1 hts gX1_put_X1_twos rfl rfl rfl kdX1_twos ⟨Nat.le_of_ble_eq_true rfl, Nat.le_of_ble_eq_true rfl⟩) rfl hl.1 rfl (Nat.le_of_ble_eq_true rfl) dX1_put_153 ⟨Nat.zero_le _, Nat.zero_le _⟩ ?_
                      refine tw_rM ⟨hx, hb, hml, hown, hts⟩ hK hP (c_X1_times l D cA cB h0 a0 b0 k (va_up (va_up (tw_mps k u i v F j) (64 * u + (i + j)) (tw_by v j)) (64 * k + (i + j)) ((va_up (tw_mps k u i v F j) (64 * u + (i + j)) (tw_by v j)) (64 * k + (i + j)) ^^^ ((tw_mps k u i v F j) (64 * u + (i + j)) ^^^ tw_by v j))) g ((tw_mps k u i v F j) (64 * u + (i + j)) ^^^ tw_by v j) (tq_p u 1#8)) (cwV 2 hts gX1_put_X1_times rfl rfl rfl kdX1_times ⟨Nat.le_of_ble_eq_true rfl, Nat.le_of_ble_eq_true rfl⟩) rfl hl.1 rfl (Nat.le_of_ble_eq_true rfl) dX1_put_156 ⟨Nat.zero_le _, Nat.zero_le _⟩ ?_
                      refine lv_ixor hx hb dX1_put_159 ?_
                      refine tw_st hx hb hK hP hD hS 1 0 rfl rfl (n := 64 * (k + 1) + (i + j)) (v := (va_up (va_up (tw_mps k u i v F j) (64 * u + (i + j)) (tw_by v j)) (64 * k + (i + j)) ((va_up (tw_mps k u i v F j) (64 * u + (i + j)) (tw_by v j)) (64 * k + (i + j)) ^^^ ((tw_mps k u i v F j) (64 * u + (i + j)) ^^^ tw_by v j))) (64 * (k + 1) + (i + j)) ^^^ tq_p u ((tw_mps k u i v F j) (64 * u + (i + j)) ^^^ tw_by v j)) (rfl) (by rw [tq_mp (show u < 16 by omega), tq_eb_xor]) (by omega) (by decide) dX1_put_160 (fun H locs hP hD hS => ?_)
                      have hP : va_P D vwCl (tw_M cA cB h0 a0 b0 k (va_up (va_up (va_up (tw_mps k u i v F j) (64 * u + (i + j)) (tw_by v j)) (64 * k + (i + j)) ((va_up (tw_mps k u i v F j) (64 * u + (i + j)) (tw_by v j)) (64 * k + (i + j)) ^^^ ((tw_mps k u i v F j) (64 * u + (i + j)) ^^^ tw_by v j))) (64 * (k + 1) + (i + j)) ((va_up (va_up (tw_mps k u i v F j) (64 * u + (i + j)) (tw_by v j)) (64 * k + (i + j)) ((va_up (tw_mps k u i v F j) (64 * u + (i + j)) (tw_by v j)) (64 * k + (i + j)) ^^^ ((tw_mps k u i v F j) (64 * u + (i + j)) ^^^ tw_by v j))) (64 * (k + 1) + (i + j)) ^^^ tq_p u ((tw_mps k u i v F j) (64 * u + (i + j)) ^^^ tw_by v j))) g) H := hP
                      have hD : va_D A (tw_M cA cB h0 a0 b0 k (va_up (va_up (va_up (tw_mps k u i v F j) (64 * u + (i + j)) (tw_by v j)) (64 * k + (i + j)) ((va_up (tw_mps k u i v F j) (64 * u + (i + j)) (tw_by v j)) (64 * k + (i + j)) ^^^ ((tw_mps k u i v F j) (64 * u + (i + j)) ^^^ tw_by v j))) (64 * (k + 1) + (i + j)) ((va_up (va_up (tw_mps k u i v F j) (64 * u + (i + j)) (tw_by v j)) (64 * k + (i + j)) ((va_up (tw_mps k u i v F j) (64 * u + (i + j)) (tw_by v j)) (64 * k + (i + j)) ^^^ ((tw_mps k u i v F j) (64 * u + (i + j)) ^^^ tw_by v j))) (64 * (k + 1) + (i + j)) ^^^ tq_p u ((tw_mps k u i v F j) (64 * u + (i + j)) ^^^ tw_by v j))) g) := hD
                      rw [show va_up (va_up (va_up (tw_mps k u i v F j) (64 * u + (i + j)) (tw_by v j)) (64 * k + (i + j)) ((va_up (tw_mps k u i v F j) (64 * u + (i + j)) (tw_by v j)) (64 * k + (i + j)) ^^^ ((tw_mps k u i v F j) (64 * u + (i + j)) ^^^ tw_by v j))) (64 * (k + 1) + (i + j)) ((va_up (va_up (tw_mps k u i v F j) (64 * u + (i + j)) (tw_by v j)) (64 * k + (i + j)) ((va_up (tw_mps k u i v F j) (64 * u + (i + j)) (tw_by v j)) (64 * k + (i + j)) ^^^ ((tw_mps k u i v F j) (64 * u + (i + j)) ^^^ tw_by v j))) (64 * (k + 1) + (i + j)) ^^^ tq_p u ((tw_mps k u i v F j) (64 * u + (i + j)) ^^^ tw_by v j)) = tw_mps k u i v F (j + 1) from rfl] at hP hD
                      refine lv_iinc (v := nI (j + 1)) (lv' := [(6, .int (nI (j + 1))), (9, .int (tq_eb ((tw_mps k u i v F j) (64 * u + (i + j)) ^^^ tw_by v j))), (8, .int (tq_eb (tw_by v j))), (7, .int (nI (i + j))), (0, .ref h0), (1, .int (nI u)), (2, .int (nI i)), (3, .int (nI q)), (4, .long v)]) hx hb dX1_put_161 hl (k := 8) rfl (nI_1 j) (by decide) rfl (fun ls hl => ?_)
                      refine lv_goto (tgt := 54) hx hb dX1_put_164 (by decide) ?_
                      exact ih (j + 1) ls H locs (by omega) hP hD hS (lv_sub hl [4, 5, 6, 7, 8, 0] rfl)
                refine lv_iconst (v := 0) hx hb dX1_put_51 (by decide) ?_
                refine lv_istore (lv' := [(6, .int 0), (0, .ref h0), (1, .int (nI u)), (2, .int (nI i)), (3, .int (nI q)), (4, .long v)]) hx hb dX1_put_52 hl (by decide) rfl (fun ls hl => ?_)
                exact loop q 0 ls _ _ (by omega) hP hD hS (lv_sub hl [1, 2, 3, 4, 5, 0] rfl)
              · refine lv_iconst (v := (-1)) hx hb dX1_put_49 (by decide) ?_
                exact hend _ _ _ (k, F, g) _ _ dX1_put_50 (by rw [← hE, tw_mput, if_neg (by first | (simp [c_6]; done) | (simp [c_14]; done) | (simp [hcu, c_23]; done) | (simp [tw_sp, c_28]; done) | (simp [tw_sp, c_34]; done) | (simp [tw_sp, c_38]; done) | (simp [tw_sp, Int32.not_le.mp c_46]; done))]) hP hD hS
def tw_mss (u i : Nat) (sd : Int32) (F : Nat → BitVec 8) : Nat → Nat → BitVec 8
  | 0 => F
  | j + 1 => va_up (tw_mss u i sd F j) (64 * u + (i + j)) (tw_b16 (tw_lc sd (j + 1)))
def tw_mspoil (k : Nat) (F : Nat → BitVec 8) (g : Nat → Bool) (x z n sd : Int32) : Int32 × (Nat × (Nat → BitVec 8) × (Nat → Bool)) := if !tw_nu k x && (!g x.toNatClampNeg && tw_sp z n 64) then (n, (k, tw_mss x.toNatClampNeg z.toNatClampNeg sd F n.toNatClampNeg, g)) else (-1, (k, F, g))
abbrev rmX1_spoil : Room := { frames := 1, cells := 0, slots := 0, locals := 21 }
theorem inX1_spoil : ∀ w ∈ wsX10, w ∈ wsX1_spoil := fun _ h => List.mem_cons_of_mem _ (List.mem_append_right _ h)
theorem fX1_spoil_21 : Cond.fieldLink RX1 21 "TwinParityModel" "thrown" "I" ∈ wsX1_spoil := List.mem_of_getElem? (i := 1) rfl
theorem fX1_spoil_13 : Cond.fieldLink RX1 13 "TwinParityModel" "lost" "[Z" ∈ wsX1_spoil := List.mem_of_getElem? (i := 2) rfl
theorem fX1_spoil_51 : Cond.constant RX1 51 (1103515245) ∈ wsX1_spoil := List.mem_of_getElem? (i := 3) rfl
theorem fX1_spoil_7 : Cond.fieldLink RX1 7 "TwinParityModel" "bytes" "[I" ∈ wsX1_spoil := List.mem_of_getElem? (i := 4) rfl
theorem fX1_spoil_25 : Cond.fieldLink RX1 25 "TwinParityModel" "units" "I" ∈ wsX1_spoil := List.mem_of_getElem? (i := 10) rfl
theorem kdX1_spoil : yX1_spoil.cls = RX1 ∧ yX1_spoil.cls ≠ "java/lang/invoke/MethodHandle" ∧ yX1_spoil.cls ≠ "java/lang/invoke/VarHandle" ∧ (parseMethodDescriptor yX1_spoil.desc).map (fun d => d.parameters.length) = some 4 := by decide +kernel
set_option maxHeartbeats 4000000 in
set_option maxRecDepth 100000 in
theorem c_X1_spoil (l : Launch) (D : va_G) (cA cB : ClassId) (h0 a0 b0 k : Nat) (F : Nat → BitVec 8) (g : Nat → Bool) (sz : Nat) (x z n sd : Int32) (hk : k ≤ 14) : Met l yX1_spoil wsX1_spoil rmX1_spoil (va_Pc [.ref h0, .int x, .int z, .int n, .int sd] (tw_Pw D (tw_M cA cB h0 a0 b0 k F g) (tw_tM cA cB) sz)) (va_Qi (fun (r : Int32) (u : Nat × (Nat → BitVec 8) × (Nat → Bool)) => (r, u) = tw_mspoil k F g x z n sd) (tw_Qw D (fun u : Nat × (Nat → BitVec 8) × (Nat → Bool) => tw_M cA cB h0 a0 b0 u.1 u.2.1 u.2.2) (tw_tM cA cB) (va_A (tw_M cA cB h0 a0 b0 k F g) sz)) (va_A (tw_M cA cB h0 a0 b0 k F g) sz)) 0 0 (va_A (tw_M cA cB h0 a0 b0 k F g) sz) := by
  refine tw_metW (by decide) rfl rfl (Nat.le_of_ble_eq_true rfl) ?_
  intro p e s m args below meth c Q ls A hx hb hml hown hts hP hK hD hS hA hend hl
  have hown : s.vm.findClass RX1 = some m.cls := hown
  have hl : lv_has ls 7 [(0, .ref h0), (1, .int x), (2, .int z), (3, .int n), (4, .int sd)] := hl
  generalize hE : tw_mspoil k F g x z n sd = E at hend
  refine lv_aload_n hx hb dX1_spoil_0 rfl (lv_at hl 0 rfl) ?_
  refine lv_iconst (v := 0) hx hb dX1_spoil_1 (by decide) ?_
  refine va_put (D := D) (ci := 1) (v := .int 0) (ty := .int) (C := RX1) (T := TX1) (N := 4) hx hb hts inX1_spoil tyX1 tyX1_ok nmX1 hown hK hP hD hS 0 rfl rfl 0 (by decide) (hts _ fX1_spoil_21) (fun _ h9 => h9) rfl (by decide +kernel) rfl rfl (Nat.le_of_ble_eq_true rfl) dX1_spoil_2 (fun H locs hP hD hS => ?_)
  have hP : va_P D vwCl (tw_M cA cB h0 a0 b0 k F g) H := hP
  have hD : va_D A (tw_M cA cB h0 a0 b0 k F g) := hD
  refine lv_aload_n hx hb dX1_spoil_5 rfl (lv_at hl 0 rfl) ?_
  refine lv_iload_n hx hb dX1_spoil_6 rfl (lv_at hl 1 rfl) ?_
  refine tw_rM ⟨hx, hb, hml, hown, hts⟩ hK hP (c_X1_noUnit l D cA cB h0 a0 b0 k F g x) (cwV 1 hts gX1_spoil_X1_noUnit rfl rfl rfl kdX1_noUnit ⟨Nat.le_of_ble_eq_true rfl, Nat.le_of_ble_eq_true rfl⟩) rfl hl.1 rfl (Nat.le_of_ble_eq_true rfl) dX1_spoil_7 ⟨Nat.zero_le _, Nat.zero_le _⟩ ?_
  refine lv_if_ne (tgt := 45) hx hb dX1_spoil_10 (by decide) (fun c_10 => ?_) (fun c_10 => ?_)
  · rw [tw_bI1] at c_10
    refine lv_iconst (v := (-1)) hx hb dX1_spoil_45 (by decide) ?_
    exact hend _ _ _ (k, F, g) _ _ dX1_spoil_46 (by rw [← hE, tw_mspoil, if_neg (by first | (simp [c_10]; done) | (simp [hcu, c_19]; done) | (simp [tw_sp, c_24]; done) | (simp [tw_sp, c_30]; done) | (simp [tw_sp, c_34]; done) | (simp [tw_sp, Int32.not_le.mp c_42]; done))]) hP hD hS
  · rw [tw_bI0] at c_10
    obtain ⟨u, huk, rfl⟩ := tw_nuD hk c_10
    have hcu : (nI u).toNatClampNeg = u := nI_clamp (by omega)
    refine lv_aload_n hx hb dX1_spoil_13 rfl (lv_at hl 0 rfl) ?_
    refine va_get (D := D) (ci := 1) (v := .ref b0) (C := RX1) (T := TX1) (N := 4) hx hb hts inX1_spoil hown hK hP 0 rfl rfl 3 (by decide) (hts _ fX1_spoil_13) (fun _ h9 => h9) rfl dX1_spoil_14 ?_
    refine lv_iload_n hx hb dX1_spoil_17 rfl (lv_at hl 1 rfl) ?_
    refine tw_lz hx hb hK hP 2 1 rfl rfl (n := u) (rfl) (by omega) (by decide) dX1_spoil_18 ?_
    refine lv_if_ne (tgt := 45) hx hb dX1_spoil_19 (by decide) (fun c_19 => ?_) (fun c_19 => ?_)
    · rw [tw_bI1] at c_19
      refine lv_iconst (v := (-1)) hx hb dX1_spoil_45 (by decide) ?_
      exact hend _ _ _ (k, F, g) _ _ dX1_spoil_46 (by rw [← hE, tw_mspoil, if_neg (by first | (simp [c_10]; done) | (simp [hcu, c_19]; done) | (simp [tw_sp, c_24]; done) | (simp [tw_sp, c_30]; done) | (simp [tw_sp, c_34]; done) | (simp [tw_sp, Int32.not_le.mp c_42]; done))]) hP hD hS
    · rw [tw_bI0] at c_19
      refine lv_iload_n hx hb dX1_spoil_22 rfl (lv_at hl 3 rfl) ?_
      refine lv_iconst (v := 1) hx hb dX1_spoil_23 (by decide) ?_
      refine lv_icmp_lt (tgt := 45) hx hb dX1_spoil_24 (by decide) (fun c_24 => ?_) (fun c_24 => ?_)
      · refine lv_iconst (v := (-1)) hx hb dX1_spoil_45 (by decide) ?_
        exact hend _ _ _ (k, F, g) _ _ dX1_spoil_46 (by rw [← hE, tw_mspoil, if_neg (by first | (simp [c_10]; done) | (simp [hcu, c_19]; done) | (simp [tw_sp, c_24]; done) | (simp [tw_sp, c_30]; done) | (simp [tw_sp, c_34]; done) | (simp [tw_sp, Int32.not_le.mp c_42]; done))]) hP hD hS
      · refine lv_iload_n hx hb dX1_spoil_27 rfl (lv_at hl 3 rfl) ?_
        refine lv_bipush (v := 64) hx hb dX1_spoil_28 (by decide) ?_
        refine lv_icmp_gt (tgt := 45) hx hb dX1_spoil_30 (by decide) (fun c_30 => ?_) (fun c_30 => ?_)
        · refine lv_iconst (v := (-1)) hx hb dX1_spoil_45 (by decide) ?_
          exact hend _ _ _ (k, F, g) _ _ dX1_spoil_46 (by rw [← hE, tw_mspoil, if_neg (by first | (simp [c_10]; done) | (simp [hcu, c_19]; done) | (simp [tw_sp, c_24]; done) | (simp [tw_sp, c_30]; done) | (simp [tw_sp, c_34]; done) | (simp [tw_sp, Int32.not_le.mp c_42]; done))]) hP hD hS
        · refine lv_iload_n hx hb dX1_spoil_33 rfl (lv_at hl 2 rfl) ?_
          refine lv_if_lt (tgt := 45) hx hb dX1_spoil_34 (by decide) (fun c_34 => ?_) (fun c_34 => ?_)
          · refine lv_iconst (v := (-1)) hx hb dX1_spoil_45 (by decide) ?_
            exact hend _ _ _ (k, F, g) _ _ dX1_spoil_46 (by rw [← hE, tw_mspoil, if_neg (by first | (simp [c_10]; done) | (simp [hcu, c_19]; done) | (simp [tw_sp, c_24]; done) | (simp [tw_sp, c_30]; done) | (simp [tw_sp, c_34]; done) | (simp [tw_sp, Int32.not_le.mp c_42]; done))]) hP hD hS
          · refine lv_iload_n hx hb dX1_spoil_37 rfl (lv_at hl 2 rfl) ?_
            refine lv_bipush (v := 64) hx hb dX1_spoil_38 (by decide) ?_
            refine lv_iload_n hx hb dX1_spoil_40 rfl (lv_at hl 3 rfl) ?_
            refine lv_isub hx hb dX1_spoil_41 ?_
            refine lv_icmp_le (tgt := 47) hx hb dX1_spoil_42 (by decide) (fun c_42 => ?_) (fun c_42 => ?_)
            · have hsp : tw_sp z n 64 = true := by simp [tw_sp, c_24, c_30, c_34, Int32.not_lt.mpr c_42]
              have hsp2 := hsp
              obtain ⟨i, q, rfl, rfl, hq1, hq2, hiq⟩ := tw_spD (mm := 64) (by decide) hsp2
              have loop : ∀ (n j : Nat) (ls : Array Slot) (H : Heap) (locs : List Loc), j + n = q → va_P D vwCl (tw_M cA cB h0 a0 b0 k (tw_mss u i sd F j) g) H → va_D A (tw_M cA cB h0 a0 b0 k (tw_mss u i sd F j) g) → va_S A s.heap H locs → lv_has ls 7 [(0, .ref h0), (1, .int (nI u)), (2, .int (nI i)), (3, .int (nI q)), (5, .int (tw_lc sd j)), (6, .int (nI j))] → W p l e rmX1_spoil s m args below meth c H locs 0 0 Q (F0 m 54 ls []) := by
                intro n
                induction n with
                | zero =>
                  intro j ls H locs hj hP hD hS hl
                  refine lv_iload hx hb dX1_spoil_54 (lv_at hl 5 rfl) ?_
                  refine lv_iload_n hx hb dX1_spoil_56 rfl (lv_at hl 3 rfl) ?_
                  refine lv_icmp_ge (tgt := 100) hx hb dX1_spoil_57 (by decide) (fun c_57 => ?_) (fun c_57 => ?_)
                  · refine lv_iload_n hx hb dX1_spoil_100 rfl (lv_at hl 3 rfl) ?_
                    rw [show j = q by omega] at hP hD
                    exact hend _ _ _ (k, tw_mss u i sd F q, g) _ _ dX1_spoil_101 (by rw [← hE, tw_mspoil, hcu, hsp, c_10, c_19]; simp [nI_clamp (show i < 2 ^ 31 by omega), nI_clamp (show q < 2 ^ 31 by omega)]) hP hD hS
                  · exact absurd (nI_le (by omega) (by omega)) c_57
                | succ n ih =>
                  intro j ls H locs hj hP hD hS hl
                  refine lv_iload hx hb dX1_spoil_54 (lv_at hl 5 rfl) ?_
                  refine lv_iload_n hx hb dX1_spoil_56 rfl (lv_at hl 3 rfl) ?_
                  refine lv_icmp_ge (tgt := 100) hx hb dX1_spoil_57 (by decide) (fun c_57 => ?_) (fun c_57 => ?_)
                  · exact absurd c_57 (nI_ge (by omega) (by omega))
                  · refine lv_ldc (v := 1103515245) hx hb hown (hts _ fX1_spoil_51) dX1_spoil_60 ?_
                    refine lv_iload hx hb dX1_spoil_62 (lv_at hl 4 rfl) ?_
                    refine lv_imul hx hb dX1_spoil_64 ?_
                    refine lv_sipush (v := 12345) hx hb dX1_spoil_65 (by decide) ?_
                    refine lv_iadd hx hb dX1_spoil_68 ?_
                    refine tw_topr (x' := tw_lc sd (j + 1)) (rfl) ?_
                    refine lv_istore (lv' := [(5, .int (tw_lc sd (j + 1))), (0, .ref h0), (1, .int (nI u)), (2, .int (nI i)), (3, .int (nI q)), (6, .int (nI j))]) hx hb dX1_spoil_69 hl (by decide) rfl (fun ls hl => ?_)
                    refine lv_aload_n hx hb dX1_spoil_71 rfl (lv_at hl 1 rfl) ?_
                    refine va_get (D := D) (ci := 1) (v := .ref a0) (C := RX1) (T := TX1) (N := 4) hx hb hts inX1_spoil hown hK hP 0 rfl rfl 2 (by decide) (hts _ fX1_spoil_7) (fun _ h9 => h9) rfl dX1_spoil_72 ?_
                    refine lv_bipush (v := 64) hx hb dX1_spoil_75 (by decide) ?_
                    refine lv_iload_n hx hb dX1_spoil_77 rfl (lv_at hl 2 rfl) ?_
                    refine lv_imul hx hb dX1_spoil_78 ?_
                    refine lv_iload_n hx hb dX1_spoil_79 rfl (lv_at hl 3 rfl) ?_
                    refine lv_iadd hx hb dX1_spoil_80 ?_
                    refine tw_topr (x' := nI (64 * u + i)) (tw_ix' u i) ?_
                    refine lv_iload hx hb dX1_spoil_81 (lv_at hl 5 rfl) ?_
                    refine lv_iadd hx hb dX1_spoil_83 ?_
                    refine tw_topr (x' := nI (64 * u + (i + j))) (by rw [nI_add, Nat.add_assoc]) ?_
                    refine lv_iload hx hb dX1_spoil_84 (lv_at hl 0 rfl) ?_
                    refine lv_bipush (v := 16) hx hb dX1_spoil_86 (by decide) ?_
                    refine lv_ishr hx hb dX1_spoil_88 ?_
                    refine lv_sipush (v := 255) hx hb dX1_spoil_89 (by decide) ?_
                    refine lv_iand hx hb dX1_spoil_92 ?_
                    refine tw_st hx hb hK hP hD hS 1 0 rfl rfl (n := 64 * u + (i + j)) (v := tw_b16 (tw_lc sd (j + 1))) (rfl) (tw_b16_m _) (by omega) (by decide) dX1_spoil_93 (fun H locs hP hD hS => ?_)
                    have hP : va_P D vwCl (tw_M cA cB h0 a0 b0 k (va_up (tw_mss u i sd F j) (64 * u + (i + j)) (tw_b16 (tw_lc sd (j + 1)))) g) H := hP
                    have hD : va_D A (tw_M cA cB h0 a0 b0 k (va_up (tw_mss u i sd F j) (64 * u + (i + j)) (tw_b16 (tw_lc sd (j + 1)))) g) := hD
                    rw [show va_up (tw_mss u i sd F j) (64 * u + (i + j)) (tw_b16 (tw_lc sd (j + 1))) = tw_mss u i sd F (j + 1) from rfl] at hP hD
                    refine lv_iinc (v := nI (j + 1)) (lv' := [(6, .int (nI (j + 1))), (5, .int (tw_lc sd (j + 1))), (0, .ref h0), (1, .int (nI u)), (2, .int (nI i)), (3, .int (nI q))]) hx hb dX1_spoil_94 hl (k := 5) rfl (nI_1 j) (by decide) rfl (fun ls hl => ?_)
                    refine lv_goto (tgt := 54) hx hb dX1_spoil_97 (by decide) ?_
                    exact ih (j + 1) ls H locs (by omega) hP hD hS (lv_sub hl [2, 3, 4, 5, 1, 0] rfl)
              refine lv_iload hx hb dX1_spoil_47 (lv_at hl 4 rfl) ?_
              refine lv_istore (lv' := [(5, .int sd), (0, .ref h0), (1, .int (nI u)), (2, .int (nI i)), (3, .int (nI q)), (4, .int sd)]) hx hb dX1_spoil_49 hl (by decide) rfl (fun ls hl => ?_)
              refine lv_iconst (v := 0) hx hb dX1_spoil_51 (by decide) ?_
              refine lv_istore (lv' := [(6, .int 0), (5, .int sd), (0, .ref h0), (1, .int (nI u)), (2, .int (nI i)), (3, .int (nI q)), (4, .int sd)]) hx hb dX1_spoil_52 hl (by decide) rfl (fun ls hl => ?_)
              exact loop q 0 ls _ _ (by omega) hP hD hS (lv_sub hl [2, 3, 4, 5, 1, 0] rfl)
            · refine lv_iconst (v := (-1)) hx hb dX1_spoil_45 (by decide) ?_
              exact hend _ _ _ (k, F, g) _ _ dX1_spoil_46 (by rw [← hE, tw_mspoil, if_neg (by first | (simp [c_10]; done) | (simp [hcu, c_19]; done) | (simp [tw_sp, c_24]; done) | (simp [tw_sp, c_30]; done) | (simp [tw_sp, c_34]; done) | (simp [tw_sp, Int32.not_le.mp c_42]; done))]) hP hD hS
def tw_mk1 (k : Nat) (g : Nat → Bool) (G : Nat → BitVec 8) (n : Nat) : Nat → BitVec 8 := va_up G (64 * k + n) (tq_xs (tw_ml g (tq_col G n)) k)
def tw_mmk (k : Nat) (g : Nat → Bool) (F : Nat → BitVec 8) : Nat → Nat → BitVec 8
  | 0 => F
  | n + 1 => va_up (tw_mk1 k g (tw_mmk k g F n) n) (64 * (k + 1) + n) (tq_qs (tw_ml g (tq_col (tw_mk1 k g (tw_mmk k g F n) n) n)) k)
def tw_mmake (k : Nat) (F : Nat → BitVec 8) (g : Nat → Bool) : Int32 × (Nat × (Nat → BitVec 8) × (Nat → Bool)) := if tw_mc g (k + 2) = 0 then (0, (k, tw_mmk k g F 64, g)) else (-1, (k, F, g))
abbrev rmX1_make : Room := { frames := 3, cells := 0, slots := 0, locals := 73 }
theorem inX1_make : ∀ w ∈ wsX10, w ∈ wsX1_make := fun _ h => List.mem_cons_of_mem _ (List.mem_append_right _ h)
theorem fX1_make_21 : Cond.fieldLink RX1 21 "TwinParityModel" "thrown" "I" ∈ wsX1_make := List.mem_of_getElem? (i := 1) rfl
theorem fX1_make_7 : Cond.fieldLink RX1 7 "TwinParityModel" "bytes" "[I" ∈ wsX1_make := List.mem_of_getElem? (i := 2) rfl
theorem fX1_make_25 : Cond.fieldLink RX1 25 "TwinParityModel" "units" "I" ∈ wsX1_make := List.mem_of_getElem? (i := 8) rfl
theorem fX1_make_13 : Cond.fieldLink RX1 13 "TwinParityModel" "lost" "[Z" ∈ wsX1_make := List.mem_of_getElem? (i := 9) rfl
theorem kdX1_make : yX1_make.cls = RX1 ∧ yX1_make.cls ≠ "java/lang/invoke/MethodHandle" ∧ yX1_make.cls ≠ "java/lang/invoke/VarHandle" ∧ (parseMethodDescriptor yX1_make.desc).map (fun d => d.parameters.length) = some 0 := by decide +kernel
set_option maxHeartbeats 4000000 in
set_option maxRecDepth 100000 in
theorem c_X1_make (l : Launch) (D : va_G) (cA cB : ClassId) (h0 a0 b0 k : Nat) (F : Nat → BitVec 8) (g : Nat → Bool) (sz : Nat) (hk : k ≤ 14) : Met l yX1_make wsX1_make rmX1_make (va_Pc [.ref h0] (tw_Pw D (tw_M cA cB h0 a0 b0 k F g) (tw_tM cA cB) sz)) (va_Qi (fun (r : Int32) (u : Nat × (Nat → BitVec 8) × (Nat → Bool)) => (r, u) = tw_mmake k F g) (tw_Qw D (fun u : Nat × (Nat → BitVec 8) × (Nat → Bool) => tw_M cA cB h0 a0 b0 u.1 u.2.1 u.2.2) (tw_tM cA cB) (va_A (tw_M cA cB h0 a0 b0 k F g) sz)) (va_A (tw_M cA cB h0 a0 b0 k F g) sz)) 0 0 (va_A (tw_M cA cB h0 a0 b0 k F g) sz) := by
  refine tw_metW (by decide) rfl rfl (Nat.le_of_ble_eq_true rfl) ?_
  intro p e s m args below meth c Q ls A hx hb hml hown hts hP hK hD hS hA hend hl
  have hown : s.vm.findClass RX1 = some m.cls := hown
  have hl : lv_has ls 2 [(0, .ref h0)] := hl
  refine lv_aload_n hx hb dX1_make_0 rfl (lv_at hl 0 rfl) ?_
  refine lv_iconst (v := 0) hx hb dX1_make_1 (by decide) ?_
  refine va_put (D := D) (ci := 1) (v := .int 0) (ty := .int) (C := RX1) (T := TX1) (N := 4) hx hb hts inX1_make tyX1 tyX1_ok nmX1 hown hK hP hD hS 0 rfl rfl 0 (by decide) (hts _ fX1_make_21) (fun _ h9 => h9) rfl (by decide +kernel) rfl rfl (Nat.le_of_ble_eq_true rfl) dX1_make_2 (fun H locs hP hD hS => ?_)
  have hP : va_P D vwCl (tw_M cA cB h0 a0 b0 k F g) H := hP
  have hD : va_D A (tw_M cA cB h0 a0 b0 k F g) := hD
  refine lv_aload_n hx hb dX1_make_5 rfl (lv_at hl 0 rfl) ?_
  refine tw_rM ⟨hx, hb, hml, hown, hts⟩ hK hP (c_X1_manyLost l D cA cB h0 a0 b0 k F g hk) (cwV 0 hts gX1_make_X1_manyLost rfl rfl rfl kdX1_manyLost ⟨Nat.le_of_ble_eq_true rfl, Nat.le_of_ble_eq_true rfl⟩) rfl hl.1 rfl (Nat.le_of_ble_eq_true rfl) dX1_make_6 ⟨Nat.zero_le _, Nat.zero_le _⟩ ?_
  refine lv_if_le (tgt := 14) hx hb dX1_make_9 (by decide) (fun c_9 => ?_) (fun c_9 => ?_)
  · have hz : tw_mc g (k + 2) = 0 := by have h9 := tw_mc_le g (k + 2); rcases Nat.eq_zero_or_pos (tw_mc g (k + 2)) with h8 | h8; exact h8; exact absurd c_9 (nI_nle h8 (by omega))
    have loop : ∀ (n j : Nat) (ls : Array Slot) (H : Heap) (locs : List Loc), j + n = 64 → va_P D vwCl (tw_M cA cB h0 a0 b0 k (tw_mmk k g F j) g) H → va_D A (tw_M cA cB h0 a0 b0 k (tw_mmk k g F j) g) → va_S A s.heap H locs → lv_has ls 2 [(0, .ref h0), (1, .int (nI j))] → W p l e rmX1_make s m args below meth c H locs 0 0 Q (F0 m 16 ls []) := by
      intro n
      induction n with
      | zero =>
        intro j ls H locs hj hP hD hS hl
        refine lv_iload_n hx hb dX1_make_16 rfl (lv_at hl 1 rfl) ?_
        refine lv_bipush (v := 64) hx hb dX1_make_17 (by decide) ?_
        refine lv_icmp_ge (tgt := 68) hx hb dX1_make_19 (by decide) (fun c_19 => ?_) (fun c_19 => ?_)
        · refine lv_iconst (v := 0) hx hb dX1_make_68 (by decide) ?_
          rw [show j = 64 by omega] at hP hD
          exact hend _ _ _ (k, tw_mmk k g F 64, g) _ _ dX1_make_69 (by rw [tw_mmake, if_pos hz]) hP hD hS
        · exact absurd (nI_le (a := 64) (by omega) (by omega)) c_19
      | succ n ih =>
        intro j ls H locs hj hP hD hS hl
        refine lv_iload_n hx hb dX1_make_16 rfl (lv_at hl 1 rfl) ?_
        refine lv_bipush (v := 64) hx hb dX1_make_17 (by decide) ?_
        refine lv_icmp_ge (tgt := 68) hx hb dX1_make_19 (by decide) (fun c_19 => ?_) (fun c_19 => ?_)
        · exact absurd c_19 (nI_ge (b := 64) (by omega) (by omega))
        · refine lv_aload_n hx hb dX1_make_22 rfl (lv_at hl 0 rfl) ?_
          refine va_get (D := D) (ci := 1) (v := .ref a0) (C := RX1) (T := TX1) (N := 4) hx hb hts inX1_make hown hK hP 0 rfl rfl 2 (by decide) (hts _ fX1_make_7) (fun _ h9 => h9) rfl dX1_make_23 ?_
          refine lv_bipush (v := 64) hx hb dX1_make_26 (by decide) ?_
          refine lv_aload_n hx hb dX1_make_28 rfl (lv_at hl 0 rfl) ?_
          refine tw_rM ⟨hx, hb, hml, hown, hts⟩ hK hP (c_X1_p l D cA cB h0 a0 b0 k (tw_mmk k g F j) g ) (cwV 0 hts gX1_make_X1_p rfl rfl rfl kdX1_p ⟨Nat.le_of_ble_eq_true rfl, Nat.le_of_ble_eq_true rfl⟩) rfl hl.1 rfl (Nat.le_of_ble_eq_true rfl) dX1_make_29 ⟨Nat.zero_le _, Nat.zero_le _⟩ ?_
          refine lv_imul hx hb dX1_make_32 ?_
          refine lv_iload_n hx hb dX1_make_33 rfl (lv_at hl 1 rfl) ?_
          refine lv_iadd hx hb dX1_make_34 ?_
          refine tw_topr (x' := nI (64 * k + j)) (tw_ix' k j) ?_
          refine lv_aload_n hx hb dX1_make_35 rfl (lv_at hl 0 rfl) ?_
          refine lv_iload_n hx hb dX1_make_36 rfl (lv_at hl 1 rfl) ?_
          refine lv_iconst (v := 0) hx hb dX1_make_37 (by decide) ?_
          refine tw_rM ⟨hx, hb, hml, hown, hts⟩ hK hP (c_X1_sumAt l D cA cB h0 a0 b0 k (tw_mmk k g F j) g j false (by omega) hk) (cwV 2 hts gX1_make_X1_sumAt rfl rfl rfl kdX1_sumAt ⟨Nat.le_of_ble_eq_true rfl, Nat.le_of_ble_eq_true rfl⟩) rfl hl.1 rfl (Nat.le_of_ble_eq_true rfl) dX1_make_38 ⟨Nat.zero_le _, Nat.zero_le _⟩ ?_
          refine tw_st hx hb hK hP hD hS 1 0 rfl rfl (n := 64 * k + j) (v := tq_xs (tw_ml g (tq_col (tw_mmk k g F j) j)) k) (rfl) (rfl) (by omega) (by decide) dX1_make_41 (fun H locs hP hD hS => ?_)
          have hP : va_P D vwCl (tw_M cA cB h0 a0 b0 k (va_up (tw_mmk k g F j) (64 * k + j) (tq_xs (tw_ml g (tq_col (tw_mmk k g F j) j)) k)) g) H := hP
          have hD : va_D A (tw_M cA cB h0 a0 b0 k (va_up (tw_mmk k g F j) (64 * k + j) (tq_xs (tw_ml g (tq_col (tw_mmk k g F j) j)) k)) g) := hD
          rw [show va_up (tw_mmk k g F j) (64 * k + j) (tq_xs (tw_ml g (tq_col (tw_mmk k g F j) j)) k) = tw_mk1 k g (tw_mmk k g F j) j from rfl] at hP hD
          refine lv_aload_n hx hb dX1_make_42 rfl (lv_at hl 0 rfl) ?_
          refine va_get (D := D) (ci := 1) (v := .ref a0) (C := RX1) (T := TX1) (N := 4) hx hb hts inX1_make hown hK hP 0 rfl rfl 2 (by decide) (hts _ fX1_make_7) (fun _ h9 => h9) rfl dX1_make_43 ?_
          refine lv_bipush (v := 64) hx hb dX1_make_46 (by decide) ?_
          refine lv_aload_n hx hb dX1_make_48 rfl (lv_at hl 0 rfl) ?_
          refine tw_rM ⟨hx, hb, hml, hown, hts⟩ hK hP (c_X1_q l D cA cB h0 a0 b0 k (tw_mk1 k g (tw_mmk k g F j) j) g ) (cwV 0 hts gX1_make_X1_q rfl rfl rfl kdX1_q ⟨Nat.le_of_ble_eq_true rfl, Nat.le_of_ble_eq_true rfl⟩) rfl hl.1 rfl (Nat.le_of_ble_eq_true rfl) dX1_make_49 ⟨Nat.zero_le _, Nat.zero_le _⟩ ?_
          refine lv_imul hx hb dX1_make_52 ?_
          refine lv_iload_n hx hb dX1_make_53 rfl (lv_at hl 1 rfl) ?_
          refine lv_iadd hx hb dX1_make_54 ?_
          refine tw_topr (x' := nI (64 * (k + 1) + j)) (tw_ix' (k + 1) j) ?_
          refine lv_aload_n hx hb dX1_make_55 rfl (lv_at hl 0 rfl) ?_
          refine lv_iload_n hx hb dX1_make_56 rfl (lv_at hl 1 rfl) ?_
          refine lv_iconst (v := 1) hx hb dX1_make_57 (by decide) ?_
          refine tw_rM ⟨hx, hb, hml, hown, hts⟩ hK hP (c_X1_sumAt l D cA cB h0 a0 b0 k (tw_mk1 k g (tw_mmk k g F j) j) g j true (by omega) hk) (cwV 2 hts gX1_make_X1_sumAt rfl rfl rfl kdX1_sumAt ⟨Nat.le_of_ble_eq_true rfl, Nat.le_of_ble_eq_true rfl⟩) rfl hl.1 rfl (Nat.le_of_ble_eq_true rfl) dX1_make_58 ⟨Nat.zero_le _, Nat.zero_le _⟩ ?_
          refine tw_st hx hb hK hP hD hS 1 0 rfl rfl (n := 64 * (k + 1) + j) (v := tq_qs (tw_ml g (tq_col (tw_mk1 k g (tw_mmk k g F j) j) j)) k) (rfl) (rfl) (by omega) (by decide) dX1_make_61 (fun H locs hP hD hS => ?_)
          have hP : va_P D vwCl (tw_M cA cB h0 a0 b0 k (va_up (tw_mk1 k g (tw_mmk k g F j) j) (64 * (k + 1) + j) (tq_qs (tw_ml g (tq_col (tw_mk1 k g (tw_mmk k g F j) j) j)) k)) g) H := hP
          have hD : va_D A (tw_M cA cB h0 a0 b0 k (va_up (tw_mk1 k g (tw_mmk k g F j) j) (64 * (k + 1) + j) (tq_qs (tw_ml g (tq_col (tw_mk1 k g (tw_mmk k g F j) j) j)) k)) g) := hD
          rw [show va_up (tw_mk1 k g (tw_mmk k g F j) j) (64 * (k + 1) + j) (tq_qs (tw_ml g (tq_col (tw_mk1 k g (tw_mmk k g F j) j) j)) k) = tw_mmk k g F (j + 1) from rfl] at hP hD
          refine lv_iinc (v := nI (j + 1)) (lv' := [(1, .int (nI (j + 1))), (0, .ref h0)]) hx hb dX1_make_62 hl (k := 1) rfl (nI_1 j) (by decide) rfl (fun ls hl => ?_)
          refine lv_goto (tgt := 16) hx hb dX1_make_65 (by decide) ?_
          exact ih (j + 1) ls H locs (by omega) hP hD hS (lv_sub hl [1, 0] rfl)
    refine lv_iconst (v := 0) hx hb dX1_make_14 (by decide) ?_
    refine lv_istore_n (lv' := [(1, .int 0), (0, .ref h0)]) hx hb dX1_make_15 rfl hl (by decide) rfl (fun ls hl => ?_)
    exact loop 64 0 ls _ _ (by omega) hP hD hS (lv_sub hl [1, 0] rfl)
  · refine lv_iconst (v := (-1)) hx hb dX1_make_12 (by decide) ?_
    exact hend _ _ _ (k, F, g) _ _ dX1_make_13 (by rw [tw_mmake, if_neg (fun h9 => c_9 (by rw [h9]; decide))]) hP hD hS
def tw_mget (k : Nat) (F : Nat → BitVec 8) (g : Nat → Bool) (x z : Int32) : Int32 := if !tw_nu k x && (!g x.toNatClampNeg && (!decide (z < 0) && decide (z < 64))) then tq_eb (F (64 * x.toNatClampNeg + z.toNatClampNeg)) else -1
abbrev rmX1_get : Room := { frames := 1, cells := 0, slots := 0, locals := 21 }
theorem inX1_get : ∀ w ∈ wsX10, w ∈ wsX1_get := fun _ h => List.mem_cons_of_mem _ (List.mem_append_right _ h)
theorem fX1_get_21 : Cond.fieldLink RX1 21 "TwinParityModel" "thrown" "I" ∈ wsX1_get := List.mem_of_getElem? (i := 1) rfl
theorem fX1_get_13 : Cond.fieldLink RX1 13 "TwinParityModel" "lost" "[Z" ∈ wsX1_get := List.mem_of_getElem? (i := 2) rfl
theorem fX1_get_7 : Cond.fieldLink RX1 7 "TwinParityModel" "bytes" "[I" ∈ wsX1_get := List.mem_of_getElem? (i := 3) rfl
theorem fX1_get_25 : Cond.fieldLink RX1 25 "TwinParityModel" "units" "I" ∈ wsX1_get := List.mem_of_getElem? (i := 9) rfl
theorem kdX1_get : yX1_get.cls = RX1 ∧ yX1_get.cls ≠ "java/lang/invoke/MethodHandle" ∧ yX1_get.cls ≠ "java/lang/invoke/VarHandle" ∧ (parseMethodDescriptor yX1_get.desc).map (fun d => d.parameters.length) = some 2 := by decide +kernel
set_option maxHeartbeats 4000000 in
set_option maxRecDepth 100000 in
theorem c_X1_get (l : Launch) (D : va_G) (cA cB : ClassId) (h0 a0 b0 k : Nat) (F : Nat → BitVec 8) (g : Nat → Bool) (sz : Nat) (x z : Int32) (hk : k ≤ 14) : Met l yX1_get wsX1_get rmX1_get (va_Pc [.ref h0, .int x, .int z] (tw_Pw D (tw_M cA cB h0 a0 b0 k F g) (tw_tM cA cB) sz)) (va_Qi (fun (r : Int32) (u : Nat × (Nat → BitVec 8) × (Nat → Bool)) => (r, u) = (tw_mget k F g x z, (k, F, g))) (tw_Qw D (fun u : Nat × (Nat → BitVec 8) × (Nat → Bool) => tw_M cA cB h0 a0 b0 u.1 u.2.1 u.2.2) (tw_tM cA cB) (va_A (tw_M cA cB h0 a0 b0 k F g) sz)) (va_A (tw_M cA cB h0 a0 b0 k F g) sz)) 0 0 (va_A (tw_M cA cB h0 a0 b0 k F g) sz) := by
  refine tw_metW (by decide) rfl rfl (Nat.le_of_ble_eq_true rfl) ?_
  intro p e s m args below meth c Q ls A hx hb hml hown hts hP hK hD hS hA hend hl
  have hown : s.vm.findClass RX1 = some m.cls := hown
  have hl : lv_has ls 3 [(0, .ref h0), (1, .int x), (2, .int z)] := hl
  generalize hE : tw_mget k F g x z = E at hend
  refine lv_aload_n hx hb dX1_get_0 rfl (lv_at hl 0 rfl) ?_
  refine lv_iconst (v := 0) hx hb dX1_get_1 (by decide) ?_
  refine va_put (D := D) (ci := 1) (v := .int 0) (ty := .int) (C := RX1) (T := TX1) (N := 4) hx hb hts inX1_get tyX1 tyX1_ok nmX1 hown hK hP hD hS 0 rfl rfl 0 (by decide) (hts _ fX1_get_21) (fun _ h9 => h9) rfl (by decide +kernel) rfl rfl (Nat.le_of_ble_eq_true rfl) dX1_get_2 (fun H locs hP hD hS => ?_)
  have hP : va_P D vwCl (tw_M cA cB h0 a0 b0 k F g) H := hP
  have hD : va_D A (tw_M cA cB h0 a0 b0 k F g) := hD
  refine lv_aload_n hx hb dX1_get_5 rfl (lv_at hl 0 rfl) ?_
  refine lv_iload_n hx hb dX1_get_6 rfl (lv_at hl 1 rfl) ?_
  refine tw_rM ⟨hx, hb, hml, hown, hts⟩ hK hP (c_X1_noUnit l D cA cB h0 a0 b0 k F g x) (cwV 1 hts gX1_get_X1_noUnit rfl rfl rfl kdX1_noUnit ⟨Nat.le_of_ble_eq_true rfl, Nat.le_of_ble_eq_true rfl⟩) rfl hl.1 rfl (Nat.le_of_ble_eq_true rfl) dX1_get_7 ⟨Nat.zero_le _, Nat.zero_le _⟩ ?_
  refine lv_if_ne (tgt := 32) hx hb dX1_get_10 (by decide) (fun c_10 => ?_) (fun c_10 => ?_)
  · rw [tw_bI1] at c_10
    refine lv_iconst (v := (-1)) hx hb dX1_get_32 (by decide) ?_
    refine lv_goto (tgt := 47) hx hb dX1_get_33 (by decide) ?_
    exact hend _ _ _ (k, F, g) _ _ dX1_get_47 (by rw [← hE, tw_mget, if_neg (by first | (simp [c_10]; done) | (simp [hcu, c_19]; done) | (simp [c_23]; done) | (simp [c_29]; done))]) hP hD hS
  · rw [tw_bI0] at c_10
    obtain ⟨u, huk, rfl⟩ := tw_nuD hk c_10
    have hcu : (nI u).toNatClampNeg = u := nI_clamp (by omega)
    refine lv_aload_n hx hb dX1_get_13 rfl (lv_at hl 0 rfl) ?_
    refine va_get (D := D) (ci := 1) (v := .ref b0) (C := RX1) (T := TX1) (N := 4) hx hb hts inX1_get hown hK hP 0 rfl rfl 3 (by decide) (hts _ fX1_get_13) (fun _ h9 => h9) rfl dX1_get_14 ?_
    refine lv_iload_n hx hb dX1_get_17 rfl (lv_at hl 1 rfl) ?_
    refine tw_lz hx hb hK hP 2 1 rfl rfl (n := u) (rfl) (by omega) (by decide) dX1_get_18 ?_
    refine lv_if_ne (tgt := 32) hx hb dX1_get_19 (by decide) (fun c_19 => ?_) (fun c_19 => ?_)
    · rw [tw_bI1] at c_19
      refine lv_iconst (v := (-1)) hx hb dX1_get_32 (by decide) ?_
      refine lv_goto (tgt := 47) hx hb dX1_get_33 (by decide) ?_
      exact hend _ _ _ (k, F, g) _ _ dX1_get_47 (by rw [← hE, tw_mget, if_neg (by first | (simp [c_10]; done) | (simp [hcu, c_19]; done) | (simp [c_23]; done) | (simp [c_29]; done))]) hP hD hS
    · rw [tw_bI0] at c_19
      refine lv_iload_n hx hb dX1_get_22 rfl (lv_at hl 2 rfl) ?_
      refine lv_if_lt (tgt := 32) hx hb dX1_get_23 (by decide) (fun c_23 => ?_) (fun c_23 => ?_)
      · refine lv_iconst (v := (-1)) hx hb dX1_get_32 (by decide) ?_
        refine lv_goto (tgt := 47) hx hb dX1_get_33 (by decide) ?_
        exact hend _ _ _ (k, F, g) _ _ dX1_get_47 (by rw [← hE, tw_mget, if_neg (by first | (simp [c_10]; done) | (simp [hcu, c_19]; done) | (simp [c_23]; done) | (simp [c_29]; done))]) hP hD hS
      · refine lv_iload_n hx hb dX1_get_26 rfl (lv_at hl 2 rfl) ?_
        refine lv_bipush (v := 64) hx hb dX1_get_27 (by decide) ?_
        refine lv_icmp_lt (tgt := 36) hx hb dX1_get_29 (by decide) (fun c_29 => ?_) (fun c_29 => ?_)
        · obtain ⟨i, hi0, rfl⟩ := nI_of c_23
          have hi : i < 64 := (nI_ltI hi0 (by decide)).mp (show nI i < nI 64 from c_29)
          refine lv_aload_n hx hb dX1_get_36 rfl (lv_at hl 0 rfl) ?_
          refine va_get (D := D) (ci := 1) (v := .ref a0) (C := RX1) (T := TX1) (N := 4) hx hb hts inX1_get hown hK hP 0 rfl rfl 2 (by decide) (hts _ fX1_get_7) (fun _ h9 => h9) rfl dX1_get_37 ?_
          refine lv_bipush (v := 64) hx hb dX1_get_40 (by decide) ?_
          refine lv_iload_n hx hb dX1_get_42 rfl (lv_at hl 1 rfl) ?_
          refine lv_imul hx hb dX1_get_43 ?_
          refine lv_iload_n hx hb dX1_get_44 rfl (lv_at hl 2 rfl) ?_
          refine lv_iadd hx hb dX1_get_45 ?_
          refine tw_ld hx hb hK hP 1 0 rfl rfl (n := 64 * u + i) (tw_ix' u i) (by omega) (by decide) dX1_get_46 ?_
          exact hend _ _ _ (k, F, g) _ _ dX1_get_47 (by rw [← hE, tw_mget, hcu, nI_clamp (show i < 2 ^ 31 by omega)]; simp [c_10, c_19, c_23, c_29]) hP hD hS
        · refine lv_iconst (v := (-1)) hx hb dX1_get_32 (by decide) ?_
          refine lv_goto (tgt := 47) hx hb dX1_get_33 (by decide) ?_
          exact hend _ _ _ (k, F, g) _ _ dX1_get_47 (by rw [← hE, tw_mget, if_neg (by first | (simp [c_10]; done) | (simp [hcu, c_19]; done) | (simp [c_23]; done) | (simp [c_29]; done))]) hP hD hS
def tw_wg (k : Nat) (g : Nat → Bool) (x z : Int32) : Bool := !tw_nu k x && (!g x.toNatClampNeg && tw_w8 z)
def tw_mword (k : Nat) (F : Nat → BitVec 8) (g : Nat → Bool) (x z : Int32) : Int64 := if tw_wg k g x z then tw_wval F x.toNatClampNeg z.toNatClampNeg else 0
abbrev rmX1_word : Room := { frames := 1, cells := 0, slots := 0, locals := 21 }
theorem inX1_word : ∀ w ∈ wsX10, w ∈ wsX1_word := fun _ h => List.mem_cons_of_mem _ (List.mem_append_right _ h)
theorem fX1_word_21 : Cond.fieldLink RX1 21 "TwinParityModel" "thrown" "I" ∈ wsX1_word := List.mem_of_getElem? (i := 1) rfl
theorem fX1_word_13 : Cond.fieldLink RX1 13 "TwinParityModel" "lost" "[Z" ∈ wsX1_word := List.mem_of_getElem? (i := 2) rfl
theorem fX1_word_7 : Cond.fieldLink RX1 7 "TwinParityModel" "bytes" "[I" ∈ wsX1_word := List.mem_of_getElem? (i := 3) rfl
theorem fX1_word_25 : Cond.fieldLink RX1 25 "TwinParityModel" "units" "I" ∈ wsX1_word := List.mem_of_getElem? (i := 9) rfl
theorem kdX1_word : yX1_word.cls = RX1 ∧ yX1_word.cls ≠ "java/lang/invoke/MethodHandle" ∧ yX1_word.cls ≠ "java/lang/invoke/VarHandle" ∧ (parseMethodDescriptor yX1_word.desc).map (fun d => d.parameters.length) = some 2 := by decide +kernel
set_option maxHeartbeats 4000000 in
set_option maxRecDepth 100000 in
theorem c_X1_word (l : Launch) (D : va_G) (cA cB : ClassId) (h0 a0 b0 k : Nat) (F : Nat → BitVec 8) (g : Nat → Bool) (sz : Nat) (x z : Int32) (hk : k ≤ 14) : Met l yX1_word wsX1_word rmX1_word (va_Pc [.ref h0, .int x, .int z] (tw_Pw D (tw_M cA cB h0 a0 b0 k F g) (tw_tM cA cB) sz)) (va_Ql (fun (r : Int64) (u : Nat × (Nat → BitVec 8) × (Nat → Bool)) => (r, u) = (tw_mword k F g x z, (k, F, g))) (tw_Qw D (fun u : Nat × (Nat → BitVec 8) × (Nat → Bool) => tw_M cA cB h0 a0 b0 u.1 u.2.1 u.2.2) (tw_tM cA cB) (va_A (tw_M cA cB h0 a0 b0 k F g) sz)) (va_A (tw_M cA cB h0 a0 b0 k F g) sz)) 0 0 (va_A (tw_M cA cB h0 a0 b0 k F g) sz) := by
  refine tw_metWl (by decide) rfl rfl (Nat.le_of_ble_eq_true rfl) ?_
  intro p e s m args below meth c Q ls A hx hb hml hown hts hP hK hD hS hA hend hl
  have hown : s.vm.findClass RX1 = some m.cls := hown
  have hl : lv_has ls 6 [(0, .ref h0), (1, .int x), (2, .int z)] := hl
  generalize hE : tw_mword k F g x z = E at hend
  refine lv_aload_n hx hb dX1_word_0 rfl (lv_at hl 0 rfl) ?_
  refine lv_iconst (v := 0) hx hb dX1_word_1 (by decide) ?_
  refine va_put (D := D) (ci := 1) (v := .int 0) (ty := .int) (C := RX1) (T := TX1) (N := 4) hx hb hts inX1_word tyX1 tyX1_ok nmX1 hown hK hP hD hS 0 rfl rfl 0 (by decide) (hts _ fX1_word_21) (fun _ h9 => h9) rfl (by decide +kernel) rfl rfl (Nat.le_of_ble_eq_true rfl) dX1_word_2 (fun H locs hP hD hS => ?_)
  have hP : va_P D vwCl (tw_M cA cB h0 a0 b0 k F g) H := hP
  have hD : va_D A (tw_M cA cB h0 a0 b0 k F g) := hD
  refine lv_lconst (v := 0) hx hb dX1_word_5 (by decide) ?_
  refine lv_lstore_n (lv' := [(3, .long 0), (0, .ref h0), (1, .int x), (2, .int z)]) hx hb dX1_word_6 rfl hl (by decide) rfl (fun ls hl => ?_)
  refine lv_bipush (v := 7) hx hb dX1_word_7 (by decide) ?_
  refine lv_istore (lv' := [(5, .int 7), (3, .long 0), (0, .ref h0), (1, .int x), (2, .int z)]) hx hb dX1_word_9 hl (by decide) rfl (fun ls hl => ?_)
  cases hg : tw_wg k g x z with
  | false =>
    refine lv_iload hx hb dX1_word_11 (lv_at hl 0 rfl) ?_
    refine lv_if_lt (tgt := 73) hx hb dX1_word_13 (by decide) (fun c_13 => ?_) (fun c_13 => ?_)
    · exact absurd c_13 (by decide)
    · refine lv_aload_n hx hb dX1_word_16 rfl (lv_at hl 2 rfl) ?_
      refine lv_iload_n hx hb dX1_word_17 rfl (lv_at hl 3 rfl) ?_
      refine tw_rM ⟨hx, hb, hml, hown, hts⟩ hK hP (c_X1_noUnit l D cA cB h0 a0 b0 k F g x) (cwV 1 hts gX1_word_X1_noUnit rfl rfl rfl kdX1_noUnit ⟨Nat.le_of_ble_eq_true rfl, Nat.le_of_ble_eq_true rfl⟩) rfl hl.1 rfl (Nat.le_of_ble_eq_true rfl) dX1_word_18 ⟨Nat.zero_le _, Nat.zero_le _⟩ ?_
      refine lv_if_ne (tgt := 73) hx hb dX1_word_21 (by decide) (fun c_21 => ?_) (fun c_21 => ?_)
      · rw [tw_bI1] at c_21
        refine lv_lload_n hx hb dX1_word_73 rfl (lv_at hl 1 rfl) ?_
        exact hend _ _ _ (k, F, g) _ _ dX1_word_74 (by rw [← hE, tw_mword, hg]; rfl) hP hD hS
      · rw [tw_bI0] at c_21
        obtain ⟨u, huk, rfl⟩ := tw_nuD hk c_21
        have hcu : (nI u).toNatClampNeg = u := nI_clamp (by omega)
        refine lv_aload_n hx hb dX1_word_24 rfl (lv_at hl 2 rfl) ?_
        refine va_get (D := D) (ci := 1) (v := .ref b0) (C := RX1) (T := TX1) (N := 4) hx hb hts inX1_word hown hK hP 0 rfl rfl 3 (by decide) (hts _ fX1_word_13) (fun _ h9 => h9) rfl dX1_word_25 ?_
        refine lv_iload_n hx hb dX1_word_28 rfl (lv_at hl 3 rfl) ?_
        refine tw_lz hx hb hK hP 2 1 rfl rfl (n := u) (rfl) (by omega) (by decide) dX1_word_29 ?_
        refine lv_if_ne (tgt := 73) hx hb dX1_word_30 (by decide) (fun c_30 => ?_) (fun c_30 => ?_)
        · rw [tw_bI1] at c_30
          refine lv_lload_n hx hb dX1_word_73 rfl (lv_at hl 1 rfl) ?_
          exact hend _ _ _ (k, F, g) _ _ dX1_word_74 (by rw [← hE, tw_mword, hg]; rfl) hP hD hS
        · rw [tw_bI0] at c_30
          refine lv_iload_n hx hb dX1_word_33 rfl (lv_at hl 4 rfl) ?_
          refine lv_if_lt (tgt := 73) hx hb dX1_word_34 (by decide) (fun c_34 => ?_) (fun c_34 => ?_)
          · refine lv_lload_n hx hb dX1_word_73 rfl (lv_at hl 1 rfl) ?_
            exact hend _ _ _ (k, F, g) _ _ dX1_word_74 (by rw [← hE, tw_mword, hg]; rfl) hP hD hS
          · refine lv_iload_n hx hb dX1_word_37 rfl (lv_at hl 4 rfl) ?_
            refine lv_bipush (v := 8) hx hb dX1_word_38 (by decide) ?_
            refine lv_icmp_ge (tgt := 73) hx hb dX1_word_40 (by decide) (fun c_40 => ?_) (fun c_40 => ?_)
            · refine lv_lload_n hx hb dX1_word_73 rfl (lv_at hl 1 rfl) ?_
              exact hend _ _ _ (k, F, g) _ _ dX1_word_74 (by rw [← hE, tw_mword, hg]; rfl) hP hD hS
            · exact absurd hg (by simp [tw_wg, tw_w8, hcu, c_21, c_30, c_34, c_40])
  | true =>
    have hg2 := hg
    simp only [tw_wg, tw_w8, Bool.and_eq_true, Bool.not_eq_true', decide_eq_false_iff_not] at hg2
    obtain ⟨u, huk, rfl⟩ := tw_nuD hk hg2.1
    have hcu : (nI u).toNatClampNeg = u := nI_clamp (by omega)
    have hgu : g u = false := by rw [← hcu]; exact hg2.2.1
    obtain ⟨i, hi0, rfl⟩ := nI_of hg2.2.2.1
    have hi : i < 8 := by rcases Nat.lt_or_ge i 8 with q | q; exact q; exact absurd (nI_le (a := 8) q hi0) hg2.2.2.2
    have loop : ∀ (n : Nat) (ls : Array Slot), n ≤ 8 → lv_has ls 6 [(0, .ref h0), (1, .int (nI u)), (2, .int (nI i)), (3, .long (tq_wd (fun j => F (64 * u + (8 * i + j))) (8 - n))), (5, .int (nI n - 1))] → W p l e rmX1_word s m args below meth c H locs 0 0 Q (F0 m 11 ls []) := by
      intro n
      induction n with
      | zero =>
        intro ls hn hl
        have hl : lv_has ls 6 [(0, .ref h0), (1, .int (nI u)), (2, .int (nI i)), (3, .long (tq_wd (fun j => F (64 * u + (8 * i + j))) (8 - 0))), (5, .int ((-1)))] := hl
        refine lv_iload hx hb dX1_word_11 (lv_at hl 4 rfl) ?_
        refine lv_if_lt (tgt := 73) hx hb dX1_word_13 (by decide) (fun c_13 => ?_) (fun c_13 => ?_)
        · refine lv_lload_n hx hb dX1_word_73 rfl (lv_at hl 3 rfl) ?_
          exact hend _ _ _ (k, F, g) _ _ dX1_word_74 (by rw [← hE, tw_mword, hg, hcu, nI_clamp (show i < 2 ^ 31 by omega)]; rfl) hP hD hS
        · exact absurd (by decide) c_13
      | succ n ih =>
        intro ls hn hl
        rw [nI_pred] at hl
        refine lv_iload hx hb dX1_word_11 (lv_at hl 4 rfl) ?_
        refine lv_if_lt (tgt := 73) hx hb dX1_word_13 (by decide) (fun c_13 => ?_) (fun c_13 => ?_)
        · exact absurd c_13 (nI_pos (by omega))
        · refine lv_aload_n hx hb dX1_word_16 rfl (lv_at hl 0 rfl) ?_
          refine lv_iload_n hx hb dX1_word_17 rfl (lv_at hl 1 rfl) ?_
          refine tw_rM ⟨hx, hb, hml, hown, hts⟩ hK hP (c_X1_noUnit l D cA cB h0 a0 b0 k F g (nI u)) (cwV 1 hts gX1_word_X1_noUnit rfl rfl rfl kdX1_noUnit ⟨Nat.le_of_ble_eq_true rfl, Nat.le_of_ble_eq_true rfl⟩) rfl hl.1 rfl (Nat.le_of_ble_eq_true rfl) dX1_word_18 ⟨Nat.zero_le _, Nat.zero_le _⟩ ?_
          refine lv_if_ne (tgt := 73) hx hb dX1_word_21 (by decide) (fun c_21 => ?_) (fun c_21 => ?_)
          · exact absurd (tw_bI1.mp c_21) (by rw [tw_nuI hk huk]; decide)
          · refine lv_aload_n hx hb dX1_word_24 rfl (lv_at hl 0 rfl) ?_
            refine va_get (D := D) (ci := 1) (v := .ref b0) (C := RX1) (T := TX1) (N := 4) hx hb hts inX1_word hown hK hP 0 rfl rfl 3 (by decide) (hts _ fX1_word_13) (fun _ h9 => h9) rfl dX1_word_25 ?_
            refine lv_iload_n hx hb dX1_word_28 rfl (lv_at hl 1 rfl) ?_
            refine tw_lz hx hb hK hP 2 1 rfl rfl (n := u) (rfl) (by omega) (by decide) dX1_word_29 ?_
            refine lv_if_ne (tgt := 73) hx hb dX1_word_30 (by decide) (fun c_30 => ?_) (fun c_30 => ?_)
            · exact absurd (tw_bI1.mp c_30) (by rw [hgu]; decide)
            · refine lv_iload_n hx hb dX1_word_33 rfl (lv_at hl 2 rfl) ?_
              refine lv_if_lt (tgt := 73) hx hb dX1_word_34 (by decide) (fun c_34 => ?_) (fun c_34 => ?_)
              · exact absurd c_34 (nI_pos (by omega))
              · refine lv_iload_n hx hb dX1_word_37 rfl (lv_at hl 2 rfl) ?_
                refine lv_bipush (v := 8) hx hb dX1_word_38 (by decide) ?_
                refine lv_icmp_ge (tgt := 73) hx hb dX1_word_40 (by decide) (fun c_40 => ?_) (fun c_40 => ?_)
                · exact absurd c_40 (nI_ge (b := 8) (by omega) (by omega))
                · refine lv_lload_n hx hb dX1_word_43 rfl (lv_at hl 3 rfl) ?_
                  refine lv_bipush (v := 8) hx hb dX1_word_44 (by decide) ?_
                  refine lv_lshl hx hb dX1_word_46 rfl ?_
                  refine lv_aload_n hx hb dX1_word_47 rfl (lv_at hl 0 rfl) ?_
                  refine va_get (D := D) (ci := 1) (v := .ref a0) (C := RX1) (T := TX1) (N := 4) hx hb hts inX1_word hown hK hP 0 rfl rfl 2 (by decide) (hts _ fX1_word_7) (fun _ h9 => h9) rfl dX1_word_48 ?_
                  refine lv_bipush (v := 64) hx hb dX1_word_51 (by decide) ?_
                  refine lv_iload_n hx hb dX1_word_53 rfl (lv_at hl 1 rfl) ?_
                  refine lv_imul hx hb dX1_word_54 ?_
                  refine lv_bipush (v := 8) hx hb dX1_word_55 (by decide) ?_
                  refine lv_iload_n hx hb dX1_word_57 rfl (lv_at hl 2 rfl) ?_
                  refine lv_imul hx hb dX1_word_58 ?_
                  refine lv_iadd hx hb dX1_word_59 ?_
                  refine tw_topr (x' := nI (64 * u + 8 * i)) (by rw [show (8 : Int32) = nI 8 from rfl, show (64 : Int32) = nI 64 from rfl, pk_mul, pk_mul, nI_add]) ?_
                  refine lv_iload hx hb dX1_word_60 (lv_at hl 4 rfl) ?_
                  refine lv_iadd hx hb dX1_word_62 ?_
                  refine tw_ld hx hb hK hP 1 0 rfl rfl (n := 64 * u + (8 * i + n)) (by rw [nI_add, Nat.add_assoc]) (by omega) (by decide) dX1_word_63 ?_
                  refine lv_i2l hx hb dX1_word_64 rfl ?_
                  refine lv_lor hx hb dX1_word_65 ?_
                  refine tw_toprl (x' := tq_wd (fun j => F (64 * u + (8 * i + j))) (8 - n)) (by rw [show 8 - n = (8 - (n + 1)) + 1 by omega, tq_wd, show 7 - (8 - (n + 1)) = n by omega]) ?_
                  refine lv_lstore_n (lv' := [(3, .long (tq_wd (fun j => F (64 * u + (8 * i + j))) (8 - n))), (0, .ref h0), (1, .int (nI u)), (2, .int (nI i)), (5, .int (nI n))]) hx hb dX1_word_66 rfl hl (by decide) rfl (fun ls hl => ?_)
                  refine lv_iinc (v := nI n - 1) (lv' := [(5, .int (nI n - 1)), (3, .long (tq_wd (fun j => F (64 * u + (8 * i + j))) (8 - n))), (0, .ref h0), (1, .int (nI u)), (2, .int (nI i))]) hx hb dX1_word_67 hl (k := 4) rfl (tw_dec n) (by decide) rfl (fun ls hl => ?_)
                  refine lv_goto (tgt := 11) hx hb dX1_word_70 (by decide) ?_
                  exact ih ls (by omega) (lv_sub hl [2, 3, 4, 1, 0] rfl)
    exact loop 8 ls (Nat.le_refl 8) (lv_sub hl [2, 3, 4, 1, 0] rfl)
def tw_mlose (k : Nat) (F : Nat → BitVec 8) (g : Nat → Bool) (x : Int32) : Int32 × (Nat × (Nat → BitVec 8) × (Nat → Bool)) := if !tw_nu k x && !g x.toNatClampNeg then (if tw_mc g (k + 2) = 2 then (-3, (k, F, g)) else (nI (tw_mc (va_up g x.toNatClampNeg true) (k + 2)), (k, F, va_up g x.toNatClampNeg true))) else (-1, (k, F, g))
abbrev rmX1_lose : Room := { frames := 1, cells := 0, slots := 0, locals := 22 }
theorem inX1_lose : ∀ w ∈ wsX10, w ∈ wsX1_lose := fun _ h => List.mem_cons_of_mem _ (List.mem_append_right _ h)
theorem fX1_lose_21 : Cond.fieldLink RX1 21 "TwinParityModel" "thrown" "I" ∈ wsX1_lose := List.mem_of_getElem? (i := 1) rfl
theorem fX1_lose_13 : Cond.fieldLink RX1 13 "TwinParityModel" "lost" "[Z" ∈ wsX1_lose := List.mem_of_getElem? (i := 2) rfl
theorem fX1_lose_25 : Cond.fieldLink RX1 25 "TwinParityModel" "units" "I" ∈ wsX1_lose := List.mem_of_getElem? (i := 8) rfl
theorem kdX1_lose : yX1_lose.cls = RX1 ∧ yX1_lose.cls ≠ "java/lang/invoke/MethodHandle" ∧ yX1_lose.cls ≠ "java/lang/invoke/VarHandle" ∧ (parseMethodDescriptor yX1_lose.desc).map (fun d => d.parameters.length) = some 1 := by decide +kernel
set_option maxHeartbeats 4000000 in
set_option maxRecDepth 100000 in
theorem c_X1_lose (l : Launch) (D : va_G) (cA cB : ClassId) (h0 a0 b0 k : Nat) (F : Nat → BitVec 8) (g : Nat → Bool) (sz : Nat) (x : Int32) (hk : k ≤ 14) : Met l yX1_lose wsX1_lose rmX1_lose (va_Pc [.ref h0, .int x] (tw_Pw D (tw_M cA cB h0 a0 b0 k F g) (tw_tM cA cB) sz)) (va_Qi (fun (r : Int32) (u : Nat × (Nat → BitVec 8) × (Nat → Bool)) => (r, u) = tw_mlose k F g x) (tw_Qw D (fun u : Nat × (Nat → BitVec 8) × (Nat → Bool) => tw_M cA cB h0 a0 b0 u.1 u.2.1 u.2.2) (tw_tM cA cB) (va_A (tw_M cA cB h0 a0 b0 k F g) sz)) (va_A (tw_M cA cB h0 a0 b0 k F g) sz)) 0 0 (va_A (tw_M cA cB h0 a0 b0 k F g) sz) := by
  refine tw_metW (by decide) rfl rfl (Nat.le_of_ble_eq_true rfl) ?_
  intro p e s m args below meth c Q ls A hx hb hml hown hts hP hK hD hS hA hend hl
  have hown : s.vm.findClass RX1 = some m.cls := hown
  have hl : lv_has ls 2 [(0, .ref h0), (1, .int x)] := hl
  generalize hE : tw_mlose k F g x = E at hend
  refine lv_aload_n hx hb dX1_lose_0 rfl (lv_at hl 0 rfl) ?_
  refine lv_iconst (v := 0) hx hb dX1_lose_1 (by decide) ?_
  refine va_put (D := D) (ci := 1) (v := .int 0) (ty := .int) (C := RX1) (T := TX1) (N := 4) hx hb hts inX1_lose tyX1 tyX1_ok nmX1 hown hK hP hD hS 0 rfl rfl 0 (by decide) (hts _ fX1_lose_21) (fun _ h9 => h9) rfl (by decide +kernel) rfl rfl (Nat.le_of_ble_eq_true rfl) dX1_lose_2 (fun H locs hP hD hS => ?_)
  have hP : va_P D vwCl (tw_M cA cB h0 a0 b0 k F g) H := hP
  have hD : va_D A (tw_M cA cB h0 a0 b0 k F g) := hD
  refine lv_aload_n hx hb dX1_lose_5 rfl (lv_at hl 0 rfl) ?_
  refine lv_iload_n hx hb dX1_lose_6 rfl (lv_at hl 1 rfl) ?_
  refine tw_rM ⟨hx, hb, hml, hown, hts⟩ hK hP (c_X1_noUnit l D cA cB h0 a0 b0 k F g x) (cwV 1 hts gX1_lose_X1_noUnit rfl rfl rfl kdX1_noUnit ⟨Nat.le_of_ble_eq_true rfl, Nat.le_of_ble_eq_true rfl⟩) rfl hl.1 rfl (Nat.le_of_ble_eq_true rfl) dX1_lose_7 ⟨Nat.zero_le _, Nat.zero_le _⟩ ?_
  refine lv_if_ne (tgt := 22) hx hb dX1_lose_10 (by decide) (fun c_10 => ?_) (fun c_10 => ?_)
  · rw [tw_bI1] at c_10
    refine lv_iconst (v := (-1)) hx hb dX1_lose_22 (by decide) ?_
    exact hend _ _ _ (k, F, g) _ _ dX1_lose_23 (by rw [← hE, tw_mlose, if_neg (by first | (simp [c_10]; done) | (simp [hcu, c_19]; done))]) hP hD hS
  · rw [tw_bI0] at c_10
    obtain ⟨u, huk, rfl⟩ := tw_nuD hk c_10
    have hcu : (nI u).toNatClampNeg = u := nI_clamp (by omega)
    refine lv_aload_n hx hb dX1_lose_13 rfl (lv_at hl 0 rfl) ?_
    refine va_get (D := D) (ci := 1) (v := .ref b0) (C := RX1) (T := TX1) (N := 4) hx hb hts inX1_lose hown hK hP 0 rfl rfl 3 (by decide) (hts _ fX1_lose_13) (fun _ h9 => h9) rfl dX1_lose_14 ?_
    refine lv_iload_n hx hb dX1_lose_17 rfl (lv_at hl 1 rfl) ?_
    refine tw_lz hx hb hK hP 2 1 rfl rfl (n := u) (rfl) (by omega) (by decide) dX1_lose_18 ?_
    refine lv_if_eq (tgt := 24) hx hb dX1_lose_19 (by decide) (fun c_19 => ?_) (fun c_19 => ?_)
    · rw [tw_bI0] at c_19
      refine lv_aload_n hx hb dX1_lose_24 rfl (lv_at hl 0 rfl) ?_
      refine tw_rM ⟨hx, hb, hml, hown, hts⟩ hK hP (c_X1_manyLost l D cA cB h0 a0 b0 k F g hk) (cwV 0 hts gX1_lose_X1_manyLost rfl rfl rfl kdX1_manyLost ⟨Nat.le_of_ble_eq_true rfl, Nat.le_of_ble_eq_true rfl⟩) rfl hl.1 rfl (Nat.le_of_ble_eq_true rfl) dX1_lose_25 ⟨Nat.zero_le _, Nat.zero_le _⟩ ?_
      refine lv_iconst (v := 2) hx hb dX1_lose_28 (by decide) ?_
      refine lv_icmp_ne (tgt := 35) hx hb dX1_lose_29 (by decide) (fun c_29 => ?_) (fun c_29 => ?_)
      · refine lv_aload_n hx hb dX1_lose_35 rfl (lv_at hl 0 rfl) ?_
        refine va_get (D := D) (ci := 1) (v := .ref b0) (C := RX1) (T := TX1) (N := 4) hx hb hts inX1_lose hown hK hP 0 rfl rfl 3 (by decide) (hts _ fX1_lose_13) (fun _ h9 => h9) rfl dX1_lose_36 ?_
        refine lv_iload_n hx hb dX1_lose_39 rfl (lv_at hl 1 rfl) ?_
        refine lv_iconst (v := 1) hx hb dX1_lose_40 (by decide) ?_
        refine tw_sz hx hb hK hP hD hS 2 1 rfl rfl (n := u) (v := true) (rfl) (rfl) (by omega) (by decide) dX1_lose_41 (fun H locs hP hD hS => ?_)
        have hP : va_P D vwCl (tw_M cA cB h0 a0 b0 k F (va_up g (u) (true))) H := hP
        have hD : va_D A (tw_M cA cB h0 a0 b0 k F (va_up g (u) (true))) := hD
        refine lv_aload_n hx hb dX1_lose_42 rfl (lv_at hl 0 rfl) ?_
        refine tw_rM ⟨hx, hb, hml, hown, hts⟩ hK hP (c_X1_manyLost l D cA cB h0 a0 b0 k F (va_up g (u) (true)) hk) (cwV 0 hts gX1_lose_X1_manyLost rfl rfl rfl kdX1_manyLost ⟨Nat.le_of_ble_eq_true rfl, Nat.le_of_ble_eq_true rfl⟩) rfl hl.1 rfl (Nat.le_of_ble_eq_true rfl) dX1_lose_43 ⟨Nat.zero_le _, Nat.zero_le _⟩ ?_
        exact hend _ _ _ (k, F, va_up g u true) _ _ dX1_lose_46 (by rw [← hE, tw_mlose, hcu, c_10, c_19, if_neg (show ¬ tw_mc g (k + 2) = 2 from fun h9 => c_29 (by rw [h9]; rfl))]; rfl) hP hD hS
      · refine lv_bipush (v := (-3)) hx hb dX1_lose_32 (by decide) ?_
        exact hend _ _ _ (k, F, g) _ _ dX1_lose_34 (by have h9 := tw_mc_le g (k + 2); have h8 : tw_mc g (k + 2) = 2 := (nI_eq (by omega) (by decide)).mp c_29; rw [← hE, tw_mlose, hcu, c_10, c_19, h8]; rfl) hP hD hS
    · rw [tw_bI1] at c_19
      refine lv_iconst (v := (-1)) hx hb dX1_lose_22 (by decide) ?_
      exact hend _ _ _ (k, F, g) _ _ dX1_lose_23 (by rw [← hE, tw_mlose, if_neg (by first | (simp [c_10]; done) | (simp [hcu, c_19]; done))]) hP hD hS
def tw_mcheck (k : Nat) (F : Nat → BitVec 8) (g : Nat → Bool) : Int32 := if tw_mc g (k + 2) = 0 then tw_mo k g F else -1
abbrev rmX1_check : Room := { frames := 4, cells := 0, slots := 0, locals := 99 }
theorem inX1_check : ∀ w ∈ wsX10, w ∈ wsX1_check := fun _ h => List.mem_cons_of_mem _ (List.mem_append_right _ h)
theorem fX1_check_21 : Cond.fieldLink RX1 21 "TwinParityModel" "thrown" "I" ∈ wsX1_check := List.mem_of_getElem? (i := 1) rfl
theorem fX1_check_25 : Cond.fieldLink RX1 25 "TwinParityModel" "units" "I" ∈ wsX1_check := List.mem_of_getElem? (i := 7) rfl
theorem fX1_check_13 : Cond.fieldLink RX1 13 "TwinParityModel" "lost" "[Z" ∈ wsX1_check := List.mem_of_getElem? (i := 8) rfl
theorem fX1_check_7 : Cond.fieldLink RX1 7 "TwinParityModel" "bytes" "[I" ∈ wsX1_check := List.mem_of_getElem? (i := 13) rfl
theorem kdX1_check : yX1_check.cls = RX1 ∧ yX1_check.cls ≠ "java/lang/invoke/MethodHandle" ∧ yX1_check.cls ≠ "java/lang/invoke/VarHandle" ∧ (parseMethodDescriptor yX1_check.desc).map (fun d => d.parameters.length) = some 0 := by decide +kernel
set_option maxHeartbeats 4000000 in
set_option maxRecDepth 100000 in
theorem c_X1_check (l : Launch) (D : va_G) (cA cB : ClassId) (h0 a0 b0 k : Nat) (F : Nat → BitVec 8) (g : Nat → Bool) (sz : Nat) (hk : k ≤ 14) : Met l yX1_check wsX1_check rmX1_check (va_Pc [.ref h0] (tw_Pw D (tw_M cA cB h0 a0 b0 k F g) (tw_tM cA cB) sz)) (va_Qi (fun (r : Int32) (u : Nat × (Nat → BitVec 8) × (Nat → Bool)) => (r, u) = (tw_mcheck k F g, (k, F, g))) (tw_Qw D (fun u : Nat × (Nat → BitVec 8) × (Nat → Bool) => tw_M cA cB h0 a0 b0 u.1 u.2.1 u.2.2) (tw_tM cA cB) (va_A (tw_M cA cB h0 a0 b0 k F g) sz)) (va_A (tw_M cA cB h0 a0 b0 k F g) sz)) 0 0 (va_A (tw_M cA cB h0 a0 b0 k F g) sz) := by
  refine tw_metW (by decide) rfl rfl (Nat.le_of_ble_eq_true rfl) ?_
  intro p e s m args below meth c Q ls A hx hb hml hown hts hP hK hD hS hA hend hl
  have hown : s.vm.findClass RX1 = some m.cls := hown
  have hl : lv_has ls 1 [(0, .ref h0)] := hl
  refine lv_aload_n hx hb dX1_check_0 rfl (lv_at hl 0 rfl) ?_
  refine lv_iconst (v := 0) hx hb dX1_check_1 (by decide) ?_
  refine va_put (D := D) (ci := 1) (v := .int 0) (ty := .int) (C := RX1) (T := TX1) (N := 4) hx hb hts inX1_check tyX1 tyX1_ok nmX1 hown hK hP hD hS 0 rfl rfl 0 (by decide) (hts _ fX1_check_21) (fun _ h9 => h9) rfl (by decide +kernel) rfl rfl (Nat.le_of_ble_eq_true rfl) dX1_check_2 (fun H locs hP hD hS => ?_)
  have hP : va_P D vwCl (tw_M cA cB h0 a0 b0 k F g) H := hP
  have hD : va_D A (tw_M cA cB h0 a0 b0 k F g) := hD
  refine lv_aload_n hx hb dX1_check_5 rfl (lv_at hl 0 rfl) ?_
  refine tw_rM ⟨hx, hb, hml, hown, hts⟩ hK hP (c_X1_manyLost l D cA cB h0 a0 b0 k F g hk) (cwV 0 hts gX1_check_X1_manyLost rfl rfl rfl kdX1_manyLost ⟨Nat.le_of_ble_eq_true rfl, Nat.le_of_ble_eq_true rfl⟩) rfl hl.1 rfl (Nat.le_of_ble_eq_true rfl) dX1_check_6 ⟨Nat.zero_le _, Nat.zero_le _⟩ ?_
  refine lv_if_le (tgt := 16) hx hb dX1_check_9 (by decide) (fun c_9 => ?_) (fun c_9 => ?_)
  · refine lv_aload_n hx hb dX1_check_16 rfl (lv_at hl 0 rfl) ?_
    refine tw_rM ⟨hx, hb, hml, hown, hts⟩ hK hP (c_X1_off l D cA cB h0 a0 b0 k F g hk) (cwV 0 hts gX1_check_X1_off rfl rfl rfl kdX1_off ⟨Nat.le_of_ble_eq_true rfl, Nat.le_of_ble_eq_true rfl⟩) rfl hl.1 rfl (Nat.le_of_ble_eq_true rfl) dX1_check_17 ⟨Nat.zero_le _, Nat.zero_le _⟩ ?_
    exact hend _ _ _ (k, F, g) _ _ dX1_check_20 (by have h9 := tw_mc_le g (k + 2); rcases Nat.eq_zero_or_pos (tw_mc g (k + 2)) with h8 | h8; rw [tw_mcheck, if_pos h8]; exact absurd c_9 (nI_nle h8 (by omega))) hP hD hS
  · refine lv_iconst (v := (-1)) hx hb dX1_check_12 (by decide) ?_
    refine lv_goto (tgt := 20) hx hb dX1_check_13 (by decide) ?_
    exact hend _ _ _ (k, F, g) _ _ dX1_check_20 (by rw [tw_mcheck, if_neg (fun h9 => c_9 (by rw [h9]; decide))]) hP hD hS
def tw_mcnt (k : Nat) (g : Nat → Bool) (x : Int32) : Int32 := if x = 0 then nI (k + 2) else if x = 1 then nI (tw_mc g (k + 2)) else if x = 2 then (if tw_low g 0 (k + 2) = k + 2 then -1 else nI (tw_low g 0 (k + 2))) else -1
abbrev rmX1_count : Room := { frames := 1, cells := 0, slots := 0, locals := 22 }
theorem inX1_count : ∀ w ∈ wsX10, w ∈ wsX1_count := fun _ h => List.mem_cons_of_mem _ (List.mem_append_right _ h)
theorem fX1_count_21 : Cond.fieldLink RX1 21 "TwinParityModel" "thrown" "I" ∈ wsX1_count := List.mem_of_getElem? (i := 1) rfl
theorem fX1_count_25 : Cond.fieldLink RX1 25 "TwinParityModel" "units" "I" ∈ wsX1_count := List.mem_of_getElem? (i := 2) rfl
theorem fX1_count_13 : Cond.fieldLink RX1 13 "TwinParityModel" "lost" "[Z" ∈ wsX1_count := List.mem_of_getElem? (i := 8) rfl
theorem kdX1_count : yX1_count.cls = RX1 ∧ yX1_count.cls ≠ "java/lang/invoke/MethodHandle" ∧ yX1_count.cls ≠ "java/lang/invoke/VarHandle" ∧ (parseMethodDescriptor yX1_count.desc).map (fun d => d.parameters.length) = some 1 := by decide +kernel
set_option maxHeartbeats 4000000 in
set_option maxRecDepth 100000 in
theorem c_X1_count (l : Launch) (D : va_G) (cA cB : ClassId) (h0 a0 b0 k : Nat) (F : Nat → BitVec 8) (g : Nat → Bool) (sz : Nat) (x : Int32) (hk : k ≤ 14) : Met l yX1_count wsX1_count rmX1_count (va_Pc [.ref h0, .int x] (tw_Pw D (tw_M cA cB h0 a0 b0 k F g) (tw_tM cA cB) sz)) (va_Qi (fun (r : Int32) (u : Nat × (Nat → BitVec 8) × (Nat → Bool)) => (r, u) = (tw_mcnt k g x, (k, F, g))) (tw_Qw D (fun u : Nat × (Nat → BitVec 8) × (Nat → Bool) => tw_M cA cB h0 a0 b0 u.1 u.2.1 u.2.2) (tw_tM cA cB) (va_A (tw_M cA cB h0 a0 b0 k F g) sz)) (va_A (tw_M cA cB h0 a0 b0 k F g) sz)) 0 0 (va_A (tw_M cA cB h0 a0 b0 k F g) sz) := by
  refine tw_metW (by decide) rfl rfl (Nat.le_of_ble_eq_true rfl) ?_
  intro p e s m args below meth c Q ls A hx hb hml hown hts hP hK hD hS hA hend hl
  have hown : s.vm.findClass RX1 = some m.cls := hown
  have hl : lv_has ls 3 [(0, .ref h0), (1, .int x)] := hl
  refine lv_aload_n hx hb dX1_count_0 rfl (lv_at hl 0 rfl) ?_
  refine lv_iconst (v := 0) hx hb dX1_count_1 (by decide) ?_
  refine va_put (D := D) (ci := 1) (v := .int 0) (ty := .int) (C := RX1) (T := TX1) (N := 4) hx hb hts inX1_count tyX1 tyX1_ok nmX1 hown hK hP hD hS 0 rfl rfl 0 (by decide) (hts _ fX1_count_21) (fun _ h9 => h9) rfl (by decide +kernel) rfl rfl (Nat.le_of_ble_eq_true rfl) dX1_count_2 (fun H locs hP hD hS => ?_)
  have hP : va_P D vwCl (tw_M cA cB h0 a0 b0 k F g) H := hP
  have hD : va_D A (tw_M cA cB h0 a0 b0 k F g) := hD
  refine lv_aload_n hx hb dX1_count_5 rfl (lv_at hl 0 rfl) ?_
  refine lv_iconst (v := 0) hx hb dX1_count_6 (by decide) ?_
  refine tw_rM ⟨hx, hb, hml, hown, hts⟩ hK hP (c_X1_lowest l D cA cB h0 a0 b0 k F g 0 (Nat.zero_le _) hk) (cwV 1 hts gX1_count_X1_lowest rfl rfl rfl kdX1_lowest ⟨Nat.le_of_ble_eq_true rfl, Nat.le_of_ble_eq_true rfl⟩) rfl hl.1 rfl (Nat.le_of_ble_eq_true rfl) dX1_count_7 ⟨Nat.zero_le _, Nat.zero_le _⟩ ?_
  refine lv_istore_n (lv' := [(2, .int (nI (tw_low g 0 (k + 2 - 0)))), (0, .ref h0), (1, .int x)]) hx hb dX1_count_10 rfl hl (by decide) rfl (fun ls hl => ?_)
  refine lv_iload_n hx hb dX1_count_11 rfl (lv_at hl 2 rfl) ?_
  refine lv_if_ne (tgt := 22) hx hb dX1_count_12 (by decide) (fun c_12 => ?_) (fun c_12 => ?_)
  · refine lv_iload_n hx hb dX1_count_22 rfl (lv_at hl 2 rfl) ?_
    refine lv_iconst (v := 1) hx hb dX1_count_23 (by decide) ?_
    refine lv_icmp_ne (tgt := 34) hx hb dX1_count_24 (by decide) (fun c_24 => ?_) (fun c_24 => ?_)
    · refine lv_iload_n hx hb dX1_count_34 rfl (lv_at hl 2 rfl) ?_
      refine lv_iconst (v := 2) hx hb dX1_count_35 (by decide) ?_
      refine lv_icmp_ne (tgt := 51) hx hb dX1_count_36 (by decide) (fun c_36 => ?_) (fun c_36 => ?_)
      · refine lv_iconst (v := (-1)) hx hb dX1_count_51 (by decide) ?_
        exact hend _ _ _ (k, F, g) _ _ dX1_count_52 (by first | (simp [tw_mcnt, c_12]; done) | (rw [c_24, tw_mcnt]; rfl) | (simp [tw_mcnt, c_12, c_24, c_36]; done) | (have hb9 := tw_low_le g 0 (k + 2); rw [c_36, tw_mcnt]; simp only [show ¬ (2 : Int32) = 0 by decide, show ¬ (2 : Int32) = 1 by decide, if_false, if_true]; first | (have h8 : tw_low g 0 (k + 2) = k + 2 := by rcases Nat.lt_or_ge (tw_low g 0 (k + 2)) (k + 2) with h7 | h7; exact absurd c_44 (nI_ge h7 (by omega)); omega); (rw [if_pos h8]; done) | (rw [if_neg (fun h8 => c_44 (by show nI (k + 2) ≤ nI (tw_low g 0 (k + 2)); rw [h8]; exact nI_le (Nat.le_refl _) (by omega)))]; rfl))) hP hD hS
      · refine lv_iload_n hx hb dX1_count_39 rfl (lv_at hl 0 rfl) ?_
        refine lv_aload_n hx hb dX1_count_40 rfl (lv_at hl 1 rfl) ?_
        refine va_get (D := D) (ci := 1) (v := .int (nI (k + 2))) (C := RX1) (T := TX1) (N := 4) hx hb hts inX1_count hown hK hP 0 rfl rfl 1 (by decide) (hts _ fX1_count_25) (fun _ h9 => h9) rfl dX1_count_41 ?_
        refine lv_icmp_ge (tgt := 51) hx hb dX1_count_44 (by decide) (fun c_44 => ?_) (fun c_44 => ?_)
        · refine lv_iconst (v := (-1)) hx hb dX1_count_51 (by decide) ?_
          exact hend _ _ _ (k, F, g) _ _ dX1_count_52 (by first | (simp [tw_mcnt, c_12]; done) | (rw [c_24, tw_mcnt]; rfl) | (simp [tw_mcnt, c_12, c_24, c_36]; done) | (have hb9 := tw_low_le g 0 (k + 2); rw [c_36, tw_mcnt]; simp only [show ¬ (2 : Int32) = 0 by decide, show ¬ (2 : Int32) = 1 by decide, if_false, if_true]; first | (have h8 : tw_low g 0 (k + 2) = k + 2 := by rcases Nat.lt_or_ge (tw_low g 0 (k + 2)) (k + 2) with h7 | h7; exact absurd c_44 (nI_ge h7 (by omega)); omega); (rw [if_pos h8]; done) | (rw [if_neg (fun h8 => c_44 (by show nI (k + 2) ≤ nI (tw_low g 0 (k + 2)); rw [h8]; exact nI_le (Nat.le_refl _) (by omega)))]; rfl))) hP hD hS
        · refine lv_iload_n hx hb dX1_count_47 rfl (lv_at hl 0 rfl) ?_
          refine lv_goto (tgt := 52) hx hb dX1_count_48 (by decide) ?_
          exact hend _ _ _ (k, F, g) _ _ dX1_count_52 (by first | (simp [tw_mcnt, c_12]; done) | (rw [c_24, tw_mcnt]; rfl) | (simp [tw_mcnt, c_12, c_24, c_36]; done) | (have hb9 := tw_low_le g 0 (k + 2); rw [c_36, tw_mcnt]; simp only [show ¬ (2 : Int32) = 0 by decide, show ¬ (2 : Int32) = 1 by decide, if_false, if_true]; first | (have h8 : tw_low g 0 (k + 2) = k + 2 := by rcases Nat.lt_or_ge (tw_low g 0 (k + 2)) (k + 2) with h7 | h7; exact absurd c_44 (nI_ge h7 (by omega)); omega); (rw [if_pos h8]; done) | (rw [if_neg (fun h8 => c_44 (by show nI (k + 2) ≤ nI (tw_low g 0 (k + 2)); rw [h8]; exact nI_le (Nat.le_refl _) (by omega)))]; rfl))) hP hD hS
    · refine lv_aload_n hx hb dX1_count_27 rfl (lv_at hl 1 rfl) ?_
      refine tw_rM ⟨hx, hb, hml, hown, hts⟩ hK hP (c_X1_manyLost l D cA cB h0 a0 b0 k F g hk) (cwV 0 hts gX1_count_X1_manyLost rfl rfl rfl kdX1_manyLost ⟨Nat.le_of_ble_eq_true rfl, Nat.le_of_ble_eq_true rfl⟩) rfl hl.1 rfl (Nat.le_of_ble_eq_true rfl) dX1_count_28 ⟨Nat.zero_le _, Nat.zero_le _⟩ ?_
      refine lv_goto (tgt := 52) hx hb dX1_count_31 (by decide) ?_
      exact hend _ _ _ (k, F, g) _ _ dX1_count_52 (by first | (simp [tw_mcnt, c_12]; done) | (rw [c_24, tw_mcnt]; rfl) | (simp [tw_mcnt, c_12, c_24, c_36]; done) | (have hb9 := tw_low_le g 0 (k + 2); rw [c_36, tw_mcnt]; simp only [show ¬ (2 : Int32) = 0 by decide, show ¬ (2 : Int32) = 1 by decide, if_false, if_true]; first | (have h8 : tw_low g 0 (k + 2) = k + 2 := by rcases Nat.lt_or_ge (tw_low g 0 (k + 2)) (k + 2) with h7 | h7; exact absurd c_44 (nI_ge h7 (by omega)); omega); (rw [if_pos h8]; done) | (rw [if_neg (fun h8 => c_44 (by show nI (k + 2) ≤ nI (tw_low g 0 (k + 2)); rw [h8]; exact nI_le (Nat.le_refl _) (by omega)))]; rfl))) hP hD hS
  · refine lv_aload_n hx hb dX1_count_15 rfl (lv_at hl 1 rfl) ?_
    refine va_get (D := D) (ci := 1) (v := .int (nI (k + 2))) (C := RX1) (T := TX1) (N := 4) hx hb hts inX1_count hown hK hP 0 rfl rfl 1 (by decide) (hts _ fX1_count_25) (fun _ h9 => h9) rfl dX1_count_16 ?_
    refine lv_goto (tgt := 52) hx hb dX1_count_19 (by decide) ?_
    exact hend _ _ _ (k, F, g) _ _ dX1_count_52 (by first | (simp [tw_mcnt, c_12]; done) | (rw [c_24, tw_mcnt]; rfl) | (simp [tw_mcnt, c_12, c_24, c_36]; done) | (have hb9 := tw_low_le g 0 (k + 2); rw [c_36, tw_mcnt]; simp only [show ¬ (2 : Int32) = 0 by decide, show ¬ (2 : Int32) = 1 by decide, if_false, if_true]; first | (have h8 : tw_low g 0 (k + 2) = k + 2 := by rcases Nat.lt_or_ge (tw_low g 0 (k + 2)) (k + 2) with h7 | h7; exact absurd c_44 (nI_ge h7 (by omega)); omega); (rw [if_pos h8]; done) | (rw [if_neg (fun h8 => c_44 (by show nI (k + 2) ≤ nI (tw_low g 0 (k + 2)); rw [h8]; exact nI_le (Nat.le_refl _) (by omega)))]; rfl))) hP hD hS
