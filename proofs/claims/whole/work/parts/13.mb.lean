def tw_wf (k : Nat) (g : Nat → Bool) (c : Nat → BitVec 8) (S O : BitVec 8) (bk : Bool) : Bool := (g k || decide (S = c k)) && ((g (k + 1) || decide (O = c (k + 1))) || (bk && !g k))
theorem tw_upsame (F : Nat → BitVec 8) (n : Nat) : va_up F n (F n) = F := by
  funext j
  unfold va_up
  split
  · rename_i h; rw [h]
  · rfl
def tw_zz (k : Nat) (g : Nat → Bool) (F : Nat → BitVec 8) (i : Nat) (x : BitVec 8) : BitVec 8 := tq_xs (tw_ml g (tq_col F i)) k ^^^ x ^^^ F (64 * k + i)
abbrev rmX1_wouldFit : Room := { frames := 3, cells := 0, slots := 0, locals := 73 }
theorem inX1_wouldFit : ∀ w ∈ wsX10, w ∈ wsX1_wouldFit := fun _ h => List.mem_cons_of_mem _ (List.mem_append_right _ h)
theorem fX1_wouldFit_13 : Cond.fieldLink RX1 13 "TwinParityModel" "lost" "[Z" ∈ wsX1_wouldFit := List.mem_of_getElem? (i := 1) rfl
theorem fX1_wouldFit_7 : Cond.fieldLink RX1 7 "TwinParityModel" "bytes" "[I" ∈ wsX1_wouldFit := List.mem_of_getElem? (i := 2) rfl
theorem fX1_wouldFit_25 : Cond.fieldLink RX1 25 "TwinParityModel" "units" "I" ∈ wsX1_wouldFit := List.mem_of_getElem? (i := 12) rfl
theorem kdX1_wouldFit : yX1_wouldFit.cls = RX1 ∧ yX1_wouldFit.cls ≠ "java/lang/invoke/MethodHandle" ∧ yX1_wouldFit.cls ≠ "java/lang/invoke/VarHandle" ∧ (parseMethodDescriptor yX1_wouldFit.desc).map (fun d => d.parameters.length) = some 5 := by decide +kernel
set_option maxHeartbeats 4000000 in
set_option maxRecDepth 100000 in
theorem c_X1_wouldFit1 (l : Launch) (D : va_G) (cA cB : ClassId) (h0 a0 b0 k : Nat) (F : Nat → BitVec 8) (g : Nat → Bool) (i a : Nat) (x : BitVec 8) (hi : i < 64) (ha : a < k) (hk : k ≤ 14) : Met l yX1_wouldFit wsX1_wouldFit rmX1_wouldFit (va_Pc [.ref h0, .int (nI i), .int (nI a), .int (tq_eb x), .int (nI k), .int 0] (tw_B D (tw_M cA cB h0 a0 b0 k F g) (tw_tM cA cB))) (vp_Si (fun r => r = tw_bI (tw_wf k g (tq_col F i) (tq_xs (tw_ml g (tq_col F i)) k ^^^ x) (tq_qs (tw_ml g (tq_col F i)) k ^^^ tq_p a x) true))) 0 0 (fun _ => False) := by
  refine tw_metZ (by decide) rfl rfl (Nat.le_of_ble_eq_true rfl) ?_
  intro p e s m args below meth c Q ls hx hb hml hown hts hP hK hend hl
  have hown : s.vm.findClass RX1 = some m.cls := hown
  have hl : lv_has ls 10 [(0, .ref h0), (1, .int (nI i)), (2, .int (nI a)), (3, .int (tq_eb x)), (4, .int (nI k)), (5, .int 0)] := hl
  refine lv_aload_n hx hb dX1_wouldFit_0 rfl (lv_at hl 0 rfl) ?_
  refine lv_iload_n hx hb dX1_wouldFit_1 rfl (lv_at hl 1 rfl) ?_
  refine lv_iconst (v := 0) hx hb dX1_wouldFit_2 (by decide) ?_
  refine tw_rM ⟨hx, hb, hml, hown, hts⟩ hK hP (c_X1_sumAt l D cA cB h0 a0 b0 k F g i false hi hk) (cwV 2 hts gX1_wouldFit_X1_sumAt rfl rfl rfl kdX1_sumAt ⟨Nat.le_of_ble_eq_true rfl, Nat.le_of_ble_eq_true rfl⟩) rfl hl.1 rfl (Nat.le_of_ble_eq_true rfl) dX1_wouldFit_3 ⟨Nat.zero_le _, Nat.zero_le _⟩ ?_
  refine lv_iload_n hx hb dX1_wouldFit_6 rfl (lv_at hl 2 rfl) ?_
  refine lv_aload_n hx hb dX1_wouldFit_7 rfl (lv_at hl 0 rfl) ?_
  refine tw_rM ⟨hx, hb, hml, hown, hts⟩ hK hP (c_X1_p l D cA cB h0 a0 b0 k F g ) (cwV 0 hts gX1_wouldFit_X1_p rfl rfl rfl kdX1_p ⟨Nat.le_of_ble_eq_true rfl, Nat.le_of_ble_eq_true rfl⟩) rfl hl.1 rfl (Nat.le_of_ble_eq_true rfl) dX1_wouldFit_8 ⟨Nat.zero_le _, Nat.zero_le _⟩ ?_
  refine lv_icmp_ge (tgt := 18) hx hb dX1_wouldFit_11 (by decide) (fun c_11 => ?_) (fun c_11 => ?_)
  · exact absurd c_11 (nI_ge ha (by omega))
  · refine lv_iload_n hx hb dX1_wouldFit_14 rfl (lv_at hl 3 rfl) ?_
    refine lv_goto (tgt := 19) hx hb dX1_wouldFit_15 (by decide) ?_
    refine lv_ixor hx hb dX1_wouldFit_19 ?_
    refine lv_iload hx hb dX1_wouldFit_20 (lv_at hl 4 rfl) ?_
    refine lv_aload_n hx hb dX1_wouldFit_22 rfl (lv_at hl 0 rfl) ?_
    refine tw_rM ⟨hx, hb, hml, hown, hts⟩ hK hP (c_X1_p l D cA cB h0 a0 b0 k F g ) (cwV 0 hts gX1_wouldFit_X1_p rfl rfl rfl kdX1_p ⟨Nat.le_of_ble_eq_true rfl, Nat.le_of_ble_eq_true rfl⟩) rfl hl.1 rfl (Nat.le_of_ble_eq_true rfl) dX1_wouldFit_23 ⟨Nat.zero_le _, Nat.zero_le _⟩ ?_
    refine lv_icmp_ge (tgt := 34) hx hb dX1_wouldFit_26 (by decide) (fun c_26 => ?_) (fun c_26 => ?_)
    · refine lv_iconst (v := 0) hx hb dX1_wouldFit_34 (by decide) ?_
      refine lv_ixor hx hb dX1_wouldFit_35 ?_
      refine tw_topr (x' := tq_eb (tq_xs (tw_ml g (tq_col F i)) k ^^^ x)) (by rw [show (0 : Int32) = tq_eb 0#8 from rfl, tq_eb_xor, tq_eb_xor, BitVec.xor_zero]; rfl) ?_
      refine lv_istore (lv' := [(6, .int (tq_eb (tq_xs (tw_ml g (tq_col F i)) k ^^^ x))), (0, .ref h0), (1, .int (nI i)), (2, .int (nI a)), (3, .int (tq_eb x)), (4, .int (nI k)), (5, .int 0)]) hx hb dX1_wouldFit_36 hl (by decide) rfl (fun ls hl => ?_)
      refine lv_aload_n hx hb dX1_wouldFit_38 rfl (lv_at hl 1 rfl) ?_
      refine lv_iload_n hx hb dX1_wouldFit_39 rfl (lv_at hl 2 rfl) ?_
      refine lv_iconst (v := 1) hx hb dX1_wouldFit_40 (by decide) ?_
      refine tw_rM ⟨hx, hb, hml, hown, hts⟩ hK hP (c_X1_sumAt l D cA cB h0 a0 b0 k F g i true hi hk) (cwV 2 hts gX1_wouldFit_X1_sumAt rfl rfl rfl kdX1_sumAt ⟨Nat.le_of_ble_eq_true rfl, Nat.le_of_ble_eq_true rfl⟩) rfl hl.1 rfl (Nat.le_of_ble_eq_true rfl) dX1_wouldFit_41 ⟨Nat.zero_le _, Nat.zero_le _⟩ ?_
      refine lv_iload_n hx hb dX1_wouldFit_44 rfl (lv_at hl 3 rfl) ?_
      refine lv_aload_n hx hb dX1_wouldFit_45 rfl (lv_at hl 1 rfl) ?_
      refine tw_rM ⟨hx, hb, hml, hown, hts⟩ hK hP (c_X1_p l D cA cB h0 a0 b0 k F g ) (cwV 0 hts gX1_wouldFit_X1_p rfl rfl rfl kdX1_p ⟨Nat.le_of_ble_eq_true rfl, Nat.le_of_ble_eq_true rfl⟩) rfl hl.1 rfl (Nat.le_of_ble_eq_true rfl) dX1_wouldFit_46 ⟨Nat.zero_le _, Nat.zero_le _⟩ ?_
      refine lv_icmp_ge (tgt := 65) hx hb dX1_wouldFit_49 (by decide) (fun c_49 => ?_) (fun c_49 => ?_)
      · exact absurd c_49 (nI_ge ha (by omega))
      · refine lv_aload_n hx hb dX1_wouldFit_52 rfl (lv_at hl 1 rfl) ?_
        refine lv_iload_n hx hb dX1_wouldFit_53 rfl (lv_at hl 4 rfl) ?_
        refine lv_aload_n hx hb dX1_wouldFit_54 rfl (lv_at hl 1 rfl) ?_
        refine lv_iload_n hx hb dX1_wouldFit_55 rfl (lv_at hl 3 rfl) ?_
        refine tw_rM ⟨hx, hb, hml, hown, hts⟩ hK hP (c_X1_twos l D cA cB h0 a0 b0 k F g a (by omega)) (cwV 1 hts gX1_wouldFit_X1_twos rfl rfl rfl kdX1_twos ⟨Nat.le_of_ble_eq_true rfl, Nat.le_of_ble_eq_true rfl⟩) rfl hl.1 rfl (Nat.le_of_ble_eq_true rfl) dX1_wouldFit_56 ⟨Nat.zero_le _, Nat.zero_le _⟩ ?_
        refine tw_rM ⟨hx, hb, hml, hown, hts⟩ hK hP (c_X1_times l D cA cB h0 a0 b0 k F g x (tq_p a 1#8)) (cwV 2 hts gX1_wouldFit_X1_times rfl rfl rfl kdX1_times ⟨Nat.le_of_ble_eq_true rfl, Nat.le_of_ble_eq_true rfl⟩) rfl hl.1 rfl (Nat.le_of_ble_eq_true rfl) dX1_wouldFit_59 ⟨Nat.zero_le _, Nat.zero_le _⟩ ?_
        refine lv_goto (tgt := 66) hx hb dX1_wouldFit_62 (by decide) ?_
        refine lv_ixor hx hb dX1_wouldFit_66 ?_
        refine lv_iload hx hb dX1_wouldFit_67 (lv_at hl 5 rfl) ?_
        refine lv_aload_n hx hb dX1_wouldFit_69 rfl (lv_at hl 1 rfl) ?_
        refine tw_rM ⟨hx, hb, hml, hown, hts⟩ hK hP (c_X1_p l D cA cB h0 a0 b0 k F g ) (cwV 0 hts gX1_wouldFit_X1_p rfl rfl rfl kdX1_p ⟨Nat.le_of_ble_eq_true rfl, Nat.le_of_ble_eq_true rfl⟩) rfl hl.1 rfl (Nat.le_of_ble_eq_true rfl) dX1_wouldFit_70 ⟨Nat.zero_le _, Nat.zero_le _⟩ ?_
        refine lv_icmp_ge (tgt := 91) hx hb dX1_wouldFit_73 (by decide) (fun c_73 => ?_) (fun c_73 => ?_)
        · refine lv_iconst (v := 0) hx hb dX1_wouldFit_91 (by decide) ?_
          refine lv_ixor hx hb dX1_wouldFit_92 ?_
          refine tw_topr (x' := tq_eb (tq_qs (tw_ml g (tq_col F i)) k ^^^ tq_p a x)) (by rw [show (0 : Int32) = tq_eb 0#8 from rfl, tq_mp (show a < 16 by omega), tq_eb_xor, tq_eb_xor, BitVec.xor_zero]; rfl) ?_
          refine lv_istore (lv' := [(7, .int (tq_eb (tq_qs (tw_ml g (tq_col F i)) k ^^^ tq_p a x))), (6, .int (tq_eb (tq_xs (tw_ml g (tq_col F i)) k ^^^ x))), (0, .ref h0), (1, .int (nI i)), (2, .int (nI a)), (3, .int (tq_eb x)), (4, .int (nI k)), (5, .int 0)]) hx hb dX1_wouldFit_93 hl (by decide) rfl (fun ls hl => ?_)
          refine lv_aload_n hx hb dX1_wouldFit_95 rfl (lv_at hl 2 rfl) ?_
          refine va_get (D := D) (ci := 1) (v := .ref b0) (C := RX1) (T := TX1) (N := 4) hx hb hts inX1_wouldFit hown hK hP 0 rfl rfl 3 (by decide) (hts _ fX1_wouldFit_13) (fun _ h9 => h9) rfl dX1_wouldFit_96 ?_
          refine lv_aload_n hx hb dX1_wouldFit_99 rfl (lv_at hl 2 rfl) ?_
          refine tw_rM ⟨hx, hb, hml, hown, hts⟩ hK hP (c_X1_p l D cA cB h0 a0 b0 k F g ) (cwV 0 hts gX1_wouldFit_X1_p rfl rfl rfl kdX1_p ⟨Nat.le_of_ble_eq_true rfl, Nat.le_of_ble_eq_true rfl⟩) rfl hl.1 rfl (Nat.le_of_ble_eq_true rfl) dX1_wouldFit_100 ⟨Nat.zero_le _, Nat.zero_le _⟩ ?_
          refine tw_lz hx hb hK hP 2 1 rfl rfl (n := k) (rfl) (by omega) (by decide) dX1_wouldFit_103 ?_
          refine lv_if_ne (tgt := 126) hx hb dX1_wouldFit_104 (by decide) (fun c_104 => ?_) (fun c_104 => ?_)
          · rw [tw_bI1] at c_104
            refine lv_iconst (v := 1) hx hb dX1_wouldFit_126 (by decide) ?_
            refine lv_goto (tgt := 131) hx hb dX1_wouldFit_127 (by decide) ?_
            refine lv_istore (lv' := [(8, .int 1), (7, .int (tq_eb (tq_qs (tw_ml g (tq_col F i)) k ^^^ tq_p a x))), (6, .int (tq_eb (tq_xs (tw_ml g (tq_col F i)) k ^^^ x))), (0, .ref h0), (1, .int (nI i)), (2, .int (nI a)), (3, .int (tq_eb x)), (4, .int (nI k)), (5, .int 0)]) hx hb dX1_wouldFit_131 hl (by decide) rfl (fun ls hl => ?_)
            refine lv_aload_n hx hb dX1_wouldFit_133 rfl (lv_at hl 3 rfl) ?_
            refine va_get (D := D) (ci := 1) (v := .ref b0) (C := RX1) (T := TX1) (N := 4) hx hb hts inX1_wouldFit hown hK hP 0 rfl rfl 3 (by decide) (hts _ fX1_wouldFit_13) (fun _ h9 => h9) rfl dX1_wouldFit_134 ?_
            refine lv_aload_n hx hb dX1_wouldFit_137 rfl (lv_at hl 3 rfl) ?_
            refine tw_rM ⟨hx, hb, hml, hown, hts⟩ hK hP (c_X1_q l D cA cB h0 a0 b0 k F g ) (cwV 0 hts gX1_wouldFit_X1_q rfl rfl rfl kdX1_q ⟨Nat.le_of_ble_eq_true rfl, Nat.le_of_ble_eq_true rfl⟩) rfl hl.1 rfl (Nat.le_of_ble_eq_true rfl) dX1_wouldFit_138 ⟨Nat.zero_le _, Nat.zero_le _⟩ ?_
            refine tw_lz hx hb hK hP 2 1 rfl rfl (n := k + 1) (rfl) (by omega) (by decide) dX1_wouldFit_141 ?_
            refine lv_if_ne (tgt := 164) hx hb dX1_wouldFit_142 (by decide) (fun c_142 => ?_) (fun c_142 => ?_)
            · rw [tw_bI1] at c_142
              refine lv_iconst (v := 1) hx hb dX1_wouldFit_164 (by decide) ?_
              refine lv_goto (tgt := 169) hx hb dX1_wouldFit_165 (by decide) ?_
              refine lv_istore (lv' := [(9, .int 1), (8, .int 1), (7, .int (tq_eb (tq_qs (tw_ml g (tq_col F i)) k ^^^ tq_p a x))), (6, .int (tq_eb (tq_xs (tw_ml g (tq_col F i)) k ^^^ x))), (0, .ref h0), (1, .int (nI i)), (2, .int (nI a)), (3, .int (tq_eb x)), (4, .int (nI k)), (5, .int 0)]) hx hb dX1_wouldFit_169 hl (by decide) rfl (fun ls hl => ?_)
              refine lv_iload hx hb dX1_wouldFit_171 (lv_at hl 1 rfl) ?_
              refine lv_if_eq (tgt := 206) hx hb dX1_wouldFit_173 (by decide) (fun c_173 => ?_) (fun c_173 => ?_)
              · exact absurd c_173 (by decide)
              · refine lv_iload hx hb dX1_wouldFit_176 (lv_at hl 0 rfl) ?_
                refine lv_if_ne (tgt := 202) hx hb dX1_wouldFit_178 (by decide) (fun c_178 => ?_) (fun c_178 => ?_)
                · refine lv_iconst (v := 1) hx hb dX1_wouldFit_202 (by decide) ?_
                  refine lv_goto (tgt := 207) hx hb dX1_wouldFit_203 (by decide) ?_
                  refine tw_topr (x' := tw_bI (tw_wf k g (tq_col F i) (tq_xs (tw_ml g (tq_col F i)) k ^^^ x) (tq_qs (tw_ml g (tq_col F i)) k ^^^ tq_p a x) true)) (by first | (exact absurd (c_104.symm.trans c_199) (by decide)) | (unfold tw_wf; simp [tw_bI, tq_col, c_104, c_142]; done)) ?_
                  exact hend _ _ dX1_wouldFit_207
                · exact absurd c_178 (by decide)
            · rw [tw_bI0] at c_142
              refine lv_iload hx hb dX1_wouldFit_145 (lv_at hl 1 rfl) ?_
              refine lv_aload_n hx hb dX1_wouldFit_147 rfl (lv_at hl 3 rfl) ?_
              refine va_get (D := D) (ci := 1) (v := .ref a0) (C := RX1) (T := TX1) (N := 4) hx hb hts inX1_wouldFit hown hK hP 0 rfl rfl 2 (by decide) (hts _ fX1_wouldFit_7) (fun _ h9 => h9) rfl dX1_wouldFit_148 ?_
              refine lv_bipush (v := 64) hx hb dX1_wouldFit_151 (by decide) ?_
              refine lv_aload_n hx hb dX1_wouldFit_153 rfl (lv_at hl 3 rfl) ?_
              refine tw_rM ⟨hx, hb, hml, hown, hts⟩ hK hP (c_X1_q l D cA cB h0 a0 b0 k F g ) (cwV 0 hts gX1_wouldFit_X1_q rfl rfl rfl kdX1_q ⟨Nat.le_of_ble_eq_true rfl, Nat.le_of_ble_eq_true rfl⟩) rfl hl.1 rfl (Nat.le_of_ble_eq_true rfl) dX1_wouldFit_154 ⟨Nat.zero_le _, Nat.zero_le _⟩ ?_
              refine lv_imul hx hb dX1_wouldFit_157 ?_
              refine lv_iload_n hx hb dX1_wouldFit_158 rfl (lv_at hl 4 rfl) ?_
              refine lv_iadd hx hb dX1_wouldFit_159 ?_
              refine tw_ld hx hb hK hP 1 0 rfl rfl (n := 64 * (k + 1) + i) (tw_ix' (k + 1) i) (by omega) (by decide) dX1_wouldFit_160 ?_
              refine lv_icmp_ne (tgt := 168) hx hb dX1_wouldFit_161 (by decide) (fun c_161 => ?_) (fun c_161 => ?_)
              · rw [tq_eb_eq] at c_161
                refine lv_iconst (v := 0) hx hb dX1_wouldFit_168 (by decide) ?_
                refine lv_istore (lv' := [(9, .int 0), (8, .int 1), (7, .int (tq_eb (tq_qs (tw_ml g (tq_col F i)) k ^^^ tq_p a x))), (6, .int (tq_eb (tq_xs (tw_ml g (tq_col F i)) k ^^^ x))), (0, .ref h0), (1, .int (nI i)), (2, .int (nI a)), (3, .int (tq_eb x)), (4, .int (nI k)), (5, .int 0)]) hx hb dX1_wouldFit_169 hl (by decide) rfl (fun ls hl => ?_)
                refine lv_iload hx hb dX1_wouldFit_171 (lv_at hl 1 rfl) ?_
                refine lv_if_eq (tgt := 206) hx hb dX1_wouldFit_173 (by decide) (fun c_173 => ?_) (fun c_173 => ?_)
                · exact absurd c_173 (by decide)
                · refine lv_iload hx hb dX1_wouldFit_176 (lv_at hl 0 rfl) ?_
                  refine lv_if_ne (tgt := 202) hx hb dX1_wouldFit_178 (by decide) (fun c_178 => ?_) (fun c_178 => ?_)
                  · exact absurd rfl c_178
                  · refine lv_iload hx hb dX1_wouldFit_181 (lv_at hl 8 rfl) ?_
                    refine lv_aload_n hx hb dX1_wouldFit_183 rfl (lv_at hl 4 rfl) ?_
                    refine tw_rM ⟨hx, hb, hml, hown, hts⟩ hK hP (c_X1_p l D cA cB h0 a0 b0 k F g ) (cwV 0 hts gX1_wouldFit_X1_p rfl rfl rfl kdX1_p ⟨Nat.le_of_ble_eq_true rfl, Nat.le_of_ble_eq_true rfl⟩) rfl hl.1 rfl (Nat.le_of_ble_eq_true rfl) dX1_wouldFit_184 ⟨Nat.zero_le _, Nat.zero_le _⟩ ?_
                    refine lv_icmp_lt (tgt := 206) hx hb dX1_wouldFit_187 (by decide) (fun c_187 => ?_) (fun c_187 => ?_)
                    · exact absurd c_187 (nI_nlt (Nat.le_refl k) (by omega))
                    · refine lv_aload_n hx hb dX1_wouldFit_190 rfl (lv_at hl 4 rfl) ?_
                      refine va_get (D := D) (ci := 1) (v := .ref b0) (C := RX1) (T := TX1) (N := 4) hx hb hts inX1_wouldFit hown hK hP 0 rfl rfl 3 (by decide) (hts _ fX1_wouldFit_13) (fun _ h9 => h9) rfl dX1_wouldFit_191 ?_
                      refine lv_aload_n hx hb dX1_wouldFit_194 rfl (lv_at hl 4 rfl) ?_
                      refine tw_rM ⟨hx, hb, hml, hown, hts⟩ hK hP (c_X1_p l D cA cB h0 a0 b0 k F g ) (cwV 0 hts gX1_wouldFit_X1_p rfl rfl rfl kdX1_p ⟨Nat.le_of_ble_eq_true rfl, Nat.le_of_ble_eq_true rfl⟩) rfl hl.1 rfl (Nat.le_of_ble_eq_true rfl) dX1_wouldFit_195 ⟨Nat.zero_le _, Nat.zero_le _⟩ ?_
                      refine tw_lz hx hb hK hP 2 1 rfl rfl (n := k) (rfl) (by omega) (by decide) dX1_wouldFit_198 ?_
                      refine lv_if_ne (tgt := 206) hx hb dX1_wouldFit_199 (by decide) (fun c_199 => ?_) (fun c_199 => ?_)
                      · rw [tw_bI1] at c_199
                        refine lv_iconst (v := 0) hx hb dX1_wouldFit_206 (by decide) ?_
                        refine tw_topr (x' := tw_bI (tw_wf k g (tq_col F i) (tq_xs (tw_ml g (tq_col F i)) k ^^^ x) (tq_qs (tw_ml g (tq_col F i)) k ^^^ tq_p a x) true)) (by first | (exact absurd (c_104.symm.trans c_199) (by decide)) | (unfold tw_wf; simp [tw_bI, tq_col, c_104, c_142, c_161, c_199]; done)) ?_
                        exact hend _ _ dX1_wouldFit_207
                      · rw [tw_bI0] at c_199
                        refine lv_iconst (v := 1) hx hb dX1_wouldFit_202 (by decide) ?_
                        refine lv_goto (tgt := 207) hx hb dX1_wouldFit_203 (by decide) ?_
                        refine tw_topr (x' := tw_bI (tw_wf k g (tq_col F i) (tq_xs (tw_ml g (tq_col F i)) k ^^^ x) (tq_qs (tw_ml g (tq_col F i)) k ^^^ tq_p a x) true)) (by first | (exact absurd (c_104.symm.trans c_199) (by decide)) | (unfold tw_wf; simp [tw_bI, tq_col, c_104, c_142, c_161, c_199]; done)) ?_
                        exact hend _ _ dX1_wouldFit_207
              · rw [tq_eb_eq] at c_161
                refine lv_iconst (v := 1) hx hb dX1_wouldFit_164 (by decide) ?_
                refine lv_goto (tgt := 169) hx hb dX1_wouldFit_165 (by decide) ?_
                refine lv_istore (lv' := [(9, .int 1), (8, .int 1), (7, .int (tq_eb (tq_qs (tw_ml g (tq_col F i)) k ^^^ tq_p a x))), (6, .int (tq_eb (tq_xs (tw_ml g (tq_col F i)) k ^^^ x))), (0, .ref h0), (1, .int (nI i)), (2, .int (nI a)), (3, .int (tq_eb x)), (4, .int (nI k)), (5, .int 0)]) hx hb dX1_wouldFit_169 hl (by decide) rfl (fun ls hl => ?_)
                refine lv_iload hx hb dX1_wouldFit_171 (lv_at hl 1 rfl) ?_
                refine lv_if_eq (tgt := 206) hx hb dX1_wouldFit_173 (by decide) (fun c_173 => ?_) (fun c_173 => ?_)
                · exact absurd c_173 (by decide)
                · refine lv_iload hx hb dX1_wouldFit_176 (lv_at hl 0 rfl) ?_
                  refine lv_if_ne (tgt := 202) hx hb dX1_wouldFit_178 (by decide) (fun c_178 => ?_) (fun c_178 => ?_)
                  · refine lv_iconst (v := 1) hx hb dX1_wouldFit_202 (by decide) ?_
                    refine lv_goto (tgt := 207) hx hb dX1_wouldFit_203 (by decide) ?_
                    refine tw_topr (x' := tw_bI (tw_wf k g (tq_col F i) (tq_xs (tw_ml g (tq_col F i)) k ^^^ x) (tq_qs (tw_ml g (tq_col F i)) k ^^^ tq_p a x) true)) (by first | (exact absurd (c_104.symm.trans c_199) (by decide)) | (unfold tw_wf; simp [tw_bI, tq_col, c_104, c_142, c_161]; done)) ?_
                    exact hend _ _ dX1_wouldFit_207
                  · exact absurd c_178 (by decide)
          · rw [tw_bI0] at c_104
            refine lv_iload hx hb dX1_wouldFit_107 (lv_at hl 1 rfl) ?_
            refine lv_aload_n hx hb dX1_wouldFit_109 rfl (lv_at hl 2 rfl) ?_
            refine va_get (D := D) (ci := 1) (v := .ref a0) (C := RX1) (T := TX1) (N := 4) hx hb hts inX1_wouldFit hown hK hP 0 rfl rfl 2 (by decide) (hts _ fX1_wouldFit_7) (fun _ h9 => h9) rfl dX1_wouldFit_110 ?_
            refine lv_bipush (v := 64) hx hb dX1_wouldFit_113 (by decide) ?_
            refine lv_aload_n hx hb dX1_wouldFit_115 rfl (lv_at hl 2 rfl) ?_
            refine tw_rM ⟨hx, hb, hml, hown, hts⟩ hK hP (c_X1_p l D cA cB h0 a0 b0 k F g ) (cwV 0 hts gX1_wouldFit_X1_p rfl rfl rfl kdX1_p ⟨Nat.le_of_ble_eq_true rfl, Nat.le_of_ble_eq_true rfl⟩) rfl hl.1 rfl (Nat.le_of_ble_eq_true rfl) dX1_wouldFit_116 ⟨Nat.zero_le _, Nat.zero_le _⟩ ?_
            refine lv_imul hx hb dX1_wouldFit_119 ?_
            refine lv_iload_n hx hb dX1_wouldFit_120 rfl (lv_at hl 3 rfl) ?_
            refine lv_iadd hx hb dX1_wouldFit_121 ?_
            refine tw_ld hx hb hK hP 1 0 rfl rfl (n := 64 * k + i) (tw_ix' k i) (by omega) (by decide) dX1_wouldFit_122 ?_
            refine lv_icmp_ne (tgt := 130) hx hb dX1_wouldFit_123 (by decide) (fun c_123 => ?_) (fun c_123 => ?_)
            · rw [tq_eb_eq] at c_123
              refine lv_iconst (v := 0) hx hb dX1_wouldFit_130 (by decide) ?_
              refine lv_istore (lv' := [(8, .int 0), (7, .int (tq_eb (tq_qs (tw_ml g (tq_col F i)) k ^^^ tq_p a x))), (6, .int (tq_eb (tq_xs (tw_ml g (tq_col F i)) k ^^^ x))), (0, .ref h0), (1, .int (nI i)), (2, .int (nI a)), (3, .int (tq_eb x)), (4, .int (nI k)), (5, .int 0)]) hx hb dX1_wouldFit_131 hl (by decide) rfl (fun ls hl => ?_)
              refine lv_aload_n hx hb dX1_wouldFit_133 rfl (lv_at hl 3 rfl) ?_
              refine va_get (D := D) (ci := 1) (v := .ref b0) (C := RX1) (T := TX1) (N := 4) hx hb hts inX1_wouldFit hown hK hP 0 rfl rfl 3 (by decide) (hts _ fX1_wouldFit_13) (fun _ h9 => h9) rfl dX1_wouldFit_134 ?_
              refine lv_aload_n hx hb dX1_wouldFit_137 rfl (lv_at hl 3 rfl) ?_
              refine tw_rM ⟨hx, hb, hml, hown, hts⟩ hK hP (c_X1_q l D cA cB h0 a0 b0 k F g ) (cwV 0 hts gX1_wouldFit_X1_q rfl rfl rfl kdX1_q ⟨Nat.le_of_ble_eq_true rfl, Nat.le_of_ble_eq_true rfl⟩) rfl hl.1 rfl (Nat.le_of_ble_eq_true rfl) dX1_wouldFit_138 ⟨Nat.zero_le _, Nat.zero_le _⟩ ?_
              refine tw_lz hx hb hK hP 2 1 rfl rfl (n := k + 1) (rfl) (by omega) (by decide) dX1_wouldFit_141 ?_
              refine lv_if_ne (tgt := 164) hx hb dX1_wouldFit_142 (by decide) (fun c_142 => ?_) (fun c_142 => ?_)
              · rw [tw_bI1] at c_142
                refine lv_iconst (v := 1) hx hb dX1_wouldFit_164 (by decide) ?_
                refine lv_goto (tgt := 169) hx hb dX1_wouldFit_165 (by decide) ?_
                refine lv_istore (lv' := [(9, .int 1), (8, .int 0), (7, .int (tq_eb (tq_qs (tw_ml g (tq_col F i)) k ^^^ tq_p a x))), (6, .int (tq_eb (tq_xs (tw_ml g (tq_col F i)) k ^^^ x))), (0, .ref h0), (1, .int (nI i)), (2, .int (nI a)), (3, .int (tq_eb x)), (4, .int (nI k)), (5, .int 0)]) hx hb dX1_wouldFit_169 hl (by decide) rfl (fun ls hl => ?_)
                refine lv_iload hx hb dX1_wouldFit_171 (lv_at hl 1 rfl) ?_
                refine lv_if_eq (tgt := 206) hx hb dX1_wouldFit_173 (by decide) (fun c_173 => ?_) (fun c_173 => ?_)
                · refine lv_iconst (v := 0) hx hb dX1_wouldFit_206 (by decide) ?_
                  refine tw_topr (x' := tw_bI (tw_wf k g (tq_col F i) (tq_xs (tw_ml g (tq_col F i)) k ^^^ x) (tq_qs (tw_ml g (tq_col F i)) k ^^^ tq_p a x) true)) (by first | (exact absurd (c_104.symm.trans c_199) (by decide)) | (unfold tw_wf; simp [tw_bI, tq_col, c_104, c_123, c_142]; done)) ?_
                  exact hend _ _ dX1_wouldFit_207
                · exact absurd rfl c_173
              · rw [tw_bI0] at c_142
                refine lv_iload hx hb dX1_wouldFit_145 (lv_at hl 1 rfl) ?_
                refine lv_aload_n hx hb dX1_wouldFit_147 rfl (lv_at hl 3 rfl) ?_
                refine va_get (D := D) (ci := 1) (v := .ref a0) (C := RX1) (T := TX1) (N := 4) hx hb hts inX1_wouldFit hown hK hP 0 rfl rfl 2 (by decide) (hts _ fX1_wouldFit_7) (fun _ h9 => h9) rfl dX1_wouldFit_148 ?_
                refine lv_bipush (v := 64) hx hb dX1_wouldFit_151 (by decide) ?_
                refine lv_aload_n hx hb dX1_wouldFit_153 rfl (lv_at hl 3 rfl) ?_
                refine tw_rM ⟨hx, hb, hml, hown, hts⟩ hK hP (c_X1_q l D cA cB h0 a0 b0 k F g ) (cwV 0 hts gX1_wouldFit_X1_q rfl rfl rfl kdX1_q ⟨Nat.le_of_ble_eq_true rfl, Nat.le_of_ble_eq_true rfl⟩) rfl hl.1 rfl (Nat.le_of_ble_eq_true rfl) dX1_wouldFit_154 ⟨Nat.zero_le _, Nat.zero_le _⟩ ?_
                refine lv_imul hx hb dX1_wouldFit_157 ?_
                refine lv_iload_n hx hb dX1_wouldFit_158 rfl (lv_at hl 4 rfl) ?_
                refine lv_iadd hx hb dX1_wouldFit_159 ?_
                refine tw_ld hx hb hK hP 1 0 rfl rfl (n := 64 * (k + 1) + i) (tw_ix' (k + 1) i) (by omega) (by decide) dX1_wouldFit_160 ?_
                refine lv_icmp_ne (tgt := 168) hx hb dX1_wouldFit_161 (by decide) (fun c_161 => ?_) (fun c_161 => ?_)
                · rw [tq_eb_eq] at c_161
                  refine lv_iconst (v := 0) hx hb dX1_wouldFit_168 (by decide) ?_
                  refine lv_istore (lv' := [(9, .int 0), (8, .int 0), (7, .int (tq_eb (tq_qs (tw_ml g (tq_col F i)) k ^^^ tq_p a x))), (6, .int (tq_eb (tq_xs (tw_ml g (tq_col F i)) k ^^^ x))), (0, .ref h0), (1, .int (nI i)), (2, .int (nI a)), (3, .int (tq_eb x)), (4, .int (nI k)), (5, .int 0)]) hx hb dX1_wouldFit_169 hl (by decide) rfl (fun ls hl => ?_)
                  refine lv_iload hx hb dX1_wouldFit_171 (lv_at hl 1 rfl) ?_
                  refine lv_if_eq (tgt := 206) hx hb dX1_wouldFit_173 (by decide) (fun c_173 => ?_) (fun c_173 => ?_)
                  · refine lv_iconst (v := 0) hx hb dX1_wouldFit_206 (by decide) ?_
                    refine tw_topr (x' := tw_bI (tw_wf k g (tq_col F i) (tq_xs (tw_ml g (tq_col F i)) k ^^^ x) (tq_qs (tw_ml g (tq_col F i)) k ^^^ tq_p a x) true)) (by first | (exact absurd (c_104.symm.trans c_199) (by decide)) | (unfold tw_wf; simp [tw_bI, tq_col, c_104, c_123, c_142, c_161]; done)) ?_
                    exact hend _ _ dX1_wouldFit_207
                  · exact absurd rfl c_173
                · rw [tq_eb_eq] at c_161
                  refine lv_iconst (v := 1) hx hb dX1_wouldFit_164 (by decide) ?_
                  refine lv_goto (tgt := 169) hx hb dX1_wouldFit_165 (by decide) ?_
                  refine lv_istore (lv' := [(9, .int 1), (8, .int 0), (7, .int (tq_eb (tq_qs (tw_ml g (tq_col F i)) k ^^^ tq_p a x))), (6, .int (tq_eb (tq_xs (tw_ml g (tq_col F i)) k ^^^ x))), (0, .ref h0), (1, .int (nI i)), (2, .int (nI a)), (3, .int (tq_eb x)), (4, .int (nI k)), (5, .int 0)]) hx hb dX1_wouldFit_169 hl (by decide) rfl (fun ls hl => ?_)
                  refine lv_iload hx hb dX1_wouldFit_171 (lv_at hl 1 rfl) ?_
                  refine lv_if_eq (tgt := 206) hx hb dX1_wouldFit_173 (by decide) (fun c_173 => ?_) (fun c_173 => ?_)
                  · refine lv_iconst (v := 0) hx hb dX1_wouldFit_206 (by decide) ?_
                    refine tw_topr (x' := tw_bI (tw_wf k g (tq_col F i) (tq_xs (tw_ml g (tq_col F i)) k ^^^ x) (tq_qs (tw_ml g (tq_col F i)) k ^^^ tq_p a x) true)) (by first | (exact absurd (c_104.symm.trans c_199) (by decide)) | (unfold tw_wf; simp [tw_bI, tq_col, c_104, c_123, c_142, c_161]; done)) ?_
                    exact hend _ _ dX1_wouldFit_207
                  · exact absurd rfl c_173
            · rw [tq_eb_eq] at c_123
              refine lv_iconst (v := 1) hx hb dX1_wouldFit_126 (by decide) ?_
              refine lv_goto (tgt := 131) hx hb dX1_wouldFit_127 (by decide) ?_
              refine lv_istore (lv' := [(8, .int 1), (7, .int (tq_eb (tq_qs (tw_ml g (tq_col F i)) k ^^^ tq_p a x))), (6, .int (tq_eb (tq_xs (tw_ml g (tq_col F i)) k ^^^ x))), (0, .ref h0), (1, .int (nI i)), (2, .int (nI a)), (3, .int (tq_eb x)), (4, .int (nI k)), (5, .int 0)]) hx hb dX1_wouldFit_131 hl (by decide) rfl (fun ls hl => ?_)
              refine lv_aload_n hx hb dX1_wouldFit_133 rfl (lv_at hl 3 rfl) ?_
              refine va_get (D := D) (ci := 1) (v := .ref b0) (C := RX1) (T := TX1) (N := 4) hx hb hts inX1_wouldFit hown hK hP 0 rfl rfl 3 (by decide) (hts _ fX1_wouldFit_13) (fun _ h9 => h9) rfl dX1_wouldFit_134 ?_
              refine lv_aload_n hx hb dX1_wouldFit_137 rfl (lv_at hl 3 rfl) ?_
              refine tw_rM ⟨hx, hb, hml, hown, hts⟩ hK hP (c_X1_q l D cA cB h0 a0 b0 k F g ) (cwV 0 hts gX1_wouldFit_X1_q rfl rfl rfl kdX1_q ⟨Nat.le_of_ble_eq_true rfl, Nat.le_of_ble_eq_true rfl⟩) rfl hl.1 rfl (Nat.le_of_ble_eq_true rfl) dX1_wouldFit_138 ⟨Nat.zero_le _, Nat.zero_le _⟩ ?_
              refine tw_lz hx hb hK hP 2 1 rfl rfl (n := k + 1) (rfl) (by omega) (by decide) dX1_wouldFit_141 ?_
              refine lv_if_ne (tgt := 164) hx hb dX1_wouldFit_142 (by decide) (fun c_142 => ?_) (fun c_142 => ?_)
              · rw [tw_bI1] at c_142
                refine lv_iconst (v := 1) hx hb dX1_wouldFit_164 (by decide) ?_
                refine lv_goto (tgt := 169) hx hb dX1_wouldFit_165 (by decide) ?_
                refine lv_istore (lv' := [(9, .int 1), (8, .int 1), (7, .int (tq_eb (tq_qs (tw_ml g (tq_col F i)) k ^^^ tq_p a x))), (6, .int (tq_eb (tq_xs (tw_ml g (tq_col F i)) k ^^^ x))), (0, .ref h0), (1, .int (nI i)), (2, .int (nI a)), (3, .int (tq_eb x)), (4, .int (nI k)), (5, .int 0)]) hx hb dX1_wouldFit_169 hl (by decide) rfl (fun ls hl => ?_)
                refine lv_iload hx hb dX1_wouldFit_171 (lv_at hl 1 rfl) ?_
                refine lv_if_eq (tgt := 206) hx hb dX1_wouldFit_173 (by decide) (fun c_173 => ?_) (fun c_173 => ?_)
                · exact absurd c_173 (by decide)
                · refine lv_iload hx hb dX1_wouldFit_176 (lv_at hl 0 rfl) ?_
                  refine lv_if_ne (tgt := 202) hx hb dX1_wouldFit_178 (by decide) (fun c_178 => ?_) (fun c_178 => ?_)
                  · refine lv_iconst (v := 1) hx hb dX1_wouldFit_202 (by decide) ?_
                    refine lv_goto (tgt := 207) hx hb dX1_wouldFit_203 (by decide) ?_
                    refine tw_topr (x' := tw_bI (tw_wf k g (tq_col F i) (tq_xs (tw_ml g (tq_col F i)) k ^^^ x) (tq_qs (tw_ml g (tq_col F i)) k ^^^ tq_p a x) true)) (by first | (exact absurd (c_104.symm.trans c_199) (by decide)) | (unfold tw_wf; simp [tw_bI, tq_col, c_104, c_123, c_142]; done)) ?_
                    exact hend _ _ dX1_wouldFit_207
                  · exact absurd c_178 (by decide)
              · rw [tw_bI0] at c_142
                refine lv_iload hx hb dX1_wouldFit_145 (lv_at hl 1 rfl) ?_
                refine lv_aload_n hx hb dX1_wouldFit_147 rfl (lv_at hl 3 rfl) ?_
                refine va_get (D := D) (ci := 1) (v := .ref a0) (C := RX1) (T := TX1) (N := 4) hx hb hts inX1_wouldFit hown hK hP 0 rfl rfl 2 (by decide) (hts _ fX1_wouldFit_7) (fun _ h9 => h9) rfl dX1_wouldFit_148 ?_
                refine lv_bipush (v := 64) hx hb dX1_wouldFit_151 (by decide) ?_
                refine lv_aload_n hx hb dX1_wouldFit_153 rfl (lv_at hl 3 rfl) ?_
                refine tw_rM ⟨hx, hb, hml, hown, hts⟩ hK hP (c_X1_q l D cA cB h0 a0 b0 k F g ) (cwV 0 hts gX1_wouldFit_X1_q rfl rfl rfl kdX1_q ⟨Nat.le_of_ble_eq_true rfl, Nat.le_of_ble_eq_true rfl⟩) rfl hl.1 rfl (Nat.le_of_ble_eq_true rfl) dX1_wouldFit_154 ⟨Nat.zero_le _, Nat.zero_le _⟩ ?_
                refine lv_imul hx hb dX1_wouldFit_157 ?_
                refine lv_iload_n hx hb dX1_wouldFit_158 rfl (lv_at hl 4 rfl) ?_
                refine lv_iadd hx hb dX1_wouldFit_159 ?_
                refine tw_ld hx hb hK hP 1 0 rfl rfl (n := 64 * (k + 1) + i) (tw_ix' (k + 1) i) (by omega) (by decide) dX1_wouldFit_160 ?_
                refine lv_icmp_ne (tgt := 168) hx hb dX1_wouldFit_161 (by decide) (fun c_161 => ?_) (fun c_161 => ?_)
                · rw [tq_eb_eq] at c_161
                  refine lv_iconst (v := 0) hx hb dX1_wouldFit_168 (by decide) ?_
                  refine lv_istore (lv' := [(9, .int 0), (8, .int 1), (7, .int (tq_eb (tq_qs (tw_ml g (tq_col F i)) k ^^^ tq_p a x))), (6, .int (tq_eb (tq_xs (tw_ml g (tq_col F i)) k ^^^ x))), (0, .ref h0), (1, .int (nI i)), (2, .int (nI a)), (3, .int (tq_eb x)), (4, .int (nI k)), (5, .int 0)]) hx hb dX1_wouldFit_169 hl (by decide) rfl (fun ls hl => ?_)
                  refine lv_iload hx hb dX1_wouldFit_171 (lv_at hl 1 rfl) ?_
                  refine lv_if_eq (tgt := 206) hx hb dX1_wouldFit_173 (by decide) (fun c_173 => ?_) (fun c_173 => ?_)
                  · exact absurd c_173 (by decide)
                  · refine lv_iload hx hb dX1_wouldFit_176 (lv_at hl 0 rfl) ?_
                    refine lv_if_ne (tgt := 202) hx hb dX1_wouldFit_178 (by decide) (fun c_178 => ?_) (fun c_178 => ?_)
                    · exact absurd rfl c_178
                    · refine lv_iload hx hb dX1_wouldFit_181 (lv_at hl 8 rfl) ?_
                      refine lv_aload_n hx hb dX1_wouldFit_183 rfl (lv_at hl 4 rfl) ?_
                      refine tw_rM ⟨hx, hb, hml, hown, hts⟩ hK hP (c_X1_p l D cA cB h0 a0 b0 k F g ) (cwV 0 hts gX1_wouldFit_X1_p rfl rfl rfl kdX1_p ⟨Nat.le_of_ble_eq_true rfl, Nat.le_of_ble_eq_true rfl⟩) rfl hl.1 rfl (Nat.le_of_ble_eq_true rfl) dX1_wouldFit_184 ⟨Nat.zero_le _, Nat.zero_le _⟩ ?_
                      refine lv_icmp_lt (tgt := 206) hx hb dX1_wouldFit_187 (by decide) (fun c_187 => ?_) (fun c_187 => ?_)
                      · exact absurd c_187 (nI_nlt (Nat.le_refl k) (by omega))
                      · refine lv_aload_n hx hb dX1_wouldFit_190 rfl (lv_at hl 4 rfl) ?_
                        refine va_get (D := D) (ci := 1) (v := .ref b0) (C := RX1) (T := TX1) (N := 4) hx hb hts inX1_wouldFit hown hK hP 0 rfl rfl 3 (by decide) (hts _ fX1_wouldFit_13) (fun _ h9 => h9) rfl dX1_wouldFit_191 ?_
                        refine lv_aload_n hx hb dX1_wouldFit_194 rfl (lv_at hl 4 rfl) ?_
                        refine tw_rM ⟨hx, hb, hml, hown, hts⟩ hK hP (c_X1_p l D cA cB h0 a0 b0 k F g ) (cwV 0 hts gX1_wouldFit_X1_p rfl rfl rfl kdX1_p ⟨Nat.le_of_ble_eq_true rfl, Nat.le_of_ble_eq_true rfl⟩) rfl hl.1 rfl (Nat.le_of_ble_eq_true rfl) dX1_wouldFit_195 ⟨Nat.zero_le _, Nat.zero_le _⟩ ?_
                        refine tw_lz hx hb hK hP 2 1 rfl rfl (n := k) (rfl) (by omega) (by decide) dX1_wouldFit_198 ?_
                        refine lv_if_ne (tgt := 206) hx hb dX1_wouldFit_199 (by decide) (fun c_199 => ?_) (fun c_199 => ?_)
                        · rw [tw_bI1] at c_199
                          refine lv_iconst (v := 0) hx hb dX1_wouldFit_206 (by decide) ?_
                          refine tw_topr (x' := tw_bI (tw_wf k g (tq_col F i) (tq_xs (tw_ml g (tq_col F i)) k ^^^ x) (tq_qs (tw_ml g (tq_col F i)) k ^^^ tq_p a x) true)) (by first | (exact absurd (c_104.symm.trans c_199) (by decide)) | (unfold tw_wf; simp [tw_bI, tq_col, c_104, c_123, c_142, c_161, c_199]; done)) ?_
                          exact hend _ _ dX1_wouldFit_207
                        · rw [tw_bI0] at c_199
                          refine lv_iconst (v := 1) hx hb dX1_wouldFit_202 (by decide) ?_
                          refine lv_goto (tgt := 207) hx hb dX1_wouldFit_203 (by decide) ?_
                          refine tw_topr (x' := tw_bI (tw_wf k g (tq_col F i) (tq_xs (tw_ml g (tq_col F i)) k ^^^ x) (tq_qs (tw_ml g (tq_col F i)) k ^^^ tq_p a x) true)) (by first | (exact absurd (c_104.symm.trans c_199) (by decide)) | (unfold tw_wf; simp [tw_bI, tq_col, c_104, c_123, c_142, c_161, c_199]; done)) ?_
                          exact hend _ _ dX1_wouldFit_207
                · rw [tq_eb_eq] at c_161
                  refine lv_iconst (v := 1) hx hb dX1_wouldFit_164 (by decide) ?_
                  refine lv_goto (tgt := 169) hx hb dX1_wouldFit_165 (by decide) ?_
                  refine lv_istore (lv' := [(9, .int 1), (8, .int 1), (7, .int (tq_eb (tq_qs (tw_ml g (tq_col F i)) k ^^^ tq_p a x))), (6, .int (tq_eb (tq_xs (tw_ml g (tq_col F i)) k ^^^ x))), (0, .ref h0), (1, .int (nI i)), (2, .int (nI a)), (3, .int (tq_eb x)), (4, .int (nI k)), (5, .int 0)]) hx hb dX1_wouldFit_169 hl (by decide) rfl (fun ls hl => ?_)
                  refine lv_iload hx hb dX1_wouldFit_171 (lv_at hl 1 rfl) ?_
                  refine lv_if_eq (tgt := 206) hx hb dX1_wouldFit_173 (by decide) (fun c_173 => ?_) (fun c_173 => ?_)
                  · exact absurd c_173 (by decide)
                  · refine lv_iload hx hb dX1_wouldFit_176 (lv_at hl 0 rfl) ?_
                    refine lv_if_ne (tgt := 202) hx hb dX1_wouldFit_178 (by decide) (fun c_178 => ?_) (fun c_178 => ?_)
                    · refine lv_iconst (v := 1) hx hb dX1_wouldFit_202 (by decide) ?_
                      refine lv_goto (tgt := 207) hx hb dX1_wouldFit_203 (by decide) ?_
                      refine tw_topr (x' := tw_bI (tw_wf k g (tq_col F i) (tq_xs (tw_ml g (tq_col F i)) k ^^^ x) (tq_qs (tw_ml g (tq_col F i)) k ^^^ tq_p a x) true)) (by first | (exact absurd (c_104.symm.trans c_199) (by decide)) | (unfold tw_wf; simp [tw_bI, tq_col, c_104, c_123, c_142, c_161]; done)) ?_
                      exact hend _ _ dX1_wouldFit_207
                    · exact absurd c_178 (by decide)
        · exact absurd (nI_le (Nat.le_refl k) (by omega)) c_73
    · exact absurd (nI_le (Nat.le_refl k) (by omega)) c_26
set_option maxHeartbeats 4000000 in
set_option maxRecDepth 100000 in
theorem c_X1_wouldFit2 (l : Launch) (D : va_G) (cA cB : ClassId) (h0 a0 b0 k : Nat) (F : Nat → BitVec 8) (g : Nat → Bool) (i a : Nat) (x : BitVec 8) (b : Nat) (y : BitVec 8) (hi : i < 64) (ha : a < k) (hb9 : b < k) (hk : k ≤ 14) : Met l yX1_wouldFit wsX1_wouldFit rmX1_wouldFit (va_Pc [.ref h0, .int (nI i), .int (nI a), .int (tq_eb x), .int (nI b), .int (tq_eb y)] (tw_B D (tw_M cA cB h0 a0 b0 k F g) (tw_tM cA cB))) (vp_Si (fun r => r = tw_bI (tw_wf k g (tq_col F i) (tq_xs (tw_ml g (tq_col F i)) k ^^^ x ^^^ y) (tq_qs (tw_ml g (tq_col F i)) k ^^^ tq_p a x ^^^ tq_p b y) false))) 0 0 (fun _ => False) := by
  refine tw_metZ (by decide) rfl rfl (Nat.le_of_ble_eq_true rfl) ?_
  intro p e s m args below meth c Q ls hx hb hml hown hts hP hK hend hl
  have hown : s.vm.findClass RX1 = some m.cls := hown
  have hl : lv_has ls 10 [(0, .ref h0), (1, .int (nI i)), (2, .int (nI a)), (3, .int (tq_eb x)), (4, .int (nI b)), (5, .int (tq_eb y))] := hl
  refine lv_aload_n hx hb dX1_wouldFit_0 rfl (lv_at hl 0 rfl) ?_
  refine lv_iload_n hx hb dX1_wouldFit_1 rfl (lv_at hl 1 rfl) ?_
  refine lv_iconst (v := 0) hx hb dX1_wouldFit_2 (by decide) ?_
  refine tw_rM ⟨hx, hb, hml, hown, hts⟩ hK hP (c_X1_sumAt l D cA cB h0 a0 b0 k F g i false hi hk) (cwV 2 hts gX1_wouldFit_X1_sumAt rfl rfl rfl kdX1_sumAt ⟨Nat.le_of_ble_eq_true rfl, Nat.le_of_ble_eq_true rfl⟩) rfl hl.1 rfl (Nat.le_of_ble_eq_true rfl) dX1_wouldFit_3 ⟨Nat.zero_le _, Nat.zero_le _⟩ ?_
  refine lv_iload_n hx hb dX1_wouldFit_6 rfl (lv_at hl 2 rfl) ?_
  refine lv_aload_n hx hb dX1_wouldFit_7 rfl (lv_at hl 0 rfl) ?_
  refine tw_rM ⟨hx, hb, hml, hown, hts⟩ hK hP (c_X1_p l D cA cB h0 a0 b0 k F g ) (cwV 0 hts gX1_wouldFit_X1_p rfl rfl rfl kdX1_p ⟨Nat.le_of_ble_eq_true rfl, Nat.le_of_ble_eq_true rfl⟩) rfl hl.1 rfl (Nat.le_of_ble_eq_true rfl) dX1_wouldFit_8 ⟨Nat.zero_le _, Nat.zero_le _⟩ ?_
  refine lv_icmp_ge (tgt := 18) hx hb dX1_wouldFit_11 (by decide) (fun c_11 => ?_) (fun c_11 => ?_)
  · exact absurd c_11 (nI_ge ha (by omega))
  · refine lv_iload_n hx hb dX1_wouldFit_14 rfl (lv_at hl 3 rfl) ?_
    refine lv_goto (tgt := 19) hx hb dX1_wouldFit_15 (by decide) ?_
    refine lv_ixor hx hb dX1_wouldFit_19 ?_
    refine lv_iload hx hb dX1_wouldFit_20 (lv_at hl 4 rfl) ?_
    refine lv_aload_n hx hb dX1_wouldFit_22 rfl (lv_at hl 0 rfl) ?_
    refine tw_rM ⟨hx, hb, hml, hown, hts⟩ hK hP (c_X1_p l D cA cB h0 a0 b0 k F g ) (cwV 0 hts gX1_wouldFit_X1_p rfl rfl rfl kdX1_p ⟨Nat.le_of_ble_eq_true rfl, Nat.le_of_ble_eq_true rfl⟩) rfl hl.1 rfl (Nat.le_of_ble_eq_true rfl) dX1_wouldFit_23 ⟨Nat.zero_le _, Nat.zero_le _⟩ ?_
    refine lv_icmp_ge (tgt := 34) hx hb dX1_wouldFit_26 (by decide) (fun c_26 => ?_) (fun c_26 => ?_)
    · exact absurd c_26 (nI_ge hb9 (by omega))
    · refine lv_iload hx hb dX1_wouldFit_29 (lv_at hl 5 rfl) ?_
      refine lv_goto (tgt := 35) hx hb dX1_wouldFit_31 (by decide) ?_
      refine lv_ixor hx hb dX1_wouldFit_35 ?_
      refine tw_topr (x' := tq_eb (tq_xs (tw_ml g (tq_col F i)) k ^^^ x ^^^ y)) (by rw [tq_eb_xor, tq_eb_xor]; rfl) ?_
      refine lv_istore (lv' := [(6, .int (tq_eb (tq_xs (tw_ml g (tq_col F i)) k ^^^ x ^^^ y))), (0, .ref h0), (1, .int (nI i)), (2, .int (nI a)), (3, .int (tq_eb x)), (4, .int (nI b)), (5, .int (tq_eb y))]) hx hb dX1_wouldFit_36 hl (by decide) rfl (fun ls hl => ?_)
      refine lv_aload_n hx hb dX1_wouldFit_38 rfl (lv_at hl 1 rfl) ?_
      refine lv_iload_n hx hb dX1_wouldFit_39 rfl (lv_at hl 2 rfl) ?_
      refine lv_iconst (v := 1) hx hb dX1_wouldFit_40 (by decide) ?_
      refine tw_rM ⟨hx, hb, hml, hown, hts⟩ hK hP (c_X1_sumAt l D cA cB h0 a0 b0 k F g i true hi hk) (cwV 2 hts gX1_wouldFit_X1_sumAt rfl rfl rfl kdX1_sumAt ⟨Nat.le_of_ble_eq_true rfl, Nat.le_of_ble_eq_true rfl⟩) rfl hl.1 rfl (Nat.le_of_ble_eq_true rfl) dX1_wouldFit_41 ⟨Nat.zero_le _, Nat.zero_le _⟩ ?_
      refine lv_iload_n hx hb dX1_wouldFit_44 rfl (lv_at hl 3 rfl) ?_
      refine lv_aload_n hx hb dX1_wouldFit_45 rfl (lv_at hl 1 rfl) ?_
      refine tw_rM ⟨hx, hb, hml, hown, hts⟩ hK hP (c_X1_p l D cA cB h0 a0 b0 k F g ) (cwV 0 hts gX1_wouldFit_X1_p rfl rfl rfl kdX1_p ⟨Nat.le_of_ble_eq_true rfl, Nat.le_of_ble_eq_true rfl⟩) rfl hl.1 rfl (Nat.le_of_ble_eq_true rfl) dX1_wouldFit_46 ⟨Nat.zero_le _, Nat.zero_le _⟩ ?_
      refine lv_icmp_ge (tgt := 65) hx hb dX1_wouldFit_49 (by decide) (fun c_49 => ?_) (fun c_49 => ?_)
      · exact absurd c_49 (nI_ge ha (by omega))
      · refine lv_aload_n hx hb dX1_wouldFit_52 rfl (lv_at hl 1 rfl) ?_
        refine lv_iload_n hx hb dX1_wouldFit_53 rfl (lv_at hl 4 rfl) ?_
        refine lv_aload_n hx hb dX1_wouldFit_54 rfl (lv_at hl 1 rfl) ?_
        refine lv_iload_n hx hb dX1_wouldFit_55 rfl (lv_at hl 3 rfl) ?_
        refine tw_rM ⟨hx, hb, hml, hown, hts⟩ hK hP (c_X1_twos l D cA cB h0 a0 b0 k F g a (by omega)) (cwV 1 hts gX1_wouldFit_X1_twos rfl rfl rfl kdX1_twos ⟨Nat.le_of_ble_eq_true rfl, Nat.le_of_ble_eq_true rfl⟩) rfl hl.1 rfl (Nat.le_of_ble_eq_true rfl) dX1_wouldFit_56 ⟨Nat.zero_le _, Nat.zero_le _⟩ ?_
        refine tw_rM ⟨hx, hb, hml, hown, hts⟩ hK hP (c_X1_times l D cA cB h0 a0 b0 k F g x (tq_p a 1#8)) (cwV 2 hts gX1_wouldFit_X1_times rfl rfl rfl kdX1_times ⟨Nat.le_of_ble_eq_true rfl, Nat.le_of_ble_eq_true rfl⟩) rfl hl.1 rfl (Nat.le_of_ble_eq_true rfl) dX1_wouldFit_59 ⟨Nat.zero_le _, Nat.zero_le _⟩ ?_
        refine lv_goto (tgt := 66) hx hb dX1_wouldFit_62 (by decide) ?_
        refine lv_ixor hx hb dX1_wouldFit_66 ?_
        refine lv_iload hx hb dX1_wouldFit_67 (lv_at hl 5 rfl) ?_
        refine lv_aload_n hx hb dX1_wouldFit_69 rfl (lv_at hl 1 rfl) ?_
        refine tw_rM ⟨hx, hb, hml, hown, hts⟩ hK hP (c_X1_p l D cA cB h0 a0 b0 k F g ) (cwV 0 hts gX1_wouldFit_X1_p rfl rfl rfl kdX1_p ⟨Nat.le_of_ble_eq_true rfl, Nat.le_of_ble_eq_true rfl⟩) rfl hl.1 rfl (Nat.le_of_ble_eq_true rfl) dX1_wouldFit_70 ⟨Nat.zero_le _, Nat.zero_le _⟩ ?_
        refine lv_icmp_ge (tgt := 91) hx hb dX1_wouldFit_73 (by decide) (fun c_73 => ?_) (fun c_73 => ?_)
        · exact absurd c_73 (nI_ge hb9 (by omega))
        · refine lv_aload_n hx hb dX1_wouldFit_76 rfl (lv_at hl 1 rfl) ?_
          refine lv_iload hx hb dX1_wouldFit_77 (lv_at hl 6 rfl) ?_
          refine lv_aload_n hx hb dX1_wouldFit_79 rfl (lv_at hl 1 rfl) ?_
          refine lv_iload hx hb dX1_wouldFit_80 (lv_at hl 5 rfl) ?_
          refine tw_rM ⟨hx, hb, hml, hown, hts⟩ hK hP (c_X1_twos l D cA cB h0 a0 b0 k F g b (by omega)) (cwV 1 hts gX1_wouldFit_X1_twos rfl rfl rfl kdX1_twos ⟨Nat.le_of_ble_eq_true rfl, Nat.le_of_ble_eq_true rfl⟩) rfl hl.1 rfl (Nat.le_of_ble_eq_true rfl) dX1_wouldFit_82 ⟨Nat.zero_le _, Nat.zero_le _⟩ ?_
          refine tw_rM ⟨hx, hb, hml, hown, hts⟩ hK hP (c_X1_times l D cA cB h0 a0 b0 k F g y (tq_p b 1#8)) (cwV 2 hts gX1_wouldFit_X1_times rfl rfl rfl kdX1_times ⟨Nat.le_of_ble_eq_true rfl, Nat.le_of_ble_eq_true rfl⟩) rfl hl.1 rfl (Nat.le_of_ble_eq_true rfl) dX1_wouldFit_85 ⟨Nat.zero_le _, Nat.zero_le _⟩ ?_
          refine lv_goto (tgt := 92) hx hb dX1_wouldFit_88 (by decide) ?_
          refine lv_ixor hx hb dX1_wouldFit_92 ?_
          refine tw_topr (x' := tq_eb (tq_qs (tw_ml g (tq_col F i)) k ^^^ tq_p a x ^^^ tq_p b y)) (by rw [tq_mp (show a < 16 by omega), tq_mp (show b < 16 by omega), tq_eb_xor, tq_eb_xor]; rfl) ?_
          refine lv_istore (lv' := [(7, .int (tq_eb (tq_qs (tw_ml g (tq_col F i)) k ^^^ tq_p a x ^^^ tq_p b y))), (6, .int (tq_eb (tq_xs (tw_ml g (tq_col F i)) k ^^^ x ^^^ y))), (0, .ref h0), (1, .int (nI i)), (2, .int (nI a)), (3, .int (tq_eb x)), (4, .int (nI b)), (5, .int (tq_eb y))]) hx hb dX1_wouldFit_93 hl (by decide) rfl (fun ls hl => ?_)
          refine lv_aload_n hx hb dX1_wouldFit_95 rfl (lv_at hl 2 rfl) ?_
          refine va_get (D := D) (ci := 1) (v := .ref b0) (C := RX1) (T := TX1) (N := 4) hx hb hts inX1_wouldFit hown hK hP 0 rfl rfl 3 (by decide) (hts _ fX1_wouldFit_13) (fun _ h9 => h9) rfl dX1_wouldFit_96 ?_
          refine lv_aload_n hx hb dX1_wouldFit_99 rfl (lv_at hl 2 rfl) ?_
          refine tw_rM ⟨hx, hb, hml, hown, hts⟩ hK hP (c_X1_p l D cA cB h0 a0 b0 k F g ) (cwV 0 hts gX1_wouldFit_X1_p rfl rfl rfl kdX1_p ⟨Nat.le_of_ble_eq_true rfl, Nat.le_of_ble_eq_true rfl⟩) rfl hl.1 rfl (Nat.le_of_ble_eq_true rfl) dX1_wouldFit_100 ⟨Nat.zero_le _, Nat.zero_le _⟩ ?_
          refine tw_lz hx hb hK hP 2 1 rfl rfl (n := k) (rfl) (by omega) (by decide) dX1_wouldFit_103 ?_
          refine lv_if_ne (tgt := 126) hx hb dX1_wouldFit_104 (by decide) (fun c_104 => ?_) (fun c_104 => ?_)
          · rw [tw_bI1] at c_104
            refine lv_iconst (v := 1) hx hb dX1_wouldFit_126 (by decide) ?_
            refine lv_goto (tgt := 131) hx hb dX1_wouldFit_127 (by decide) ?_
            refine lv_istore (lv' := [(8, .int 1), (7, .int (tq_eb (tq_qs (tw_ml g (tq_col F i)) k ^^^ tq_p a x ^^^ tq_p b y))), (6, .int (tq_eb (tq_xs (tw_ml g (tq_col F i)) k ^^^ x ^^^ y))), (0, .ref h0), (1, .int (nI i)), (2, .int (nI a)), (3, .int (tq_eb x)), (4, .int (nI b)), (5, .int (tq_eb y))]) hx hb dX1_wouldFit_131 hl (by decide) rfl (fun ls hl => ?_)
            refine lv_aload_n hx hb dX1_wouldFit_133 rfl (lv_at hl 3 rfl) ?_
            refine va_get (D := D) (ci := 1) (v := .ref b0) (C := RX1) (T := TX1) (N := 4) hx hb hts inX1_wouldFit hown hK hP 0 rfl rfl 3 (by decide) (hts _ fX1_wouldFit_13) (fun _ h9 => h9) rfl dX1_wouldFit_134 ?_
            refine lv_aload_n hx hb dX1_wouldFit_137 rfl (lv_at hl 3 rfl) ?_
            refine tw_rM ⟨hx, hb, hml, hown, hts⟩ hK hP (c_X1_q l D cA cB h0 a0 b0 k F g ) (cwV 0 hts gX1_wouldFit_X1_q rfl rfl rfl kdX1_q ⟨Nat.le_of_ble_eq_true rfl, Nat.le_of_ble_eq_true rfl⟩) rfl hl.1 rfl (Nat.le_of_ble_eq_true rfl) dX1_wouldFit_138 ⟨Nat.zero_le _, Nat.zero_le _⟩ ?_
            refine tw_lz hx hb hK hP 2 1 rfl rfl (n := k + 1) (rfl) (by omega) (by decide) dX1_wouldFit_141 ?_
            refine lv_if_ne (tgt := 164) hx hb dX1_wouldFit_142 (by decide) (fun c_142 => ?_) (fun c_142 => ?_)
            · rw [tw_bI1] at c_142
              refine lv_iconst (v := 1) hx hb dX1_wouldFit_164 (by decide) ?_
              refine lv_goto (tgt := 169) hx hb dX1_wouldFit_165 (by decide) ?_
              refine lv_istore (lv' := [(9, .int 1), (8, .int 1), (7, .int (tq_eb (tq_qs (tw_ml g (tq_col F i)) k ^^^ tq_p a x ^^^ tq_p b y))), (6, .int (tq_eb (tq_xs (tw_ml g (tq_col F i)) k ^^^ x ^^^ y))), (0, .ref h0), (1, .int (nI i)), (2, .int (nI a)), (3, .int (tq_eb x)), (4, .int (nI b)), (5, .int (tq_eb y))]) hx hb dX1_wouldFit_169 hl (by decide) rfl (fun ls hl => ?_)
              refine lv_iload hx hb dX1_wouldFit_171 (lv_at hl 1 rfl) ?_
              refine lv_if_eq (tgt := 206) hx hb dX1_wouldFit_173 (by decide) (fun c_173 => ?_) (fun c_173 => ?_)
              · exact absurd c_173 (by decide)
              · refine lv_iload hx hb dX1_wouldFit_176 (lv_at hl 0 rfl) ?_
                refine lv_if_ne (tgt := 202) hx hb dX1_wouldFit_178 (by decide) (fun c_178 => ?_) (fun c_178 => ?_)
                · refine lv_iconst (v := 1) hx hb dX1_wouldFit_202 (by decide) ?_
                  refine lv_goto (tgt := 207) hx hb dX1_wouldFit_203 (by decide) ?_
                  refine tw_topr (x' := tw_bI (tw_wf k g (tq_col F i) (tq_xs (tw_ml g (tq_col F i)) k ^^^ x ^^^ y) (tq_qs (tw_ml g (tq_col F i)) k ^^^ tq_p a x ^^^ tq_p b y) false)) (by first | (exact absurd (c_104.symm.trans c_199) (by decide)) | (unfold tw_wf; simp [tw_bI, tq_col, c_104, c_142]; done)) ?_
                  exact hend _ _ dX1_wouldFit_207
                · exact absurd c_178 (by decide)
            · rw [tw_bI0] at c_142
              refine lv_iload hx hb dX1_wouldFit_145 (lv_at hl 1 rfl) ?_
              refine lv_aload_n hx hb dX1_wouldFit_147 rfl (lv_at hl 3 rfl) ?_
              refine va_get (D := D) (ci := 1) (v := .ref a0) (C := RX1) (T := TX1) (N := 4) hx hb hts inX1_wouldFit hown hK hP 0 rfl rfl 2 (by decide) (hts _ fX1_wouldFit_7) (fun _ h9 => h9) rfl dX1_wouldFit_148 ?_
              refine lv_bipush (v := 64) hx hb dX1_wouldFit_151 (by decide) ?_
              refine lv_aload_n hx hb dX1_wouldFit_153 rfl (lv_at hl 3 rfl) ?_
              refine tw_rM ⟨hx, hb, hml, hown, hts⟩ hK hP (c_X1_q l D cA cB h0 a0 b0 k F g ) (cwV 0 hts gX1_wouldFit_X1_q rfl rfl rfl kdX1_q ⟨Nat.le_of_ble_eq_true rfl, Nat.le_of_ble_eq_true rfl⟩) rfl hl.1 rfl (Nat.le_of_ble_eq_true rfl) dX1_wouldFit_154 ⟨Nat.zero_le _, Nat.zero_le _⟩ ?_
              refine lv_imul hx hb dX1_wouldFit_157 ?_
              refine lv_iload_n hx hb dX1_wouldFit_158 rfl (lv_at hl 4 rfl) ?_
              refine lv_iadd hx hb dX1_wouldFit_159 ?_
              refine tw_ld hx hb hK hP 1 0 rfl rfl (n := 64 * (k + 1) + i) (tw_ix' (k + 1) i) (by omega) (by decide) dX1_wouldFit_160 ?_
              refine lv_icmp_ne (tgt := 168) hx hb dX1_wouldFit_161 (by decide) (fun c_161 => ?_) (fun c_161 => ?_)
              · rw [tq_eb_eq] at c_161
                refine lv_iconst (v := 0) hx hb dX1_wouldFit_168 (by decide) ?_
                refine lv_istore (lv' := [(9, .int 0), (8, .int 1), (7, .int (tq_eb (tq_qs (tw_ml g (tq_col F i)) k ^^^ tq_p a x ^^^ tq_p b y))), (6, .int (tq_eb (tq_xs (tw_ml g (tq_col F i)) k ^^^ x ^^^ y))), (0, .ref h0), (1, .int (nI i)), (2, .int (nI a)), (3, .int (tq_eb x)), (4, .int (nI b)), (5, .int (tq_eb y))]) hx hb dX1_wouldFit_169 hl (by decide) rfl (fun ls hl => ?_)
                refine lv_iload hx hb dX1_wouldFit_171 (lv_at hl 1 rfl) ?_
                refine lv_if_eq (tgt := 206) hx hb dX1_wouldFit_173 (by decide) (fun c_173 => ?_) (fun c_173 => ?_)
                · exact absurd c_173 (by decide)
                · refine lv_iload hx hb dX1_wouldFit_176 (lv_at hl 0 rfl) ?_
                  refine lv_if_ne (tgt := 202) hx hb dX1_wouldFit_178 (by decide) (fun c_178 => ?_) (fun c_178 => ?_)
                  · exact absurd rfl c_178
                  · refine lv_iload hx hb dX1_wouldFit_181 (lv_at hl 8 rfl) ?_
                    refine lv_aload_n hx hb dX1_wouldFit_183 rfl (lv_at hl 4 rfl) ?_
                    refine tw_rM ⟨hx, hb, hml, hown, hts⟩ hK hP (c_X1_p l D cA cB h0 a0 b0 k F g ) (cwV 0 hts gX1_wouldFit_X1_p rfl rfl rfl kdX1_p ⟨Nat.le_of_ble_eq_true rfl, Nat.le_of_ble_eq_true rfl⟩) rfl hl.1 rfl (Nat.le_of_ble_eq_true rfl) dX1_wouldFit_184 ⟨Nat.zero_le _, Nat.zero_le _⟩ ?_
                    refine lv_icmp_lt (tgt := 206) hx hb dX1_wouldFit_187 (by decide) (fun c_187 => ?_) (fun c_187 => ?_)
                    · refine lv_iconst (v := 0) hx hb dX1_wouldFit_206 (by decide) ?_
                      refine tw_topr (x' := tw_bI (tw_wf k g (tq_col F i) (tq_xs (tw_ml g (tq_col F i)) k ^^^ x ^^^ y) (tq_qs (tw_ml g (tq_col F i)) k ^^^ tq_p a x ^^^ tq_p b y) false)) (by first | (exact absurd (c_104.symm.trans c_199) (by decide)) | (unfold tw_wf; simp [tw_bI, tq_col, c_104, c_142, c_161]; done)) ?_
                      exact hend _ _ dX1_wouldFit_207
                    · exact absurd (nI_lt hb9 (by omega)) c_187
              · rw [tq_eb_eq] at c_161
                refine lv_iconst (v := 1) hx hb dX1_wouldFit_164 (by decide) ?_
                refine lv_goto (tgt := 169) hx hb dX1_wouldFit_165 (by decide) ?_
                refine lv_istore (lv' := [(9, .int 1), (8, .int 1), (7, .int (tq_eb (tq_qs (tw_ml g (tq_col F i)) k ^^^ tq_p a x ^^^ tq_p b y))), (6, .int (tq_eb (tq_xs (tw_ml g (tq_col F i)) k ^^^ x ^^^ y))), (0, .ref h0), (1, .int (nI i)), (2, .int (nI a)), (3, .int (tq_eb x)), (4, .int (nI b)), (5, .int (tq_eb y))]) hx hb dX1_wouldFit_169 hl (by decide) rfl (fun ls hl => ?_)
                refine lv_iload hx hb dX1_wouldFit_171 (lv_at hl 1 rfl) ?_
                refine lv_if_eq (tgt := 206) hx hb dX1_wouldFit_173 (by decide) (fun c_173 => ?_) (fun c_173 => ?_)
                · exact absurd c_173 (by decide)
                · refine lv_iload hx hb dX1_wouldFit_176 (lv_at hl 0 rfl) ?_
                  refine lv_if_ne (tgt := 202) hx hb dX1_wouldFit_178 (by decide) (fun c_178 => ?_) (fun c_178 => ?_)
                  · refine lv_iconst (v := 1) hx hb dX1_wouldFit_202 (by decide) ?_
                    refine lv_goto (tgt := 207) hx hb dX1_wouldFit_203 (by decide) ?_
                    refine tw_topr (x' := tw_bI (tw_wf k g (tq_col F i) (tq_xs (tw_ml g (tq_col F i)) k ^^^ x ^^^ y) (tq_qs (tw_ml g (tq_col F i)) k ^^^ tq_p a x ^^^ tq_p b y) false)) (by first | (exact absurd (c_104.symm.trans c_199) (by decide)) | (unfold tw_wf; simp [tw_bI, tq_col, c_104, c_142, c_161]; done)) ?_
                    exact hend _ _ dX1_wouldFit_207
                  · exact absurd c_178 (by decide)
          · rw [tw_bI0] at c_104
            refine lv_iload hx hb dX1_wouldFit_107 (lv_at hl 1 rfl) ?_
            refine lv_aload_n hx hb dX1_wouldFit_109 rfl (lv_at hl 2 rfl) ?_
            refine va_get (D := D) (ci := 1) (v := .ref a0) (C := RX1) (T := TX1) (N := 4) hx hb hts inX1_wouldFit hown hK hP 0 rfl rfl 2 (by decide) (hts _ fX1_wouldFit_7) (fun _ h9 => h9) rfl dX1_wouldFit_110 ?_
            refine lv_bipush (v := 64) hx hb dX1_wouldFit_113 (by decide) ?_
            refine lv_aload_n hx hb dX1_wouldFit_115 rfl (lv_at hl 2 rfl) ?_
            refine tw_rM ⟨hx, hb, hml, hown, hts⟩ hK hP (c_X1_p l D cA cB h0 a0 b0 k F g ) (cwV 0 hts gX1_wouldFit_X1_p rfl rfl rfl kdX1_p ⟨Nat.le_of_ble_eq_true rfl, Nat.le_of_ble_eq_true rfl⟩) rfl hl.1 rfl (Nat.le_of_ble_eq_true rfl) dX1_wouldFit_116 ⟨Nat.zero_le _, Nat.zero_le _⟩ ?_
            refine lv_imul hx hb dX1_wouldFit_119 ?_
            refine lv_iload_n hx hb dX1_wouldFit_120 rfl (lv_at hl 3 rfl) ?_
            refine lv_iadd hx hb dX1_wouldFit_121 ?_
            refine tw_ld hx hb hK hP 1 0 rfl rfl (n := 64 * k + i) (tw_ix' k i) (by omega) (by decide) dX1_wouldFit_122 ?_
            refine lv_icmp_ne (tgt := 130) hx hb dX1_wouldFit_123 (by decide) (fun c_123 => ?_) (fun c_123 => ?_)
            · rw [tq_eb_eq] at c_123
              refine lv_iconst (v := 0) hx hb dX1_wouldFit_130 (by decide) ?_
              refine lv_istore (lv' := [(8, .int 0), (7, .int (tq_eb (tq_qs (tw_ml g (tq_col F i)) k ^^^ tq_p a x ^^^ tq_p b y))), (6, .int (tq_eb (tq_xs (tw_ml g (tq_col F i)) k ^^^ x ^^^ y))), (0, .ref h0), (1, .int (nI i)), (2, .int (nI a)), (3, .int (tq_eb x)), (4, .int (nI b)), (5, .int (tq_eb y))]) hx hb dX1_wouldFit_131 hl (by decide) rfl (fun ls hl => ?_)
              refine lv_aload_n hx hb dX1_wouldFit_133 rfl (lv_at hl 3 rfl) ?_
              refine va_get (D := D) (ci := 1) (v := .ref b0) (C := RX1) (T := TX1) (N := 4) hx hb hts inX1_wouldFit hown hK hP 0 rfl rfl 3 (by decide) (hts _ fX1_wouldFit_13) (fun _ h9 => h9) rfl dX1_wouldFit_134 ?_
              refine lv_aload_n hx hb dX1_wouldFit_137 rfl (lv_at hl 3 rfl) ?_
              refine tw_rM ⟨hx, hb, hml, hown, hts⟩ hK hP (c_X1_q l D cA cB h0 a0 b0 k F g ) (cwV 0 hts gX1_wouldFit_X1_q rfl rfl rfl kdX1_q ⟨Nat.le_of_ble_eq_true rfl, Nat.le_of_ble_eq_true rfl⟩) rfl hl.1 rfl (Nat.le_of_ble_eq_true rfl) dX1_wouldFit_138 ⟨Nat.zero_le _, Nat.zero_le _⟩ ?_
              refine tw_lz hx hb hK hP 2 1 rfl rfl (n := k + 1) (rfl) (by omega) (by decide) dX1_wouldFit_141 ?_
              refine lv_if_ne (tgt := 164) hx hb dX1_wouldFit_142 (by decide) (fun c_142 => ?_) (fun c_142 => ?_)
              · rw [tw_bI1] at c_142
                refine lv_iconst (v := 1) hx hb dX1_wouldFit_164 (by decide) ?_
                refine lv_goto (tgt := 169) hx hb dX1_wouldFit_165 (by decide) ?_
                refine lv_istore (lv' := [(9, .int 1), (8, .int 0), (7, .int (tq_eb (tq_qs (tw_ml g (tq_col F i)) k ^^^ tq_p a x ^^^ tq_p b y))), (6, .int (tq_eb (tq_xs (tw_ml g (tq_col F i)) k ^^^ x ^^^ y))), (0, .ref h0), (1, .int (nI i)), (2, .int (nI a)), (3, .int (tq_eb x)), (4, .int (nI b)), (5, .int (tq_eb y))]) hx hb dX1_wouldFit_169 hl (by decide) rfl (fun ls hl => ?_)
                refine lv_iload hx hb dX1_wouldFit_171 (lv_at hl 1 rfl) ?_
                refine lv_if_eq (tgt := 206) hx hb dX1_wouldFit_173 (by decide) (fun c_173 => ?_) (fun c_173 => ?_)
                · refine lv_iconst (v := 0) hx hb dX1_wouldFit_206 (by decide) ?_
                  refine tw_topr (x' := tw_bI (tw_wf k g (tq_col F i) (tq_xs (tw_ml g (tq_col F i)) k ^^^ x ^^^ y) (tq_qs (tw_ml g (tq_col F i)) k ^^^ tq_p a x ^^^ tq_p b y) false)) (by first | (exact absurd (c_104.symm.trans c_199) (by decide)) | (unfold tw_wf; simp [tw_bI, tq_col, c_104, c_123, c_142]; done)) ?_
                  exact hend _ _ dX1_wouldFit_207
                · exact absurd rfl c_173
              · rw [tw_bI0] at c_142
                refine lv_iload hx hb dX1_wouldFit_145 (lv_at hl 1 rfl) ?_
                refine lv_aload_n hx hb dX1_wouldFit_147 rfl (lv_at hl 3 rfl) ?_
                refine va_get (D := D) (ci := 1) (v := .ref a0) (C := RX1) (T := TX1) (N := 4) hx hb hts inX1_wouldFit hown hK hP 0 rfl rfl 2 (by decide) (hts _ fX1_wouldFit_7) (fun _ h9 => h9) rfl dX1_wouldFit_148 ?_
                refine lv_bipush (v := 64) hx hb dX1_wouldFit_151 (by decide) ?_
                refine lv_aload_n hx hb dX1_wouldFit_153 rfl (lv_at hl 3 rfl) ?_
                refine tw_rM ⟨hx, hb, hml, hown, hts⟩ hK hP (c_X1_q l D cA cB h0 a0 b0 k F g ) (cwV 0 hts gX1_wouldFit_X1_q rfl rfl rfl kdX1_q ⟨Nat.le_of_ble_eq_true rfl, Nat.le_of_ble_eq_true rfl⟩) rfl hl.1 rfl (Nat.le_of_ble_eq_true rfl) dX1_wouldFit_154 ⟨Nat.zero_le _, Nat.zero_le _⟩ ?_
                refine lv_imul hx hb dX1_wouldFit_157 ?_
                refine lv_iload_n hx hb dX1_wouldFit_158 rfl (lv_at hl 4 rfl) ?_
                refine lv_iadd hx hb dX1_wouldFit_159 ?_
                refine tw_ld hx hb hK hP 1 0 rfl rfl (n := 64 * (k + 1) + i) (tw_ix' (k + 1) i) (by omega) (by decide) dX1_wouldFit_160 ?_
                refine lv_icmp_ne (tgt := 168) hx hb dX1_wouldFit_161 (by decide) (fun c_161 => ?_) (fun c_161 => ?_)
                · rw [tq_eb_eq] at c_161
                  refine lv_iconst (v := 0) hx hb dX1_wouldFit_168 (by decide) ?_
                  refine lv_istore (lv' := [(9, .int 0), (8, .int 0), (7, .int (tq_eb (tq_qs (tw_ml g (tq_col F i)) k ^^^ tq_p a x ^^^ tq_p b y))), (6, .int (tq_eb (tq_xs (tw_ml g (tq_col F i)) k ^^^ x ^^^ y))), (0, .ref h0), (1, .int (nI i)), (2, .int (nI a)), (3, .int (tq_eb x)), (4, .int (nI b)), (5, .int (tq_eb y))]) hx hb dX1_wouldFit_169 hl (by decide) rfl (fun ls hl => ?_)
                  refine lv_iload hx hb dX1_wouldFit_171 (lv_at hl 1 rfl) ?_
                  refine lv_if_eq (tgt := 206) hx hb dX1_wouldFit_173 (by decide) (fun c_173 => ?_) (fun c_173 => ?_)
                  · refine lv_iconst (v := 0) hx hb dX1_wouldFit_206 (by decide) ?_
                    refine tw_topr (x' := tw_bI (tw_wf k g (tq_col F i) (tq_xs (tw_ml g (tq_col F i)) k ^^^ x ^^^ y) (tq_qs (tw_ml g (tq_col F i)) k ^^^ tq_p a x ^^^ tq_p b y) false)) (by first | (exact absurd (c_104.symm.trans c_199) (by decide)) | (unfold tw_wf; simp [tw_bI, tq_col, c_104, c_123, c_142, c_161]; done)) ?_
                    exact hend _ _ dX1_wouldFit_207
                  · exact absurd rfl c_173
                · rw [tq_eb_eq] at c_161
                  refine lv_iconst (v := 1) hx hb dX1_wouldFit_164 (by decide) ?_
                  refine lv_goto (tgt := 169) hx hb dX1_wouldFit_165 (by decide) ?_
                  refine lv_istore (lv' := [(9, .int 1), (8, .int 0), (7, .int (tq_eb (tq_qs (tw_ml g (tq_col F i)) k ^^^ tq_p a x ^^^ tq_p b y))), (6, .int (tq_eb (tq_xs (tw_ml g (tq_col F i)) k ^^^ x ^^^ y))), (0, .ref h0), (1, .int (nI i)), (2, .int (nI a)), (3, .int (tq_eb x)), (4, .int (nI b)), (5, .int (tq_eb y))]) hx hb dX1_wouldFit_169 hl (by decide) rfl (fun ls hl => ?_)
                  refine lv_iload hx hb dX1_wouldFit_171 (lv_at hl 1 rfl) ?_
                  refine lv_if_eq (tgt := 206) hx hb dX1_wouldFit_173 (by decide) (fun c_173 => ?_) (fun c_173 => ?_)
                  · refine lv_iconst (v := 0) hx hb dX1_wouldFit_206 (by decide) ?_
                    refine tw_topr (x' := tw_bI (tw_wf k g (tq_col F i) (tq_xs (tw_ml g (tq_col F i)) k ^^^ x ^^^ y) (tq_qs (tw_ml g (tq_col F i)) k ^^^ tq_p a x ^^^ tq_p b y) false)) (by first | (exact absurd (c_104.symm.trans c_199) (by decide)) | (unfold tw_wf; simp [tw_bI, tq_col, c_104, c_123, c_142, c_161]; done)) ?_
                    exact hend _ _ dX1_wouldFit_207
                  · exact absurd rfl c_173
            · rw [tq_eb_eq] at c_123
              refine lv_iconst (v := 1) hx hb dX1_wouldFit_126 (by decide) ?_
              refine lv_goto (tgt := 131) hx hb dX1_wouldFit_127 (by decide) ?_
              refine lv_istore (lv' := [(8, .int 1), (7, .int (tq_eb (tq_qs (tw_ml g (tq_col F i)) k ^^^ tq_p a x ^^^ tq_p b y))), (6, .int (tq_eb (tq_xs (tw_ml g (tq_col F i)) k ^^^ x ^^^ y))), (0, .ref h0), (1, .int (nI i)), (2, .int (nI a)), (3, .int (tq_eb x)), (4, .int (nI b)), (5, .int (tq_eb y))]) hx hb dX1_wouldFit_131 hl (by decide) rfl (fun ls hl => ?_)
              refine lv_aload_n hx hb dX1_wouldFit_133 rfl (lv_at hl 3 rfl) ?_
              refine va_get (D := D) (ci := 1) (v := .ref b0) (C := RX1) (T := TX1) (N := 4) hx hb hts inX1_wouldFit hown hK hP 0 rfl rfl 3 (by decide) (hts _ fX1_wouldFit_13) (fun _ h9 => h9) rfl dX1_wouldFit_134 ?_
              refine lv_aload_n hx hb dX1_wouldFit_137 rfl (lv_at hl 3 rfl) ?_
              refine tw_rM ⟨hx, hb, hml, hown, hts⟩ hK hP (c_X1_q l D cA cB h0 a0 b0 k F g ) (cwV 0 hts gX1_wouldFit_X1_q rfl rfl rfl kdX1_q ⟨Nat.le_of_ble_eq_true rfl, Nat.le_of_ble_eq_true rfl⟩) rfl hl.1 rfl (Nat.le_of_ble_eq_true rfl) dX1_wouldFit_138 ⟨Nat.zero_le _, Nat.zero_le _⟩ ?_
              refine tw_lz hx hb hK hP 2 1 rfl rfl (n := k + 1) (rfl) (by omega) (by decide) dX1_wouldFit_141 ?_
              refine lv_if_ne (tgt := 164) hx hb dX1_wouldFit_142 (by decide) (fun c_142 => ?_) (fun c_142 => ?_)
              · rw [tw_bI1] at c_142
                refine lv_iconst (v := 1) hx hb dX1_wouldFit_164 (by decide) ?_
                refine lv_goto (tgt := 169) hx hb dX1_wouldFit_165 (by decide) ?_
                refine lv_istore (lv' := [(9, .int 1), (8, .int 1), (7, .int (tq_eb (tq_qs (tw_ml g (tq_col F i)) k ^^^ tq_p a x ^^^ tq_p b y))), (6, .int (tq_eb (tq_xs (tw_ml g (tq_col F i)) k ^^^ x ^^^ y))), (0, .ref h0), (1, .int (nI i)), (2, .int (nI a)), (3, .int (tq_eb x)), (4, .int (nI b)), (5, .int (tq_eb y))]) hx hb dX1_wouldFit_169 hl (by decide) rfl (fun ls hl => ?_)
                refine lv_iload hx hb dX1_wouldFit_171 (lv_at hl 1 rfl) ?_
                refine lv_if_eq (tgt := 206) hx hb dX1_wouldFit_173 (by decide) (fun c_173 => ?_) (fun c_173 => ?_)
                · exact absurd c_173 (by decide)
                · refine lv_iload hx hb dX1_wouldFit_176 (lv_at hl 0 rfl) ?_
                  refine lv_if_ne (tgt := 202) hx hb dX1_wouldFit_178 (by decide) (fun c_178 => ?_) (fun c_178 => ?_)
                  · refine lv_iconst (v := 1) hx hb dX1_wouldFit_202 (by decide) ?_
                    refine lv_goto (tgt := 207) hx hb dX1_wouldFit_203 (by decide) ?_
                    refine tw_topr (x' := tw_bI (tw_wf k g (tq_col F i) (tq_xs (tw_ml g (tq_col F i)) k ^^^ x ^^^ y) (tq_qs (tw_ml g (tq_col F i)) k ^^^ tq_p a x ^^^ tq_p b y) false)) (by first | (exact absurd (c_104.symm.trans c_199) (by decide)) | (unfold tw_wf; simp [tw_bI, tq_col, c_104, c_123, c_142]; done)) ?_
                    exact hend _ _ dX1_wouldFit_207
                  · exact absurd c_178 (by decide)
              · rw [tw_bI0] at c_142
                refine lv_iload hx hb dX1_wouldFit_145 (lv_at hl 1 rfl) ?_
                refine lv_aload_n hx hb dX1_wouldFit_147 rfl (lv_at hl 3 rfl) ?_
                refine va_get (D := D) (ci := 1) (v := .ref a0) (C := RX1) (T := TX1) (N := 4) hx hb hts inX1_wouldFit hown hK hP 0 rfl rfl 2 (by decide) (hts _ fX1_wouldFit_7) (fun _ h9 => h9) rfl dX1_wouldFit_148 ?_
                refine lv_bipush (v := 64) hx hb dX1_wouldFit_151 (by decide) ?_
                refine lv_aload_n hx hb dX1_wouldFit_153 rfl (lv_at hl 3 rfl) ?_
                refine tw_rM ⟨hx, hb, hml, hown, hts⟩ hK hP (c_X1_q l D cA cB h0 a0 b0 k F g ) (cwV 0 hts gX1_wouldFit_X1_q rfl rfl rfl kdX1_q ⟨Nat.le_of_ble_eq_true rfl, Nat.le_of_ble_eq_true rfl⟩) rfl hl.1 rfl (Nat.le_of_ble_eq_true rfl) dX1_wouldFit_154 ⟨Nat.zero_le _, Nat.zero_le _⟩ ?_
                refine lv_imul hx hb dX1_wouldFit_157 ?_
                refine lv_iload_n hx hb dX1_wouldFit_158 rfl (lv_at hl 4 rfl) ?_
                refine lv_iadd hx hb dX1_wouldFit_159 ?_
                refine tw_ld hx hb hK hP 1 0 rfl rfl (n := 64 * (k + 1) + i) (tw_ix' (k + 1) i) (by omega) (by decide) dX1_wouldFit_160 ?_
                refine lv_icmp_ne (tgt := 168) hx hb dX1_wouldFit_161 (by decide) (fun c_161 => ?_) (fun c_161 => ?_)
                · rw [tq_eb_eq] at c_161
                  refine lv_iconst (v := 0) hx hb dX1_wouldFit_168 (by decide) ?_
                  refine lv_istore (lv' := [(9, .int 0), (8, .int 1), (7, .int (tq_eb (tq_qs (tw_ml g (tq_col F i)) k ^^^ tq_p a x ^^^ tq_p b y))), (6, .int (tq_eb (tq_xs (tw_ml g (tq_col F i)) k ^^^ x ^^^ y))), (0, .ref h0), (1, .int (nI i)), (2, .int (nI a)), (3, .int (tq_eb x)), (4, .int (nI b)), (5, .int (tq_eb y))]) hx hb dX1_wouldFit_169 hl (by decide) rfl (fun ls hl => ?_)
                  refine lv_iload hx hb dX1_wouldFit_171 (lv_at hl 1 rfl) ?_
                  refine lv_if_eq (tgt := 206) hx hb dX1_wouldFit_173 (by decide) (fun c_173 => ?_) (fun c_173 => ?_)
                  · exact absurd c_173 (by decide)
                  · refine lv_iload hx hb dX1_wouldFit_176 (lv_at hl 0 rfl) ?_
                    refine lv_if_ne (tgt := 202) hx hb dX1_wouldFit_178 (by decide) (fun c_178 => ?_) (fun c_178 => ?_)
                    · exact absurd rfl c_178
                    · refine lv_iload hx hb dX1_wouldFit_181 (lv_at hl 8 rfl) ?_
                      refine lv_aload_n hx hb dX1_wouldFit_183 rfl (lv_at hl 4 rfl) ?_
                      refine tw_rM ⟨hx, hb, hml, hown, hts⟩ hK hP (c_X1_p l D cA cB h0 a0 b0 k F g ) (cwV 0 hts gX1_wouldFit_X1_p rfl rfl rfl kdX1_p ⟨Nat.le_of_ble_eq_true rfl, Nat.le_of_ble_eq_true rfl⟩) rfl hl.1 rfl (Nat.le_of_ble_eq_true rfl) dX1_wouldFit_184 ⟨Nat.zero_le _, Nat.zero_le _⟩ ?_
                      refine lv_icmp_lt (tgt := 206) hx hb dX1_wouldFit_187 (by decide) (fun c_187 => ?_) (fun c_187 => ?_)
                      · refine lv_iconst (v := 0) hx hb dX1_wouldFit_206 (by decide) ?_
                        refine tw_topr (x' := tw_bI (tw_wf k g (tq_col F i) (tq_xs (tw_ml g (tq_col F i)) k ^^^ x ^^^ y) (tq_qs (tw_ml g (tq_col F i)) k ^^^ tq_p a x ^^^ tq_p b y) false)) (by first | (exact absurd (c_104.symm.trans c_199) (by decide)) | (unfold tw_wf; simp [tw_bI, tq_col, c_104, c_123, c_142, c_161]; done)) ?_
                        exact hend _ _ dX1_wouldFit_207
                      · exact absurd (nI_lt hb9 (by omega)) c_187
                · rw [tq_eb_eq] at c_161
                  refine lv_iconst (v := 1) hx hb dX1_wouldFit_164 (by decide) ?_
                  refine lv_goto (tgt := 169) hx hb dX1_wouldFit_165 (by decide) ?_
                  refine lv_istore (lv' := [(9, .int 1), (8, .int 1), (7, .int (tq_eb (tq_qs (tw_ml g (tq_col F i)) k ^^^ tq_p a x ^^^ tq_p b y))), (6, .int (tq_eb (tq_xs (tw_ml g (tq_col F i)) k ^^^ x ^^^ y))), (0, .ref h0), (1, .int (nI i)), (2, .int (nI a)), (3, .int (tq_eb x)), (4, .int (nI b)), (5, .int (tq_eb y))]) hx hb dX1_wouldFit_169 hl (by decide) rfl (fun ls hl => ?_)
                  refine lv_iload hx hb dX1_wouldFit_171 (lv_at hl 1 rfl) ?_
                  refine lv_if_eq (tgt := 206) hx hb dX1_wouldFit_173 (by decide) (fun c_173 => ?_) (fun c_173 => ?_)
                  · exact absurd c_173 (by decide)
                  · refine lv_iload hx hb dX1_wouldFit_176 (lv_at hl 0 rfl) ?_
                    refine lv_if_ne (tgt := 202) hx hb dX1_wouldFit_178 (by decide) (fun c_178 => ?_) (fun c_178 => ?_)
                    · refine lv_iconst (v := 1) hx hb dX1_wouldFit_202 (by decide) ?_
                      refine lv_goto (tgt := 207) hx hb dX1_wouldFit_203 (by decide) ?_
                      refine tw_topr (x' := tw_bI (tw_wf k g (tq_col F i) (tq_xs (tw_ml g (tq_col F i)) k ^^^ x ^^^ y) (tq_qs (tw_ml g (tq_col F i)) k ^^^ tq_p a x ^^^ tq_p b y) false)) (by first | (exact absurd (c_104.symm.trans c_199) (by decide)) | (unfold tw_wf; simp [tw_bI, tq_col, c_104, c_123, c_142, c_161]; done)) ?_
                      exact hend _ _ dX1_wouldFit_207
                    · exact absurd c_178 (by decide)
abbrev rmX1_find : Room := { frames := 4, cells := 0, slots := 0, locals := 102 }
theorem inX1_find : ∀ w ∈ wsX10, w ∈ wsX1_find := fun _ h => List.mem_cons_of_mem _ (List.mem_append_right _ h)
theorem fX1_find_7 : Cond.fieldLink RX1 7 "TwinParityModel" "bytes" "[I" ∈ wsX1_find := List.mem_of_getElem? (i := 1) rfl
theorem fX1_find_25 : Cond.fieldLink RX1 25 "TwinParityModel" "units" "I" ∈ wsX1_find := List.mem_of_getElem? (i := 7) rfl
theorem fX1_find_13 : Cond.fieldLink RX1 13 "TwinParityModel" "lost" "[Z" ∈ wsX1_find := List.mem_of_getElem? (i := 12) rfl
theorem kdX1_find : yX1_find.cls = RX1 ∧ yX1_find.cls ≠ "java/lang/invoke/MethodHandle" ∧ yX1_find.cls ≠ "java/lang/invoke/VarHandle" ∧ (parseMethodDescriptor yX1_find.desc).map (fun d => d.parameters.length) = some 3 := by decide +kernel
set_option maxHeartbeats 4000000 in
set_option maxRecDepth 100000 in
theorem c_X1_find1 (l : Launch) (D : va_G) (cA cB : ClassId) (h0 a0 b0 k : Nat) (F : Nat → BitVec 8) (g : Nat → Bool) (sz : Nat) (i a : Nat) (x0 : BitVec 8) (hi : i < 64) (ha : a < k) (hk : k ≤ 14) (hs : tw_wf k g (tq_col F i) (tq_xs (tw_ml g (tq_col F i)) k ^^^ x0) (tq_qs (tw_ml g (tq_col F i)) k ^^^ tq_p a x0) true = true) (hu : ∀ x, tw_wf k g (tq_col F i) (tq_xs (tw_ml g (tq_col F i)) k ^^^ x) (tq_qs (tw_ml g (tq_col F i)) k ^^^ tq_p a x) true = true → x = x0) : Met l yX1_find wsX1_find rmX1_find (va_Pc [.ref h0, .int (nI i), .int (nI a), .int (nI k)] (tw_Pw D (tw_M cA cB h0 a0 b0 k F g) (tw_tM cA cB) sz)) (va_Qv (fun _ : Unit => True) (tw_Qw D (fun _ : Unit => (tw_M cA cB h0 a0 b0 k (va_up F (64 * a + i) x0) g)) (tw_tM cA cB) (va_A (tw_M cA cB h0 a0 b0 k F g) sz)) (va_A (tw_M cA cB h0 a0 b0 k F g) sz)) 0 0 (va_A (tw_M cA cB h0 a0 b0 k F g) sz) := by
  refine tw_metV (by decide) rfl rfl (Nat.le_of_ble_eq_true rfl) ?_
  intro p e s m args below meth c Q ls A hx hb hml hown hts hP hK hD hS hA hend hl
  have hown : s.vm.findClass RX1 = some m.cls := hown
  have hl : lv_has ls 7 [(0, .ref h0), (1, .int (nI i)), (2, .int (nI a)), (3, .int (nI k))] := hl
  have hJ : x0.toNat < 2 ^ 8 := x0.isLt
  have loop : ∀ (n j : Nat) (ls : Array Slot), j + n = x0.toNat → lv_has ls 7 [(0, .ref h0), (1, .int (nI i)), (2, .int (nI a)), (3, .int (nI k)), (4, .int (nI j))] → W p l e rmX1_find s m args below meth c s.heap [] 0 0 Q (F0 m 3 ls []) := by
    intro n
    induction n with
    | zero =>
      intro j ls hj hl
      have hjx : BitVec.ofNat 8 j = x0 := by apply BitVec.eq_of_toNat_eq; rw [BitVec.toNat_ofNat, Nat.mod_eq_of_lt (by omega)]; exact hj
      refine lv_iload hx hb dX1_find_3 (lv_at hl 4 rfl) ?_
      refine lv_iload_n hx hb dX1_find_5 rfl (lv_at hl 2 rfl) ?_
      refine lv_aload_n hx hb dX1_find_6 rfl (lv_at hl 0 rfl) ?_
      refine tw_rM ⟨hx, hb, hml, hown, hts⟩ hK hP (c_X1_p l D cA cB h0 a0 b0 k F g ) (cwV 0 hts gX1_find_X1_p rfl rfl rfl kdX1_p ⟨Nat.le_of_ble_eq_true rfl, Nat.le_of_ble_eq_true rfl⟩) rfl hl.1 rfl (Nat.le_of_ble_eq_true rfl) dX1_find_7 ⟨Nat.zero_le _, Nat.zero_le _⟩ ?_
      refine lv_icmp_ge (tgt := 19) hx hb dX1_find_10 (by decide) (fun c_10 => ?_) (fun c_10 => ?_)
      · exact absurd c_10 (nI_ge ha (by omega))
      · refine lv_sipush (v := 256) hx hb dX1_find_13 (by decide) ?_
        refine lv_goto (tgt := 20) hx hb dX1_find_16 (by decide) ?_
        refine lv_icmp_ge (tgt := 205) hx hb dX1_find_20 (by decide) (fun c_20 => ?_) (fun c_20 => ?_)
        · exact absurd c_20 (nI_ge (b := 256) (by omega) (by omega))
        · refine lv_iconst (v := 0) hx hb dX1_find_23 (by decide) ?_
          refine lv_istore (lv' := [(5, .int 0), (0, .ref h0), (1, .int (nI i)), (2, .int (nI a)), (3, .int (nI k)), (4, .int (nI j))]) hx hb dX1_find_24 hl (by decide) rfl (fun ls hl => ?_)
          refine lv_iload hx hb dX1_find_26 (lv_at hl 0 rfl) ?_
          refine lv_iload_n hx hb dX1_find_28 rfl (lv_at hl 4 rfl) ?_
          refine lv_aload_n hx hb dX1_find_29 rfl (lv_at hl 1 rfl) ?_
          refine tw_rM ⟨hx, hb, hml, hown, hts⟩ hK hP (c_X1_p l D cA cB h0 a0 b0 k F g ) (cwV 0 hts gX1_find_X1_p rfl rfl rfl kdX1_p ⟨Nat.le_of_ble_eq_true rfl, Nat.le_of_ble_eq_true rfl⟩) rfl hl.1 rfl (Nat.le_of_ble_eq_true rfl) dX1_find_30 ⟨Nat.zero_le _, Nat.zero_le _⟩ ?_
          refine lv_icmp_ge (tgt := 42) hx hb dX1_find_33 (by decide) (fun c_33 => ?_) (fun c_33 => ?_)
          · refine lv_iconst (v := 1) hx hb dX1_find_42 (by decide) ?_
            refine lv_icmp_ge (tgt := 199) hx hb dX1_find_43 (by decide) (fun c_43 => ?_) (fun c_43 => ?_)
            · exact absurd c_43 (by decide)
            · refine lv_iload_n hx hb dX1_find_46 rfl (lv_at hl 4 rfl) ?_
              refine lv_aload_n hx hb dX1_find_47 rfl (lv_at hl 1 rfl) ?_
              refine tw_rM ⟨hx, hb, hml, hown, hts⟩ hK hP (c_X1_p l D cA cB h0 a0 b0 k F g ) (cwV 0 hts gX1_find_X1_p rfl rfl rfl kdX1_p ⟨Nat.le_of_ble_eq_true rfl, Nat.le_of_ble_eq_true rfl⟩) rfl hl.1 rfl (Nat.le_of_ble_eq_true rfl) dX1_find_48 ⟨Nat.zero_le _, Nat.zero_le _⟩ ?_
              refine lv_icmp_ge (tgt := 81) hx hb dX1_find_51 (by decide) (fun c_51 => ?_) (fun c_51 => ?_)
              · refine lv_iconst (v := 0) hx hb dX1_find_81 (by decide) ?_
                refine lv_istore (lv' := [(6, .int 0), (5, .int 0), (0, .ref h0), (1, .int (nI i)), (2, .int (nI a)), (3, .int (nI k)), (4, .int (nI j))]) hx hb dX1_find_82 hl (by decide) rfl (fun ls hl => ?_)
                refine lv_aload_n hx hb dX1_find_84 rfl (lv_at hl 2 rfl) ?_
                refine lv_iload_n hx hb dX1_find_85 rfl (lv_at hl 3 rfl) ?_
                refine lv_iload_n hx hb dX1_find_86 rfl (lv_at hl 4 rfl) ?_
                refine lv_iload hx hb dX1_find_87 (lv_at hl 6 rfl) ?_
                refine tw_topr (x' := tq_eb (BitVec.ofNat 8 j)) (tq_nI (by omega)) ?_
                refine lv_iload_n hx hb dX1_find_89 rfl (lv_at hl 5 rfl) ?_
                refine lv_iload_n hx hb dX1_find_90 rfl (lv_at hl 5 rfl) ?_
                refine lv_aload_n hx hb dX1_find_91 rfl (lv_at hl 2 rfl) ?_
                refine tw_rM ⟨hx, hb, hml, hown, hts⟩ hK hP (c_X1_p l D cA cB h0 a0 b0 k F g ) (cwV 0 hts gX1_find_X1_p rfl rfl rfl kdX1_p ⟨Nat.le_of_ble_eq_true rfl, Nat.le_of_ble_eq_true rfl⟩) rfl hl.1 rfl (Nat.le_of_ble_eq_true rfl) dX1_find_92 ⟨Nat.zero_le _, Nat.zero_le _⟩ ?_
                refine lv_icmp_ge (tgt := 103) hx hb dX1_find_95 (by decide) (fun c_95 => ?_) (fun c_95 => ?_)
                · refine lv_iload hx hb dX1_find_103 (lv_at hl 1 rfl) ?_
                  refine tw_rM ⟨hx, hb, hml, hown, hts⟩ hK hP (c_X1_wouldFit1 l D cA cB h0 a0 b0 k F g i a (BitVec.ofNat 8 j) hi ha hk) (cwV 5 hts gX1_find_X1_wouldFit rfl rfl rfl kdX1_wouldFit ⟨Nat.le_of_ble_eq_true rfl, Nat.le_of_ble_eq_true rfl⟩) rfl hl.1 rfl (Nat.le_of_ble_eq_true rfl) dX1_find_105 ⟨Nat.zero_le _, Nat.zero_le _⟩ ?_
                  refine lv_if_eq (tgt := 182) hx hb dX1_find_108 (by decide) (fun c_108 => ?_) (fun c_108 => ?_)
                  · rw [tw_bI0, hjx, hs] at c_108
                    exact absurd c_108 (by decide)
                  · refine lv_aload_n hx hb dX1_find_111 rfl (lv_at hl 2 rfl) ?_
                    refine va_get (D := D) (ci := 1) (v := .ref a0) (C := RX1) (T := TX1) (N := 4) hx hb hts inX1_find hown hK hP 0 rfl rfl 2 (by decide) (hts _ fX1_find_7) (fun _ h9 => h9) rfl dX1_find_112 ?_
                    refine lv_bipush (v := 64) hx hb dX1_find_115 (by decide) ?_
                    refine lv_iload_n hx hb dX1_find_117 rfl (lv_at hl 4 rfl) ?_
                    refine lv_imul hx hb dX1_find_118 ?_
                    refine lv_iload_n hx hb dX1_find_119 rfl (lv_at hl 3 rfl) ?_
                    refine lv_iadd hx hb dX1_find_120 ?_
                    refine tw_topr (x' := nI (64 * a + i)) (tw_ix' a i) ?_
                    refine lv_iload_n hx hb dX1_find_121 rfl (lv_at hl 4 rfl) ?_
                    refine lv_aload_n hx hb dX1_find_122 rfl (lv_at hl 2 rfl) ?_
                    refine tw_rM ⟨hx, hb, hml, hown, hts⟩ hK hP (c_X1_p l D cA cB h0 a0 b0 k F g ) (cwV 0 hts gX1_find_X1_p rfl rfl rfl kdX1_p ⟨Nat.le_of_ble_eq_true rfl, Nat.le_of_ble_eq_true rfl⟩) rfl hl.1 rfl (Nat.le_of_ble_eq_true rfl) dX1_find_123 ⟨Nat.zero_le _, Nat.zero_le _⟩ ?_
                    refine lv_icmp_ge (tgt := 134) hx hb dX1_find_126 (by decide) (fun c_126 => ?_) (fun c_126 => ?_)
                    · exact absurd c_126 (nI_ge ha (by omega))
                    · refine lv_iload hx hb dX1_find_129 (lv_at hl 6 rfl) ?_
                      refine lv_goto (tgt := 145) hx hb dX1_find_131 (by decide) ?_
                      refine tw_st hx hb hK hP hD hS 1 0 rfl rfl (n := 64 * a + i) (v := x0) (rfl) (by rw [tq_ebN]; congr 1) (by omega) (by decide) dX1_find_145 (fun H locs hP hD hS => ?_)
                      have hP : va_P D vwCl (tw_M cA cB h0 a0 b0 k (va_up F (64 * a + i) (x0)) g) H := hP
                      have hD : va_D A (tw_M cA cB h0 a0 b0 k (va_up F (64 * a + i) (x0)) g) := hD
                      refine lv_aload_n hx hb dX1_find_146 rfl (lv_at hl 2 rfl) ?_
                      refine va_get (D := D) (ci := 1) (v := .ref a0) (C := RX1) (T := TX1) (N := 4) hx hb hts inX1_find hown hK hP 0 rfl rfl 2 (by decide) (hts _ fX1_find_7) (fun _ h9 => h9) rfl dX1_find_147 ?_
                      refine lv_bipush (v := 64) hx hb dX1_find_150 (by decide) ?_
                      refine lv_iload_n hx hb dX1_find_152 rfl (lv_at hl 5 rfl) ?_
                      refine lv_imul hx hb dX1_find_153 ?_
                      refine lv_iload_n hx hb dX1_find_154 rfl (lv_at hl 3 rfl) ?_
                      refine lv_iadd hx hb dX1_find_155 ?_
                      refine tw_topr (x' := nI (64 * k + i)) (tw_ix' k i) ?_
                      refine lv_iload_n hx hb dX1_find_156 rfl (lv_at hl 5 rfl) ?_
                      refine lv_aload_n hx hb dX1_find_157 rfl (lv_at hl 2 rfl) ?_
                      refine tw_rM ⟨hx, hb, hml, hown, hts⟩ hK hP (c_X1_p l D cA cB h0 a0 b0 k (va_up F (64 * a + i) (x0)) g ) (cwV 0 hts gX1_find_X1_p rfl rfl rfl kdX1_p ⟨Nat.le_of_ble_eq_true rfl, Nat.le_of_ble_eq_true rfl⟩) rfl hl.1 rfl (Nat.le_of_ble_eq_true rfl) dX1_find_158 ⟨Nat.zero_le _, Nat.zero_le _⟩ ?_
                      refine lv_icmp_ge (tgt := 169) hx hb dX1_find_161 (by decide) (fun c_161 => ?_) (fun c_161 => ?_)
                      · refine lv_aload_n hx hb dX1_find_169 rfl (lv_at hl 2 rfl) ?_
                        refine va_get (D := D) (ci := 1) (v := .ref a0) (C := RX1) (T := TX1) (N := 4) hx hb hts inX1_find hown hK hP 0 rfl rfl 2 (by decide) (hts _ fX1_find_7) (fun _ h9 => h9) rfl dX1_find_170 ?_
                        refine lv_bipush (v := 64) hx hb dX1_find_173 (by decide) ?_
                        refine lv_iload_n hx hb dX1_find_175 rfl (lv_at hl 5 rfl) ?_
                        refine lv_imul hx hb dX1_find_176 ?_
                        refine lv_iload_n hx hb dX1_find_177 rfl (lv_at hl 3 rfl) ?_
                        refine lv_iadd hx hb dX1_find_178 ?_
                        refine tw_ld hx hb hK hP 1 0 rfl rfl (n := 64 * k + i) (tw_ix' k i) (by omega) (by decide) dX1_find_179 ?_
                        refine tw_st hx hb hK hP hD hS 1 0 rfl rfl (n := 64 * k + i) (v := (va_up F (64 * a + i) x0) (64 * k + i)) (rfl) (rfl) (by omega) (by decide) dX1_find_180 (fun H locs hP hD hS => ?_)
                        have hP : va_P D vwCl (tw_M cA cB h0 a0 b0 k (va_up (va_up F (64 * a + i) (x0)) (64 * k + i) ((va_up F (64 * a + i) x0) (64 * k + i))) g) H := hP
                        have hD : va_D A (tw_M cA cB h0 a0 b0 k (va_up (va_up F (64 * a + i) (x0)) (64 * k + i) ((va_up F (64 * a + i) x0) (64 * k + i))) g) := hD
                        rw [show va_up (va_up F (64 * a + i) (x0)) (64 * k + i) ((va_up F (64 * a + i) x0) (64 * k + i)) = va_up F (64 * a + i) x0 from tw_upsame _ _] at hP hD
                        exact hend _ _ _ _ dX1_find_181 hP hD hS
                      · exact absurd (nI_le (Nat.le_refl k) (by omega)) c_161
                · exact absurd (nI_le (Nat.le_refl k) (by omega)) c_95
              · exact absurd (nI_le (Nat.le_refl k) (by omega)) c_51
          · exact absurd (nI_le (Nat.le_refl k) (by omega)) c_33
    | succ n ih =>
      intro j ls hj hl
      refine lv_iload hx hb dX1_find_3 (lv_at hl 4 rfl) ?_
      refine lv_iload_n hx hb dX1_find_5 rfl (lv_at hl 2 rfl) ?_
      refine lv_aload_n hx hb dX1_find_6 rfl (lv_at hl 0 rfl) ?_
      refine tw_rM ⟨hx, hb, hml, hown, hts⟩ hK hP (c_X1_p l D cA cB h0 a0 b0 k F g ) (cwV 0 hts gX1_find_X1_p rfl rfl rfl kdX1_p ⟨Nat.le_of_ble_eq_true rfl, Nat.le_of_ble_eq_true rfl⟩) rfl hl.1 rfl (Nat.le_of_ble_eq_true rfl) dX1_find_7 ⟨Nat.zero_le _, Nat.zero_le _⟩ ?_
      refine lv_icmp_ge (tgt := 19) hx hb dX1_find_10 (by decide) (fun c_10 => ?_) (fun c_10 => ?_)
      · exact absurd c_10 (nI_ge ha (by omega))
      · refine lv_sipush (v := 256) hx hb dX1_find_13 (by decide) ?_
        refine lv_goto (tgt := 20) hx hb dX1_find_16 (by decide) ?_
        refine lv_icmp_ge (tgt := 205) hx hb dX1_find_20 (by decide) (fun c_20 => ?_) (fun c_20 => ?_)
        · exact absurd c_20 (nI_ge (b := 256) (by omega) (by omega))
        · refine lv_iconst (v := 0) hx hb dX1_find_23 (by decide) ?_
          refine lv_istore (lv' := [(5, .int 0), (0, .ref h0), (1, .int (nI i)), (2, .int (nI a)), (3, .int (nI k)), (4, .int (nI j))]) hx hb dX1_find_24 hl (by decide) rfl (fun ls hl => ?_)
          refine lv_iload hx hb dX1_find_26 (lv_at hl 0 rfl) ?_
          refine lv_iload_n hx hb dX1_find_28 rfl (lv_at hl 4 rfl) ?_
          refine lv_aload_n hx hb dX1_find_29 rfl (lv_at hl 1 rfl) ?_
          refine tw_rM ⟨hx, hb, hml, hown, hts⟩ hK hP (c_X1_p l D cA cB h0 a0 b0 k F g ) (cwV 0 hts gX1_find_X1_p rfl rfl rfl kdX1_p ⟨Nat.le_of_ble_eq_true rfl, Nat.le_of_ble_eq_true rfl⟩) rfl hl.1 rfl (Nat.le_of_ble_eq_true rfl) dX1_find_30 ⟨Nat.zero_le _, Nat.zero_le _⟩ ?_
          refine lv_icmp_ge (tgt := 42) hx hb dX1_find_33 (by decide) (fun c_33 => ?_) (fun c_33 => ?_)
          · refine lv_iconst (v := 1) hx hb dX1_find_42 (by decide) ?_
            refine lv_icmp_ge (tgt := 199) hx hb dX1_find_43 (by decide) (fun c_43 => ?_) (fun c_43 => ?_)
            · exact absurd c_43 (by decide)
            · refine lv_iload_n hx hb dX1_find_46 rfl (lv_at hl 4 rfl) ?_
              refine lv_aload_n hx hb dX1_find_47 rfl (lv_at hl 1 rfl) ?_
              refine tw_rM ⟨hx, hb, hml, hown, hts⟩ hK hP (c_X1_p l D cA cB h0 a0 b0 k F g ) (cwV 0 hts gX1_find_X1_p rfl rfl rfl kdX1_p ⟨Nat.le_of_ble_eq_true rfl, Nat.le_of_ble_eq_true rfl⟩) rfl hl.1 rfl (Nat.le_of_ble_eq_true rfl) dX1_find_48 ⟨Nat.zero_le _, Nat.zero_le _⟩ ?_
              refine lv_icmp_ge (tgt := 81) hx hb dX1_find_51 (by decide) (fun c_51 => ?_) (fun c_51 => ?_)
              · refine lv_iconst (v := 0) hx hb dX1_find_81 (by decide) ?_
                refine lv_istore (lv' := [(6, .int 0), (5, .int 0), (0, .ref h0), (1, .int (nI i)), (2, .int (nI a)), (3, .int (nI k)), (4, .int (nI j))]) hx hb dX1_find_82 hl (by decide) rfl (fun ls hl => ?_)
                refine lv_aload_n hx hb dX1_find_84 rfl (lv_at hl 2 rfl) ?_
                refine lv_iload_n hx hb dX1_find_85 rfl (lv_at hl 3 rfl) ?_
                refine lv_iload_n hx hb dX1_find_86 rfl (lv_at hl 4 rfl) ?_
                refine lv_iload hx hb dX1_find_87 (lv_at hl 6 rfl) ?_
                refine tw_topr (x' := tq_eb (BitVec.ofNat 8 j)) (tq_nI (by omega)) ?_
                refine lv_iload_n hx hb dX1_find_89 rfl (lv_at hl 5 rfl) ?_
                refine lv_iload_n hx hb dX1_find_90 rfl (lv_at hl 5 rfl) ?_
                refine lv_aload_n hx hb dX1_find_91 rfl (lv_at hl 2 rfl) ?_
                refine tw_rM ⟨hx, hb, hml, hown, hts⟩ hK hP (c_X1_p l D cA cB h0 a0 b0 k F g ) (cwV 0 hts gX1_find_X1_p rfl rfl rfl kdX1_p ⟨Nat.le_of_ble_eq_true rfl, Nat.le_of_ble_eq_true rfl⟩) rfl hl.1 rfl (Nat.le_of_ble_eq_true rfl) dX1_find_92 ⟨Nat.zero_le _, Nat.zero_le _⟩ ?_
                refine lv_icmp_ge (tgt := 103) hx hb dX1_find_95 (by decide) (fun c_95 => ?_) (fun c_95 => ?_)
                · refine lv_iload hx hb dX1_find_103 (lv_at hl 1 rfl) ?_
                  refine tw_rM ⟨hx, hb, hml, hown, hts⟩ hK hP (c_X1_wouldFit1 l D cA cB h0 a0 b0 k F g i a (BitVec.ofNat 8 j) hi ha hk) (cwV 5 hts gX1_find_X1_wouldFit rfl rfl rfl kdX1_wouldFit ⟨Nat.le_of_ble_eq_true rfl, Nat.le_of_ble_eq_true rfl⟩) rfl hl.1 rfl (Nat.le_of_ble_eq_true rfl) dX1_find_105 ⟨Nat.zero_le _, Nat.zero_le _⟩ ?_
                  refine lv_if_eq (tgt := 182) hx hb dX1_find_108 (by decide) (fun c_108 => ?_) (fun c_108 => ?_)
                  · refine lv_iload_n hx hb dX1_find_182 rfl (lv_at hl 5 rfl) ?_
                    refine lv_aload_n hx hb dX1_find_183 rfl (lv_at hl 2 rfl) ?_
                    refine tw_rM ⟨hx, hb, hml, hown, hts⟩ hK hP (c_X1_p l D cA cB h0 a0 b0 k F g ) (cwV 0 hts gX1_find_X1_p rfl rfl rfl kdX1_p ⟨Nat.le_of_ble_eq_true rfl, Nat.le_of_ble_eq_true rfl⟩) rfl hl.1 rfl (Nat.le_of_ble_eq_true rfl) dX1_find_184 ⟨Nat.zero_le _, Nat.zero_le _⟩ ?_
                    refine lv_icmp_ge (tgt := 193) hx hb dX1_find_187 (by decide) (fun c_187 => ?_) (fun c_187 => ?_)
                    · refine lv_iinc (v := 1) (lv' := [(5, .int 1), (6, .int 0), (0, .ref h0), (1, .int (nI i)), (2, .int (nI a)), (3, .int (nI k)), (4, .int (nI j))]) hx hb dX1_find_193 hl (k := 1) rfl (by decide) (by decide) rfl (fun ls hl => ?_)
                      refine lv_goto (tgt := 26) hx hb dX1_find_196 (by decide) ?_
                      refine lv_iload hx hb dX1_find_26 (lv_at hl 0 rfl) ?_
                      refine lv_iload_n hx hb dX1_find_28 rfl (lv_at hl 5 rfl) ?_
                      refine lv_aload_n hx hb dX1_find_29 rfl (lv_at hl 2 rfl) ?_
                      refine tw_rM ⟨hx, hb, hml, hown, hts⟩ hK hP (c_X1_p l D cA cB h0 a0 b0 k F g ) (cwV 0 hts gX1_find_X1_p rfl rfl rfl kdX1_p ⟨Nat.le_of_ble_eq_true rfl, Nat.le_of_ble_eq_true rfl⟩) rfl hl.1 rfl (Nat.le_of_ble_eq_true rfl) dX1_find_30 ⟨Nat.zero_le _, Nat.zero_le _⟩ ?_
                      refine lv_icmp_ge (tgt := 42) hx hb dX1_find_33 (by decide) (fun c_33 => ?_) (fun c_33 => ?_)
                      · refine lv_iconst (v := 1) hx hb dX1_find_42 (by decide) ?_
                        refine lv_icmp_ge (tgt := 199) hx hb dX1_find_43 (by decide) (fun c_43 => ?_) (fun c_43 => ?_)
                        · refine lv_iinc (v := nI (j + 1)) (lv' := [(4, .int (nI (j + 1))), (5, .int 1), (6, .int 0), (0, .ref h0), (1, .int (nI i)), (2, .int (nI a)), (3, .int (nI k))]) hx hb dX1_find_199 hl (k := 6) rfl (nI_1 j) (by decide) rfl (fun ls hl => ?_)
                          refine lv_goto (tgt := 3) hx hb dX1_find_202 (by decide) ?_
                          exact ih (j + 1) ls (by omega) (lv_sub hl [3, 4, 5, 6, 0] rfl)
                        · exact absurd (by decide) c_43
                      · exact absurd (nI_le (Nat.le_refl k) (by omega)) c_33
                    · exact absurd (nI_le (Nat.le_refl k) (by omega)) c_187
                  · have e9 := hu _ (tw_bI1.mp c_108)
                    have e8 := congrArg BitVec.toNat e9
                    rw [BitVec.toNat_ofNat, Nat.mod_eq_of_lt (by omega)] at e8
                    omega
                · exact absurd (nI_le (Nat.le_refl k) (by omega)) c_95
              · exact absurd (nI_le (Nat.le_refl k) (by omega)) c_51
          · exact absurd (nI_le (Nat.le_refl k) (by omega)) c_33
  refine lv_iconst (v := 0) hx hb dX1_find_0 (by decide) ?_
  refine lv_istore (lv' := [(4, .int 0), (0, .ref h0), (1, .int (nI i)), (2, .int (nI a)), (3, .int (nI k))]) hx hb dX1_find_1 hl (by decide) rfl (fun ls hl => ?_)
  exact loop _ 0 ls (Nat.zero_add _) (lv_sub hl [1, 2, 3, 4, 0] rfl)
set_option maxHeartbeats 4000000 in
set_option maxRecDepth 100000 in
theorem c_X1_find2 (l : Launch) (D : va_G) (cA cB : ClassId) (h0 a0 b0 k : Nat) (F : Nat → BitVec 8) (g : Nat → Bool) (sz : Nat) (i a : Nat) (b : Nat) (x0 : BitVec 8) (hi : i < 64) (ha : a < k) (hb9 : b < k) (hk : k ≤ 14) (hs : tw_wf k g (tq_col F i) (tq_xs (tw_ml g (tq_col F i)) k ^^^ x0 ^^^ tw_zz k g F i x0) (tq_qs (tw_ml g (tq_col F i)) k ^^^ tq_p a x0 ^^^ tq_p b (tw_zz k g F i x0)) false = true) (hu : ∀ x, tw_wf k g (tq_col F i) (tq_xs (tw_ml g (tq_col F i)) k ^^^ x ^^^ tw_zz k g F i x) (tq_qs (tw_ml g (tq_col F i)) k ^^^ tq_p a x ^^^ tq_p b (tw_zz k g F i x)) false = true → x = x0) : Met l yX1_find wsX1_find rmX1_find (va_Pc [.ref h0, .int (nI i), .int (nI a), .int (nI b)] (tw_Pw D (tw_M cA cB h0 a0 b0 k F g) (tw_tM cA cB) sz)) (va_Qv (fun _ : Unit => True) (tw_Qw D (fun _ : Unit => (tw_M cA cB h0 a0 b0 k (va_up (va_up F (64 * a + i) x0) (64 * b + i) (tw_zz k g F i x0)) g)) (tw_tM cA cB) (va_A (tw_M cA cB h0 a0 b0 k F g) sz)) (va_A (tw_M cA cB h0 a0 b0 k F g) sz)) 0 0 (va_A (tw_M cA cB h0 a0 b0 k F g) sz) := by
  refine tw_metV (by decide) rfl rfl (Nat.le_of_ble_eq_true rfl) ?_
  intro p e s m args below meth c Q ls A hx hb hml hown hts hP hK hD hS hA hend hl
  have hown : s.vm.findClass RX1 = some m.cls := hown
  have hl : lv_has ls 7 [(0, .ref h0), (1, .int (nI i)), (2, .int (nI a)), (3, .int (nI b))] := hl
  have hJ : x0.toNat < 2 ^ 8 := x0.isLt
  have loop : ∀ (n j : Nat) (ls : Array Slot), j + n = x0.toNat → lv_has ls 7 [(0, .ref h0), (1, .int (nI i)), (2, .int (nI a)), (3, .int (nI b)), (4, .int (nI j))] → W p l e rmX1_find s m args below meth c s.heap [] 0 0 Q (F0 m 3 ls []) := by
    intro n
    induction n with
    | zero =>
      intro j ls hj hl
      have hjx : BitVec.ofNat 8 j = x0 := by apply BitVec.eq_of_toNat_eq; rw [BitVec.toNat_ofNat, Nat.mod_eq_of_lt (by omega)]; exact hj
      refine lv_iload hx hb dX1_find_3 (lv_at hl 4 rfl) ?_
      refine lv_iload_n hx hb dX1_find_5 rfl (lv_at hl 2 rfl) ?_
      refine lv_aload_n hx hb dX1_find_6 rfl (lv_at hl 0 rfl) ?_
      refine tw_rM ⟨hx, hb, hml, hown, hts⟩ hK hP (c_X1_p l D cA cB h0 a0 b0 k F g ) (cwV 0 hts gX1_find_X1_p rfl rfl rfl kdX1_p ⟨Nat.le_of_ble_eq_true rfl, Nat.le_of_ble_eq_true rfl⟩) rfl hl.1 rfl (Nat.le_of_ble_eq_true rfl) dX1_find_7 ⟨Nat.zero_le _, Nat.zero_le _⟩ ?_
      refine lv_icmp_ge (tgt := 19) hx hb dX1_find_10 (by decide) (fun c_10 => ?_) (fun c_10 => ?_)
      · exact absurd c_10 (nI_ge ha (by omega))
      · refine lv_sipush (v := 256) hx hb dX1_find_13 (by decide) ?_
        refine lv_goto (tgt := 20) hx hb dX1_find_16 (by decide) ?_
        refine lv_icmp_ge (tgt := 205) hx hb dX1_find_20 (by decide) (fun c_20 => ?_) (fun c_20 => ?_)
        · exact absurd c_20 (nI_ge (b := 256) (by omega) (by omega))
        · refine lv_iconst (v := 0) hx hb dX1_find_23 (by decide) ?_
          refine lv_istore (lv' := [(5, .int 0), (0, .ref h0), (1, .int (nI i)), (2, .int (nI a)), (3, .int (nI b)), (4, .int (nI j))]) hx hb dX1_find_24 hl (by decide) rfl (fun ls hl => ?_)
          refine lv_iload hx hb dX1_find_26 (lv_at hl 0 rfl) ?_
          refine lv_iload_n hx hb dX1_find_28 rfl (lv_at hl 4 rfl) ?_
          refine lv_aload_n hx hb dX1_find_29 rfl (lv_at hl 1 rfl) ?_
          refine tw_rM ⟨hx, hb, hml, hown, hts⟩ hK hP (c_X1_p l D cA cB h0 a0 b0 k F g ) (cwV 0 hts gX1_find_X1_p rfl rfl rfl kdX1_p ⟨Nat.le_of_ble_eq_true rfl, Nat.le_of_ble_eq_true rfl⟩) rfl hl.1 rfl (Nat.le_of_ble_eq_true rfl) dX1_find_30 ⟨Nat.zero_le _, Nat.zero_le _⟩ ?_
          refine lv_icmp_ge (tgt := 42) hx hb dX1_find_33 (by decide) (fun c_33 => ?_) (fun c_33 => ?_)
          · exact absurd c_33 (nI_ge hb9 (by omega))
          · refine lv_sipush (v := 256) hx hb dX1_find_36 (by decide) ?_
            refine lv_goto (tgt := 43) hx hb dX1_find_39 (by decide) ?_
            refine lv_icmp_ge (tgt := 199) hx hb dX1_find_43 (by decide) (fun c_43 => ?_) (fun c_43 => ?_)
            · exact absurd c_43 (by decide)
            · refine lv_iload_n hx hb dX1_find_46 rfl (lv_at hl 4 rfl) ?_
              refine lv_aload_n hx hb dX1_find_47 rfl (lv_at hl 1 rfl) ?_
              refine tw_rM ⟨hx, hb, hml, hown, hts⟩ hK hP (c_X1_p l D cA cB h0 a0 b0 k F g ) (cwV 0 hts gX1_find_X1_p rfl rfl rfl kdX1_p ⟨Nat.le_of_ble_eq_true rfl, Nat.le_of_ble_eq_true rfl⟩) rfl hl.1 rfl (Nat.le_of_ble_eq_true rfl) dX1_find_48 ⟨Nat.zero_le _, Nat.zero_le _⟩ ?_
              refine lv_icmp_ge (tgt := 81) hx hb dX1_find_51 (by decide) (fun c_51 => ?_) (fun c_51 => ?_)
              · exact absurd c_51 (nI_ge hb9 (by omega))
              · refine lv_aload_n hx hb dX1_find_54 rfl (lv_at hl 1 rfl) ?_
                refine lv_iload_n hx hb dX1_find_55 rfl (lv_at hl 2 rfl) ?_
                refine lv_iconst (v := 0) hx hb dX1_find_56 (by decide) ?_
                refine tw_rM ⟨hx, hb, hml, hown, hts⟩ hK hP (c_X1_sumAt l D cA cB h0 a0 b0 k F g i false hi hk) (cwV 2 hts gX1_find_X1_sumAt rfl rfl rfl kdX1_sumAt ⟨Nat.le_of_ble_eq_true rfl, Nat.le_of_ble_eq_true rfl⟩) rfl hl.1 rfl (Nat.le_of_ble_eq_true rfl) dX1_find_57 ⟨Nat.zero_le _, Nat.zero_le _⟩ ?_
                refine lv_iload hx hb dX1_find_60 (lv_at hl 5 rfl) ?_
                refine tw_topr (x' := tq_eb (BitVec.ofNat 8 j)) (tq_nI (by omega)) ?_
                refine lv_ixor hx hb dX1_find_62 ?_
                refine lv_aload_n hx hb dX1_find_63 rfl (lv_at hl 1 rfl) ?_
                refine va_get (D := D) (ci := 1) (v := .ref a0) (C := RX1) (T := TX1) (N := 4) hx hb hts inX1_find hown hK hP 0 rfl rfl 2 (by decide) (hts _ fX1_find_7) (fun _ h9 => h9) rfl dX1_find_64 ?_
                refine lv_bipush (v := 64) hx hb dX1_find_67 (by decide) ?_
                refine lv_aload_n hx hb dX1_find_69 rfl (lv_at hl 1 rfl) ?_
                refine tw_rM ⟨hx, hb, hml, hown, hts⟩ hK hP (c_X1_p l D cA cB h0 a0 b0 k F g ) (cwV 0 hts gX1_find_X1_p rfl rfl rfl kdX1_p ⟨Nat.le_of_ble_eq_true rfl, Nat.le_of_ble_eq_true rfl⟩) rfl hl.1 rfl (Nat.le_of_ble_eq_true rfl) dX1_find_70 ⟨Nat.zero_le _, Nat.zero_le _⟩ ?_
                refine lv_imul hx hb dX1_find_73 ?_
                refine lv_iload_n hx hb dX1_find_74 rfl (lv_at hl 2 rfl) ?_
                refine lv_iadd hx hb dX1_find_75 ?_
                refine tw_ld hx hb hK hP 1 0 rfl rfl (n := 64 * k + i) (tw_ix' k i) (by omega) (by decide) dX1_find_76 ?_
                refine lv_ixor hx hb dX1_find_77 ?_
                refine lv_goto (tgt := 82) hx hb dX1_find_78 (by decide) ?_
                refine tw_topr (x' := tq_eb (tw_zz k g F i (BitVec.ofNat 8 j))) (by rw [tq_eb_xor, tq_eb_xor]; rfl) ?_
                refine lv_istore (lv' := [(6, .int (tq_eb (tw_zz k g F i (BitVec.ofNat 8 j)))), (5, .int 0), (0, .ref h0), (1, .int (nI i)), (2, .int (nI a)), (3, .int (nI b)), (4, .int (nI j))]) hx hb dX1_find_82 hl (by decide) rfl (fun ls hl => ?_)
                refine lv_aload_n hx hb dX1_find_84 rfl (lv_at hl 2 rfl) ?_
                refine lv_iload_n hx hb dX1_find_85 rfl (lv_at hl 3 rfl) ?_
                refine lv_iload_n hx hb dX1_find_86 rfl (lv_at hl 4 rfl) ?_
                refine lv_iload hx hb dX1_find_87 (lv_at hl 6 rfl) ?_
                refine tw_topr (x' := tq_eb (BitVec.ofNat 8 j)) (tq_nI (by omega)) ?_
                refine lv_iload_n hx hb dX1_find_89 rfl (lv_at hl 5 rfl) ?_
                refine lv_iload_n hx hb dX1_find_90 rfl (lv_at hl 5 rfl) ?_
                refine lv_aload_n hx hb dX1_find_91 rfl (lv_at hl 2 rfl) ?_
                refine tw_rM ⟨hx, hb, hml, hown, hts⟩ hK hP (c_X1_p l D cA cB h0 a0 b0 k F g ) (cwV 0 hts gX1_find_X1_p rfl rfl rfl kdX1_p ⟨Nat.le_of_ble_eq_true rfl, Nat.le_of_ble_eq_true rfl⟩) rfl hl.1 rfl (Nat.le_of_ble_eq_true rfl) dX1_find_92 ⟨Nat.zero_le _, Nat.zero_le _⟩ ?_
                refine lv_icmp_ge (tgt := 103) hx hb dX1_find_95 (by decide) (fun c_95 => ?_) (fun c_95 => ?_)
                · exact absurd c_95 (nI_ge hb9 (by omega))
                · refine lv_iload hx hb dX1_find_98 (lv_at hl 0 rfl) ?_
                  refine lv_goto (tgt := 105) hx hb dX1_find_100 (by decide) ?_
                  refine tw_rM ⟨hx, hb, hml, hown, hts⟩ hK hP (c_X1_wouldFit2 l D cA cB h0 a0 b0 k F g i a (BitVec.ofNat 8 j) b (tw_zz k g F i (BitVec.ofNat 8 j)) hi ha hb9 hk) (cwV 5 hts gX1_find_X1_wouldFit rfl rfl rfl kdX1_wouldFit ⟨Nat.le_of_ble_eq_true rfl, Nat.le_of_ble_eq_true rfl⟩) rfl hl.1 rfl (Nat.le_of_ble_eq_true rfl) dX1_find_105 ⟨Nat.zero_le _, Nat.zero_le _⟩ ?_
                  refine lv_if_eq (tgt := 182) hx hb dX1_find_108 (by decide) (fun c_108 => ?_) (fun c_108 => ?_)
                  · rw [tw_bI0, hjx, hs] at c_108
                    exact absurd c_108 (by decide)
                  · refine lv_aload_n hx hb dX1_find_111 rfl (lv_at hl 2 rfl) ?_
                    refine va_get (D := D) (ci := 1) (v := .ref a0) (C := RX1) (T := TX1) (N := 4) hx hb hts inX1_find hown hK hP 0 rfl rfl 2 (by decide) (hts _ fX1_find_7) (fun _ h9 => h9) rfl dX1_find_112 ?_
                    refine lv_bipush (v := 64) hx hb dX1_find_115 (by decide) ?_
                    refine lv_iload_n hx hb dX1_find_117 rfl (lv_at hl 4 rfl) ?_
                    refine lv_imul hx hb dX1_find_118 ?_
                    refine lv_iload_n hx hb dX1_find_119 rfl (lv_at hl 3 rfl) ?_
                    refine lv_iadd hx hb dX1_find_120 ?_
                    refine tw_topr (x' := nI (64 * a + i)) (tw_ix' a i) ?_
                    refine lv_iload_n hx hb dX1_find_121 rfl (lv_at hl 4 rfl) ?_
                    refine lv_aload_n hx hb dX1_find_122 rfl (lv_at hl 2 rfl) ?_
                    refine tw_rM ⟨hx, hb, hml, hown, hts⟩ hK hP (c_X1_p l D cA cB h0 a0 b0 k F g ) (cwV 0 hts gX1_find_X1_p rfl rfl rfl kdX1_p ⟨Nat.le_of_ble_eq_true rfl, Nat.le_of_ble_eq_true rfl⟩) rfl hl.1 rfl (Nat.le_of_ble_eq_true rfl) dX1_find_123 ⟨Nat.zero_le _, Nat.zero_le _⟩ ?_
                    refine lv_icmp_ge (tgt := 134) hx hb dX1_find_126 (by decide) (fun c_126 => ?_) (fun c_126 => ?_)
                    · exact absurd c_126 (nI_ge ha (by omega))
                    · refine lv_iload hx hb dX1_find_129 (lv_at hl 6 rfl) ?_
                      refine lv_goto (tgt := 145) hx hb dX1_find_131 (by decide) ?_
                      refine tw_st hx hb hK hP hD hS 1 0 rfl rfl (n := 64 * a + i) (v := x0) (rfl) (by rw [tq_ebN]; congr 1) (by omega) (by decide) dX1_find_145 (fun H locs hP hD hS => ?_)
                      have hP : va_P D vwCl (tw_M cA cB h0 a0 b0 k (va_up F (64 * a + i) (x0)) g) H := hP
                      have hD : va_D A (tw_M cA cB h0 a0 b0 k (va_up F (64 * a + i) (x0)) g) := hD
                      refine lv_aload_n hx hb dX1_find_146 rfl (lv_at hl 2 rfl) ?_
                      refine va_get (D := D) (ci := 1) (v := .ref a0) (C := RX1) (T := TX1) (N := 4) hx hb hts inX1_find hown hK hP 0 rfl rfl 2 (by decide) (hts _ fX1_find_7) (fun _ h9 => h9) rfl dX1_find_147 ?_
                      refine lv_bipush (v := 64) hx hb dX1_find_150 (by decide) ?_
                      refine lv_iload_n hx hb dX1_find_152 rfl (lv_at hl 5 rfl) ?_
                      refine lv_imul hx hb dX1_find_153 ?_
                      refine lv_iload_n hx hb dX1_find_154 rfl (lv_at hl 3 rfl) ?_
                      refine lv_iadd hx hb dX1_find_155 ?_
                      refine tw_topr (x' := nI (64 * b + i)) (tw_ix' b i) ?_
                      refine lv_iload_n hx hb dX1_find_156 rfl (lv_at hl 5 rfl) ?_
                      refine lv_aload_n hx hb dX1_find_157 rfl (lv_at hl 2 rfl) ?_
                      refine tw_rM ⟨hx, hb, hml, hown, hts⟩ hK hP (c_X1_p l D cA cB h0 a0 b0 k (va_up F (64 * a + i) (x0)) g ) (cwV 0 hts gX1_find_X1_p rfl rfl rfl kdX1_p ⟨Nat.le_of_ble_eq_true rfl, Nat.le_of_ble_eq_true rfl⟩) rfl hl.1 rfl (Nat.le_of_ble_eq_true rfl) dX1_find_158 ⟨Nat.zero_le _, Nat.zero_le _⟩ ?_
                      refine lv_icmp_ge (tgt := 169) hx hb dX1_find_161 (by decide) (fun c_161 => ?_) (fun c_161 => ?_)
                      · exact absurd c_161 (nI_ge hb9 (by omega))
                      · refine lv_iload hx hb dX1_find_164 (lv_at hl 0 rfl) ?_
                        refine lv_goto (tgt := 180) hx hb dX1_find_166 (by decide) ?_
                        refine tw_st hx hb hK hP hD hS 1 0 rfl rfl (n := 64 * b + i) (v := tw_zz k g F i x0) (rfl) (by rw [hjx]) (by omega) (by decide) dX1_find_180 (fun H locs hP hD hS => ?_)
                        have hP : va_P D vwCl (tw_M cA cB h0 a0 b0 k (va_up (va_up F (64 * a + i) (x0)) (64 * b + i) (tw_zz k g F i x0)) g) H := hP
                        have hD : va_D A (tw_M cA cB h0 a0 b0 k (va_up (va_up F (64 * a + i) (x0)) (64 * b + i) (tw_zz k g F i x0)) g) := hD
                        exact hend _ _ _ _ dX1_find_181 hP hD hS
    | succ n ih =>
      intro j ls hj hl
      refine lv_iload hx hb dX1_find_3 (lv_at hl 4 rfl) ?_
      refine lv_iload_n hx hb dX1_find_5 rfl (lv_at hl 2 rfl) ?_
      refine lv_aload_n hx hb dX1_find_6 rfl (lv_at hl 0 rfl) ?_
      refine tw_rM ⟨hx, hb, hml, hown, hts⟩ hK hP (c_X1_p l D cA cB h0 a0 b0 k F g ) (cwV 0 hts gX1_find_X1_p rfl rfl rfl kdX1_p ⟨Nat.le_of_ble_eq_true rfl, Nat.le_of_ble_eq_true rfl⟩) rfl hl.1 rfl (Nat.le_of_ble_eq_true rfl) dX1_find_7 ⟨Nat.zero_le _, Nat.zero_le _⟩ ?_
      refine lv_icmp_ge (tgt := 19) hx hb dX1_find_10 (by decide) (fun c_10 => ?_) (fun c_10 => ?_)
      · exact absurd c_10 (nI_ge ha (by omega))
      · refine lv_sipush (v := 256) hx hb dX1_find_13 (by decide) ?_
        refine lv_goto (tgt := 20) hx hb dX1_find_16 (by decide) ?_
        refine lv_icmp_ge (tgt := 205) hx hb dX1_find_20 (by decide) (fun c_20 => ?_) (fun c_20 => ?_)
        · exact absurd c_20 (nI_ge (b := 256) (by omega) (by omega))
        · refine lv_iconst (v := 0) hx hb dX1_find_23 (by decide) ?_
          refine lv_istore (lv' := [(5, .int 0), (0, .ref h0), (1, .int (nI i)), (2, .int (nI a)), (3, .int (nI b)), (4, .int (nI j))]) hx hb dX1_find_24 hl (by decide) rfl (fun ls hl => ?_)
          refine lv_iload hx hb dX1_find_26 (lv_at hl 0 rfl) ?_
          refine lv_iload_n hx hb dX1_find_28 rfl (lv_at hl 4 rfl) ?_
          refine lv_aload_n hx hb dX1_find_29 rfl (lv_at hl 1 rfl) ?_
          refine tw_rM ⟨hx, hb, hml, hown, hts⟩ hK hP (c_X1_p l D cA cB h0 a0 b0 k F g ) (cwV 0 hts gX1_find_X1_p rfl rfl rfl kdX1_p ⟨Nat.le_of_ble_eq_true rfl, Nat.le_of_ble_eq_true rfl⟩) rfl hl.1 rfl (Nat.le_of_ble_eq_true rfl) dX1_find_30 ⟨Nat.zero_le _, Nat.zero_le _⟩ ?_
          refine lv_icmp_ge (tgt := 42) hx hb dX1_find_33 (by decide) (fun c_33 => ?_) (fun c_33 => ?_)
          · exact absurd c_33 (nI_ge hb9 (by omega))
          · refine lv_sipush (v := 256) hx hb dX1_find_36 (by decide) ?_
            refine lv_goto (tgt := 43) hx hb dX1_find_39 (by decide) ?_
            refine lv_icmp_ge (tgt := 199) hx hb dX1_find_43 (by decide) (fun c_43 => ?_) (fun c_43 => ?_)
            · exact absurd c_43 (by decide)
            · refine lv_iload_n hx hb dX1_find_46 rfl (lv_at hl 4 rfl) ?_
              refine lv_aload_n hx hb dX1_find_47 rfl (lv_at hl 1 rfl) ?_
              refine tw_rM ⟨hx, hb, hml, hown, hts⟩ hK hP (c_X1_p l D cA cB h0 a0 b0 k F g ) (cwV 0 hts gX1_find_X1_p rfl rfl rfl kdX1_p ⟨Nat.le_of_ble_eq_true rfl, Nat.le_of_ble_eq_true rfl⟩) rfl hl.1 rfl (Nat.le_of_ble_eq_true rfl) dX1_find_48 ⟨Nat.zero_le _, Nat.zero_le _⟩ ?_
              refine lv_icmp_ge (tgt := 81) hx hb dX1_find_51 (by decide) (fun c_51 => ?_) (fun c_51 => ?_)
              · exact absurd c_51 (nI_ge hb9 (by omega))
              · refine lv_aload_n hx hb dX1_find_54 rfl (lv_at hl 1 rfl) ?_
                refine lv_iload_n hx hb dX1_find_55 rfl (lv_at hl 2 rfl) ?_
                refine lv_iconst (v := 0) hx hb dX1_find_56 (by decide) ?_
                refine tw_rM ⟨hx, hb, hml, hown, hts⟩ hK hP (c_X1_sumAt l D cA cB h0 a0 b0 k F g i false hi hk) (cwV 2 hts gX1_find_X1_sumAt rfl rfl rfl kdX1_sumAt ⟨Nat.le_of_ble_eq_true rfl, Nat.le_of_ble_eq_true rfl⟩) rfl hl.1 rfl (Nat.le_of_ble_eq_true rfl) dX1_find_57 ⟨Nat.zero_le _, Nat.zero_le _⟩ ?_
                refine lv_iload hx hb dX1_find_60 (lv_at hl 5 rfl) ?_
                refine tw_topr (x' := tq_eb (BitVec.ofNat 8 j)) (tq_nI (by omega)) ?_
                refine lv_ixor hx hb dX1_find_62 ?_
                refine lv_aload_n hx hb dX1_find_63 rfl (lv_at hl 1 rfl) ?_
                refine va_get (D := D) (ci := 1) (v := .ref a0) (C := RX1) (T := TX1) (N := 4) hx hb hts inX1_find hown hK hP 0 rfl rfl 2 (by decide) (hts _ fX1_find_7) (fun _ h9 => h9) rfl dX1_find_64 ?_
                refine lv_bipush (v := 64) hx hb dX1_find_67 (by decide) ?_
                refine lv_aload_n hx hb dX1_find_69 rfl (lv_at hl 1 rfl) ?_
                refine tw_rM ⟨hx, hb, hml, hown, hts⟩ hK hP (c_X1_p l D cA cB h0 a0 b0 k F g ) (cwV 0 hts gX1_find_X1_p rfl rfl rfl kdX1_p ⟨Nat.le_of_ble_eq_true rfl, Nat.le_of_ble_eq_true rfl⟩) rfl hl.1 rfl (Nat.le_of_ble_eq_true rfl) dX1_find_70 ⟨Nat.zero_le _, Nat.zero_le _⟩ ?_
                refine lv_imul hx hb dX1_find_73 ?_
                refine lv_iload_n hx hb dX1_find_74 rfl (lv_at hl 2 rfl) ?_
                refine lv_iadd hx hb dX1_find_75 ?_
                refine tw_ld hx hb hK hP 1 0 rfl rfl (n := 64 * k + i) (tw_ix' k i) (by omega) (by decide) dX1_find_76 ?_
                refine lv_ixor hx hb dX1_find_77 ?_
                refine lv_goto (tgt := 82) hx hb dX1_find_78 (by decide) ?_
                refine tw_topr (x' := tq_eb (tw_zz k g F i (BitVec.ofNat 8 j))) (by rw [tq_eb_xor, tq_eb_xor]; rfl) ?_
                refine lv_istore (lv' := [(6, .int (tq_eb (tw_zz k g F i (BitVec.ofNat 8 j)))), (5, .int 0), (0, .ref h0), (1, .int (nI i)), (2, .int (nI a)), (3, .int (nI b)), (4, .int (nI j))]) hx hb dX1_find_82 hl (by decide) rfl (fun ls hl => ?_)
                refine lv_aload_n hx hb dX1_find_84 rfl (lv_at hl 2 rfl) ?_
                refine lv_iload_n hx hb dX1_find_85 rfl (lv_at hl 3 rfl) ?_
                refine lv_iload_n hx hb dX1_find_86 rfl (lv_at hl 4 rfl) ?_
                refine lv_iload hx hb dX1_find_87 (lv_at hl 6 rfl) ?_
                refine tw_topr (x' := tq_eb (BitVec.ofNat 8 j)) (tq_nI (by omega)) ?_
                refine lv_iload_n hx hb dX1_find_89 rfl (lv_at hl 5 rfl) ?_
                refine lv_iload_n hx hb dX1_find_90 rfl (lv_at hl 5 rfl) ?_
                refine lv_aload_n hx hb dX1_find_91 rfl (lv_at hl 2 rfl) ?_
                refine tw_rM ⟨hx, hb, hml, hown, hts⟩ hK hP (c_X1_p l D cA cB h0 a0 b0 k F g ) (cwV 0 hts gX1_find_X1_p rfl rfl rfl kdX1_p ⟨Nat.le_of_ble_eq_true rfl, Nat.le_of_ble_eq_true rfl⟩) rfl hl.1 rfl (Nat.le_of_ble_eq_true rfl) dX1_find_92 ⟨Nat.zero_le _, Nat.zero_le _⟩ ?_
                refine lv_icmp_ge (tgt := 103) hx hb dX1_find_95 (by decide) (fun c_95 => ?_) (fun c_95 => ?_)
                · exact absurd c_95 (nI_ge hb9 (by omega))
                · refine lv_iload hx hb dX1_find_98 (lv_at hl 0 rfl) ?_
                  refine lv_goto (tgt := 105) hx hb dX1_find_100 (by decide) ?_
                  refine tw_rM ⟨hx, hb, hml, hown, hts⟩ hK hP (c_X1_wouldFit2 l D cA cB h0 a0 b0 k F g i a (BitVec.ofNat 8 j) b (tw_zz k g F i (BitVec.ofNat 8 j)) hi ha hb9 hk) (cwV 5 hts gX1_find_X1_wouldFit rfl rfl rfl kdX1_wouldFit ⟨Nat.le_of_ble_eq_true rfl, Nat.le_of_ble_eq_true rfl⟩) rfl hl.1 rfl (Nat.le_of_ble_eq_true rfl) dX1_find_105 ⟨Nat.zero_le _, Nat.zero_le _⟩ ?_
                  refine lv_if_eq (tgt := 182) hx hb dX1_find_108 (by decide) (fun c_108 => ?_) (fun c_108 => ?_)
                  · refine lv_iload_n hx hb dX1_find_182 rfl (lv_at hl 5 rfl) ?_
                    refine lv_aload_n hx hb dX1_find_183 rfl (lv_at hl 2 rfl) ?_
                    refine tw_rM ⟨hx, hb, hml, hown, hts⟩ hK hP (c_X1_p l D cA cB h0 a0 b0 k F g ) (cwV 0 hts gX1_find_X1_p rfl rfl rfl kdX1_p ⟨Nat.le_of_ble_eq_true rfl, Nat.le_of_ble_eq_true rfl⟩) rfl hl.1 rfl (Nat.le_of_ble_eq_true rfl) dX1_find_184 ⟨Nat.zero_le _, Nat.zero_le _⟩ ?_
                    refine lv_icmp_ge (tgt := 193) hx hb dX1_find_187 (by decide) (fun c_187 => ?_) (fun c_187 => ?_)
                    · exact absurd c_187 (nI_ge hb9 (by omega))
                    · refine lv_goto (tgt := 199) hx hb dX1_find_190 (by decide) ?_
                      refine lv_iinc (v := nI (j + 1)) (lv' := [(4, .int (nI (j + 1))), (6, .int (tq_eb (tw_zz k g F i (BitVec.ofNat 8 j)))), (5, .int 0), (0, .ref h0), (1, .int (nI i)), (2, .int (nI a)), (3, .int (nI b))]) hx hb dX1_find_199 hl (k := 6) rfl (nI_1 j) (by decide) rfl (fun ls hl => ?_)
                      refine lv_goto (tgt := 3) hx hb dX1_find_202 (by decide) ?_
                      exact ih (j + 1) ls (by omega) (lv_sub hl [3, 4, 5, 6, 0] rfl)
                  · have e9 := hu _ (tw_bI1.mp c_108)
                    have e8 := congrArg BitVec.toNat e9
                    rw [BitVec.toNat_ofNat, Nat.mod_eq_of_lt (by omega)] at e8
                    omega
  refine lv_iconst (v := 0) hx hb dX1_find_0 (by decide) ?_
  refine lv_istore (lv' := [(4, .int 0), (0, .ref h0), (1, .int (nI i)), (2, .int (nI a)), (3, .int (nI b))]) hx hb dX1_find_1 hl (by decide) rfl (fun ls hl => ?_)
  exact loop _ 0 ls (Nat.zero_add _) (lv_sub hl [1, 2, 3, 4, 0] rfl)
def tw_all (f : Nat → Bool) : Nat → Bool
  | 0 => true
  | n + 1 => tw_all f n && f n
def tw_aP (k : Nat) (g : Nat → Bool) (F : Nat → BitVec 8) (i : Nat) : Bool := decide (tq_xs (tw_ml g (tq_col F i)) k = F (64 * k + i))
def tw_aQ (k : Nat) (g : Nat → Bool) (F : Nat → BitVec 8) (i : Nat) : Bool := decide (tq_qs (tw_ml g (tq_col F i)) k = F (64 * (k + 1) + i))
def tw_aU (k : Nat) (g : Nat → Bool) (F : Nat → BitVec 8) (u i : Nat) : Bool := decide (tq_qs (tw_ml g (tq_col F i)) k ^^^ F (64 * (k + 1) + i) = tq_p u (tq_xs (tw_ml g (tq_col F i)) k ^^^ F (64 * k + i)))
def tw_fu2 (f : Nat → Bool) : Nat → Nat → Int32
  | _, 0 => -3
  | u, n + 1 => if f u then nI u else tw_fu2 f (u + 1) n
def tw_mo (k : Nat) (g : Nat → Bool) (F : Nat → BitVec 8) : Int32 :=
  if tw_all (tw_aP k g F) 64 || tw_all (tw_aQ k g F) 64 then (if tw_all (tw_aP k g F) 64 && tw_all (tw_aQ k g F) 64 then -2 else if tw_all (tw_aP k g F) 64 then nI (k + 1) else nI k)
  else tw_fu2 (fun u => tw_all (tw_aU k g F u) 64) 0 k
theorem tw_all_f {f : Nat → Bool} {j : Nat} (h : tw_all f j = false) : ∀ n, tw_all f (j + n) = false := by
  intro n
  induction n with
  | zero => exact h
  | succ n ih => show (tw_all f (j + n) && f (j + n)) = false; rw [ih]; rfl
abbrev rmX1_off : Room := { frames := 3, cells := 0, slots := 0, locals := 73 }
theorem inX1_off : ∀ w ∈ wsX10, w ∈ wsX1_off := fun _ h => List.mem_cons_of_mem _ (List.mem_append_right _ h)
theorem fX1_off_7 : Cond.fieldLink RX1 7 "TwinParityModel" "bytes" "[I" ∈ wsX1_off := List.mem_of_getElem? (i := 1) rfl
theorem fX1_off_13 : Cond.fieldLink RX1 13 "TwinParityModel" "lost" "[Z" ∈ wsX1_off := List.mem_of_getElem? (i := 7) rfl
theorem fX1_off_25 : Cond.fieldLink RX1 25 "TwinParityModel" "units" "I" ∈ wsX1_off := List.mem_of_getElem? (i := 12) rfl
theorem kdX1_off : yX1_off.cls = RX1 ∧ yX1_off.cls ≠ "java/lang/invoke/MethodHandle" ∧ yX1_off.cls ≠ "java/lang/invoke/VarHandle" ∧ (parseMethodDescriptor yX1_off.desc).map (fun d => d.parameters.length) = some 0 := by decide +kernel
set_option maxHeartbeats 4000000 in
set_option maxRecDepth 100000 in
theorem c_X1_off (l : Launch) (D : va_G) (cA cB : ClassId) (h0 a0 b0 k : Nat) (F : Nat → BitVec 8) (g : Nat → Bool) (hk : k ≤ 14) : Met l yX1_off wsX1_off rmX1_off (va_Pc [.ref h0] (tw_B D (tw_M cA cB h0 a0 b0 k F g) (tw_tM cA cB))) (vp_Si (fun r => r = tw_mo k g F)) 0 0 (fun _ => False) := by
  refine tw_metR (by decide) rfl rfl (Nat.le_of_ble_eq_true rfl) ?_
  intro p e s m args below meth c Q ls hx hb hml hown hts hP hK hend hl
  have hown : s.vm.findClass RX1 = some m.cls := hown
  have hl : lv_has ls 7 [(0, .ref h0)] := hl
  have inner : ∀ u : Nat, u < k → ∀ (n j : Nat) (ls : Array Slot), j + n = 64 → lv_has ls 7 [(0, .ref h0), (3, .int (nI u)), (4, .int (tw_bI (tw_all (tw_aU k g F u) j))), (5, .int (nI j))] → (∀ ls : Array Slot, lv_has ls 7 [(0, .ref h0), (3, .int (nI u)), (4, .int (tw_bI (tw_all (tw_aU k g F u) 64)))] → W p l e rmX1_off s m args below meth c s.heap [] 0 0 Q (F0 m 224 ls [])) → W p l e rmX1_off s m args below meth c s.heap [] 0 0 Q (F0 m 137 ls []) := by
    intro u hu
    intro n
    induction n with
    | zero =>
      intro j ls hj hl kont
      refine lv_iload hx hb dX1_off_137 (lv_at hl 3 rfl) ?_
      refine lv_bipush (v := 64) hx hb dX1_off_139 (by decide) ?_
      refine lv_icmp_ge (tgt := 224) hx hb dX1_off_141 (by decide) (fun c_141 => ?_) (fun c_141 => ?_)
      · rw [show j = 64 by omega] at hl
        exact kont ls (lv_sub hl [0, 1, 2] rfl)
      · exact absurd (nI_le (a := 64) (by omega) (by omega)) c_141
    | succ n ih =>
      intro j ls hj hl kont
      refine lv_iload hx hb dX1_off_137 (lv_at hl 3 rfl) ?_
      refine lv_bipush (v := 64) hx hb dX1_off_139 (by decide) ?_
      refine lv_icmp_ge (tgt := 224) hx hb dX1_off_141 (by decide) (fun c_141 => ?_) (fun c_141 => ?_)
      · exact absurd c_141 (nI_ge (b := 64) (by omega) (by omega))
      · refine lv_iload hx hb dX1_off_144 (lv_at hl 2 rfl) ?_
        refine lv_if_eq (tgt := 224) hx hb dX1_off_146 (by decide) (fun c_146 => ?_) (fun c_146 => ?_)
        · rw [tw_bI0] at c_146
          rw [show tw_all (tw_aU k g F u) j = tw_all (tw_aU k g F u) 64 from by rw [c_146, show 64 = j + (n + 1) by omega, tw_all_f c_146]] at hl
          exact kont ls (lv_sub hl [0, 1, 2] rfl)
        · rw [tw_bI1] at c_146
          refine lv_aload_n hx hb dX1_off_149 rfl (lv_at hl 0 rfl) ?_
          refine lv_iload hx hb dX1_off_150 (lv_at hl 3 rfl) ?_
          refine lv_iconst (v := 0) hx hb dX1_off_152 (by decide) ?_
          refine tw_rM ⟨hx, hb, hml, hown, hts⟩ hK hP (c_X1_sumAt l D cA cB h0 a0 b0 k F g j false (by omega) hk) (cwV 2 hts gX1_off_X1_sumAt rfl rfl rfl kdX1_sumAt ⟨Nat.le_of_ble_eq_true rfl, Nat.le_of_ble_eq_true rfl⟩) rfl hl.1 rfl (Nat.le_of_ble_eq_true rfl) dX1_off_153 ⟨Nat.zero_le _, Nat.zero_le _⟩ ?_
          refine lv_aload_n hx hb dX1_off_156 rfl (lv_at hl 0 rfl) ?_
          refine va_get (D := D) (ci := 1) (v := .ref a0) (C := RX1) (T := TX1) (N := 4) hx hb hts inX1_off hown hK hP 0 rfl rfl 2 (by decide) (hts _ fX1_off_7) (fun _ h9 => h9) rfl dX1_off_157 ?_
          refine lv_bipush (v := 64) hx hb dX1_off_160 (by decide) ?_
          refine lv_aload_n hx hb dX1_off_162 rfl (lv_at hl 0 rfl) ?_
          refine tw_rM ⟨hx, hb, hml, hown, hts⟩ hK hP (c_X1_p l D cA cB h0 a0 b0 k F g ) (cwV 0 hts gX1_off_X1_p rfl rfl rfl kdX1_p ⟨Nat.le_of_ble_eq_true rfl, Nat.le_of_ble_eq_true rfl⟩) rfl hl.1 rfl (Nat.le_of_ble_eq_true rfl) dX1_off_163 ⟨Nat.zero_le _, Nat.zero_le _⟩ ?_
          refine lv_imul hx hb dX1_off_166 ?_
          refine lv_iload hx hb dX1_off_167 (lv_at hl 3 rfl) ?_
          refine lv_iadd hx hb dX1_off_169 ?_
          refine tw_ld hx hb hK hP 1 0 rfl rfl (n := 64 * k + j) (tw_ix' k j) (by omega) (by decide) dX1_off_170 ?_
          refine lv_ixor hx hb dX1_off_171 ?_
          refine tw_topr (x' := tq_eb (tq_xs (tw_ml g (tq_col F j)) k ^^^ F (64 * k + j))) (tq_eb_xor _ _) ?_
          refine lv_istore (lv' := [(6, .int (tq_eb (tq_xs (tw_ml g (tq_col F j)) k ^^^ F (64 * k + j)))), (0, .ref h0), (3, .int (nI u)), (4, .int (tw_bI (tw_all (tw_aU k g F u) j))), (5, .int (nI j))]) hx hb dX1_off_172 hl (by decide) rfl (fun ls hl => ?_)
          refine lv_aload_n hx hb dX1_off_174 rfl (lv_at hl 1 rfl) ?_
          refine lv_iload hx hb dX1_off_175 (lv_at hl 4 rfl) ?_
          refine lv_iconst (v := 1) hx hb dX1_off_177 (by decide) ?_
          refine tw_rM ⟨hx, hb, hml, hown, hts⟩ hK hP (c_X1_sumAt l D cA cB h0 a0 b0 k F g j true (by omega) hk) (cwV 2 hts gX1_off_X1_sumAt rfl rfl rfl kdX1_sumAt ⟨Nat.le_of_ble_eq_true rfl, Nat.le_of_ble_eq_true rfl⟩) rfl hl.1 rfl (Nat.le_of_ble_eq_true rfl) dX1_off_178 ⟨Nat.zero_le _, Nat.zero_le _⟩ ?_
          refine lv_aload_n hx hb dX1_off_181 rfl (lv_at hl 1 rfl) ?_
          refine va_get (D := D) (ci := 1) (v := .ref a0) (C := RX1) (T := TX1) (N := 4) hx hb hts inX1_off hown hK hP 0 rfl rfl 2 (by decide) (hts _ fX1_off_7) (fun _ h9 => h9) rfl dX1_off_182 ?_
          refine lv_bipush (v := 64) hx hb dX1_off_185 (by decide) ?_
          refine lv_aload_n hx hb dX1_off_187 rfl (lv_at hl 1 rfl) ?_
          refine tw_rM ⟨hx, hb, hml, hown, hts⟩ hK hP (c_X1_q l D cA cB h0 a0 b0 k F g ) (cwV 0 hts gX1_off_X1_q rfl rfl rfl kdX1_q ⟨Nat.le_of_ble_eq_true rfl, Nat.le_of_ble_eq_true rfl⟩) rfl hl.1 rfl (Nat.le_of_ble_eq_true rfl) dX1_off_188 ⟨Nat.zero_le _, Nat.zero_le _⟩ ?_
          refine lv_imul hx hb dX1_off_191 ?_
          refine lv_iload hx hb dX1_off_192 (lv_at hl 4 rfl) ?_
          refine lv_iadd hx hb dX1_off_194 ?_
          refine tw_ld hx hb hK hP 1 0 rfl rfl (n := 64 * (k + 1) + j) (tw_ix' (k + 1) j) (by omega) (by decide) dX1_off_195 ?_
          refine lv_ixor hx hb dX1_off_196 ?_
          refine tw_topr (x' := tq_eb (tq_qs (tw_ml g (tq_col F j)) k ^^^ F (64 * (k + 1) + j))) (tq_eb_xor _ _) ?_
          refine lv_aload_n hx hb dX1_off_197 rfl (lv_at hl 1 rfl) ?_
          refine lv_iload hx hb dX1_off_198 (lv_at hl 0 rfl) ?_
          refine lv_aload_n hx hb dX1_off_200 rfl (lv_at hl 1 rfl) ?_
          refine lv_iload_n hx hb dX1_off_201 rfl (lv_at hl 2 rfl) ?_
          refine tw_rM ⟨hx, hb, hml, hown, hts⟩ hK hP (c_X1_twos l D cA cB h0 a0 b0 k F g u (by omega)) (cwV 1 hts gX1_off_X1_twos rfl rfl rfl kdX1_twos ⟨Nat.le_of_ble_eq_true rfl, Nat.le_of_ble_eq_true rfl⟩) rfl hl.1 rfl (Nat.le_of_ble_eq_true rfl) dX1_off_202 ⟨Nat.zero_le _, Nat.zero_le _⟩ ?_
          refine tw_rM ⟨hx, hb, hml, hown, hts⟩ hK hP (c_X1_times l D cA cB h0 a0 b0 k F g (tq_xs (tw_ml g (tq_col F j)) k ^^^ F (64 * k + j)) (tq_p u 1#8)) (cwV 2 hts gX1_off_X1_times rfl rfl rfl kdX1_times ⟨Nat.le_of_ble_eq_true rfl, Nat.le_of_ble_eq_true rfl⟩) rfl hl.1 rfl (Nat.le_of_ble_eq_true rfl) dX1_off_205 ⟨Nat.zero_le _, Nat.zero_le _⟩ ?_
          refine lv_icmp_ne (tgt := 215) hx hb dX1_off_208 (by decide) (fun c_208 => ?_) (fun c_208 => ?_)
          · have c_208 : ¬ (tq_qs (tw_ml g (tq_col F j)) k ^^^ F (64 * (k + 1) + j)) = tq_p u (tq_xs (tw_ml g (tq_col F j)) k ^^^ F (64 * k + j)) := fun q9 => c_208 (by rw [q9, tq_mp (show u < 16 by omega)])
            refine lv_iconst (v := 0) hx hb dX1_off_215 (by decide) ?_
            refine tw_topr (x' := tw_bI (tw_all (tw_aU k g F u) (j + 1))) (by simp [tw_all, tw_aU, tw_bI, c_146, c_208]) ?_
            refine lv_istore (lv' := [(4, .int (tw_bI (tw_all (tw_aU k g F u) (j + 1)))), (6, .int (tq_eb (tq_xs (tw_ml g (tq_col F j)) k ^^^ F (64 * k + j)))), (0, .ref h0), (3, .int (nI u)), (5, .int (nI j))]) hx hb dX1_off_216 hl (by decide) rfl (fun ls hl => ?_)
            refine lv_iinc (v := nI (j + 1)) (lv' := [(5, .int (nI (j + 1))), (4, .int (tw_bI (tw_all (tw_aU k g F u) (j + 1)))), (6, .int (tq_eb (tq_xs (tw_ml g (tq_col F j)) k ^^^ F (64 * k + j)))), (0, .ref h0), (3, .int (nI u))]) hx hb dX1_off_218 hl (k := 4) rfl (nI_1 j) (by decide) rfl (fun ls hl => ?_)
            refine lv_goto (tgt := 137) hx hb dX1_off_221 (by decide) ?_
            exact ih (j + 1) ls (by omega) (lv_sub hl [3, 4, 1, 0] rfl) kont
          · have c_208 : (tq_qs (tw_ml g (tq_col F j)) k ^^^ F (64 * (k + 1) + j)) = tq_p u (tq_xs (tw_ml g (tq_col F j)) k ^^^ F (64 * k + j)) := by have h9 := tq_eb_inj c_208; rwa [tq_mp (show u < 16 by omega)] at h9
            refine lv_iconst (v := 1) hx hb dX1_off_211 (by decide) ?_
            refine lv_goto (tgt := 216) hx hb dX1_off_212 (by decide) ?_
            refine tw_topr (x' := tw_bI (tw_all (tw_aU k g F u) (j + 1))) (by simp [tw_all, tw_aU, tw_bI, c_146, c_208]) ?_
            refine lv_istore (lv' := [(4, .int (tw_bI (tw_all (tw_aU k g F u) (j + 1)))), (6, .int (tq_eb (tq_xs (tw_ml g (tq_col F j)) k ^^^ F (64 * k + j)))), (0, .ref h0), (3, .int (nI u)), (5, .int (nI j))]) hx hb dX1_off_216 hl (by decide) rfl (fun ls hl => ?_)
            refine lv_iinc (v := nI (j + 1)) (lv' := [(5, .int (nI (j + 1))), (4, .int (tw_bI (tw_all (tw_aU k g F u) (j + 1)))), (6, .int (tq_eb (tq_xs (tw_ml g (tq_col F j)) k ^^^ F (64 * k + j)))), (0, .ref h0), (3, .int (nI u))]) hx hb dX1_off_218 hl (k := 4) rfl (nI_1 j) (by decide) rfl (fun ls hl => ?_)
            refine lv_goto (tgt := 137) hx hb dX1_off_221 (by decide) ?_
            exact ih (j + 1) ls (by omega) (lv_sub hl [3, 4, 1, 0] rfl) kont
  have outer : ∀ (n u : Nat) (ls : Array Slot), u + n = k → tw_mo k g F = tw_fu2 (fun u => tw_all (tw_aU k g F u) 64) u n → lv_has ls 7 [(0, .ref h0), (3, .int (nI u))] → W p l e rmX1_off s m args below meth c s.heap [] 0 0 Q (F0 m 123 ls []) := by
    intro n
    induction n with
    | zero =>
      intro u ls hj hfu hl
      refine lv_iload_n hx hb dX1_off_123 rfl (lv_at hl 1 rfl) ?_
      refine lv_aload_n hx hb dX1_off_124 rfl (lv_at hl 0 rfl) ?_
      refine tw_rM ⟨hx, hb, hml, hown, hts⟩ hK hP (c_X1_p l D cA cB h0 a0 b0 k F g ) (cwV 0 hts gX1_off_X1_p rfl rfl rfl kdX1_p ⟨Nat.le_of_ble_eq_true rfl, Nat.le_of_ble_eq_true rfl⟩) rfl hl.1 rfl (Nat.le_of_ble_eq_true rfl) dX1_off_125 ⟨Nat.zero_le _, Nat.zero_le _⟩ ?_
      refine lv_icmp_ge (tgt := 237) hx hb dX1_off_128 (by decide) (fun c_128 => ?_) (fun c_128 => ?_)
      · refine lv_bipush (v := (-3)) hx hb dX1_off_237 (by decide) ?_
        refine tw_topr (x' := tw_mo k g F) (by rw [hfu]; rfl) ?_
        exact hend _ _ dX1_off_239
      · exact absurd (nI_le (by omega) (by omega)) c_128
    | succ n ih =>
      intro u ls hj hfu hl
      refine lv_iload_n hx hb dX1_off_123 rfl (lv_at hl 1 rfl) ?_
      refine lv_aload_n hx hb dX1_off_124 rfl (lv_at hl 0 rfl) ?_
      refine tw_rM ⟨hx, hb, hml, hown, hts⟩ hK hP (c_X1_p l D cA cB h0 a0 b0 k F g ) (cwV 0 hts gX1_off_X1_p rfl rfl rfl kdX1_p ⟨Nat.le_of_ble_eq_true rfl, Nat.le_of_ble_eq_true rfl⟩) rfl hl.1 rfl (Nat.le_of_ble_eq_true rfl) dX1_off_125 ⟨Nat.zero_le _, Nat.zero_le _⟩ ?_
      refine lv_icmp_ge (tgt := 237) hx hb dX1_off_128 (by decide) (fun c_128 => ?_) (fun c_128 => ?_)
      · exact absurd c_128 (nI_ge (by omega) (by omega))
      · refine lv_iconst (v := 1) hx hb dX1_off_131 (by decide) ?_
        refine lv_istore (lv' := [(4, .int 1), (0, .ref h0), (3, .int (nI u))]) hx hb dX1_off_132 hl (by decide) rfl (fun ls hl => ?_)
        refine lv_iconst (v := 0) hx hb dX1_off_134 (by decide) ?_
        refine lv_istore (lv' := [(5, .int 0), (4, .int 1), (0, .ref h0), (3, .int (nI u))]) hx hb dX1_off_135 hl (by decide) rfl (fun ls hl => ?_)
        refine inner u (by omega) 64 0 ls (by omega) (lv_sub hl [2, 3, 1, 0] rfl) (fun ls hl => ?_)
        refine lv_iload hx hb dX1_off_224 (lv_at hl 2 rfl) ?_
        refine lv_if_eq (tgt := 231) hx hb dX1_off_226 (by decide) (fun c_226 => ?_) (fun c_226 => ?_)
        · rw [tw_bI0] at c_226
          refine lv_iinc (v := nI (u + 1)) (lv' := [(3, .int (nI (u + 1))), (0, .ref h0), (4, .int (tw_bI (tw_all (tw_aU k g F u) 64)))]) hx hb dX1_off_231 hl (k := 1) rfl (nI_1 u) (by decide) rfl (fun ls hl => ?_)
          refine lv_goto (tgt := 123) hx hb dX1_off_234 (by decide) ?_
          exact ih (u + 1) ls (by omega) (by rw [hfu, tw_fu2, if_neg (by rw [c_226]; decide)]) (lv_sub hl [1, 0] rfl)
        · rw [tw_bI1] at c_226
          refine lv_iload_n hx hb dX1_off_229 rfl (lv_at hl 1 rfl) ?_
          refine tw_topr (x' := tw_mo k g F) (by rw [hfu, tw_fu2, if_pos c_226]) ?_
          exact hend _ _ dX1_off_230
  have loop : ∀ (n j : Nat) (ls : Array Slot), j + n = 64 → lv_has ls 7 [(0, .ref h0), (1, .int (tw_bI (tw_all (tw_aP k g F) j))), (2, .int (tw_bI (tw_all (tw_aQ k g F) j))), (3, .int (nI j))] → W p l e rmX1_off s m args below meth c s.heap [] 0 0 Q (F0 m 6 ls []) := by
    intro n
    induction n with
    | zero =>
      intro j ls hj hl
      refine lv_iload_n hx hb dX1_off_6 rfl (lv_at hl 3 rfl) ?_
      refine lv_bipush (v := 64) hx hb dX1_off_7 (by decide) ?_
      refine lv_icmp_ge (tgt := 84) hx hb dX1_off_9 (by decide) (fun c_9 => ?_) (fun c_9 => ?_)
      · rw [show j = 64 by omega] at hl
        refine lv_iload_n hx hb dX1_off_84 rfl (lv_at hl 1 rfl) ?_
        refine lv_if_ne (tgt := 92) hx hb dX1_off_85 (by decide) (fun c_85 => ?_) (fun c_85 => ?_)
        · rw [tw_bI1] at c_85
          refine lv_iload_n hx hb dX1_off_92 rfl (lv_at hl 1 rfl) ?_
          refine lv_if_eq (tgt := 105) hx hb dX1_off_93 (by decide) (fun c_93 => ?_) (fun c_93 => ?_)
          · rw [tw_bI0] at c_93
            refine lv_iload_n hx hb dX1_off_105 rfl (lv_at hl 1 rfl) ?_
            refine lv_if_eq (tgt := 116) hx hb dX1_off_106 (by decide) (fun c_106 => ?_) (fun c_106 => ?_)
            · rw [tw_bI0] at c_106
              refine lv_aload_n hx hb dX1_off_116 rfl (lv_at hl 0 rfl) ?_
              refine tw_rM ⟨hx, hb, hml, hown, hts⟩ hK hP (c_X1_p l D cA cB h0 a0 b0 k F g ) (cwV 0 hts gX1_off_X1_p rfl rfl rfl kdX1_p ⟨Nat.le_of_ble_eq_true rfl, Nat.le_of_ble_eq_true rfl⟩) rfl hl.1 rfl (Nat.le_of_ble_eq_true rfl) dX1_off_117 ⟨Nat.zero_le _, Nat.zero_le _⟩ ?_
              refine tw_topr (x' := tw_mo k g F) (by first | (exact absurd (c_85.symm.trans c_93) (by decide)) | (exact absurd (c_85.symm.trans c_106) (by decide)) | (exact absurd (c_93.symm.trans c_85) (by decide)) | (exact absurd (c_93.symm.trans c_106) (by decide)) | (unfold tw_mo; simp [c_85, c_93, c_106]; done)) ?_
              exact hend _ _ dX1_off_120
            · rw [tw_bI1] at c_106
              refine lv_aload_n hx hb dX1_off_109 rfl (lv_at hl 0 rfl) ?_
              refine tw_rM ⟨hx, hb, hml, hown, hts⟩ hK hP (c_X1_q l D cA cB h0 a0 b0 k F g ) (cwV 0 hts gX1_off_X1_q rfl rfl rfl kdX1_q ⟨Nat.le_of_ble_eq_true rfl, Nat.le_of_ble_eq_true rfl⟩) rfl hl.1 rfl (Nat.le_of_ble_eq_true rfl) dX1_off_110 ⟨Nat.zero_le _, Nat.zero_le _⟩ ?_
              refine lv_goto (tgt := 120) hx hb dX1_off_113 (by decide) ?_
              refine tw_topr (x' := tw_mo k g F) (by first | (exact absurd (c_85.symm.trans c_93) (by decide)) | (exact absurd (c_85.symm.trans c_106) (by decide)) | (exact absurd (c_93.symm.trans c_85) (by decide)) | (exact absurd (c_93.symm.trans c_106) (by decide)) | (unfold tw_mo; simp [c_85, c_93, c_106]; done)) ?_
              exact hend _ _ dX1_off_120
          · rw [tw_bI1] at c_93
            refine lv_iload_n hx hb dX1_off_96 rfl (lv_at hl 2 rfl) ?_
            refine lv_if_eq (tgt := 105) hx hb dX1_off_97 (by decide) (fun c_97 => ?_) (fun c_97 => ?_)
            · rw [tw_bI0] at c_97
              refine lv_iload_n hx hb dX1_off_105 rfl (lv_at hl 1 rfl) ?_
              refine lv_if_eq (tgt := 116) hx hb dX1_off_106 (by decide) (fun c_106 => ?_) (fun c_106 => ?_)
              · rw [tw_bI0] at c_106
                refine lv_aload_n hx hb dX1_off_116 rfl (lv_at hl 0 rfl) ?_
                refine tw_rM ⟨hx, hb, hml, hown, hts⟩ hK hP (c_X1_p l D cA cB h0 a0 b0 k F g ) (cwV 0 hts gX1_off_X1_p rfl rfl rfl kdX1_p ⟨Nat.le_of_ble_eq_true rfl, Nat.le_of_ble_eq_true rfl⟩) rfl hl.1 rfl (Nat.le_of_ble_eq_true rfl) dX1_off_117 ⟨Nat.zero_le _, Nat.zero_le _⟩ ?_
                refine tw_topr (x' := tw_mo k g F) (by first | (exact absurd (c_85.symm.trans c_93) (by decide)) | (exact absurd (c_85.symm.trans c_106) (by decide)) | (exact absurd (c_93.symm.trans c_85) (by decide)) | (exact absurd (c_93.symm.trans c_106) (by decide)) | (unfold tw_mo; simp [c_85, c_93, c_97, c_106]; done)) ?_
                exact hend _ _ dX1_off_120
              · rw [tw_bI1] at c_106
                refine lv_aload_n hx hb dX1_off_109 rfl (lv_at hl 0 rfl) ?_
                refine tw_rM ⟨hx, hb, hml, hown, hts⟩ hK hP (c_X1_q l D cA cB h0 a0 b0 k F g ) (cwV 0 hts gX1_off_X1_q rfl rfl rfl kdX1_q ⟨Nat.le_of_ble_eq_true rfl, Nat.le_of_ble_eq_true rfl⟩) rfl hl.1 rfl (Nat.le_of_ble_eq_true rfl) dX1_off_110 ⟨Nat.zero_le _, Nat.zero_le _⟩ ?_
                refine lv_goto (tgt := 120) hx hb dX1_off_113 (by decide) ?_
                refine tw_topr (x' := tw_mo k g F) (by first | (exact absurd (c_85.symm.trans c_93) (by decide)) | (exact absurd (c_85.symm.trans c_106) (by decide)) | (exact absurd (c_93.symm.trans c_85) (by decide)) | (exact absurd (c_93.symm.trans c_106) (by decide)) | (unfold tw_mo; simp [c_85, c_93, c_97, c_106]; done)) ?_
                exact hend _ _ dX1_off_120
            · rw [tw_bI1] at c_97
              refine lv_bipush (v := (-2)) hx hb dX1_off_100 (by decide) ?_
              refine lv_goto (tgt := 120) hx hb dX1_off_102 (by decide) ?_
              refine tw_topr (x' := tw_mo k g F) (by first | (exact absurd (c_85.symm.trans c_93) (by decide)) | (exact absurd (c_85.symm.trans c_106) (by decide)) | (exact absurd (c_93.symm.trans c_85) (by decide)) | (exact absurd (c_93.symm.trans c_106) (by decide)) | (unfold tw_mo; simp [c_85, c_93, c_97]; done)) ?_
              exact hend _ _ dX1_off_120
        · rw [tw_bI0] at c_85
          refine lv_iload_n hx hb dX1_off_88 rfl (lv_at hl 2 rfl) ?_
          refine lv_if_eq (tgt := 121) hx hb dX1_off_89 (by decide) (fun c_89 => ?_) (fun c_89 => ?_)
          · rw [tw_bI0] at c_89
            refine lv_iconst (v := 0) hx hb dX1_off_121 (by decide) ?_
            refine lv_istore_n (lv' := [(3, .int 0), (0, .ref h0), (1, .int (tw_bI (tw_all (tw_aP k g F) 64))), (2, .int (tw_bI (tw_all (tw_aQ k g F) 64)))]) hx hb dX1_off_122 rfl hl (by decide) rfl (fun ls hl => ?_)
            exact outer k 0 ls (by omega) (by unfold tw_mo; rw [c_85, c_89]; rfl) (lv_sub hl [1, 0] rfl)
          · rw [tw_bI1] at c_89
            refine lv_iload_n hx hb dX1_off_92 rfl (lv_at hl 1 rfl) ?_
            refine lv_if_eq (tgt := 105) hx hb dX1_off_93 (by decide) (fun c_93 => ?_) (fun c_93 => ?_)
            · rw [tw_bI0] at c_93
              refine lv_iload_n hx hb dX1_off_105 rfl (lv_at hl 1 rfl) ?_
              refine lv_if_eq (tgt := 116) hx hb dX1_off_106 (by decide) (fun c_106 => ?_) (fun c_106 => ?_)
              · rw [tw_bI0] at c_106
                refine lv_aload_n hx hb dX1_off_116 rfl (lv_at hl 0 rfl) ?_
                refine tw_rM ⟨hx, hb, hml, hown, hts⟩ hK hP (c_X1_p l D cA cB h0 a0 b0 k F g ) (cwV 0 hts gX1_off_X1_p rfl rfl rfl kdX1_p ⟨Nat.le_of_ble_eq_true rfl, Nat.le_of_ble_eq_true rfl⟩) rfl hl.1 rfl (Nat.le_of_ble_eq_true rfl) dX1_off_117 ⟨Nat.zero_le _, Nat.zero_le _⟩ ?_
                refine tw_topr (x' := tw_mo k g F) (by first | (exact absurd (c_85.symm.trans c_93) (by decide)) | (exact absurd (c_85.symm.trans c_106) (by decide)) | (exact absurd (c_93.symm.trans c_85) (by decide)) | (exact absurd (c_93.symm.trans c_106) (by decide)) | (unfold tw_mo; simp [c_85, c_89, c_93, c_106]; done)) ?_
                exact hend _ _ dX1_off_120
              · rw [tw_bI1] at c_106
                refine lv_aload_n hx hb dX1_off_109 rfl (lv_at hl 0 rfl) ?_
                refine tw_rM ⟨hx, hb, hml, hown, hts⟩ hK hP (c_X1_q l D cA cB h0 a0 b0 k F g ) (cwV 0 hts gX1_off_X1_q rfl rfl rfl kdX1_q ⟨Nat.le_of_ble_eq_true rfl, Nat.le_of_ble_eq_true rfl⟩) rfl hl.1 rfl (Nat.le_of_ble_eq_true rfl) dX1_off_110 ⟨Nat.zero_le _, Nat.zero_le _⟩ ?_
                refine lv_goto (tgt := 120) hx hb dX1_off_113 (by decide) ?_
                refine tw_topr (x' := tw_mo k g F) (by first | (exact absurd (c_85.symm.trans c_93) (by decide)) | (exact absurd (c_85.symm.trans c_106) (by decide)) | (exact absurd (c_93.symm.trans c_85) (by decide)) | (exact absurd (c_93.symm.trans c_106) (by decide)) | (unfold tw_mo; simp [c_85, c_89, c_93, c_106]; done)) ?_
                exact hend _ _ dX1_off_120
            · rw [tw_bI1] at c_93
              refine lv_iload_n hx hb dX1_off_96 rfl (lv_at hl 2 rfl) ?_
              refine lv_if_eq (tgt := 105) hx hb dX1_off_97 (by decide) (fun c_97 => ?_) (fun c_97 => ?_)
              · rw [tw_bI0] at c_97
                refine lv_iload_n hx hb dX1_off_105 rfl (lv_at hl 1 rfl) ?_
                refine lv_if_eq (tgt := 116) hx hb dX1_off_106 (by decide) (fun c_106 => ?_) (fun c_106 => ?_)
                · rw [tw_bI0] at c_106
                  refine lv_aload_n hx hb dX1_off_116 rfl (lv_at hl 0 rfl) ?_
                  refine tw_rM ⟨hx, hb, hml, hown, hts⟩ hK hP (c_X1_p l D cA cB h0 a0 b0 k F g ) (cwV 0 hts gX1_off_X1_p rfl rfl rfl kdX1_p ⟨Nat.le_of_ble_eq_true rfl, Nat.le_of_ble_eq_true rfl⟩) rfl hl.1 rfl (Nat.le_of_ble_eq_true rfl) dX1_off_117 ⟨Nat.zero_le _, Nat.zero_le _⟩ ?_
                  refine tw_topr (x' := tw_mo k g F) (by first | (exact absurd (c_85.symm.trans c_93) (by decide)) | (exact absurd (c_85.symm.trans c_106) (by decide)) | (exact absurd (c_93.symm.trans c_85) (by decide)) | (exact absurd (c_93.symm.trans c_106) (by decide)) | (unfold tw_mo; simp [c_85, c_89, c_93, c_97, c_106]; done)) ?_
                  exact hend _ _ dX1_off_120
                · rw [tw_bI1] at c_106
                  refine lv_aload_n hx hb dX1_off_109 rfl (lv_at hl 0 rfl) ?_
                  refine tw_rM ⟨hx, hb, hml, hown, hts⟩ hK hP (c_X1_q l D cA cB h0 a0 b0 k F g ) (cwV 0 hts gX1_off_X1_q rfl rfl rfl kdX1_q ⟨Nat.le_of_ble_eq_true rfl, Nat.le_of_ble_eq_true rfl⟩) rfl hl.1 rfl (Nat.le_of_ble_eq_true rfl) dX1_off_110 ⟨Nat.zero_le _, Nat.zero_le _⟩ ?_
                  refine lv_goto (tgt := 120) hx hb dX1_off_113 (by decide) ?_
                  refine tw_topr (x' := tw_mo k g F) (by first | (exact absurd (c_85.symm.trans c_93) (by decide)) | (exact absurd (c_85.symm.trans c_106) (by decide)) | (exact absurd (c_93.symm.trans c_85) (by decide)) | (exact absurd (c_93.symm.trans c_106) (by decide)) | (unfold tw_mo; simp [c_85, c_89, c_93, c_97, c_106]; done)) ?_
                  exact hend _ _ dX1_off_120
              · rw [tw_bI1] at c_97
                refine lv_bipush (v := (-2)) hx hb dX1_off_100 (by decide) ?_
                refine lv_goto (tgt := 120) hx hb dX1_off_102 (by decide) ?_
                refine tw_topr (x' := tw_mo k g F) (by first | (exact absurd (c_85.symm.trans c_93) (by decide)) | (exact absurd (c_85.symm.trans c_106) (by decide)) | (exact absurd (c_93.symm.trans c_85) (by decide)) | (exact absurd (c_93.symm.trans c_106) (by decide)) | (unfold tw_mo; simp [c_85, c_89, c_93, c_97]; done)) ?_
                exact hend _ _ dX1_off_120
      · exact absurd (nI_le (a := 64) (by omega) (by omega)) c_9
    | succ n ih =>
      intro j ls hj hl
      refine lv_iload_n hx hb dX1_off_6 rfl (lv_at hl 3 rfl) ?_
      refine lv_bipush (v := 64) hx hb dX1_off_7 (by decide) ?_
      refine lv_icmp_ge (tgt := 84) hx hb dX1_off_9 (by decide) (fun c_9 => ?_) (fun c_9 => ?_)
      · exact absurd c_9 (nI_ge (b := 64) (by omega) (by omega))
      · refine lv_iload_n hx hb dX1_off_12 rfl (lv_at hl 1 rfl) ?_
        refine lv_if_eq (tgt := 43) hx hb dX1_off_13 (by decide) (fun c_13 => ?_) (fun c_13 => ?_)
        · rw [tw_bI0] at c_13
          refine lv_iconst (v := 0) hx hb dX1_off_43 (by decide) ?_
          refine tw_topr (x' := tw_bI (tw_all (tw_aP k g F) (j + 1))) (by simp [tw_all, tw_aP, tw_bI, c_13]) ?_
          refine lv_istore_n (lv' := [(1, .int (tw_bI (tw_all (tw_aP k g F) (j + 1)))), (0, .ref h0), (2, .int (tw_bI (tw_all (tw_aQ k g F) j))), (3, .int (nI j))]) hx hb dX1_off_44 rfl hl (by decide) rfl (fun ls hl => ?_)
          refine lv_iload_n hx hb dX1_off_45 rfl (lv_at hl 2 rfl) ?_
          refine lv_if_eq (tgt := 76) hx hb dX1_off_46 (by decide) (fun c_46 => ?_) (fun c_46 => ?_)
          · rw [tw_bI0] at c_46
            refine lv_iconst (v := 0) hx hb dX1_off_76 (by decide) ?_
            refine tw_topr (x' := tw_bI (tw_all (tw_aQ k g F) (j + 1))) (by simp [tw_all, tw_aQ, tw_bI, c_46]) ?_
            refine lv_istore_n (lv' := [(2, .int (tw_bI (tw_all (tw_aQ k g F) (j + 1)))), (1, .int (tw_bI (tw_all (tw_aP k g F) (j + 1)))), (0, .ref h0), (3, .int (nI j))]) hx hb dX1_off_77 rfl hl (by decide) rfl (fun ls hl => ?_)
            refine lv_iinc (v := nI (j + 1)) (lv' := [(3, .int (nI (j + 1))), (2, .int (tw_bI (tw_all (tw_aQ k g F) (j + 1)))), (1, .int (tw_bI (tw_all (tw_aP k g F) (j + 1)))), (0, .ref h0)]) hx hb dX1_off_78 hl (k := 3) rfl (nI_1 j) (by decide) rfl (fun ls hl => ?_)
            refine lv_goto (tgt := 6) hx hb dX1_off_81 (by decide) ?_
            exact ih (j + 1) ls (by omega) (lv_sub hl [3, 2, 1, 0] rfl)
          · rw [tw_bI1] at c_46
            refine lv_aload_n hx hb dX1_off_49 rfl (lv_at hl 1 rfl) ?_
            refine lv_iload_n hx hb dX1_off_50 rfl (lv_at hl 3 rfl) ?_
            refine lv_iconst (v := 1) hx hb dX1_off_51 (by decide) ?_
            refine tw_rM ⟨hx, hb, hml, hown, hts⟩ hK hP (c_X1_sumAt l D cA cB h0 a0 b0 k F g j true (by omega) hk) (cwV 2 hts gX1_off_X1_sumAt rfl rfl rfl kdX1_sumAt ⟨Nat.le_of_ble_eq_true rfl, Nat.le_of_ble_eq_true rfl⟩) rfl hl.1 rfl (Nat.le_of_ble_eq_true rfl) dX1_off_52 ⟨Nat.zero_le _, Nat.zero_le _⟩ ?_
            refine lv_aload_n hx hb dX1_off_55 rfl (lv_at hl 1 rfl) ?_
            refine va_get (D := D) (ci := 1) (v := .ref a0) (C := RX1) (T := TX1) (N := 4) hx hb hts inX1_off hown hK hP 0 rfl rfl 2 (by decide) (hts _ fX1_off_7) (fun _ h9 => h9) rfl dX1_off_56 ?_
            refine lv_bipush (v := 64) hx hb dX1_off_59 (by decide) ?_
            refine lv_aload_n hx hb dX1_off_61 rfl (lv_at hl 1 rfl) ?_
            refine tw_rM ⟨hx, hb, hml, hown, hts⟩ hK hP (c_X1_q l D cA cB h0 a0 b0 k F g ) (cwV 0 hts gX1_off_X1_q rfl rfl rfl kdX1_q ⟨Nat.le_of_ble_eq_true rfl, Nat.le_of_ble_eq_true rfl⟩) rfl hl.1 rfl (Nat.le_of_ble_eq_true rfl) dX1_off_62 ⟨Nat.zero_le _, Nat.zero_le _⟩ ?_
            refine lv_imul hx hb dX1_off_65 ?_
            refine lv_iload_n hx hb dX1_off_66 rfl (lv_at hl 3 rfl) ?_
            refine lv_iadd hx hb dX1_off_67 ?_
            refine tw_ld hx hb hK hP 1 0 rfl rfl (n := 64 * (k + 1) + j) (tw_ix' (k + 1) j) (by omega) (by decide) dX1_off_68 ?_
            refine lv_icmp_ne (tgt := 76) hx hb dX1_off_69 (by decide) (fun c_69 => ?_) (fun c_69 => ?_)
            · have c_69 : ¬ tq_qs (tw_ml g (tq_col F j)) k = F (64 * (k + 1) + j) := fun q9 => c_69 (congrArg tq_eb q9)
              refine lv_iconst (v := 0) hx hb dX1_off_76 (by decide) ?_
              refine tw_topr (x' := tw_bI (tw_all (tw_aQ k g F) (j + 1))) (by simp [tw_all, tw_aQ, tw_bI, c_46, c_69]) ?_
              refine lv_istore_n (lv' := [(2, .int (tw_bI (tw_all (tw_aQ k g F) (j + 1)))), (1, .int (tw_bI (tw_all (tw_aP k g F) (j + 1)))), (0, .ref h0), (3, .int (nI j))]) hx hb dX1_off_77 rfl hl (by decide) rfl (fun ls hl => ?_)
              refine lv_iinc (v := nI (j + 1)) (lv' := [(3, .int (nI (j + 1))), (2, .int (tw_bI (tw_all (tw_aQ k g F) (j + 1)))), (1, .int (tw_bI (tw_all (tw_aP k g F) (j + 1)))), (0, .ref h0)]) hx hb dX1_off_78 hl (k := 3) rfl (nI_1 j) (by decide) rfl (fun ls hl => ?_)
              refine lv_goto (tgt := 6) hx hb dX1_off_81 (by decide) ?_
              exact ih (j + 1) ls (by omega) (lv_sub hl [3, 2, 1, 0] rfl)
            · have c_69 : tq_qs (tw_ml g (tq_col F j)) k = F (64 * (k + 1) + j) := tq_eb_inj c_69
              refine lv_iconst (v := 1) hx hb dX1_off_72 (by decide) ?_
              refine lv_goto (tgt := 77) hx hb dX1_off_73 (by decide) ?_
              refine tw_topr (x' := tw_bI (tw_all (tw_aQ k g F) (j + 1))) (by simp [tw_all, tw_aQ, tw_bI, c_46, c_69]) ?_
              refine lv_istore_n (lv' := [(2, .int (tw_bI (tw_all (tw_aQ k g F) (j + 1)))), (1, .int (tw_bI (tw_all (tw_aP k g F) (j + 1)))), (0, .ref h0), (3, .int (nI j))]) hx hb dX1_off_77 rfl hl (by decide) rfl (fun ls hl => ?_)
              refine lv_iinc (v := nI (j + 1)) (lv' := [(3, .int (nI (j + 1))), (2, .int (tw_bI (tw_all (tw_aQ k g F) (j + 1)))), (1, .int (tw_bI (tw_all (tw_aP k g F) (j + 1)))), (0, .ref h0)]) hx hb dX1_off_78 hl (k := 3) rfl (nI_1 j) (by decide) rfl (fun ls hl => ?_)
              refine lv_goto (tgt := 6) hx hb dX1_off_81 (by decide) ?_
              exact ih (j + 1) ls (by omega) (lv_sub hl [3, 2, 1, 0] rfl)
        · rw [tw_bI1] at c_13
          refine lv_aload_n hx hb dX1_off_16 rfl (lv_at hl 0 rfl) ?_
          refine lv_iload_n hx hb dX1_off_17 rfl (lv_at hl 3 rfl) ?_
          refine lv_iconst (v := 0) hx hb dX1_off_18 (by decide) ?_
          refine tw_rM ⟨hx, hb, hml, hown, hts⟩ hK hP (c_X1_sumAt l D cA cB h0 a0 b0 k F g j false (by omega) hk) (cwV 2 hts gX1_off_X1_sumAt rfl rfl rfl kdX1_sumAt ⟨Nat.le_of_ble_eq_true rfl, Nat.le_of_ble_eq_true rfl⟩) rfl hl.1 rfl (Nat.le_of_ble_eq_true rfl) dX1_off_19 ⟨Nat.zero_le _, Nat.zero_le _⟩ ?_
          refine lv_aload_n hx hb dX1_off_22 rfl (lv_at hl 0 rfl) ?_
          refine va_get (D := D) (ci := 1) (v := .ref a0) (C := RX1) (T := TX1) (N := 4) hx hb hts inX1_off hown hK hP 0 rfl rfl 2 (by decide) (hts _ fX1_off_7) (fun _ h9 => h9) rfl dX1_off_23 ?_
          refine lv_bipush (v := 64) hx hb dX1_off_26 (by decide) ?_
          refine lv_aload_n hx hb dX1_off_28 rfl (lv_at hl 0 rfl) ?_
          refine tw_rM ⟨hx, hb, hml, hown, hts⟩ hK hP (c_X1_p l D cA cB h0 a0 b0 k F g ) (cwV 0 hts gX1_off_X1_p rfl rfl rfl kdX1_p ⟨Nat.le_of_ble_eq_true rfl, Nat.le_of_ble_eq_true rfl⟩) rfl hl.1 rfl (Nat.le_of_ble_eq_true rfl) dX1_off_29 ⟨Nat.zero_le _, Nat.zero_le _⟩ ?_
          refine lv_imul hx hb dX1_off_32 ?_
          refine lv_iload_n hx hb dX1_off_33 rfl (lv_at hl 3 rfl) ?_
          refine lv_iadd hx hb dX1_off_34 ?_
          refine tw_ld hx hb hK hP 1 0 rfl rfl (n := 64 * k + j) (tw_ix' k j) (by omega) (by decide) dX1_off_35 ?_
          refine lv_icmp_ne (tgt := 43) hx hb dX1_off_36 (by decide) (fun c_36 => ?_) (fun c_36 => ?_)
          · have c_36 : ¬ tq_xs (tw_ml g (tq_col F j)) k = F (64 * k + j) := fun q9 => c_36 (congrArg tq_eb q9)
            refine lv_iconst (v := 0) hx hb dX1_off_43 (by decide) ?_
            refine tw_topr (x' := tw_bI (tw_all (tw_aP k g F) (j + 1))) (by simp [tw_all, tw_aP, tw_bI, c_13, c_36]) ?_
            refine lv_istore_n (lv' := [(1, .int (tw_bI (tw_all (tw_aP k g F) (j + 1)))), (0, .ref h0), (2, .int (tw_bI (tw_all (tw_aQ k g F) j))), (3, .int (nI j))]) hx hb dX1_off_44 rfl hl (by decide) rfl (fun ls hl => ?_)
            refine lv_iload_n hx hb dX1_off_45 rfl (lv_at hl 2 rfl) ?_
            refine lv_if_eq (tgt := 76) hx hb dX1_off_46 (by decide) (fun c_46 => ?_) (fun c_46 => ?_)
            · rw [tw_bI0] at c_46
              refine lv_iconst (v := 0) hx hb dX1_off_76 (by decide) ?_
              refine tw_topr (x' := tw_bI (tw_all (tw_aQ k g F) (j + 1))) (by simp [tw_all, tw_aQ, tw_bI, c_46]) ?_
              refine lv_istore_n (lv' := [(2, .int (tw_bI (tw_all (tw_aQ k g F) (j + 1)))), (1, .int (tw_bI (tw_all (tw_aP k g F) (j + 1)))), (0, .ref h0), (3, .int (nI j))]) hx hb dX1_off_77 rfl hl (by decide) rfl (fun ls hl => ?_)
              refine lv_iinc (v := nI (j + 1)) (lv' := [(3, .int (nI (j + 1))), (2, .int (tw_bI (tw_all (tw_aQ k g F) (j + 1)))), (1, .int (tw_bI (tw_all (tw_aP k g F) (j + 1)))), (0, .ref h0)]) hx hb dX1_off_78 hl (k := 3) rfl (nI_1 j) (by decide) rfl (fun ls hl => ?_)
              refine lv_goto (tgt := 6) hx hb dX1_off_81 (by decide) ?_
              exact ih (j + 1) ls (by omega) (lv_sub hl [3, 2, 1, 0] rfl)
            · rw [tw_bI1] at c_46
              refine lv_aload_n hx hb dX1_off_49 rfl (lv_at hl 1 rfl) ?_
              refine lv_iload_n hx hb dX1_off_50 rfl (lv_at hl 3 rfl) ?_
              refine lv_iconst (v := 1) hx hb dX1_off_51 (by decide) ?_
              refine tw_rM ⟨hx, hb, hml, hown, hts⟩ hK hP (c_X1_sumAt l D cA cB h0 a0 b0 k F g j true (by omega) hk) (cwV 2 hts gX1_off_X1_sumAt rfl rfl rfl kdX1_sumAt ⟨Nat.le_of_ble_eq_true rfl, Nat.le_of_ble_eq_true rfl⟩) rfl hl.1 rfl (Nat.le_of_ble_eq_true rfl) dX1_off_52 ⟨Nat.zero_le _, Nat.zero_le _⟩ ?_
              refine lv_aload_n hx hb dX1_off_55 rfl (lv_at hl 1 rfl) ?_
              refine va_get (D := D) (ci := 1) (v := .ref a0) (C := RX1) (T := TX1) (N := 4) hx hb hts inX1_off hown hK hP 0 rfl rfl 2 (by decide) (hts _ fX1_off_7) (fun _ h9 => h9) rfl dX1_off_56 ?_
              refine lv_bipush (v := 64) hx hb dX1_off_59 (by decide) ?_
              refine lv_aload_n hx hb dX1_off_61 rfl (lv_at hl 1 rfl) ?_
              refine tw_rM ⟨hx, hb, hml, hown, hts⟩ hK hP (c_X1_q l D cA cB h0 a0 b0 k F g ) (cwV 0 hts gX1_off_X1_q rfl rfl rfl kdX1_q ⟨Nat.le_of_ble_eq_true rfl, Nat.le_of_ble_eq_true rfl⟩) rfl hl.1 rfl (Nat.le_of_ble_eq_true rfl) dX1_off_62 ⟨Nat.zero_le _, Nat.zero_le _⟩ ?_
              refine lv_imul hx hb dX1_off_65 ?_
              refine lv_iload_n hx hb dX1_off_66 rfl (lv_at hl 3 rfl) ?_
              refine lv_iadd hx hb dX1_off_67 ?_
              refine tw_ld hx hb hK hP 1 0 rfl rfl (n := 64 * (k + 1) + j) (tw_ix' (k + 1) j) (by omega) (by decide) dX1_off_68 ?_
              refine lv_icmp_ne (tgt := 76) hx hb dX1_off_69 (by decide) (fun c_69 => ?_) (fun c_69 => ?_)
              · have c_69 : ¬ tq_qs (tw_ml g (tq_col F j)) k = F (64 * (k + 1) + j) := fun q9 => c_69 (congrArg tq_eb q9)
                refine lv_iconst (v := 0) hx hb dX1_off_76 (by decide) ?_
                refine tw_topr (x' := tw_bI (tw_all (tw_aQ k g F) (j + 1))) (by simp [tw_all, tw_aQ, tw_bI, c_46, c_69]) ?_
                refine lv_istore_n (lv' := [(2, .int (tw_bI (tw_all (tw_aQ k g F) (j + 1)))), (1, .int (tw_bI (tw_all (tw_aP k g F) (j + 1)))), (0, .ref h0), (3, .int (nI j))]) hx hb dX1_off_77 rfl hl (by decide) rfl (fun ls hl => ?_)
                refine lv_iinc (v := nI (j + 1)) (lv' := [(3, .int (nI (j + 1))), (2, .int (tw_bI (tw_all (tw_aQ k g F) (j + 1)))), (1, .int (tw_bI (tw_all (tw_aP k g F) (j + 1)))), (0, .ref h0)]) hx hb dX1_off_78 hl (k := 3) rfl (nI_1 j) (by decide) rfl (fun ls hl => ?_)
                refine lv_goto (tgt := 6) hx hb dX1_off_81 (by decide) ?_
                exact ih (j + 1) ls (by omega) (lv_sub hl [3, 2, 1, 0] rfl)
              · have c_69 : tq_qs (tw_ml g (tq_col F j)) k = F (64 * (k + 1) + j) := tq_eb_inj c_69
                refine lv_iconst (v := 1) hx hb dX1_off_72 (by decide) ?_
                refine lv_goto (tgt := 77) hx hb dX1_off_73 (by decide) ?_
                refine tw_topr (x' := tw_bI (tw_all (tw_aQ k g F) (j + 1))) (by simp [tw_all, tw_aQ, tw_bI, c_46, c_69]) ?_
                refine lv_istore_n (lv' := [(2, .int (tw_bI (tw_all (tw_aQ k g F) (j + 1)))), (1, .int (tw_bI (tw_all (tw_aP k g F) (j + 1)))), (0, .ref h0), (3, .int (nI j))]) hx hb dX1_off_77 rfl hl (by decide) rfl (fun ls hl => ?_)
                refine lv_iinc (v := nI (j + 1)) (lv' := [(3, .int (nI (j + 1))), (2, .int (tw_bI (tw_all (tw_aQ k g F) (j + 1)))), (1, .int (tw_bI (tw_all (tw_aP k g F) (j + 1)))), (0, .ref h0)]) hx hb dX1_off_78 hl (k := 3) rfl (nI_1 j) (by decide) rfl (fun ls hl => ?_)
                refine lv_goto (tgt := 6) hx hb dX1_off_81 (by decide) ?_
                exact ih (j + 1) ls (by omega) (lv_sub hl [3, 2, 1, 0] rfl)
          · have c_36 : tq_xs (tw_ml g (tq_col F j)) k = F (64 * k + j) := tq_eb_inj c_36
            refine lv_iconst (v := 1) hx hb dX1_off_39 (by decide) ?_
            refine lv_goto (tgt := 44) hx hb dX1_off_40 (by decide) ?_
            refine tw_topr (x' := tw_bI (tw_all (tw_aP k g F) (j + 1))) (by simp [tw_all, tw_aP, tw_bI, c_13, c_36]) ?_
            refine lv_istore_n (lv' := [(1, .int (tw_bI (tw_all (tw_aP k g F) (j + 1)))), (0, .ref h0), (2, .int (tw_bI (tw_all (tw_aQ k g F) j))), (3, .int (nI j))]) hx hb dX1_off_44 rfl hl (by decide) rfl (fun ls hl => ?_)
            refine lv_iload_n hx hb dX1_off_45 rfl (lv_at hl 2 rfl) ?_
            refine lv_if_eq (tgt := 76) hx hb dX1_off_46 (by decide) (fun c_46 => ?_) (fun c_46 => ?_)
            · rw [tw_bI0] at c_46
              refine lv_iconst (v := 0) hx hb dX1_off_76 (by decide) ?_
              refine tw_topr (x' := tw_bI (tw_all (tw_aQ k g F) (j + 1))) (by simp [tw_all, tw_aQ, tw_bI, c_46]) ?_
              refine lv_istore_n (lv' := [(2, .int (tw_bI (tw_all (tw_aQ k g F) (j + 1)))), (1, .int (tw_bI (tw_all (tw_aP k g F) (j + 1)))), (0, .ref h0), (3, .int (nI j))]) hx hb dX1_off_77 rfl hl (by decide) rfl (fun ls hl => ?_)
              refine lv_iinc (v := nI (j + 1)) (lv' := [(3, .int (nI (j + 1))), (2, .int (tw_bI (tw_all (tw_aQ k g F) (j + 1)))), (1, .int (tw_bI (tw_all (tw_aP k g F) (j + 1)))), (0, .ref h0)]) hx hb dX1_off_78 hl (k := 3) rfl (nI_1 j) (by decide) rfl (fun ls hl => ?_)
              refine lv_goto (tgt := 6) hx hb dX1_off_81 (by decide) ?_
              exact ih (j + 1) ls (by omega) (lv_sub hl [3, 2, 1, 0] rfl)
            · rw [tw_bI1] at c_46
              refine lv_aload_n hx hb dX1_off_49 rfl (lv_at hl 1 rfl) ?_
              refine lv_iload_n hx hb dX1_off_50 rfl (lv_at hl 3 rfl) ?_
              refine lv_iconst (v := 1) hx hb dX1_off_51 (by decide) ?_
              refine tw_rM ⟨hx, hb, hml, hown, hts⟩ hK hP (c_X1_sumAt l D cA cB h0 a0 b0 k F g j true (by omega) hk) (cwV 2 hts gX1_off_X1_sumAt rfl rfl rfl kdX1_sumAt ⟨Nat.le_of_ble_eq_true rfl, Nat.le_of_ble_eq_true rfl⟩) rfl hl.1 rfl (Nat.le_of_ble_eq_true rfl) dX1_off_52 ⟨Nat.zero_le _, Nat.zero_le _⟩ ?_
              refine lv_aload_n hx hb dX1_off_55 rfl (lv_at hl 1 rfl) ?_
              refine va_get (D := D) (ci := 1) (v := .ref a0) (C := RX1) (T := TX1) (N := 4) hx hb hts inX1_off hown hK hP 0 rfl rfl 2 (by decide) (hts _ fX1_off_7) (fun _ h9 => h9) rfl dX1_off_56 ?_
              refine lv_bipush (v := 64) hx hb dX1_off_59 (by decide) ?_
              refine lv_aload_n hx hb dX1_off_61 rfl (lv_at hl 1 rfl) ?_
              refine tw_rM ⟨hx, hb, hml, hown, hts⟩ hK hP (c_X1_q l D cA cB h0 a0 b0 k F g ) (cwV 0 hts gX1_off_X1_q rfl rfl rfl kdX1_q ⟨Nat.le_of_ble_eq_true rfl, Nat.le_of_ble_eq_true rfl⟩) rfl hl.1 rfl (Nat.le_of_ble_eq_true rfl) dX1_off_62 ⟨Nat.zero_le _, Nat.zero_le _⟩ ?_
              refine lv_imul hx hb dX1_off_65 ?_
              refine lv_iload_n hx hb dX1_off_66 rfl (lv_at hl 3 rfl) ?_
              refine lv_iadd hx hb dX1_off_67 ?_
              refine tw_ld hx hb hK hP 1 0 rfl rfl (n := 64 * (k + 1) + j) (tw_ix' (k + 1) j) (by omega) (by decide) dX1_off_68 ?_
              refine lv_icmp_ne (tgt := 76) hx hb dX1_off_69 (by decide) (fun c_69 => ?_) (fun c_69 => ?_)
              · have c_69 : ¬ tq_qs (tw_ml g (tq_col F j)) k = F (64 * (k + 1) + j) := fun q9 => c_69 (congrArg tq_eb q9)
                refine lv_iconst (v := 0) hx hb dX1_off_76 (by decide) ?_
                refine tw_topr (x' := tw_bI (tw_all (tw_aQ k g F) (j + 1))) (by simp [tw_all, tw_aQ, tw_bI, c_46, c_69]) ?_
                refine lv_istore_n (lv' := [(2, .int (tw_bI (tw_all (tw_aQ k g F) (j + 1)))), (1, .int (tw_bI (tw_all (tw_aP k g F) (j + 1)))), (0, .ref h0), (3, .int (nI j))]) hx hb dX1_off_77 rfl hl (by decide) rfl (fun ls hl => ?_)
                refine lv_iinc (v := nI (j + 1)) (lv' := [(3, .int (nI (j + 1))), (2, .int (tw_bI (tw_all (tw_aQ k g F) (j + 1)))), (1, .int (tw_bI (tw_all (tw_aP k g F) (j + 1)))), (0, .ref h0)]) hx hb dX1_off_78 hl (k := 3) rfl (nI_1 j) (by decide) rfl (fun ls hl => ?_)
                refine lv_goto (tgt := 6) hx hb dX1_off_81 (by decide) ?_
                exact ih (j + 1) ls (by omega) (lv_sub hl [3, 2, 1, 0] rfl)
              · have c_69 : tq_qs (tw_ml g (tq_col F j)) k = F (64 * (k + 1) + j) := tq_eb_inj c_69
                refine lv_iconst (v := 1) hx hb dX1_off_72 (by decide) ?_
                refine lv_goto (tgt := 77) hx hb dX1_off_73 (by decide) ?_
                refine tw_topr (x' := tw_bI (tw_all (tw_aQ k g F) (j + 1))) (by simp [tw_all, tw_aQ, tw_bI, c_46, c_69]) ?_
                refine lv_istore_n (lv' := [(2, .int (tw_bI (tw_all (tw_aQ k g F) (j + 1)))), (1, .int (tw_bI (tw_all (tw_aP k g F) (j + 1)))), (0, .ref h0), (3, .int (nI j))]) hx hb dX1_off_77 rfl hl (by decide) rfl (fun ls hl => ?_)
                refine lv_iinc (v := nI (j + 1)) (lv' := [(3, .int (nI (j + 1))), (2, .int (tw_bI (tw_all (tw_aQ k g F) (j + 1)))), (1, .int (tw_bI (tw_all (tw_aP k g F) (j + 1)))), (0, .ref h0)]) hx hb dX1_off_78 hl (k := 3) rfl (nI_1 j) (by decide) rfl (fun ls hl => ?_)
                refine lv_goto (tgt := 6) hx hb dX1_off_81 (by decide) ?_
                exact ih (j + 1) ls (by omega) (lv_sub hl [3, 2, 1, 0] rfl)
  refine lv_iconst (v := 1) hx hb dX1_off_0 (by decide) ?_
  refine lv_istore_n (lv' := [(1, .int 1), (0, .ref h0)]) hx hb dX1_off_1 rfl hl (by decide) rfl (fun ls hl => ?_)
  refine lv_iconst (v := 1) hx hb dX1_off_2 (by decide) ?_
  refine lv_istore_n (lv' := [(2, .int 1), (1, .int 1), (0, .ref h0)]) hx hb dX1_off_3 rfl hl (by decide) rfl (fun ls hl => ?_)
  refine lv_iconst (v := 0) hx hb dX1_off_4 (by decide) ?_
  refine lv_istore_n (lv' := [(3, .int 0), (2, .int 1), (1, .int 1), (0, .ref h0)]) hx hb dX1_off_5 rfl hl (by decide) rfl (fun ls hl => ?_)
  exact loop 64 0 ls (by omega) (lv_sub hl [3, 2, 1, 0] rfl)
