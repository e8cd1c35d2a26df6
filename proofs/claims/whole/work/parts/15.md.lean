theorem tq_xe {a b c : BitVec 8} : a ^^^ b = c ↔ b = a ^^^ c := by
  constructor
  · intro h; rw [← h, tq_cl]
  · intro h; rw [h, tq_cl]
def tw_x1 (k : Nat) (g : Nat → Bool) (a : Nat) (c : Nat → BitVec 8) : BitVec 8 := if g k then tq_m (tq_qs (tw_ml g c) k ^^^ c (k + 1)) (tq_i (tq_p a 1#8)) else tq_xs (tw_ml g c) k ^^^ c k
def tw_x2 (k : Nat) (g : Nat → Bool) (a b : Nat) (c : Nat → BitVec 8) : BitVec 8 := tq_m (tq_qs (tw_ml g c) k ^^^ c (k + 1) ^^^ tq_p b (tq_xs (tw_ml g c) k ^^^ c k)) (tq_i (tq_p a 1#8 ^^^ tq_p b 1#8))
theorem tq_div {b x y : BitVec 8} (hb : b ≠ 0#8) : tq_m x b = y ↔ x = tq_m y (tq_i b) := by
  constructor
  · intro h; rw [← h, tq_i1 hb]
  · intro h; rw [h, tq_i2 hb]
theorem tw_s1 {k : Nat} {g : Nat → Bool} {a : Nat} {c : Nat → BitVec 8} (ha : a < 16) (hq : g k = true → g (k + 1) = false) (x : BitVec 8) : tw_wf k g c (tq_xs (tw_ml g c) k ^^^ x) (tq_qs (tw_ml g c) k ^^^ tq_p a x) true = true ↔ x = tw_x1 k g a c := by
  unfold tw_wf tw_x1
  cases hg : g k with
  | false => simp [tq_xe]
  | true =>
    simp only [hq hg, Bool.true_or, Bool.true_and, Bool.false_or, Bool.not_true, Bool.or_false, decide_eq_true_eq, if_true]
    rw [tq_xe, ← tq_mp ha, tq_div (tq_pn a ha)]
theorem tw_s2 {k : Nat} {g : Nat → Bool} {a b : Nat} {c : Nat → BitVec 8} (ha : a < 16) (hb : b < 16) (hab : a ≠ b) (h1 : g k = false) (h2 : g (k + 1) = false) (x : BitVec 8) :
    tw_wf k g c (tq_xs (tw_ml g c) k ^^^ x ^^^ (tq_xs (tw_ml g c) k ^^^ x ^^^ c k)) (tq_qs (tw_ml g c) k ^^^ tq_p a x ^^^ tq_p b (tq_xs (tw_ml g c) k ^^^ x ^^^ c k)) false = true ↔ x = tw_x2 k g a b c := by
  unfold tw_wf tw_x2
  rw [h1, h2]
  have e1 : tq_xs (tw_ml g c) k ^^^ x ^^^ (tq_xs (tw_ml g c) k ^^^ x ^^^ c k) = c k := tq_cl _ _
  rw [e1]
  simp only [Bool.false_or, decide_true, Bool.true_and, Bool.false_and, Bool.or_false, decide_eq_true_eq]
  rw [← tq_div (tq_pnn a ha b hb hab), tq_m_add2, tq_mp ha, tq_mp hb]
  generalize tq_qs (tw_ml g c) k = Y
  generalize tq_xs (tw_ml g c) k = X
  simp only [tq_p_add]
  generalize tq_p a x = A
  generalize tq_p b x = B
  generalize tq_p b X = U
  generalize tq_p b (c k) = V
  generalize c (k + 1) = q
  constructor
  · intro h; rw [← h]; simp [BitVec.xor_assoc, BitVec.xor_comm, tq_lc, tq_cl]
  · intro h
    have h2 : q = Y ^^^ (U ^^^ V) ^^^ (A ^^^ B) := by rw [h]; simp [BitVec.xor_assoc, BitVec.xor_comm, tq_lc, tq_cl]
    rw [h2]; simp [BitVec.xor_assoc, BitVec.xor_comm, tq_lc, tq_cl]
def tw_f1 (k : Nat) (g : Nat → Bool) (a : Nat) (F : Nat → BitVec 8) : Nat → Nat → BitVec 8
  | 0 => F
  | n + 1 => va_up (tw_f1 k g a F n) (64 * a + n) (tw_x1 k g a (tq_col (tw_f1 k g a F n) n))
def tw_f2 (k : Nat) (g : Nat → Bool) (a b : Nat) (F : Nat → BitVec 8) : Nat → Nat → BitVec 8
  | 0 => F
  | n + 1 => va_up (va_up (tw_f2 k g a b F n) (64 * a + n) (tw_x2 k g a b (tq_col (tw_f2 k g a b F n) n))) (64 * b + n) (tw_zz k g (tw_f2 k g a b F n) n (tw_x2 k g a b (tq_col (tw_f2 k g a b F n) n)))
def tw_pq1 (k : Nat) (g : Nat → Bool) (G : Nat → BitVec 8) (n : Nat) : Nat → BitVec 8 := va_up G (64 * k + n) (if g k then tq_xs (tw_ml g (tq_col G n)) k else G (64 * k + n))
def tw_pq (k : Nat) (g : Nat → Bool) (F : Nat → BitVec 8) : Nat → Nat → BitVec 8
  | 0 => F
  | n + 1 => va_up (tw_pq1 k g (tw_pq k g F n) n) (64 * (k + 1) + n) (if g (k + 1) then tq_qs (tw_ml g (tq_col (tw_pq1 k g (tw_pq k g F n) n) n)) k else tw_pq1 k g (tw_pq k g F n) n (64 * (k + 1) + n))
def tw_mF1 (k : Nat) (F : Nat → BitVec 8) (g : Nat → Bool) (a b : Nat) : Nat → BitVec 8 := if a < k then (if b < k then tw_f2 k g a b F 64 else tw_f1 k g a F 64) else F
def tw_mb (k : Nat) (g : Nat → Bool) (a : Nat) : Nat := if a < k + 2 then tw_low g (a + 1) (k + 2 - (a + 1)) else k + 2
def tw_g2 (k : Nat) (g : Nat → Bool) : Nat → Bool := va_up (va_up (tw_gl g k) k false) (k + 1) false
def tw_ok (k : Nat) (g : Nat → Bool) : Prop := ∀ a b : Nat, a = tw_low g 0 (k + 2) → b = tw_mb k g a → a < k → ((b < k → g k = false ∧ g (k + 1) = false) ∧ (¬ b < k → g k = true → g (k + 1) = false))
def tw_min (a k : Nat) : Nat := if a < k then a else k
def tw_mmend (k : Nat) (F : Nat → BitVec 8) (g : Nat → Bool) : Int32 × (Nat × (Nat → BitVec 8) × (Nat → Bool)) := (nI (tw_mc g (k + 2)), (k, tw_pq k (tw_gl g k) (tw_mF1 k F g (tw_low g 0 (k + 2)) (tw_mb k g (tw_low g 0 (k + 2)))) 64, tw_g2 k g))
abbrev rmX1_mend : Room := { frames := 5, cells := 0, slots := 0, locals := 128 }
theorem inX1_mend : ∀ w ∈ wsX10, w ∈ wsX1_mend := fun _ h => List.mem_cons_of_mem _ (List.mem_append_right _ h)
theorem fX1_mend_21 : Cond.fieldLink RX1 21 "TwinParityModel" "thrown" "I" ∈ wsX1_mend := List.mem_of_getElem? (i := 1) rfl
theorem fX1_mend_25 : Cond.fieldLink RX1 25 "TwinParityModel" "units" "I" ∈ wsX1_mend := List.mem_of_getElem? (i := 2) rfl
theorem fX1_mend_13 : Cond.fieldLink RX1 13 "TwinParityModel" "lost" "[Z" ∈ wsX1_mend := List.mem_of_getElem? (i := 3) rfl
theorem fX1_mend_7 : Cond.fieldLink RX1 7 "TwinParityModel" "bytes" "[I" ∈ wsX1_mend := List.mem_of_getElem? (i := 4) rfl
theorem kdX1_mend : yX1_mend.cls = RX1 ∧ yX1_mend.cls ≠ "java/lang/invoke/MethodHandle" ∧ yX1_mend.cls ≠ "java/lang/invoke/VarHandle" ∧ (parseMethodDescriptor yX1_mend.desc).map (fun d => d.parameters.length) = some 0 := by decide +kernel
set_option maxHeartbeats 4000000 in
set_option maxRecDepth 100000 in
theorem c_X1_mend (l : Launch) (D : va_G) (cA cB : ClassId) (h0 a0 b0 k : Nat) (F : Nat → BitVec 8) (g : Nat → Bool) (sz : Nat) (hk : k ≤ 14) (hok : tw_ok k g) : Met l yX1_mend wsX1_mend rmX1_mend (va_Pc [.ref h0] (tw_Pw D (tw_M cA cB h0 a0 b0 k F g) (tw_tM cA cB) sz)) (va_Qi (fun (r : Int32) (u : Nat × (Nat → BitVec 8) × (Nat → Bool)) => (r, u) = tw_mmend k F g) (tw_Qw D (fun u : Nat × (Nat → BitVec 8) × (Nat → Bool) => tw_M cA cB h0 a0 b0 u.1 u.2.1 u.2.2) (tw_tM cA cB) (va_A (tw_M cA cB h0 a0 b0 k F g) sz)) (va_A (tw_M cA cB h0 a0 b0 k F g) sz)) 0 0 (va_A (tw_M cA cB h0 a0 b0 k F g) sz) := by
  refine tw_metW (by decide) rfl rfl (Nat.le_of_ble_eq_true rfl) ?_
  intro p e s m args below meth c Q ls A hx hb hml hown hts hP hK hD hS hA hend hl
  have hown : s.vm.findClass RX1 = some m.cls := hown
  have hl : lv_has ls 7 [(0, .ref h0)] := hl
  obtain ⟨a, ha⟩ : ∃ a, a = tw_low g 0 (k + 2) := ⟨_, rfl⟩
  obtain ⟨b, hb9⟩ : ∃ b, b = tw_mb k g a := ⟨_, rfl⟩
  have hab : a ≤ k + 2 := by have := tw_low_le g 0 (k + 2); omega
  have hbb : (a < b ∨ a = k + 2) ∧ b ≤ k + 2 := by
    rw [hb9, tw_mb]
    split
    · rename_i h9
      have := tw_low_le g (a + 1) (k + 2 - (a + 1))
      omega
    · omega
  have loopB : ∀ (n j : Nat) (ls : Array Slot) (H : Heap) (locs : List Loc), j + n = 64 → va_P D vwCl (tw_M cA cB h0 a0 b0 k (tw_pq k (tw_gl g k) (tw_mF1 k F g a b) j) (tw_gl g k)) H → va_D A (tw_M cA cB h0 a0 b0 k (tw_pq k (tw_gl g k) (tw_mF1 k F g a b) j) (tw_gl g k)) → va_S A s.heap H locs → lv_has ls 7 [(0, .ref h0), (1, .int (nI (tw_mc g (k + 2)))), (6, .int (nI j))] → W p l e rmX1_mend s m args below meth c H locs 0 0 Q (F0 m 139 ls []) := by
    intro n
    induction n with
    | zero =>
      intro j ls H locs hj hP hD hS hl
      refine lv_iload hx hb dX1_mend_139 (lv_at hl 2 rfl) ?_
      refine lv_bipush (v := 64) hx hb dX1_mend_141 (by decide) ?_
      refine lv_icmp_ge (tgt := 256) hx hb dX1_mend_143 (by decide) (fun c_143 => ?_) (fun c_143 => ?_)
      · rw [show j = 64 by omega] at hP hD
        refine lv_aload_n hx hb dX1_mend_256 rfl (lv_at hl 0 rfl) ?_
        refine va_get (D := D) (ci := 1) (v := .ref b0) (C := RX1) (T := TX1) (N := 4) hx hb hts inX1_mend hown hK hP 0 rfl rfl 3 (by decide) (hts _ fX1_mend_13) (fun _ h9 => h9) rfl dX1_mend_257 ?_
        refine lv_aload_n hx hb dX1_mend_260 rfl (lv_at hl 0 rfl) ?_
        refine tw_rM ⟨hx, hb, hml, hown, hts⟩ hK hP (c_X1_p l D cA cB h0 a0 b0 k (tw_pq k (tw_gl g k) (tw_mF1 k F g a b) 64) (tw_gl g k) ) (cwV 0 hts gX1_mend_X1_p rfl rfl rfl kdX1_p ⟨Nat.le_of_ble_eq_true rfl, Nat.le_of_ble_eq_true rfl⟩) rfl hl.1 rfl (Nat.le_of_ble_eq_true rfl) dX1_mend_261 ⟨Nat.zero_le _, Nat.zero_le _⟩ ?_
        refine lv_iconst (v := 0) hx hb dX1_mend_264 (by decide) ?_
        refine tw_sz hx hb hK hP hD hS 2 1 rfl rfl (n := k) (v := false) (rfl) (rfl) (by omega) (by decide) dX1_mend_265 (fun H locs hP hD hS => ?_)
        have hP : va_P D vwCl (tw_M cA cB h0 a0 b0 k (tw_pq k (tw_gl g k) (tw_mF1 k F g a b) 64) (va_up (tw_gl g k) (k) (false))) H := hP
        have hD : va_D A (tw_M cA cB h0 a0 b0 k (tw_pq k (tw_gl g k) (tw_mF1 k F g a b) 64) (va_up (tw_gl g k) (k) (false))) := hD
        refine lv_aload_n hx hb dX1_mend_266 rfl (lv_at hl 0 rfl) ?_
        refine va_get (D := D) (ci := 1) (v := .ref b0) (C := RX1) (T := TX1) (N := 4) hx hb hts inX1_mend hown hK hP 0 rfl rfl 3 (by decide) (hts _ fX1_mend_13) (fun _ h9 => h9) rfl dX1_mend_267 ?_
        refine lv_aload_n hx hb dX1_mend_270 rfl (lv_at hl 0 rfl) ?_
        refine tw_rM ⟨hx, hb, hml, hown, hts⟩ hK hP (c_X1_q l D cA cB h0 a0 b0 k (tw_pq k (tw_gl g k) (tw_mF1 k F g a b) 64) (va_up (tw_gl g k) (k) (false)) ) (cwV 0 hts gX1_mend_X1_q rfl rfl rfl kdX1_q ⟨Nat.le_of_ble_eq_true rfl, Nat.le_of_ble_eq_true rfl⟩) rfl hl.1 rfl (Nat.le_of_ble_eq_true rfl) dX1_mend_271 ⟨Nat.zero_le _, Nat.zero_le _⟩ ?_
        refine lv_iconst (v := 0) hx hb dX1_mend_274 (by decide) ?_
        refine tw_sz hx hb hK hP hD hS 2 1 rfl rfl (n := k + 1) (v := false) (rfl) (rfl) (by omega) (by decide) dX1_mend_275 (fun H locs hP hD hS => ?_)
        have hP : va_P D vwCl (tw_M cA cB h0 a0 b0 k (tw_pq k (tw_gl g k) (tw_mF1 k F g a b) 64) (va_up (va_up (tw_gl g k) (k) (false)) (k + 1) (false))) H := hP
        have hD : va_D A (tw_M cA cB h0 a0 b0 k (tw_pq k (tw_gl g k) (tw_mF1 k F g a b) 64) (va_up (va_up (tw_gl g k) (k) (false)) (k + 1) (false))) := hD
        refine lv_iload_n hx hb dX1_mend_276 rfl (lv_at hl 1 rfl) ?_
        exact hend _ _ _ (k, tw_pq k (tw_gl g k) (tw_mF1 k F g a b) 64, tw_g2 k g) _ _ dX1_mend_277 (by rw [tw_mmend, ← ha, ← hb9]) hP hD hS
      · exact absurd (nI_le (a := 64) (by omega) (by omega)) c_143
    | succ n ih =>
      intro j ls H locs hj hP hD hS hl
      refine lv_iload hx hb dX1_mend_139 (lv_at hl 2 rfl) ?_
      refine lv_bipush (v := 64) hx hb dX1_mend_141 (by decide) ?_
      refine lv_icmp_ge (tgt := 256) hx hb dX1_mend_143 (by decide) (fun c_143 => ?_) (fun c_143 => ?_)
      · exact absurd c_143 (nI_ge (b := 64) (by omega) (by omega))
      · refine lv_aload_n hx hb dX1_mend_146 rfl (lv_at hl 0 rfl) ?_
        refine va_get (D := D) (ci := 1) (v := .ref a0) (C := RX1) (T := TX1) (N := 4) hx hb hts inX1_mend hown hK hP 0 rfl rfl 2 (by decide) (hts _ fX1_mend_7) (fun _ h9 => h9) rfl dX1_mend_147 ?_
        refine lv_bipush (v := 64) hx hb dX1_mend_150 (by decide) ?_
        refine lv_aload_n hx hb dX1_mend_152 rfl (lv_at hl 0 rfl) ?_
        refine tw_rM ⟨hx, hb, hml, hown, hts⟩ hK hP (c_X1_p l D cA cB h0 a0 b0 k (tw_pq k (tw_gl g k) (tw_mF1 k F g a b) j) (tw_gl g k) ) (cwV 0 hts gX1_mend_X1_p rfl rfl rfl kdX1_p ⟨Nat.le_of_ble_eq_true rfl, Nat.le_of_ble_eq_true rfl⟩) rfl hl.1 rfl (Nat.le_of_ble_eq_true rfl) dX1_mend_153 ⟨Nat.zero_le _, Nat.zero_le _⟩ ?_
        refine lv_imul hx hb dX1_mend_156 ?_
        refine lv_iload hx hb dX1_mend_157 (lv_at hl 2 rfl) ?_
        refine lv_iadd hx hb dX1_mend_159 ?_
        refine tw_topr (x' := nI (64 * k + j)) (tw_ix' k j) ?_
        refine lv_aload_n hx hb dX1_mend_160 rfl (lv_at hl 0 rfl) ?_
        refine va_get (D := D) (ci := 1) (v := .ref b0) (C := RX1) (T := TX1) (N := 4) hx hb hts inX1_mend hown hK hP 0 rfl rfl 3 (by decide) (hts _ fX1_mend_13) (fun _ h9 => h9) rfl dX1_mend_161 ?_
        refine lv_aload_n hx hb dX1_mend_164 rfl (lv_at hl 0 rfl) ?_
        refine tw_rM ⟨hx, hb, hml, hown, hts⟩ hK hP (c_X1_p l D cA cB h0 a0 b0 k (tw_pq k (tw_gl g k) (tw_mF1 k F g a b) j) (tw_gl g k) ) (cwV 0 hts gX1_mend_X1_p rfl rfl rfl kdX1_p ⟨Nat.le_of_ble_eq_true rfl, Nat.le_of_ble_eq_true rfl⟩) rfl hl.1 rfl (Nat.le_of_ble_eq_true rfl) dX1_mend_165 ⟨Nat.zero_le _, Nat.zero_le _⟩ ?_
        refine tw_lz hx hb hK hP 2 1 rfl rfl (n := k) (rfl) (by omega) (by decide) dX1_mend_168 ?_
        refine lv_if_eq (tgt := 182) hx hb dX1_mend_169 (by decide) (fun c_169 => ?_) (fun c_169 => ?_)
        · refine lv_aload_n hx hb dX1_mend_182 rfl (lv_at hl 0 rfl) ?_
          refine va_get (D := D) (ci := 1) (v := .ref a0) (C := RX1) (T := TX1) (N := 4) hx hb hts inX1_mend hown hK hP 0 rfl rfl 2 (by decide) (hts _ fX1_mend_7) (fun _ h9 => h9) rfl dX1_mend_183 ?_
          refine lv_bipush (v := 64) hx hb dX1_mend_186 (by decide) ?_
          refine lv_aload_n hx hb dX1_mend_188 rfl (lv_at hl 0 rfl) ?_
          refine tw_rM ⟨hx, hb, hml, hown, hts⟩ hK hP (c_X1_p l D cA cB h0 a0 b0 k (tw_pq k (tw_gl g k) (tw_mF1 k F g a b) j) (tw_gl g k) ) (cwV 0 hts gX1_mend_X1_p rfl rfl rfl kdX1_p ⟨Nat.le_of_ble_eq_true rfl, Nat.le_of_ble_eq_true rfl⟩) rfl hl.1 rfl (Nat.le_of_ble_eq_true rfl) dX1_mend_189 ⟨Nat.zero_le _, Nat.zero_le _⟩ ?_
          refine lv_imul hx hb dX1_mend_192 ?_
          refine lv_iload hx hb dX1_mend_193 (lv_at hl 2 rfl) ?_
          refine lv_iadd hx hb dX1_mend_195 ?_
          refine tw_ld hx hb hK hP 1 0 rfl rfl (n := 64 * k + j) (tw_ix' k j) (by omega) (by decide) dX1_mend_196 ?_
          refine tw_st hx hb hK hP hD hS 1 0 rfl rfl (n := 64 * k + j) (v := if tw_gl g k k then tq_xs (tw_ml (tw_gl g k) (tq_col (tw_pq k (tw_gl g k) (tw_mF1 k F g a b) j) j)) k else (tw_pq k (tw_gl g k) (tw_mF1 k F g a b) j) (64 * k + j)) (rfl) (by first | (rw [if_pos (tw_bI1.mp c_169)]; rfl) | (rw [if_neg (by rw [tw_bI0.mp c_169]; decide)])) (by omega) (by decide) dX1_mend_197 (fun H locs hP hD hS => ?_)
          have hP : va_P D vwCl (tw_M cA cB h0 a0 b0 k (va_up (tw_pq k (tw_gl g k) (tw_mF1 k F g a b) j) (64 * k + j) (if tw_gl g k k then tq_xs (tw_ml (tw_gl g k) (tq_col (tw_pq k (tw_gl g k) (tw_mF1 k F g a b) j) j)) k else (tw_pq k (tw_gl g k) (tw_mF1 k F g a b) j) (64 * k + j))) (tw_gl g k)) H := hP
          have hD : va_D A (tw_M cA cB h0 a0 b0 k (va_up (tw_pq k (tw_gl g k) (tw_mF1 k F g a b) j) (64 * k + j) (if tw_gl g k k then tq_xs (tw_ml (tw_gl g k) (tq_col (tw_pq k (tw_gl g k) (tw_mF1 k F g a b) j) j)) k else (tw_pq k (tw_gl g k) (tw_mF1 k F g a b) j) (64 * k + j))) (tw_gl g k)) := hD
          rw [show va_up (tw_pq k (tw_gl g k) (tw_mF1 k F g a b) j) (64 * k + j) (if tw_gl g k k then tq_xs (tw_ml (tw_gl g k) (tq_col (tw_pq k (tw_gl g k) (tw_mF1 k F g a b) j) j)) k else (tw_pq k (tw_gl g k) (tw_mF1 k F g a b) j) (64 * k + j)) = tw_pq1 k (tw_gl g k) (tw_pq k (tw_gl g k) (tw_mF1 k F g a b) j) j from rfl] at hP hD
          refine lv_aload_n hx hb dX1_mend_198 rfl (lv_at hl 0 rfl) ?_
          refine va_get (D := D) (ci := 1) (v := .ref a0) (C := RX1) (T := TX1) (N := 4) hx hb hts inX1_mend hown hK hP 0 rfl rfl 2 (by decide) (hts _ fX1_mend_7) (fun _ h9 => h9) rfl dX1_mend_199 ?_
          refine lv_bipush (v := 64) hx hb dX1_mend_202 (by decide) ?_
          refine lv_aload_n hx hb dX1_mend_204 rfl (lv_at hl 0 rfl) ?_
          refine tw_rM ⟨hx, hb, hml, hown, hts⟩ hK hP (c_X1_q l D cA cB h0 a0 b0 k (tw_pq1 k (tw_gl g k) (tw_pq k (tw_gl g k) (tw_mF1 k F g a b) j) j) (tw_gl g k) ) (cwV 0 hts gX1_mend_X1_q rfl rfl rfl kdX1_q ⟨Nat.le_of_ble_eq_true rfl, Nat.le_of_ble_eq_true rfl⟩) rfl hl.1 rfl (Nat.le_of_ble_eq_true rfl) dX1_mend_205 ⟨Nat.zero_le _, Nat.zero_le _⟩ ?_
          refine lv_imul hx hb dX1_mend_208 ?_
          refine lv_iload hx hb dX1_mend_209 (lv_at hl 2 rfl) ?_
          refine lv_iadd hx hb dX1_mend_211 ?_
          refine tw_topr (x' := nI (64 * (k + 1) + j)) (tw_ix' (k + 1) j) ?_
          refine lv_aload_n hx hb dX1_mend_212 rfl (lv_at hl 0 rfl) ?_
          refine va_get (D := D) (ci := 1) (v := .ref b0) (C := RX1) (T := TX1) (N := 4) hx hb hts inX1_mend hown hK hP 0 rfl rfl 3 (by decide) (hts _ fX1_mend_13) (fun _ h9 => h9) rfl dX1_mend_213 ?_
          refine lv_aload_n hx hb dX1_mend_216 rfl (lv_at hl 0 rfl) ?_
          refine tw_rM ⟨hx, hb, hml, hown, hts⟩ hK hP (c_X1_q l D cA cB h0 a0 b0 k (tw_pq1 k (tw_gl g k) (tw_pq k (tw_gl g k) (tw_mF1 k F g a b) j) j) (tw_gl g k) ) (cwV 0 hts gX1_mend_X1_q rfl rfl rfl kdX1_q ⟨Nat.le_of_ble_eq_true rfl, Nat.le_of_ble_eq_true rfl⟩) rfl hl.1 rfl (Nat.le_of_ble_eq_true rfl) dX1_mend_217 ⟨Nat.zero_le _, Nat.zero_le _⟩ ?_
          refine tw_lz hx hb hK hP 2 1 rfl rfl (n := k + 1) (rfl) (by omega) (by decide) dX1_mend_220 ?_
          refine lv_if_eq (tgt := 234) hx hb dX1_mend_221 (by decide) (fun c_221 => ?_) (fun c_221 => ?_)
          · refine lv_aload_n hx hb dX1_mend_234 rfl (lv_at hl 0 rfl) ?_
            refine va_get (D := D) (ci := 1) (v := .ref a0) (C := RX1) (T := TX1) (N := 4) hx hb hts inX1_mend hown hK hP 0 rfl rfl 2 (by decide) (hts _ fX1_mend_7) (fun _ h9 => h9) rfl dX1_mend_235 ?_
            refine lv_bipush (v := 64) hx hb dX1_mend_238 (by decide) ?_
            refine lv_aload_n hx hb dX1_mend_240 rfl (lv_at hl 0 rfl) ?_
            refine tw_rM ⟨hx, hb, hml, hown, hts⟩ hK hP (c_X1_q l D cA cB h0 a0 b0 k (tw_pq1 k (tw_gl g k) (tw_pq k (tw_gl g k) (tw_mF1 k F g a b) j) j) (tw_gl g k) ) (cwV 0 hts gX1_mend_X1_q rfl rfl rfl kdX1_q ⟨Nat.le_of_ble_eq_true rfl, Nat.le_of_ble_eq_true rfl⟩) rfl hl.1 rfl (Nat.le_of_ble_eq_true rfl) dX1_mend_241 ⟨Nat.zero_le _, Nat.zero_le _⟩ ?_
            refine lv_imul hx hb dX1_mend_244 ?_
            refine lv_iload hx hb dX1_mend_245 (lv_at hl 2 rfl) ?_
            refine lv_iadd hx hb dX1_mend_247 ?_
            refine tw_ld hx hb hK hP 1 0 rfl rfl (n := 64 * (k + 1) + j) (tw_ix' (k + 1) j) (by omega) (by decide) dX1_mend_248 ?_
            refine tw_st hx hb hK hP hD hS 1 0 rfl rfl (n := 64 * (k + 1) + j) (v := if tw_gl g k (k + 1) then tq_qs (tw_ml (tw_gl g k) (tq_col (tw_pq1 k (tw_gl g k) (tw_pq k (tw_gl g k) (tw_mF1 k F g a b) j) j) j)) k else (tw_pq1 k (tw_gl g k) (tw_pq k (tw_gl g k) (tw_mF1 k F g a b) j) j) (64 * (k + 1) + j)) (rfl) (by first | (rw [if_pos (tw_bI1.mp c_221)]; rfl) | (rw [if_neg (by rw [tw_bI0.mp c_221]; decide)])) (by omega) (by decide) dX1_mend_249 (fun H locs hP hD hS => ?_)
            have hP : va_P D vwCl (tw_M cA cB h0 a0 b0 k (va_up (tw_pq1 k (tw_gl g k) (tw_pq k (tw_gl g k) (tw_mF1 k F g a b) j) j) (64 * (k + 1) + j) (if tw_gl g k (k + 1) then tq_qs (tw_ml (tw_gl g k) (tq_col (tw_pq1 k (tw_gl g k) (tw_pq k (tw_gl g k) (tw_mF1 k F g a b) j) j) j)) k else (tw_pq1 k (tw_gl g k) (tw_pq k (tw_gl g k) (tw_mF1 k F g a b) j) j) (64 * (k + 1) + j))) (tw_gl g k)) H := hP
            have hD : va_D A (tw_M cA cB h0 a0 b0 k (va_up (tw_pq1 k (tw_gl g k) (tw_pq k (tw_gl g k) (tw_mF1 k F g a b) j) j) (64 * (k + 1) + j) (if tw_gl g k (k + 1) then tq_qs (tw_ml (tw_gl g k) (tq_col (tw_pq1 k (tw_gl g k) (tw_pq k (tw_gl g k) (tw_mF1 k F g a b) j) j) j)) k else (tw_pq1 k (tw_gl g k) (tw_pq k (tw_gl g k) (tw_mF1 k F g a b) j) j) (64 * (k + 1) + j))) (tw_gl g k)) := hD
            rw [show va_up (tw_pq1 k (tw_gl g k) (tw_pq k (tw_gl g k) (tw_mF1 k F g a b) j) j) (64 * (k + 1) + j) (if tw_gl g k (k + 1) then tq_qs (tw_ml (tw_gl g k) (tq_col (tw_pq1 k (tw_gl g k) (tw_pq k (tw_gl g k) (tw_mF1 k F g a b) j) j) j)) k else (tw_pq1 k (tw_gl g k) (tw_pq k (tw_gl g k) (tw_mF1 k F g a b) j) j) (64 * (k + 1) + j)) = tw_pq k (tw_gl g k) (tw_mF1 k F g a b) (j + 1) from rfl] at hP hD
            refine lv_iinc (v := nI (j + 1)) (lv' := [(6, .int (nI (j + 1))), (0, .ref h0), (1, .int (nI (tw_mc g (k + 2))))]) hx hb dX1_mend_250 hl (k := 2) rfl (nI_1 j) (by decide) rfl (fun ls hl => ?_)
            refine lv_goto (tgt := 139) hx hb dX1_mend_253 (by decide) ?_
            exact ih (j + 1) ls H locs (by omega) hP hD hS (lv_sub hl [1, 2, 0] rfl)
          · refine lv_aload_n hx hb dX1_mend_224 rfl (lv_at hl 0 rfl) ?_
            refine lv_iload hx hb dX1_mend_225 (lv_at hl 2 rfl) ?_
            refine lv_iconst (v := 1) hx hb dX1_mend_227 (by decide) ?_
            refine tw_rM ⟨hx, hb, hml, hown, hts⟩ hK hP (c_X1_sumAt l D cA cB h0 a0 b0 k (tw_pq1 k (tw_gl g k) (tw_pq k (tw_gl g k) (tw_mF1 k F g a b) j) j) (tw_gl g k) j true (by omega) hk) (cwV 2 hts gX1_mend_X1_sumAt rfl rfl rfl kdX1_sumAt ⟨Nat.le_of_ble_eq_true rfl, Nat.le_of_ble_eq_true rfl⟩) rfl hl.1 rfl (Nat.le_of_ble_eq_true rfl) dX1_mend_228 ⟨Nat.zero_le _, Nat.zero_le _⟩ ?_
            refine lv_goto (tgt := 249) hx hb dX1_mend_231 (by decide) ?_
            refine tw_st hx hb hK hP hD hS 1 0 rfl rfl (n := 64 * (k + 1) + j) (v := if tw_gl g k (k + 1) then tq_qs (tw_ml (tw_gl g k) (tq_col (tw_pq1 k (tw_gl g k) (tw_pq k (tw_gl g k) (tw_mF1 k F g a b) j) j) j)) k else (tw_pq1 k (tw_gl g k) (tw_pq k (tw_gl g k) (tw_mF1 k F g a b) j) j) (64 * (k + 1) + j)) (rfl) (by first | (rw [if_pos (tw_bI1.mp c_221)]; rfl) | (rw [if_neg (by rw [tw_bI0.mp c_221]; decide)])) (by omega) (by decide) dX1_mend_249 (fun H locs hP hD hS => ?_)
            have hP : va_P D vwCl (tw_M cA cB h0 a0 b0 k (va_up (tw_pq1 k (tw_gl g k) (tw_pq k (tw_gl g k) (tw_mF1 k F g a b) j) j) (64 * (k + 1) + j) (if tw_gl g k (k + 1) then tq_qs (tw_ml (tw_gl g k) (tq_col (tw_pq1 k (tw_gl g k) (tw_pq k (tw_gl g k) (tw_mF1 k F g a b) j) j) j)) k else (tw_pq1 k (tw_gl g k) (tw_pq k (tw_gl g k) (tw_mF1 k F g a b) j) j) (64 * (k + 1) + j))) (tw_gl g k)) H := hP
            have hD : va_D A (tw_M cA cB h0 a0 b0 k (va_up (tw_pq1 k (tw_gl g k) (tw_pq k (tw_gl g k) (tw_mF1 k F g a b) j) j) (64 * (k + 1) + j) (if tw_gl g k (k + 1) then tq_qs (tw_ml (tw_gl g k) (tq_col (tw_pq1 k (tw_gl g k) (tw_pq k (tw_gl g k) (tw_mF1 k F g a b) j) j) j)) k else (tw_pq1 k (tw_gl g k) (tw_pq k (tw_gl g k) (tw_mF1 k F g a b) j) j) (64 * (k + 1) + j))) (tw_gl g k)) := hD
            rw [show va_up (tw_pq1 k (tw_gl g k) (tw_pq k (tw_gl g k) (tw_mF1 k F g a b) j) j) (64 * (k + 1) + j) (if tw_gl g k (k + 1) then tq_qs (tw_ml (tw_gl g k) (tq_col (tw_pq1 k (tw_gl g k) (tw_pq k (tw_gl g k) (tw_mF1 k F g a b) j) j) j)) k else (tw_pq1 k (tw_gl g k) (tw_pq k (tw_gl g k) (tw_mF1 k F g a b) j) j) (64 * (k + 1) + j)) = tw_pq k (tw_gl g k) (tw_mF1 k F g a b) (j + 1) from rfl] at hP hD
            refine lv_iinc (v := nI (j + 1)) (lv' := [(6, .int (nI (j + 1))), (0, .ref h0), (1, .int (nI (tw_mc g (k + 2))))]) hx hb dX1_mend_250 hl (k := 2) rfl (nI_1 j) (by decide) rfl (fun ls hl => ?_)
            refine lv_goto (tgt := 139) hx hb dX1_mend_253 (by decide) ?_
            exact ih (j + 1) ls H locs (by omega) hP hD hS (lv_sub hl [1, 2, 0] rfl)
        · refine lv_aload_n hx hb dX1_mend_172 rfl (lv_at hl 0 rfl) ?_
          refine lv_iload hx hb dX1_mend_173 (lv_at hl 2 rfl) ?_
          refine lv_iconst (v := 0) hx hb dX1_mend_175 (by decide) ?_
          refine tw_rM ⟨hx, hb, hml, hown, hts⟩ hK hP (c_X1_sumAt l D cA cB h0 a0 b0 k (tw_pq k (tw_gl g k) (tw_mF1 k F g a b) j) (tw_gl g k) j false (by omega) hk) (cwV 2 hts gX1_mend_X1_sumAt rfl rfl rfl kdX1_sumAt ⟨Nat.le_of_ble_eq_true rfl, Nat.le_of_ble_eq_true rfl⟩) rfl hl.1 rfl (Nat.le_of_ble_eq_true rfl) dX1_mend_176 ⟨Nat.zero_le _, Nat.zero_le _⟩ ?_
          refine lv_goto (tgt := 197) hx hb dX1_mend_179 (by decide) ?_
          refine tw_st hx hb hK hP hD hS 1 0 rfl rfl (n := 64 * k + j) (v := if tw_gl g k k then tq_xs (tw_ml (tw_gl g k) (tq_col (tw_pq k (tw_gl g k) (tw_mF1 k F g a b) j) j)) k else (tw_pq k (tw_gl g k) (tw_mF1 k F g a b) j) (64 * k + j)) (rfl) (by first | (rw [if_pos (tw_bI1.mp c_169)]; rfl) | (rw [if_neg (by rw [tw_bI0.mp c_169]; decide)])) (by omega) (by decide) dX1_mend_197 (fun H locs hP hD hS => ?_)
          have hP : va_P D vwCl (tw_M cA cB h0 a0 b0 k (va_up (tw_pq k (tw_gl g k) (tw_mF1 k F g a b) j) (64 * k + j) (if tw_gl g k k then tq_xs (tw_ml (tw_gl g k) (tq_col (tw_pq k (tw_gl g k) (tw_mF1 k F g a b) j) j)) k else (tw_pq k (tw_gl g k) (tw_mF1 k F g a b) j) (64 * k + j))) (tw_gl g k)) H := hP
          have hD : va_D A (tw_M cA cB h0 a0 b0 k (va_up (tw_pq k (tw_gl g k) (tw_mF1 k F g a b) j) (64 * k + j) (if tw_gl g k k then tq_xs (tw_ml (tw_gl g k) (tq_col (tw_pq k (tw_gl g k) (tw_mF1 k F g a b) j) j)) k else (tw_pq k (tw_gl g k) (tw_mF1 k F g a b) j) (64 * k + j))) (tw_gl g k)) := hD
          rw [show va_up (tw_pq k (tw_gl g k) (tw_mF1 k F g a b) j) (64 * k + j) (if tw_gl g k k then tq_xs (tw_ml (tw_gl g k) (tq_col (tw_pq k (tw_gl g k) (tw_mF1 k F g a b) j) j)) k else (tw_pq k (tw_gl g k) (tw_mF1 k F g a b) j) (64 * k + j)) = tw_pq1 k (tw_gl g k) (tw_pq k (tw_gl g k) (tw_mF1 k F g a b) j) j from rfl] at hP hD
          refine lv_aload_n hx hb dX1_mend_198 rfl (lv_at hl 0 rfl) ?_
          refine va_get (D := D) (ci := 1) (v := .ref a0) (C := RX1) (T := TX1) (N := 4) hx hb hts inX1_mend hown hK hP 0 rfl rfl 2 (by decide) (hts _ fX1_mend_7) (fun _ h9 => h9) rfl dX1_mend_199 ?_
          refine lv_bipush (v := 64) hx hb dX1_mend_202 (by decide) ?_
          refine lv_aload_n hx hb dX1_mend_204 rfl (lv_at hl 0 rfl) ?_
          refine tw_rM ⟨hx, hb, hml, hown, hts⟩ hK hP (c_X1_q l D cA cB h0 a0 b0 k (tw_pq1 k (tw_gl g k) (tw_pq k (tw_gl g k) (tw_mF1 k F g a b) j) j) (tw_gl g k) ) (cwV 0 hts gX1_mend_X1_q rfl rfl rfl kdX1_q ⟨Nat.le_of_ble_eq_true rfl, Nat.le_of_ble_eq_true rfl⟩) rfl hl.1 rfl (Nat.le_of_ble_eq_true rfl) dX1_mend_205 ⟨Nat.zero_le _, Nat.zero_le _⟩ ?_
          refine lv_imul hx hb dX1_mend_208 ?_
          refine lv_iload hx hb dX1_mend_209 (lv_at hl 2 rfl) ?_
          refine lv_iadd hx hb dX1_mend_211 ?_
          refine tw_topr (x' := nI (64 * (k + 1) + j)) (tw_ix' (k + 1) j) ?_
          refine lv_aload_n hx hb dX1_mend_212 rfl (lv_at hl 0 rfl) ?_
          refine va_get (D := D) (ci := 1) (v := .ref b0) (C := RX1) (T := TX1) (N := 4) hx hb hts inX1_mend hown hK hP 0 rfl rfl 3 (by decide) (hts _ fX1_mend_13) (fun _ h9 => h9) rfl dX1_mend_213 ?_
          refine lv_aload_n hx hb dX1_mend_216 rfl (lv_at hl 0 rfl) ?_
          refine tw_rM ⟨hx, hb, hml, hown, hts⟩ hK hP (c_X1_q l D cA cB h0 a0 b0 k (tw_pq1 k (tw_gl g k) (tw_pq k (tw_gl g k) (tw_mF1 k F g a b) j) j) (tw_gl g k) ) (cwV 0 hts gX1_mend_X1_q rfl rfl rfl kdX1_q ⟨Nat.le_of_ble_eq_true rfl, Nat.le_of_ble_eq_true rfl⟩) rfl hl.1 rfl (Nat.le_of_ble_eq_true rfl) dX1_mend_217 ⟨Nat.zero_le _, Nat.zero_le _⟩ ?_
          refine tw_lz hx hb hK hP 2 1 rfl rfl (n := k + 1) (rfl) (by omega) (by decide) dX1_mend_220 ?_
          refine lv_if_eq (tgt := 234) hx hb dX1_mend_221 (by decide) (fun c_221 => ?_) (fun c_221 => ?_)
          · refine lv_aload_n hx hb dX1_mend_234 rfl (lv_at hl 0 rfl) ?_
            refine va_get (D := D) (ci := 1) (v := .ref a0) (C := RX1) (T := TX1) (N := 4) hx hb hts inX1_mend hown hK hP 0 rfl rfl 2 (by decide) (hts _ fX1_mend_7) (fun _ h9 => h9) rfl dX1_mend_235 ?_
            refine lv_bipush (v := 64) hx hb dX1_mend_238 (by decide) ?_
            refine lv_aload_n hx hb dX1_mend_240 rfl (lv_at hl 0 rfl) ?_
            refine tw_rM ⟨hx, hb, hml, hown, hts⟩ hK hP (c_X1_q l D cA cB h0 a0 b0 k (tw_pq1 k (tw_gl g k) (tw_pq k (tw_gl g k) (tw_mF1 k F g a b) j) j) (tw_gl g k) ) (cwV 0 hts gX1_mend_X1_q rfl rfl rfl kdX1_q ⟨Nat.le_of_ble_eq_true rfl, Nat.le_of_ble_eq_true rfl⟩) rfl hl.1 rfl (Nat.le_of_ble_eq_true rfl) dX1_mend_241 ⟨Nat.zero_le _, Nat.zero_le _⟩ ?_
            refine lv_imul hx hb dX1_mend_244 ?_
            refine lv_iload hx hb dX1_mend_245 (lv_at hl 2 rfl) ?_
            refine lv_iadd hx hb dX1_mend_247 ?_
            refine tw_ld hx hb hK hP 1 0 rfl rfl (n := 64 * (k + 1) + j) (tw_ix' (k + 1) j) (by omega) (by decide) dX1_mend_248 ?_
            refine tw_st hx hb hK hP hD hS 1 0 rfl rfl (n := 64 * (k + 1) + j) (v := if tw_gl g k (k + 1) then tq_qs (tw_ml (tw_gl g k) (tq_col (tw_pq1 k (tw_gl g k) (tw_pq k (tw_gl g k) (tw_mF1 k F g a b) j) j) j)) k else (tw_pq1 k (tw_gl g k) (tw_pq k (tw_gl g k) (tw_mF1 k F g a b) j) j) (64 * (k + 1) + j)) (rfl) (by first | (rw [if_pos (tw_bI1.mp c_221)]; rfl) | (rw [if_neg (by rw [tw_bI0.mp c_221]; decide)])) (by omega) (by decide) dX1_mend_249 (fun H locs hP hD hS => ?_)
            have hP : va_P D vwCl (tw_M cA cB h0 a0 b0 k (va_up (tw_pq1 k (tw_gl g k) (tw_pq k (tw_gl g k) (tw_mF1 k F g a b) j) j) (64 * (k + 1) + j) (if tw_gl g k (k + 1) then tq_qs (tw_ml (tw_gl g k) (tq_col (tw_pq1 k (tw_gl g k) (tw_pq k (tw_gl g k) (tw_mF1 k F g a b) j) j) j)) k else (tw_pq1 k (tw_gl g k) (tw_pq k (tw_gl g k) (tw_mF1 k F g a b) j) j) (64 * (k + 1) + j))) (tw_gl g k)) H := hP
            have hD : va_D A (tw_M cA cB h0 a0 b0 k (va_up (tw_pq1 k (tw_gl g k) (tw_pq k (tw_gl g k) (tw_mF1 k F g a b) j) j) (64 * (k + 1) + j) (if tw_gl g k (k + 1) then tq_qs (tw_ml (tw_gl g k) (tq_col (tw_pq1 k (tw_gl g k) (tw_pq k (tw_gl g k) (tw_mF1 k F g a b) j) j) j)) k else (tw_pq1 k (tw_gl g k) (tw_pq k (tw_gl g k) (tw_mF1 k F g a b) j) j) (64 * (k + 1) + j))) (tw_gl g k)) := hD
            rw [show va_up (tw_pq1 k (tw_gl g k) (tw_pq k (tw_gl g k) (tw_mF1 k F g a b) j) j) (64 * (k + 1) + j) (if tw_gl g k (k + 1) then tq_qs (tw_ml (tw_gl g k) (tq_col (tw_pq1 k (tw_gl g k) (tw_pq k (tw_gl g k) (tw_mF1 k F g a b) j) j) j)) k else (tw_pq1 k (tw_gl g k) (tw_pq k (tw_gl g k) (tw_mF1 k F g a b) j) j) (64 * (k + 1) + j)) = tw_pq k (tw_gl g k) (tw_mF1 k F g a b) (j + 1) from rfl] at hP hD
            refine lv_iinc (v := nI (j + 1)) (lv' := [(6, .int (nI (j + 1))), (0, .ref h0), (1, .int (nI (tw_mc g (k + 2))))]) hx hb dX1_mend_250 hl (k := 2) rfl (nI_1 j) (by decide) rfl (fun ls hl => ?_)
            refine lv_goto (tgt := 139) hx hb dX1_mend_253 (by decide) ?_
            exact ih (j + 1) ls H locs (by omega) hP hD hS (lv_sub hl [1, 2, 0] rfl)
          · refine lv_aload_n hx hb dX1_mend_224 rfl (lv_at hl 0 rfl) ?_
            refine lv_iload hx hb dX1_mend_225 (lv_at hl 2 rfl) ?_
            refine lv_iconst (v := 1) hx hb dX1_mend_227 (by decide) ?_
            refine tw_rM ⟨hx, hb, hml, hown, hts⟩ hK hP (c_X1_sumAt l D cA cB h0 a0 b0 k (tw_pq1 k (tw_gl g k) (tw_pq k (tw_gl g k) (tw_mF1 k F g a b) j) j) (tw_gl g k) j true (by omega) hk) (cwV 2 hts gX1_mend_X1_sumAt rfl rfl rfl kdX1_sumAt ⟨Nat.le_of_ble_eq_true rfl, Nat.le_of_ble_eq_true rfl⟩) rfl hl.1 rfl (Nat.le_of_ble_eq_true rfl) dX1_mend_228 ⟨Nat.zero_le _, Nat.zero_le _⟩ ?_
            refine lv_goto (tgt := 249) hx hb dX1_mend_231 (by decide) ?_
            refine tw_st hx hb hK hP hD hS 1 0 rfl rfl (n := 64 * (k + 1) + j) (v := if tw_gl g k (k + 1) then tq_qs (tw_ml (tw_gl g k) (tq_col (tw_pq1 k (tw_gl g k) (tw_pq k (tw_gl g k) (tw_mF1 k F g a b) j) j) j)) k else (tw_pq1 k (tw_gl g k) (tw_pq k (tw_gl g k) (tw_mF1 k F g a b) j) j) (64 * (k + 1) + j)) (rfl) (by first | (rw [if_pos (tw_bI1.mp c_221)]; rfl) | (rw [if_neg (by rw [tw_bI0.mp c_221]; decide)])) (by omega) (by decide) dX1_mend_249 (fun H locs hP hD hS => ?_)
            have hP : va_P D vwCl (tw_M cA cB h0 a0 b0 k (va_up (tw_pq1 k (tw_gl g k) (tw_pq k (tw_gl g k) (tw_mF1 k F g a b) j) j) (64 * (k + 1) + j) (if tw_gl g k (k + 1) then tq_qs (tw_ml (tw_gl g k) (tq_col (tw_pq1 k (tw_gl g k) (tw_pq k (tw_gl g k) (tw_mF1 k F g a b) j) j) j)) k else (tw_pq1 k (tw_gl g k) (tw_pq k (tw_gl g k) (tw_mF1 k F g a b) j) j) (64 * (k + 1) + j))) (tw_gl g k)) H := hP
            have hD : va_D A (tw_M cA cB h0 a0 b0 k (va_up (tw_pq1 k (tw_gl g k) (tw_pq k (tw_gl g k) (tw_mF1 k F g a b) j) j) (64 * (k + 1) + j) (if tw_gl g k (k + 1) then tq_qs (tw_ml (tw_gl g k) (tq_col (tw_pq1 k (tw_gl g k) (tw_pq k (tw_gl g k) (tw_mF1 k F g a b) j) j) j)) k else (tw_pq1 k (tw_gl g k) (tw_pq k (tw_gl g k) (tw_mF1 k F g a b) j) j) (64 * (k + 1) + j))) (tw_gl g k)) := hD
            rw [show va_up (tw_pq1 k (tw_gl g k) (tw_pq k (tw_gl g k) (tw_mF1 k F g a b) j) j) (64 * (k + 1) + j) (if tw_gl g k (k + 1) then tq_qs (tw_ml (tw_gl g k) (tq_col (tw_pq1 k (tw_gl g k) (tw_pq k (tw_gl g k) (tw_mF1 k F g a b) j) j) j)) k else (tw_pq1 k (tw_gl g k) (tw_pq k (tw_gl g k) (tw_mF1 k F g a b) j) j) (64 * (k + 1) + j)) = tw_pq k (tw_gl g k) (tw_mF1 k F g a b) (j + 1) from rfl] at hP hD
            refine lv_iinc (v := nI (j + 1)) (lv' := [(6, .int (nI (j + 1))), (0, .ref h0), (1, .int (nI (tw_mc g (k + 2))))]) hx hb dX1_mend_250 hl (k := 2) rfl (nI_1 j) (by decide) rfl (fun ls hl => ?_)
            refine lv_goto (tgt := 139) hx hb dX1_mend_253 (by decide) ?_
            exact ih (j + 1) ls H locs (by omega) hP hD hS (lv_sub hl [1, 2, 0] rfl)
  have loopA : ∀ (n j : Nat) (ls : Array Slot) (H : Heap) (locs : List Loc), j + n = k → va_P D vwCl (tw_M cA cB h0 a0 b0 k (tw_mF1 k F g a b) (tw_gl g j)) H → va_D A (tw_M cA cB h0 a0 b0 k (tw_mF1 k F g a b) (tw_gl g j)) → va_S A s.heap H locs → lv_has ls 7 [(0, .ref h0), (1, .int (nI (tw_mc g (k + 2)))), (6, .int (nI j))] → W p l e rmX1_mend s m args below meth c H locs 0 0 Q (F0 m 113 ls []) := by
    intro n
    induction n with
    | zero =>
      intro j ls H locs hj hP hD hS hl
      refine lv_iload hx hb dX1_mend_113 (lv_at hl 2 rfl) ?_
      refine lv_aload_n hx hb dX1_mend_115 rfl (lv_at hl 0 rfl) ?_
      refine tw_rM ⟨hx, hb, hml, hown, hts⟩ hK hP (c_X1_p l D cA cB h0 a0 b0 k (tw_mF1 k F g a b) (tw_gl g j) ) (cwV 0 hts gX1_mend_X1_p rfl rfl rfl kdX1_p ⟨Nat.le_of_ble_eq_true rfl, Nat.le_of_ble_eq_true rfl⟩) rfl hl.1 rfl (Nat.le_of_ble_eq_true rfl) dX1_mend_116 ⟨Nat.zero_le _, Nat.zero_le _⟩ ?_
      refine lv_icmp_ge (tgt := 136) hx hb dX1_mend_119 (by decide) (fun c_119 => ?_) (fun c_119 => ?_)
      · rw [show j = k by omega] at hP hD
        refine lv_iconst (v := 0) hx hb dX1_mend_136 (by decide) ?_
        refine lv_istore (lv' := [(6, .int 0), (0, .ref h0), (1, .int (nI (tw_mc g (k + 2))))]) hx hb dX1_mend_137 hl (by decide) rfl (fun ls hl => ?_)
        exact loopB 64 0 ls H locs (by omega) hP hD hS (lv_sub hl [1, 2, 0] rfl)
      · exact absurd (nI_le (by omega) (by omega)) c_119
    | succ n ih =>
      intro j ls H locs hj hP hD hS hl
      refine lv_iload hx hb dX1_mend_113 (lv_at hl 2 rfl) ?_
      refine lv_aload_n hx hb dX1_mend_115 rfl (lv_at hl 0 rfl) ?_
      refine tw_rM ⟨hx, hb, hml, hown, hts⟩ hK hP (c_X1_p l D cA cB h0 a0 b0 k (tw_mF1 k F g a b) (tw_gl g j) ) (cwV 0 hts gX1_mend_X1_p rfl rfl rfl kdX1_p ⟨Nat.le_of_ble_eq_true rfl, Nat.le_of_ble_eq_true rfl⟩) rfl hl.1 rfl (Nat.le_of_ble_eq_true rfl) dX1_mend_116 ⟨Nat.zero_le _, Nat.zero_le _⟩ ?_
      refine lv_icmp_ge (tgt := 136) hx hb dX1_mend_119 (by decide) (fun c_119 => ?_) (fun c_119 => ?_)
      · exact absurd c_119 (nI_ge (by omega) (by omega))
      · refine lv_aload_n hx hb dX1_mend_122 rfl (lv_at hl 0 rfl) ?_
        refine va_get (D := D) (ci := 1) (v := .ref b0) (C := RX1) (T := TX1) (N := 4) hx hb hts inX1_mend hown hK hP 0 rfl rfl 3 (by decide) (hts _ fX1_mend_13) (fun _ h9 => h9) rfl dX1_mend_123 ?_
        refine lv_iload hx hb dX1_mend_126 (lv_at hl 2 rfl) ?_
        refine lv_iconst (v := 0) hx hb dX1_mend_128 (by decide) ?_
        refine tw_sz hx hb hK hP hD hS 2 1 rfl rfl (n := j) (v := false) (rfl) (rfl) (by omega) (by decide) dX1_mend_129 (fun H locs hP hD hS => ?_)
        have hP : va_P D vwCl (tw_M cA cB h0 a0 b0 k (tw_mF1 k F g a b) (va_up (tw_gl g j) (j) (false))) H := hP
        have hD : va_D A (tw_M cA cB h0 a0 b0 k (tw_mF1 k F g a b) (va_up (tw_gl g j) (j) (false))) := hD
        rw [show va_up (tw_gl g j) (j) (false) = tw_gl g (j + 1) from tw_gl_s g j] at hP hD
        refine lv_iinc (v := nI (j + 1)) (lv' := [(6, .int (nI (j + 1))), (0, .ref h0), (1, .int (nI (tw_mc g (k + 2))))]) hx hb dX1_mend_130 hl (k := 2) rfl (nI_1 j) (by decide) rfl (fun ls hl => ?_)
        refine lv_goto (tgt := 113) hx hb dX1_mend_133 (by decide) ?_
        exact ih (j + 1) ls H locs (by omega) hP hD hS (lv_sub hl [1, 2, 0] rfl)
  have J110 : ∀ (ls : Array Slot) (H : Heap) (locs : List Loc), va_P D vwCl (tw_M cA cB h0 a0 b0 k (tw_mF1 k F g a b) g) H → va_D A (tw_M cA cB h0 a0 b0 k (tw_mF1 k F g a b) g) → va_S A s.heap H locs → lv_has ls 7 [(0, .ref h0), (1, .int (nI (tw_mc g (k + 2))))] → W p l e rmX1_mend s m args below meth c H locs 0 0 Q (F0 m 110 ls []) := by
    intro ls H locs hP hD hS hl
    refine lv_iconst (v := 0) hx hb dX1_mend_110 (by decide) ?_
    refine lv_istore (lv' := [(6, .int 0), (0, .ref h0), (1, .int (nI (tw_mc g (k + 2))))]) hx hb dX1_mend_111 hl (by decide) rfl (fun ls hl => ?_)
    have hP : va_P D vwCl (tw_M cA cB h0 a0 b0 k (tw_mF1 k F g a b) (tw_gl g 0)) H := by rw [tw_gl_0]; exact hP
    have hD : va_D A (tw_M cA cB h0 a0 b0 k (tw_mF1 k F g a b) (tw_gl g 0)) := by rw [tw_gl_0]; exact hD
    exact loopA k 0 ls H locs (by omega) hP hD hS (lv_sub hl [1, 2, 0] rfl)
  have J75 : ∀ (ls : Array Slot) (H : Heap) (locs : List Loc), va_P D vwCl (tw_M cA cB h0 a0 b0 k F g) H → va_D A (tw_M cA cB h0 a0 b0 k F g) → va_S A s.heap H locs → lv_has ls 7 [(0, .ref h0), (1, .int (nI (tw_mc g (k + 2)))), (4, .int (nI (tw_min a k))), (5, .int (nI (tw_min b k)))] → W p l e rmX1_mend s m args below meth c H locs 0 0 Q (F0 m 75 ls []) := by
    intro ls H locs hP hD hS hl
    refine lv_iconst (v := 0) hx hb dX1_mend_75 (by decide) ?_
    refine lv_istore (lv' := [(6, .int 0), (0, .ref h0), (1, .int (nI (tw_mc g (k + 2)))), (4, .int (nI (tw_min a k))), (5, .int (nI (tw_min b k)))]) hx hb dX1_mend_76 hl (by decide) rfl (fun ls hl => ?_)
    by_cases hak : a < k
    · by_cases hbk : b < k
      · have hgk := (hok a b ha hb9 hak).1 hbk
        rw [show tw_min a k = a from if_pos hak, show tw_min b k = b from if_pos hbk] at hl
        have loopC : ∀ (n j : Nat) (ls : Array Slot) (H : Heap) (locs : List Loc), j + n = 64 → va_P D vwCl (tw_M cA cB h0 a0 b0 k (tw_f2 k g a b F j) g) H → va_D A (tw_M cA cB h0 a0 b0 k (tw_f2 k g a b F j) g) → va_S A s.heap H locs → lv_has ls 7 [(0, .ref h0), (1, .int (nI (tw_mc g (k + 2)))), (4, .int (nI a)), (5, .int (nI b)), (6, .int (nI j))] → W p l e rmX1_mend s m args below meth c H locs 0 0 Q (F0 m 78 ls []) := by
          intro n
          induction n with
          | zero =>
            intro j ls H locs hj hP hD hS hl
            refine lv_iload hx hb dX1_mend_78 (lv_at hl 4 rfl) ?_
            refine lv_bipush (v := 64) hx hb dX1_mend_80 (by decide) ?_
            refine lv_icmp_ge (tgt := 110) hx hb dX1_mend_82 (by decide) (fun c_82 => ?_) (fun c_82 => ?_)
            · rw [show j = 64 by omega, show tw_f2 k g a b F 64 = tw_mF1 k F g a b from by rw [tw_mF1, if_pos hak, if_pos hbk]] at hP hD
              exact J110 ls H locs hP hD hS (lv_sub hl [0, 1] rfl)
            · exact absurd (nI_le (a := 64) (by omega) (by omega)) c_82
          | succ n ih =>
            intro j ls H locs hj hP hD hS hl
            refine lv_iload hx hb dX1_mend_78 (lv_at hl 4 rfl) ?_
            refine lv_bipush (v := 64) hx hb dX1_mend_80 (by decide) ?_
            refine lv_icmp_ge (tgt := 110) hx hb dX1_mend_82 (by decide) (fun c_82 => ?_) (fun c_82 => ?_)
            · exact absurd c_82 (nI_ge (b := 64) (by omega) (by omega))
            · refine lv_iload hx hb dX1_mend_85 (lv_at hl 2 rfl) ?_
              refine lv_aload_n hx hb dX1_mend_87 rfl (lv_at hl 0 rfl) ?_
              refine tw_rM ⟨hx, hb, hml, hown, hts⟩ hK hP (c_X1_p l D cA cB h0 a0 b0 k (tw_f2 k g a b F j) g ) (cwV 0 hts gX1_mend_X1_p rfl rfl rfl kdX1_p ⟨Nat.le_of_ble_eq_true rfl, Nat.le_of_ble_eq_true rfl⟩) rfl hl.1 rfl (Nat.le_of_ble_eq_true rfl) dX1_mend_88 ⟨Nat.zero_le _, Nat.zero_le _⟩ ?_
              refine lv_icmp_ge (tgt := 110) hx hb dX1_mend_91 (by decide) (fun c_91 => ?_) (fun c_91 => ?_)
              · exact absurd c_91 (nI_ge hak (by omega))
              · refine lv_aload_n hx hb dX1_mend_94 rfl (lv_at hl 0 rfl) ?_
                refine lv_iload hx hb dX1_mend_95 (lv_at hl 4 rfl) ?_
                refine lv_iload hx hb dX1_mend_97 (lv_at hl 2 rfl) ?_
                refine lv_iload hx hb dX1_mend_99 (lv_at hl 3 rfl) ?_
                refine tw_wMv ⟨hx, hb, hml, hown, hts⟩ hK hP hD hS hA (c_X1_find2 l D cA cB h0 a0 b0 k (tw_f2 k g a b F j) g _ j a b (tw_x2 k g a b (tq_col (tw_f2 k g a b F j) j)) (by omega) hak hbk hk ((tw_s2 (by omega) (by omega) (by omega) hgk.1 hgk.2 _).mpr rfl) (fun x9 h9 => (tw_s2 (by omega) (by omega) (by omega) hgk.1 hgk.2 x9).mp h9)) (cwV 3 hts gX1_mend_X1_find rfl rfl rfl kdX1_find ⟨Nat.le_of_ble_eq_true rfl, Nat.le_of_ble_eq_true rfl⟩) rfl hl.1 rfl (Nat.le_of_ble_eq_true rfl) dX1_mend_101 ⟨Nat.zero_le _, Nat.zero_le _⟩ (fun H locs hP hD hS => ?_)
                have hP : va_P D vwCl (tw_M cA cB h0 a0 b0 k (tw_f2 k g a b F (j + 1)) g) H := hP
                have hD : va_D A (tw_M cA cB h0 a0 b0 k (tw_f2 k g a b F (j + 1)) g) := hD
                refine lv_iinc (v := nI (j + 1)) (lv' := [(6, .int (nI (j + 1))), (0, .ref h0), (1, .int (nI (tw_mc g (k + 2)))), (4, .int (nI a)), (5, .int (nI b))]) hx hb dX1_mend_104 hl (k := 4) rfl (nI_1 j) (by decide) rfl (fun ls hl => ?_)
                refine lv_goto (tgt := 78) hx hb dX1_mend_107 (by decide) ?_
                exact ih (j + 1) ls H locs (by omega) hP hD hS (lv_sub hl [1, 2, 3, 4, 0] rfl)
        exact loopC 64 0 ls H locs (by omega) hP hD hS (lv_sub hl [1, 2, 3, 4, 0] rfl)
      · have hgk := (hok a b ha hb9 hak).2 hbk
        rw [show tw_min a k = a from if_pos hak, show tw_min b k = k from if_neg hbk] at hl
        have loopC : ∀ (n j : Nat) (ls : Array Slot) (H : Heap) (locs : List Loc), j + n = 64 → va_P D vwCl (tw_M cA cB h0 a0 b0 k (tw_f1 k g a F j) g) H → va_D A (tw_M cA cB h0 a0 b0 k (tw_f1 k g a F j) g) → va_S A s.heap H locs → lv_has ls 7 [(0, .ref h0), (1, .int (nI (tw_mc g (k + 2)))), (4, .int (nI a)), (5, .int (nI k)), (6, .int (nI j))] → W p l e rmX1_mend s m args below meth c H locs 0 0 Q (F0 m 78 ls []) := by
          intro n
          induction n with
          | zero =>
            intro j ls H locs hj hP hD hS hl
            refine lv_iload hx hb dX1_mend_78 (lv_at hl 4 rfl) ?_
            refine lv_bipush (v := 64) hx hb dX1_mend_80 (by decide) ?_
            refine lv_icmp_ge (tgt := 110) hx hb dX1_mend_82 (by decide) (fun c_82 => ?_) (fun c_82 => ?_)
            · rw [show j = 64 by omega, show tw_f1 k g a F 64 = tw_mF1 k F g a b from by rw [tw_mF1, if_pos hak, if_neg hbk]] at hP hD
              exact J110 ls H locs hP hD hS (lv_sub hl [0, 1] rfl)
            · exact absurd (nI_le (a := 64) (by omega) (by omega)) c_82
          | succ n ih =>
            intro j ls H locs hj hP hD hS hl
            refine lv_iload hx hb dX1_mend_78 (lv_at hl 4 rfl) ?_
            refine lv_bipush (v := 64) hx hb dX1_mend_80 (by decide) ?_
            refine lv_icmp_ge (tgt := 110) hx hb dX1_mend_82 (by decide) (fun c_82 => ?_) (fun c_82 => ?_)
            · exact absurd c_82 (nI_ge (b := 64) (by omega) (by omega))
            · refine lv_iload hx hb dX1_mend_85 (lv_at hl 2 rfl) ?_
              refine lv_aload_n hx hb dX1_mend_87 rfl (lv_at hl 0 rfl) ?_
              refine tw_rM ⟨hx, hb, hml, hown, hts⟩ hK hP (c_X1_p l D cA cB h0 a0 b0 k (tw_f1 k g a F j) g ) (cwV 0 hts gX1_mend_X1_p rfl rfl rfl kdX1_p ⟨Nat.le_of_ble_eq_true rfl, Nat.le_of_ble_eq_true rfl⟩) rfl hl.1 rfl (Nat.le_of_ble_eq_true rfl) dX1_mend_88 ⟨Nat.zero_le _, Nat.zero_le _⟩ ?_
              refine lv_icmp_ge (tgt := 110) hx hb dX1_mend_91 (by decide) (fun c_91 => ?_) (fun c_91 => ?_)
              · exact absurd c_91 (nI_ge hak (by omega))
              · refine lv_aload_n hx hb dX1_mend_94 rfl (lv_at hl 0 rfl) ?_
                refine lv_iload hx hb dX1_mend_95 (lv_at hl 4 rfl) ?_
                refine lv_iload hx hb dX1_mend_97 (lv_at hl 2 rfl) ?_
                refine lv_iload hx hb dX1_mend_99 (lv_at hl 3 rfl) ?_
                refine tw_wMv ⟨hx, hb, hml, hown, hts⟩ hK hP hD hS hA (c_X1_find1 l D cA cB h0 a0 b0 k (tw_f1 k g a F j) g _ j a (tw_x1 k g a (tq_col (tw_f1 k g a F j) j)) (by omega) hak hk ((tw_s1 (by omega) hgk _).mpr rfl) (fun x9 h9 => (tw_s1 (by omega) hgk x9).mp h9)) (cwV 3 hts gX1_mend_X1_find rfl rfl rfl kdX1_find ⟨Nat.le_of_ble_eq_true rfl, Nat.le_of_ble_eq_true rfl⟩) rfl hl.1 rfl (Nat.le_of_ble_eq_true rfl) dX1_mend_101 ⟨Nat.zero_le _, Nat.zero_le _⟩ (fun H locs hP hD hS => ?_)
                have hP : va_P D vwCl (tw_M cA cB h0 a0 b0 k (tw_f1 k g a F (j + 1)) g) H := hP
                have hD : va_D A (tw_M cA cB h0 a0 b0 k (tw_f1 k g a F (j + 1)) g) := hD
                refine lv_iinc (v := nI (j + 1)) (lv' := [(6, .int (nI (j + 1))), (0, .ref h0), (1, .int (nI (tw_mc g (k + 2)))), (4, .int (nI a)), (5, .int (nI k))]) hx hb dX1_mend_104 hl (k := 4) rfl (nI_1 j) (by decide) rfl (fun ls hl => ?_)
                refine lv_goto (tgt := 78) hx hb dX1_mend_107 (by decide) ?_
                exact ih (j + 1) ls H locs (by omega) hP hD hS (lv_sub hl [1, 2, 3, 4, 0] rfl)
        exact loopC 64 0 ls H locs (by omega) hP hD hS (lv_sub hl [1, 2, 3, 4, 0] rfl)
    · rw [show tw_min a k = k from if_neg hak] at hl
      refine lv_iload hx hb dX1_mend_78 (lv_at hl 0 rfl) ?_
      refine lv_bipush (v := 64) hx hb dX1_mend_80 (by decide) ?_
      refine lv_icmp_ge (tgt := 110) hx hb dX1_mend_82 (by decide) (fun c_82 => ?_) (fun c_82 => ?_)
      · exact absurd c_82 (by decide)
      · refine lv_iload hx hb dX1_mend_85 (lv_at hl 3 rfl) ?_
        refine lv_aload_n hx hb dX1_mend_87 rfl (lv_at hl 1 rfl) ?_
        refine tw_rM ⟨hx, hb, hml, hown, hts⟩ hK hP (c_X1_p l D cA cB h0 a0 b0 k F g ) (cwV 0 hts gX1_mend_X1_p rfl rfl rfl kdX1_p ⟨Nat.le_of_ble_eq_true rfl, Nat.le_of_ble_eq_true rfl⟩) rfl hl.1 rfl (Nat.le_of_ble_eq_true rfl) dX1_mend_88 ⟨Nat.zero_le _, Nat.zero_le _⟩ ?_
        refine lv_icmp_ge (tgt := 110) hx hb dX1_mend_91 (by decide) (fun c_91 => ?_) (fun c_91 => ?_)
        · have e9 : tw_mF1 k F g a b = F := by rw [tw_mF1, if_neg hak]
          have hP : va_P D vwCl (tw_M cA cB h0 a0 b0 k (tw_mF1 k F g a b) g) H := by rw [e9]; exact hP
          have hD : va_D A (tw_M cA cB h0 a0 b0 k (tw_mF1 k F g a b) g) := by rw [e9]; exact hD
          exact J110 ls H locs hP hD hS (lv_sub hl [1, 2] rfl)
        · exact absurd (nI_le (Nat.le_refl k) (by omega)) c_91
  refine lv_aload_n hx hb dX1_mend_0 rfl (lv_at hl 0 rfl) ?_
  refine lv_iconst (v := 0) hx hb dX1_mend_1 (by decide) ?_
  refine va_put (D := D) (ci := 1) (v := .int 0) (ty := .int) (C := RX1) (T := TX1) (N := 4) hx hb hts inX1_mend tyX1 tyX1_ok nmX1 hown hK hP hD hS 0 rfl rfl 0 (by decide) (hts _ fX1_mend_21) (fun _ h9 => h9) rfl (by decide +kernel) rfl rfl (Nat.le_of_ble_eq_true rfl) dX1_mend_2 (fun H locs hP hD hS => ?_)
  have hP : va_P D vwCl (tw_M cA cB h0 a0 b0 k F g) H := hP
  have hD : va_D A (tw_M cA cB h0 a0 b0 k F g) := hD
  refine lv_aload_n hx hb dX1_mend_5 rfl (lv_at hl 0 rfl) ?_
  refine tw_rM ⟨hx, hb, hml, hown, hts⟩ hK hP (c_X1_manyLost l D cA cB h0 a0 b0 k F g hk) (cwV 0 hts gX1_mend_X1_manyLost rfl rfl rfl kdX1_manyLost ⟨Nat.le_of_ble_eq_true rfl, Nat.le_of_ble_eq_true rfl⟩) rfl hl.1 rfl (Nat.le_of_ble_eq_true rfl) dX1_mend_6 ⟨Nat.zero_le _, Nat.zero_le _⟩ ?_
  refine lv_istore_n (lv' := [(1, .int (nI (tw_mc g (k + 2)))), (0, .ref h0)]) hx hb dX1_mend_9 rfl hl (by decide) rfl (fun ls hl => ?_)
  refine lv_aload_n hx hb dX1_mend_10 rfl (lv_at hl 1 rfl) ?_
  refine lv_iconst (v := 0) hx hb dX1_mend_11 (by decide) ?_
  refine tw_rM ⟨hx, hb, hml, hown, hts⟩ hK hP (c_X1_lowest l D cA cB h0 a0 b0 k F g 0 (Nat.zero_le _) hk) (cwV 1 hts gX1_mend_X1_lowest rfl rfl rfl kdX1_lowest ⟨Nat.le_of_ble_eq_true rfl, Nat.le_of_ble_eq_true rfl⟩) rfl hl.1 rfl (Nat.le_of_ble_eq_true rfl) dX1_mend_12 ⟨Nat.zero_le _, Nat.zero_le _⟩ ?_
  refine tw_topr (x' := nI a) (by rw [ha]; rfl) ?_
  refine lv_istore_n (lv' := [(2, .int (nI a)), (1, .int (nI (tw_mc g (k + 2)))), (0, .ref h0)]) hx hb dX1_mend_15 rfl hl (by decide) rfl (fun ls hl => ?_)
  refine lv_iload_n hx hb dX1_mend_16 rfl (lv_at hl 0 rfl) ?_
  refine lv_aload_n hx hb dX1_mend_17 rfl (lv_at hl 2 rfl) ?_
  refine va_get (D := D) (ci := 1) (v := .int (nI (k + 2))) (C := RX1) (T := TX1) (N := 4) hx hb hts inX1_mend hown hK hP 0 rfl rfl 1 (by decide) (hts _ fX1_mend_25) (fun _ h9 => h9) rfl dX1_mend_18 ?_
  refine lv_icmp_ge (tgt := 34) hx hb dX1_mend_21 (by decide) (fun c_21 => ?_) (fun c_21 => ?_)
  · have c_21 : ¬ a < k + 2 := fun h9 => nI_ge h9 (by omega) c_21
    refine lv_aload_n hx hb dX1_mend_34 rfl (lv_at hl 2 rfl) ?_
    refine va_get (D := D) (ci := 1) (v := .int (nI (k + 2))) (C := RX1) (T := TX1) (N := 4) hx hb hts inX1_mend hown hK hP 0 rfl rfl 1 (by decide) (hts _ fX1_mend_25) (fun _ h9 => h9) rfl dX1_mend_35 ?_
    refine tw_topr (x' := nI b) (by first | (rw [hb9, tw_mb, if_pos c_21]; done) | (rw [hb9, tw_mb, if_neg c_21]; done)) ?_
    refine lv_istore_n (lv' := [(3, .int (nI b)), (2, .int (nI a)), (1, .int (nI (tw_mc g (k + 2)))), (0, .ref h0)]) hx hb dX1_mend_38 rfl hl (by decide) rfl (fun ls hl => ?_)
    refine lv_iload_n hx hb dX1_mend_39 rfl (lv_at hl 1 rfl) ?_
    refine lv_aload_n hx hb dX1_mend_40 rfl (lv_at hl 3 rfl) ?_
    refine tw_rM ⟨hx, hb, hml, hown, hts⟩ hK hP (c_X1_p l D cA cB h0 a0 b0 k F g ) (cwV 0 hts gX1_mend_X1_p rfl rfl rfl kdX1_p ⟨Nat.le_of_ble_eq_true rfl, Nat.le_of_ble_eq_true rfl⟩) rfl hl.1 rfl (Nat.le_of_ble_eq_true rfl) dX1_mend_41 ⟨Nat.zero_le _, Nat.zero_le _⟩ ?_
    refine lv_icmp_ge (tgt := 51) hx hb dX1_mend_44 (by decide) (fun c_44 => ?_) (fun c_44 => ?_)
    · have c_44 : ¬ a < k := fun h9 => nI_ge h9 (by omega) c_44
      refine lv_aload_n hx hb dX1_mend_51 rfl (lv_at hl 3 rfl) ?_
      refine tw_rM ⟨hx, hb, hml, hown, hts⟩ hK hP (c_X1_p l D cA cB h0 a0 b0 k F g ) (cwV 0 hts gX1_mend_X1_p rfl rfl rfl kdX1_p ⟨Nat.le_of_ble_eq_true rfl, Nat.le_of_ble_eq_true rfl⟩) rfl hl.1 rfl (Nat.le_of_ble_eq_true rfl) dX1_mend_52 ⟨Nat.zero_le _, Nat.zero_le _⟩ ?_
      refine tw_topr (x' := nI (tw_min a k)) (by first | (rw [tw_min, if_pos c_44]; done) | (rw [tw_min, if_neg c_44]; done)) ?_
      refine lv_istore (lv' := [(4, .int (nI (tw_min a k))), (3, .int (nI b)), (2, .int (nI a)), (1, .int (nI (tw_mc g (k + 2)))), (0, .ref h0)]) hx hb dX1_mend_55 hl (by decide) rfl (fun ls hl => ?_)
      refine lv_iload_n hx hb dX1_mend_57 rfl (lv_at hl 1 rfl) ?_
      refine lv_aload_n hx hb dX1_mend_58 rfl (lv_at hl 4 rfl) ?_
      refine tw_rM ⟨hx, hb, hml, hown, hts⟩ hK hP (c_X1_p l D cA cB h0 a0 b0 k F g ) (cwV 0 hts gX1_mend_X1_p rfl rfl rfl kdX1_p ⟨Nat.le_of_ble_eq_true rfl, Nat.le_of_ble_eq_true rfl⟩) rfl hl.1 rfl (Nat.le_of_ble_eq_true rfl) dX1_mend_59 ⟨Nat.zero_le _, Nat.zero_le _⟩ ?_
      refine lv_icmp_ge (tgt := 69) hx hb dX1_mend_62 (by decide) (fun c_62 => ?_) (fun c_62 => ?_)
      · have c_62 : ¬ b < k := fun h9 => nI_ge h9 (by omega) c_62
        refine lv_aload_n hx hb dX1_mend_69 rfl (lv_at hl 4 rfl) ?_
        refine tw_rM ⟨hx, hb, hml, hown, hts⟩ hK hP (c_X1_p l D cA cB h0 a0 b0 k F g ) (cwV 0 hts gX1_mend_X1_p rfl rfl rfl kdX1_p ⟨Nat.le_of_ble_eq_true rfl, Nat.le_of_ble_eq_true rfl⟩) rfl hl.1 rfl (Nat.le_of_ble_eq_true rfl) dX1_mend_70 ⟨Nat.zero_le _, Nat.zero_le _⟩ ?_
        refine tw_topr (x' := nI (tw_min b k)) (by first | (rw [tw_min, if_pos c_62]; done) | (rw [tw_min, if_neg c_62]; done)) ?_
        refine lv_istore (lv' := [(5, .int (nI (tw_min b k))), (4, .int (nI (tw_min a k))), (3, .int (nI b)), (2, .int (nI a)), (1, .int (nI (tw_mc g (k + 2)))), (0, .ref h0)]) hx hb dX1_mend_73 hl (by decide) rfl (fun ls hl => ?_)
        exact J75 ls H locs hP hD hS (lv_sub hl [5, 4, 1, 0] rfl)
      · have c_62 : b < k := by rcases Nat.lt_or_ge b k with h9 | h9; exact h9; exact absurd (nI_le h9 (by omega)) c_62
        refine lv_iload_n hx hb dX1_mend_65 rfl (lv_at hl 1 rfl) ?_
        refine lv_goto (tgt := 73) hx hb dX1_mend_66 (by decide) ?_
        refine tw_topr (x' := nI (tw_min b k)) (by first | (rw [tw_min, if_pos c_62]; done) | (rw [tw_min, if_neg c_62]; done)) ?_
        refine lv_istore (lv' := [(5, .int (nI (tw_min b k))), (4, .int (nI (tw_min a k))), (3, .int (nI b)), (2, .int (nI a)), (1, .int (nI (tw_mc g (k + 2)))), (0, .ref h0)]) hx hb dX1_mend_73 hl (by decide) rfl (fun ls hl => ?_)
        exact J75 ls H locs hP hD hS (lv_sub hl [5, 4, 1, 0] rfl)
    · have c_44 : a < k := by rcases Nat.lt_or_ge a k with h9 | h9; exact h9; exact absurd (nI_le h9 (by omega)) c_44
      refine lv_iload_n hx hb dX1_mend_47 rfl (lv_at hl 1 rfl) ?_
      refine lv_goto (tgt := 55) hx hb dX1_mend_48 (by decide) ?_
      refine tw_topr (x' := nI (tw_min a k)) (by first | (rw [tw_min, if_pos c_44]; done) | (rw [tw_min, if_neg c_44]; done)) ?_
      refine lv_istore (lv' := [(4, .int (nI (tw_min a k))), (3, .int (nI b)), (2, .int (nI a)), (1, .int (nI (tw_mc g (k + 2)))), (0, .ref h0)]) hx hb dX1_mend_55 hl (by decide) rfl (fun ls hl => ?_)
      refine lv_iload_n hx hb dX1_mend_57 rfl (lv_at hl 1 rfl) ?_
      refine lv_aload_n hx hb dX1_mend_58 rfl (lv_at hl 4 rfl) ?_
      refine tw_rM ⟨hx, hb, hml, hown, hts⟩ hK hP (c_X1_p l D cA cB h0 a0 b0 k F g ) (cwV 0 hts gX1_mend_X1_p rfl rfl rfl kdX1_p ⟨Nat.le_of_ble_eq_true rfl, Nat.le_of_ble_eq_true rfl⟩) rfl hl.1 rfl (Nat.le_of_ble_eq_true rfl) dX1_mend_59 ⟨Nat.zero_le _, Nat.zero_le _⟩ ?_
      refine lv_icmp_ge (tgt := 69) hx hb dX1_mend_62 (by decide) (fun c_62 => ?_) (fun c_62 => ?_)
      · have c_62 : ¬ b < k := fun h9 => nI_ge h9 (by omega) c_62
        refine lv_aload_n hx hb dX1_mend_69 rfl (lv_at hl 4 rfl) ?_
        refine tw_rM ⟨hx, hb, hml, hown, hts⟩ hK hP (c_X1_p l D cA cB h0 a0 b0 k F g ) (cwV 0 hts gX1_mend_X1_p rfl rfl rfl kdX1_p ⟨Nat.le_of_ble_eq_true rfl, Nat.le_of_ble_eq_true rfl⟩) rfl hl.1 rfl (Nat.le_of_ble_eq_true rfl) dX1_mend_70 ⟨Nat.zero_le _, Nat.zero_le _⟩ ?_
        refine tw_topr (x' := nI (tw_min b k)) (by first | (rw [tw_min, if_pos c_62]; done) | (rw [tw_min, if_neg c_62]; done)) ?_
        refine lv_istore (lv' := [(5, .int (nI (tw_min b k))), (4, .int (nI (tw_min a k))), (3, .int (nI b)), (2, .int (nI a)), (1, .int (nI (tw_mc g (k + 2)))), (0, .ref h0)]) hx hb dX1_mend_73 hl (by decide) rfl (fun ls hl => ?_)
        exact J75 ls H locs hP hD hS (lv_sub hl [5, 4, 1, 0] rfl)
      · have c_62 : b < k := by rcases Nat.lt_or_ge b k with h9 | h9; exact h9; exact absurd (nI_le h9 (by omega)) c_62
        refine lv_iload_n hx hb dX1_mend_65 rfl (lv_at hl 1 rfl) ?_
        refine lv_goto (tgt := 73) hx hb dX1_mend_66 (by decide) ?_
        refine tw_topr (x' := nI (tw_min b k)) (by first | (rw [tw_min, if_pos c_62]; done) | (rw [tw_min, if_neg c_62]; done)) ?_
        refine lv_istore (lv' := [(5, .int (nI (tw_min b k))), (4, .int (nI (tw_min a k))), (3, .int (nI b)), (2, .int (nI a)), (1, .int (nI (tw_mc g (k + 2)))), (0, .ref h0)]) hx hb dX1_mend_73 hl (by decide) rfl (fun ls hl => ?_)
        exact J75 ls H locs hP hD hS (lv_sub hl [5, 4, 1, 0] rfl)
  · have c_21 : a < k + 2 := by rcases Nat.lt_or_ge a (k + 2) with h9 | h9; exact h9; exact absurd (nI_le h9 (by omega)) c_21
    refine lv_aload_n hx hb dX1_mend_24 rfl (lv_at hl 2 rfl) ?_
    refine lv_iload_n hx hb dX1_mend_25 rfl (lv_at hl 0 rfl) ?_
    refine lv_iconst (v := 1) hx hb dX1_mend_26 (by decide) ?_
    refine lv_iadd hx hb dX1_mend_27 ?_
    refine tw_topr (x' := nI (a + 1)) (nI_1 a) ?_
    refine tw_rM ⟨hx, hb, hml, hown, hts⟩ hK hP (c_X1_lowest l D cA cB h0 a0 b0 k F g (a + 1) (by omega) hk) (cwV 1 hts gX1_mend_X1_lowest rfl rfl rfl kdX1_lowest ⟨Nat.le_of_ble_eq_true rfl, Nat.le_of_ble_eq_true rfl⟩) rfl hl.1 rfl (Nat.le_of_ble_eq_true rfl) dX1_mend_28 ⟨Nat.zero_le _, Nat.zero_le _⟩ ?_
    refine lv_goto (tgt := 38) hx hb dX1_mend_31 (by decide) ?_
    refine tw_topr (x' := nI b) (by first | (rw [hb9, tw_mb, if_pos c_21]; done) | (rw [hb9, tw_mb, if_neg c_21]; done)) ?_
    refine lv_istore_n (lv' := [(3, .int (nI b)), (2, .int (nI a)), (1, .int (nI (tw_mc g (k + 2)))), (0, .ref h0)]) hx hb dX1_mend_38 rfl hl (by decide) rfl (fun ls hl => ?_)
    refine lv_iload_n hx hb dX1_mend_39 rfl (lv_at hl 1 rfl) ?_
    refine lv_aload_n hx hb dX1_mend_40 rfl (lv_at hl 3 rfl) ?_
    refine tw_rM ⟨hx, hb, hml, hown, hts⟩ hK hP (c_X1_p l D cA cB h0 a0 b0 k F g ) (cwV 0 hts gX1_mend_X1_p rfl rfl rfl kdX1_p ⟨Nat.le_of_ble_eq_true rfl, Nat.le_of_ble_eq_true rfl⟩) rfl hl.1 rfl (Nat.le_of_ble_eq_true rfl) dX1_mend_41 ⟨Nat.zero_le _, Nat.zero_le _⟩ ?_
    refine lv_icmp_ge (tgt := 51) hx hb dX1_mend_44 (by decide) (fun c_44 => ?_) (fun c_44 => ?_)
    · have c_44 : ¬ a < k := fun h9 => nI_ge h9 (by omega) c_44
      refine lv_aload_n hx hb dX1_mend_51 rfl (lv_at hl 3 rfl) ?_
      refine tw_rM ⟨hx, hb, hml, hown, hts⟩ hK hP (c_X1_p l D cA cB h0 a0 b0 k F g ) (cwV 0 hts gX1_mend_X1_p rfl rfl rfl kdX1_p ⟨Nat.le_of_ble_eq_true rfl, Nat.le_of_ble_eq_true rfl⟩) rfl hl.1 rfl (Nat.le_of_ble_eq_true rfl) dX1_mend_52 ⟨Nat.zero_le _, Nat.zero_le _⟩ ?_
      refine tw_topr (x' := nI (tw_min a k)) (by first | (rw [tw_min, if_pos c_44]; done) | (rw [tw_min, if_neg c_44]; done)) ?_
      refine lv_istore (lv' := [(4, .int (nI (tw_min a k))), (3, .int (nI b)), (2, .int (nI a)), (1, .int (nI (tw_mc g (k + 2)))), (0, .ref h0)]) hx hb dX1_mend_55 hl (by decide) rfl (fun ls hl => ?_)
      refine lv_iload_n hx hb dX1_mend_57 rfl (lv_at hl 1 rfl) ?_
      refine lv_aload_n hx hb dX1_mend_58 rfl (lv_at hl 4 rfl) ?_
      refine tw_rM ⟨hx, hb, hml, hown, hts⟩ hK hP (c_X1_p l D cA cB h0 a0 b0 k F g ) (cwV 0 hts gX1_mend_X1_p rfl rfl rfl kdX1_p ⟨Nat.le_of_ble_eq_true rfl, Nat.le_of_ble_eq_true rfl⟩) rfl hl.1 rfl (Nat.le_of_ble_eq_true rfl) dX1_mend_59 ⟨Nat.zero_le _, Nat.zero_le _⟩ ?_
      refine lv_icmp_ge (tgt := 69) hx hb dX1_mend_62 (by decide) (fun c_62 => ?_) (fun c_62 => ?_)
      · have c_62 : ¬ b < k := fun h9 => nI_ge h9 (by omega) c_62
        refine lv_aload_n hx hb dX1_mend_69 rfl (lv_at hl 4 rfl) ?_
        refine tw_rM ⟨hx, hb, hml, hown, hts⟩ hK hP (c_X1_p l D cA cB h0 a0 b0 k F g ) (cwV 0 hts gX1_mend_X1_p rfl rfl rfl kdX1_p ⟨Nat.le_of_ble_eq_true rfl, Nat.le_of_ble_eq_true rfl⟩) rfl hl.1 rfl (Nat.le_of_ble_eq_true rfl) dX1_mend_70 ⟨Nat.zero_le _, Nat.zero_le _⟩ ?_
        refine tw_topr (x' := nI (tw_min b k)) (by first | (rw [tw_min, if_pos c_62]; done) | (rw [tw_min, if_neg c_62]; done)) ?_
        refine lv_istore (lv' := [(5, .int (nI (tw_min b k))), (4, .int (nI (tw_min a k))), (3, .int (nI b)), (2, .int (nI a)), (1, .int (nI (tw_mc g (k + 2)))), (0, .ref h0)]) hx hb dX1_mend_73 hl (by decide) rfl (fun ls hl => ?_)
        exact J75 ls H locs hP hD hS (lv_sub hl [5, 4, 1, 0] rfl)
      · have c_62 : b < k := by rcases Nat.lt_or_ge b k with h9 | h9; exact h9; exact absurd (nI_le h9 (by omega)) c_62
        refine lv_iload_n hx hb dX1_mend_65 rfl (lv_at hl 1 rfl) ?_
        refine lv_goto (tgt := 73) hx hb dX1_mend_66 (by decide) ?_
        refine tw_topr (x' := nI (tw_min b k)) (by first | (rw [tw_min, if_pos c_62]; done) | (rw [tw_min, if_neg c_62]; done)) ?_
        refine lv_istore (lv' := [(5, .int (nI (tw_min b k))), (4, .int (nI (tw_min a k))), (3, .int (nI b)), (2, .int (nI a)), (1, .int (nI (tw_mc g (k + 2)))), (0, .ref h0)]) hx hb dX1_mend_73 hl (by decide) rfl (fun ls hl => ?_)
        exact J75 ls H locs hP hD hS (lv_sub hl [5, 4, 1, 0] rfl)
    · have c_44 : a < k := by rcases Nat.lt_or_ge a k with h9 | h9; exact h9; exact absurd (nI_le h9 (by omega)) c_44
      refine lv_iload_n hx hb dX1_mend_47 rfl (lv_at hl 1 rfl) ?_
      refine lv_goto (tgt := 55) hx hb dX1_mend_48 (by decide) ?_
      refine tw_topr (x' := nI (tw_min a k)) (by first | (rw [tw_min, if_pos c_44]; done) | (rw [tw_min, if_neg c_44]; done)) ?_
      refine lv_istore (lv' := [(4, .int (nI (tw_min a k))), (3, .int (nI b)), (2, .int (nI a)), (1, .int (nI (tw_mc g (k + 2)))), (0, .ref h0)]) hx hb dX1_mend_55 hl (by decide) rfl (fun ls hl => ?_)
      refine lv_iload_n hx hb dX1_mend_57 rfl (lv_at hl 1 rfl) ?_
      refine lv_aload_n hx hb dX1_mend_58 rfl (lv_at hl 4 rfl) ?_
      refine tw_rM ⟨hx, hb, hml, hown, hts⟩ hK hP (c_X1_p l D cA cB h0 a0 b0 k F g ) (cwV 0 hts gX1_mend_X1_p rfl rfl rfl kdX1_p ⟨Nat.le_of_ble_eq_true rfl, Nat.le_of_ble_eq_true rfl⟩) rfl hl.1 rfl (Nat.le_of_ble_eq_true rfl) dX1_mend_59 ⟨Nat.zero_le _, Nat.zero_le _⟩ ?_
      refine lv_icmp_ge (tgt := 69) hx hb dX1_mend_62 (by decide) (fun c_62 => ?_) (fun c_62 => ?_)
      · have c_62 : ¬ b < k := fun h9 => nI_ge h9 (by omega) c_62
        refine lv_aload_n hx hb dX1_mend_69 rfl (lv_at hl 4 rfl) ?_
        refine tw_rM ⟨hx, hb, hml, hown, hts⟩ hK hP (c_X1_p l D cA cB h0 a0 b0 k F g ) (cwV 0 hts gX1_mend_X1_p rfl rfl rfl kdX1_p ⟨Nat.le_of_ble_eq_true rfl, Nat.le_of_ble_eq_true rfl⟩) rfl hl.1 rfl (Nat.le_of_ble_eq_true rfl) dX1_mend_70 ⟨Nat.zero_le _, Nat.zero_le _⟩ ?_
        refine tw_topr (x' := nI (tw_min b k)) (by first | (rw [tw_min, if_pos c_62]; done) | (rw [tw_min, if_neg c_62]; done)) ?_
        refine lv_istore (lv' := [(5, .int (nI (tw_min b k))), (4, .int (nI (tw_min a k))), (3, .int (nI b)), (2, .int (nI a)), (1, .int (nI (tw_mc g (k + 2)))), (0, .ref h0)]) hx hb dX1_mend_73 hl (by decide) rfl (fun ls hl => ?_)
        exact J75 ls H locs hP hD hS (lv_sub hl [5, 4, 1, 0] rfl)
      · have c_62 : b < k := by rcases Nat.lt_or_ge b k with h9 | h9; exact h9; exact absurd (nI_le h9 (by omega)) c_62
        refine lv_iload_n hx hb dX1_mend_65 rfl (lv_at hl 1 rfl) ?_
        refine lv_goto (tgt := 73) hx hb dX1_mend_66 (by decide) ?_
        refine tw_topr (x' := nI (tw_min b k)) (by first | (rw [tw_min, if_pos c_62]; done) | (rw [tw_min, if_neg c_62]; done)) ?_
        refine lv_istore (lv' := [(5, .int (nI (tw_min b k))), (4, .int (nI (tw_min a k))), (3, .int (nI b)), (2, .int (nI a)), (1, .int (nI (tw_mc g (k + 2)))), (0, .ref h0)]) hx hb dX1_mend_73 hl (by decide) rfl (fun ls hl => ?_)
        exact J75 ls H locs hP hD hS (lv_sub hl [5, 4, 1, 0] rfl)
theorem tw_low_none {g : Nat → Bool} : ∀ (n f : Nat), (∀ u, f ≤ u → u < f + n → g u = false) → tw_low g f n = f + n := by
  intro n
  induction n with
  | zero => intro f _; rfl
  | succ n ih =>
    intro f h
    rw [tw_low, h f (Nat.le_refl f) (by omega)]
    simp only [Bool.false_eq_true, if_false]
    rw [ih (f + 1) (fun u h1 h2 => h u (by omega) (by omega))]
    omega
theorem tw_low_at {g : Nat → Bool} {a : Nat} (hg : g a = true) : ∀ (n f : Nat), (∀ u, f ≤ u → u < a → g u = false) → f ≤ a → a < f + n → tw_low g f n = a := by
  intro n
  induction n with
  | zero => intro f _ h1 h2; omega
  | succ n ih =>
    intro f h h1 h2
    rw [tw_low]
    by_cases e : f = a
    · rw [e, hg]; rfl
    · rw [h f (Nat.le_refl f) (by omega)]
      simp only [Bool.false_eq_true, if_false]
      exact ih (f + 1) (fun u h3 h4 => h u (by omega) h4) (by omega) (by omega)
theorem tw_mc_z {g : Nat → Bool} : ∀ n, tw_mc g n = 0 → ∀ u, u < n → g u = false := by
  intro n
  induction n with
  | zero => intro _ u h; omega
  | succ n ih =>
    intro h u hu
    rw [tw_mc] at h
    by_cases e : u = n
    · subst e
      cases hg : g u with
      | false => rfl
      | true => rw [hg] at h; simp at h
    · exact ih (by omega) u (by omega)
theorem tw_one_low {k a : Nat} {g : Nat → Bool} (hz : ∀ u, u < k + 2 → g u = false) (ha : a ≤ k + 1) : tw_low (va_up g a true) 0 (k + 2) = a ∧ tw_mb k (va_up g a true) a = k + 2 := by
  have h1 : ∀ u, u ≠ a → u < k + 2 → va_up g a true u = false := fun u h2 h3 => by rw [va_up, if_neg h2]; exact hz u h3
  have h2 : va_up g a true a = true := by rw [va_up, if_pos rfl]
  constructor
  · exact tw_low_at h2 (k + 2) 0 (fun u _ h3 => h1 u (by omega) (by omega)) (by omega) (by omega)
  · rw [tw_mb, if_pos (by omega), tw_low_none _ _ (fun u h3 h4 => h1 u (by omega) (by omega))]
    omega
theorem tw_one_ok {k a : Nat} {g : Nat → Bool} (hz : ∀ u, u < k + 2 → g u = false) (ha : a ≤ k + 1) : tw_ok k (va_up g a true) := by
  intro a2 b2 e1 e2 hlt
  obtain ⟨q1, q2⟩ := tw_one_low hz ha
  rw [q1] at e1
  subst e1
  rw [q2] at e2
  refine ⟨fun h => by omega, fun _ h => ?_⟩
  rw [va_up, if_neg (by omega), hz k (by omega)] at h
  exact absurd h (by decide)
theorem tw_fu2_rng (f : Nat → Bool) (k : Nat) : ∀ n u, u + n = k → (tw_fu2 f u n = -3 ∨ ∃ a, a < k ∧ tw_fu2 f u n = nI a) := by
  intro n
  induction n with
  | zero => intro u _; exact Or.inl rfl
  | succ n ih =>
    intro u h
    unfold tw_fu2
    split
    · exact Or.inr ⟨u, by omega, rfl⟩
    · exact ih (u + 1) (by omega)
theorem tw_moD {k : Nat} {g : Nat → Bool} {F : Nat → BitVec 8} (hk : k ≤ 14) (h : ¬ tw_mo k g F < 0) : ∃ a, a ≤ k + 1 ∧ tw_mo k g F = nI a := by
  have key : tw_mo k g F = -3 ∨ tw_mo k g F = -2 ∨ ∃ a, a ≤ k + 1 ∧ tw_mo k g F = nI a := by
    unfold tw_mo
    split
    · split
      · exact Or.inr (Or.inl rfl)
      · split
        · exact Or.inr (Or.inr ⟨k + 1, by omega, rfl⟩)
        · exact Or.inr (Or.inr ⟨k, by omega, rfl⟩)
    · rcases tw_fu2_rng (fun u => tw_all (tw_aU k g F u) 64) k k 0 (by omega) with h | ⟨a, h1, h2⟩
      · exact Or.inl h
      · exact Or.inr (Or.inr ⟨a, by omega, h2⟩)
  rcases key with e | e | e
  · rw [e] at h; exact absurd (by decide) h
  · rw [e] at h; exact absurd (by decide) h
  · exact e
def tw_mfix (k : Nat) (F : Nat → BitVec 8) (g : Nat → Bool) : Int32 × (Nat × (Nat → BitVec 8) × (Nat → Bool)) := if tw_mc g (k + 2) = 0 then (if tw_mo k g F < 0 then (tw_mo k g F, (k, F, g)) else (tw_mo k g F, (tw_mmend k F (va_up g (tw_mo k g F).toNatClampNeg true)).2)) else (-1, (k, F, g))
abbrev rmX1_fix : Room := { frames := 6, cells := 0, slots := 0, locals := 154 }
theorem inX1_fix : ∀ w ∈ wsX10, w ∈ wsX1_fix := fun _ h => List.mem_cons_of_mem _ (List.mem_append_right _ h)
theorem fX1_fix_21 : Cond.fieldLink RX1 21 "TwinParityModel" "thrown" "I" ∈ wsX1_fix := List.mem_of_getElem? (i := 1) rfl
theorem fX1_fix_13 : Cond.fieldLink RX1 13 "TwinParityModel" "lost" "[Z" ∈ wsX1_fix := List.mem_of_getElem? (i := 2) rfl
theorem fX1_fix_25 : Cond.fieldLink RX1 25 "TwinParityModel" "units" "I" ∈ wsX1_fix := List.mem_of_getElem? (i := 8) rfl
theorem fX1_fix_7 : Cond.fieldLink RX1 7 "TwinParityModel" "bytes" "[I" ∈ wsX1_fix := List.mem_of_getElem? (i := 13) rfl
theorem kdX1_fix : yX1_fix.cls = RX1 ∧ yX1_fix.cls ≠ "java/lang/invoke/MethodHandle" ∧ yX1_fix.cls ≠ "java/lang/invoke/VarHandle" ∧ (parseMethodDescriptor yX1_fix.desc).map (fun d => d.parameters.length) = some 0 := by decide +kernel
set_option maxHeartbeats 4000000 in
set_option maxRecDepth 100000 in
theorem c_X1_fix (l : Launch) (D : va_G) (cA cB : ClassId) (h0 a0 b0 k : Nat) (F : Nat → BitVec 8) (g : Nat → Bool) (sz : Nat) (hk : k ≤ 14) : Met l yX1_fix wsX1_fix rmX1_fix (va_Pc [.ref h0] (tw_Pw D (tw_M cA cB h0 a0 b0 k F g) (tw_tM cA cB) sz)) (va_Qi (fun (r : Int32) (u : Nat × (Nat → BitVec 8) × (Nat → Bool)) => (r, u) = tw_mfix k F g) (tw_Qw D (fun u : Nat × (Nat → BitVec 8) × (Nat → Bool) => tw_M cA cB h0 a0 b0 u.1 u.2.1 u.2.2) (tw_tM cA cB) (va_A (tw_M cA cB h0 a0 b0 k F g) sz)) (va_A (tw_M cA cB h0 a0 b0 k F g) sz)) 0 0 (va_A (tw_M cA cB h0 a0 b0 k F g) sz) := by
  refine tw_metW (by decide) rfl rfl (Nat.le_of_ble_eq_true rfl) ?_
  intro p e s m args below meth c Q ls A hx hb hml hown hts hP hK hD hS hA hend hl
  have hown : s.vm.findClass RX1 = some m.cls := hown
  have hl : lv_has ls 3 [(0, .ref h0)] := hl
  refine lv_aload_n hx hb dX1_fix_0 rfl (lv_at hl 0 rfl) ?_
  refine lv_iconst (v := 0) hx hb dX1_fix_1 (by decide) ?_
  refine va_put (D := D) (ci := 1) (v := .int 0) (ty := .int) (C := RX1) (T := TX1) (N := 4) hx hb hts inX1_fix tyX1 tyX1_ok nmX1 hown hK hP hD hS 0 rfl rfl 0 (by decide) (hts _ fX1_fix_21) (fun _ h9 => h9) rfl (by decide +kernel) rfl rfl (Nat.le_of_ble_eq_true rfl) dX1_fix_2 (fun H locs hP hD hS => ?_)
  have hP : va_P D vwCl (tw_M cA cB h0 a0 b0 k F g) H := hP
  have hD : va_D A (tw_M cA cB h0 a0 b0 k F g) := hD
  refine lv_aload_n hx hb dX1_fix_5 rfl (lv_at hl 0 rfl) ?_
  refine tw_rM ⟨hx, hb, hml, hown, hts⟩ hK hP (c_X1_manyLost l D cA cB h0 a0 b0 k F g hk) (cwV 0 hts gX1_fix_X1_manyLost rfl rfl rfl kdX1_manyLost ⟨Nat.le_of_ble_eq_true rfl, Nat.le_of_ble_eq_true rfl⟩) rfl hl.1 rfl (Nat.le_of_ble_eq_true rfl) dX1_fix_6 ⟨Nat.zero_le _, Nat.zero_le _⟩ ?_
  refine lv_if_le (tgt := 14) hx hb dX1_fix_9 (by decide) (fun c_9 => ?_) (fun c_9 => ?_)
  · have hz : tw_mc g (k + 2) = 0 := by have h9 := tw_mc_le g (k + 2); rcases Nat.eq_zero_or_pos (tw_mc g (k + 2)) with h8 | h8; exact h8; exact absurd c_9 (nI_nle h8 (by omega))
    have hzz := tw_mc_z _ hz
    refine lv_aload_n hx hb dX1_fix_14 rfl (lv_at hl 0 rfl) ?_
    refine tw_rM ⟨hx, hb, hml, hown, hts⟩ hK hP (c_X1_off l D cA cB h0 a0 b0 k F g hk) (cwV 0 hts gX1_fix_X1_off rfl rfl rfl kdX1_off ⟨Nat.le_of_ble_eq_true rfl, Nat.le_of_ble_eq_true rfl⟩) rfl hl.1 rfl (Nat.le_of_ble_eq_true rfl) dX1_fix_15 ⟨Nat.zero_le _, Nat.zero_le _⟩ ?_
    refine lv_topi (fun x1_18 ex1_18 => ?_)
    refine lv_istore_n (lv' := [(1, .int x1_18), (0, .ref h0)]) hx hb dX1_fix_18 rfl hl (by decide) rfl (fun ls hl => ?_)
    refine lv_iload_n hx hb dX1_fix_19 rfl (lv_at hl 0 rfl) ?_
    refine lv_if_lt (tgt := 35) hx hb dX1_fix_20 (by decide) (fun c_20 => ?_) (fun c_20 => ?_)
    · refine lv_iload_n hx hb dX1_fix_35 rfl (lv_at hl 0 rfl) ?_
      exact hend _ _ _ (k, F, g) _ _ dX1_fix_36 (by rw [tw_mfix, if_pos hz, ← ex1_18, if_pos c_20]) hP hD hS
    · obtain ⟨a, ha, ha2⟩ := tw_moD hk (show ¬ tw_mo k g F < 0 by rw [← ex1_18]; exact c_20)
      rw [ex1_18, ha2] at hl
      refine lv_aload_n hx hb dX1_fix_23 rfl (lv_at hl 1 rfl) ?_
      refine va_get (D := D) (ci := 1) (v := .ref b0) (C := RX1) (T := TX1) (N := 4) hx hb hts inX1_fix hown hK hP 0 rfl rfl 3 (by decide) (hts _ fX1_fix_13) (fun _ h9 => h9) rfl dX1_fix_24 ?_
      refine lv_iload_n hx hb dX1_fix_27 rfl (lv_at hl 0 rfl) ?_
      refine lv_iconst (v := 1) hx hb dX1_fix_28 (by decide) ?_
      refine tw_sz hx hb hK hP hD hS 2 1 rfl rfl (n := a) (v := true) (rfl) (rfl) (by omega) (by decide) dX1_fix_29 (fun H locs hP hD hS => ?_)
      have hP : va_P D vwCl (tw_M cA cB h0 a0 b0 k F (va_up g (a) (true))) H := hP
      have hD : va_D A (tw_M cA cB h0 a0 b0 k F (va_up g (a) (true))) := hD
      refine lv_aload_n hx hb dX1_fix_30 rfl (lv_at hl 1 rfl) ?_
      refine tw_wi (wr := []) (ci := 1) (q := (RX1, TX1, 4)) ⟨hx, hb, hml, hown, hts⟩ hK hP hD hS hA [0, 1, 2] [] rfl rfl rfl rfl (fun _ h => by cases h) hP rfl rfl (c_X1_mend l D cA cB h0 a0 b0 k F (va_up g (a) (true)) _ hk (tw_one_ok hzz ha)) (cwV 0 hts gX1_fix_X1_mend rfl rfl rfl kdX1_mend ⟨Nat.le_of_ble_eq_true rfl, Nat.le_of_ble_eq_true rfl⟩) rfl hl.1 rfl (Nat.le_of_ble_eq_true rfl) dX1_fix_31 ⟨Nat.zero_le _, Nat.zero_le _⟩ (fun r u H locs hru hP hD hS => ?_)
      obtain ⟨k2, F2, g2⟩ := u
      have hP : va_P D vwCl (tw_M cA cB h0 a0 b0 k2 F2 g2) H := hP
      have hD : va_D A (tw_M cA cB h0 a0 b0 k2 F2 g2) := hD
      refine lv_istore_n (lv' := [(2, .int r), (1, .int (nI a)), (0, .ref h0)]) hx hb dX1_fix_34 rfl hl (by decide) rfl (fun ls hl => ?_)
      refine lv_iload_n hx hb dX1_fix_35 rfl (lv_at hl 1 rfl) ?_
      exact hend _ _ _ (k2, F2, g2) _ _ dX1_fix_36 (by rw [tw_mfix, if_pos hz, ha2, if_neg (nI_pos (by omega)), nI_clamp (by omega), ← hru]) hP hD hS
  · refine lv_iconst (v := (-1)) hx hb dX1_fix_12 (by decide) ?_
    exact hend _ _ _ (k, F, g) _ _ dX1_fix_13 (by rw [tw_mfix, if_neg (fun h9 => c_9 (by rw [h9]; decide))]) hP hD hS
