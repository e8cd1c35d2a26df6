/-! ===== numbers that the walks need ===== -/
theorem tw_dec (n : Nat) : nI n + Int32.ofInt (-1) = nI n - 1 := by
  rw [Int32.sub_eq_add_neg]; rfl
theorem tw_rem (x : Int32) : (x - x / 255 * 255).toInt = x.toInt.tmod 255 := by
  have h1 : (x / 255).toInt = x.toInt.tdiv 255 := Int32.toInt_div_of_ne_right x 255 (by decide)
  have h2 : (255 : Int32).toInt = 255 := by decide
  have h3 : x.toInt.tdiv 255 * 255 + x.toInt.tmod 255 = x.toInt := Int.tdiv_mul_add_tmod x.toInt 255
  have hlo : -2147483648 ≤ x.toInt := Int32.le_toInt x
  have hhi : x.toInt < 2147483648 := Int32.toInt_lt x
  have h4 : -255 < x.toInt.tmod 255 := Int.lt_tmod_of_pos x.toInt (by decide)
  have h5 : x.toInt.tmod 255 < 255 := Int.tmod_lt_of_pos x.toInt (by decide)
  rw [Int32.toInt_sub, Int32.toInt_mul, h1, h2]
  have e : x.toInt.tdiv 255 * 255 = x.toInt - x.toInt.tmod 255 := by omega
  rw [e]
  have hsg : (0 ≤ x.toInt → 0 ≤ x.toInt.tmod 255) ∧ (x.toInt ≤ 0 → x.toInt.tmod 255 ≤ 0) := by
    refine ⟨fun h => Int.tmod_nonneg 255 h, fun h => ?_⟩
    have := Int.tmod_nonneg (a := -x.toInt) 255 (by omega)
    rw [Int.neg_tmod] at this
    omega
  rw [Int.bmod_eq_of_le (n := x.toInt - x.toInt.tmod 255) (by omega) (by omega), Int.bmod_eq_of_le (by omega) (by omega)]
  omega
theorem tw_remE (x : Int32) : (0 ≤ x.toInt.tmod 255 → x.toInt % 255 = x.toInt.tmod 255) ∧ (x.toInt.tmod 255 < 0 → x.toInt % 255 = x.toInt.tmod 255 + 255) ∧ (0 ≤ x.toInt → 0 ≤ x.toInt.tmod 255) ∧ (x.toInt < 0 → x.toInt.tmod 255 ≤ 0) := by
  have h3 : x.toInt.tdiv 255 * 255 + x.toInt.tmod 255 = x.toInt := Int.tdiv_mul_add_tmod x.toInt 255
  have h4 : -255 < x.toInt.tmod 255 := Int.lt_tmod_of_pos x.toInt (by decide)
  have h5 : x.toInt.tmod 255 < 255 := Int.tmod_lt_of_pos x.toInt (by decide)
  refine ⟨fun h => by omega, fun h => by omega, fun h => Int.tmod_nonneg 255 h, fun h => ?_⟩
  have := Int.tmod_nonneg (a := -x.toInt) 255 (by omega)
  rw [Int.neg_tmod] at this
  omega
theorem tw_fm_lt (x : Int32) : tw_fm x < 255 := by
  unfold tw_fm
  omega
theorem tw_fmA {x : Int32} (h : ¬ x - x / 255 * 255 < 0) : x - x / 255 * 255 = nI (tw_fm x) := by
  have e := tw_rem x
  have hE := tw_remE x
  rw [Int32.lt_iff_toInt_lt, e] at h
  have h0 : (0 : Int32).toInt = 0 := by decide
  rw [h0] at h
  apply Int32.toInt_inj.mp
  have hl := tw_fm_lt x
  rw [e, nI_toInt (by omega), ← hE.1 (by omega)]
  unfold tw_fm
  omega
theorem tw_fmB {x : Int32} (h : x - x / 255 * 255 < 0) : x - x / 255 * 255 + 255 = nI (tw_fm x) := by
  have e := tw_rem x
  have hE := tw_remE x
  rw [Int32.lt_iff_toInt_lt, e] at h
  have h0 : (0 : Int32).toInt = 0 := by decide
  have h2 : (255 : Int32).toInt = 255 := by decide
  rw [h0] at h
  have h4 : -255 < x.toInt.tmod 255 := Int.lt_tmod_of_pos x.toInt (by decide)
  apply Int32.toInt_inj.mp
  have hl := tw_fm_lt x
  rw [Int32.toInt_add, e, h2, Int.bmod_eq_of_le (by omega) (by omega), nI_toInt (by omega), ← hE.2.1 (by omega)]
  unfold tw_fm
  omega
theorem tw_x255 (x : Int32) : (0 ≤ x ^^^ 255) ↔ 0 ≤ x := by
  rw [Int32.le_iff_toInt_le, Int32.le_iff_toInt_le]
  have h0 : (0 : Int32).toInt = 0 := by decide
  rw [h0, ← Int32.toInt_toBitVec (x ^^^ 255), ← Int32.toInt_toBitVec x, Int32.toBitVec_xor]
  have hm : (x.toBitVec ^^^ (255 : Int32).toBitVec).msb = x.toBitVec.msb := by
    rw [BitVec.msb_xor, show (255 : Int32).toBitVec.msb = false from by decide, Bool.xor_false]
  rw [BitVec.msb_eq_toInt, BitVec.msb_eq_toInt] at hm
  have hm2 := decide_eq_decide.mp hm
  omega
theorem tw_fmC {x : Int32} (h : 0 ≤ x ^^^ 255) : x - x / 255 * 255 = nI (tw_fm x) := by
  apply tw_fmA
  have e := tw_rem x
  have hE := tw_remE x
  have h1 := (tw_x255 x).mp h
  rw [Int32.le_iff_toInt_le] at h1
  have h0 : (0 : Int32).toInt = 0 := by decide
  rw [Int32.lt_iff_toInt_lt, e, h0]
  have := hE.2.2.1 (by omega)
  omega
theorem tw_fmD {x : Int32} (h : ¬ 0 ≤ x ^^^ 255) (hz : ¬ x - x / 255 * 255 = 0) : x - x / 255 * 255 + 255 = nI (tw_fm x) := by
  apply tw_fmB
  have e := tw_rem x
  have hE := tw_remE x
  rw [tw_x255, Int32.le_iff_toInt_le] at h
  have h0 : (0 : Int32).toInt = 0 := by decide
  have hz2 : ¬ x.toInt.tmod 255 = 0 := fun q => hz (Int32.toInt_inj.mp (by rw [e, h0, q]))
  rw [Int32.lt_iff_toInt_lt, e, h0]
  have := hE.2.2.2 (by omega)
  omega
/-- a unit that is there -/
theorem tw_thD {k : Nat} {lo x : Int32} (hk : k ≤ 14) (h : tw_th k lo x = true) : ∃ u : Nat, u < k + 2 ∧ x = nI u ∧ tw_lb lo u = false := by
  simp only [tw_th, Bool.and_eq_true, Bool.not_eq_true', decide_eq_false_iff_not] at h
  obtain ⟨h0, h1, h2⟩ := h
  obtain ⟨u, hu, rfl⟩ := nI_of h0
  rw [nI_clamp hu] at h2
  refine ⟨u, ?_, rfl, h2⟩
  rcases Nat.lt_or_ge u (k + 2) with q | q
  · exact q
  · exact absurd (nI_le q hu) h1
theorem tw_thI {k : Nat} {lo : Int32} {u : Nat} (hk : k ≤ 14) (hu : u < k + 2) : tw_th k lo (nI u) = !tw_lb lo u := by
  have h1 : ¬ nI u < 0 := nI_pos (by omega)
  have h2 : ¬ nI (k + 2) ≤ nI u := nI_ge hu (by omega)
  simp [tw_th, h1, h2, nI_clamp (show u < 2 ^ 31 by omega)]
/-- bytes that are there -/
theorem tw_spD {z n : Int32} {mm : Nat} (hm : mm ≤ 64) (h : tw_sp z n (nI mm) = true) : ∃ i j : Nat, z = nI i ∧ n = nI j ∧ 1 ≤ j ∧ j ≤ mm ∧ i + j ≤ 64 := by
  simp only [tw_sp, Bool.and_eq_true, Bool.not_eq_true', decide_eq_false_iff_not] at h
  obtain ⟨h1, h2, h3, h4⟩ := h
  have e1 : (1 : Int32).toInt = 1 := by decide
  have e0 : (0 : Int32).toInt = 0 := by decide
  have hn : ¬ n < 0 := by
    rw [Int32.lt_iff_toInt_lt] at h1 ⊢
    omega
  obtain ⟨j, hj, rfl⟩ := nI_of hn
  obtain ⟨i, hi, rfl⟩ := nI_of h3
  have g1 : 1 ≤ j := by
    rcases Nat.lt_or_ge j 1 with q | q
    · exact absurd (show nI j < nI 1 from nI_lt q (by decide)) h1
    · exact q
  have g2 : j ≤ mm := by
    rcases Nat.lt_or_ge mm j with q | q
    · exact absurd (nI_lt q hj) h2
    · exact q
  have e4 : (64 : Int32) - nI j = nI (64 - j) := by rw [show (64 : Int32) = nI 64 from rfl, pk_sub (by omega)]
  rw [e4] at h4
  have g3 : i ≤ 64 - j := by
    rcases Nat.lt_or_ge (64 - j) i with q | q
    · exact absurd (nI_lt q hi) h4
    · exact q
  exact ⟨i, j, rfl, rfl, g1, g2, by omega⟩
theorem tw_spI {i j mm : Nat} (hm : mm ≤ 64) (h1 : 1 ≤ j) (h2 : j ≤ mm) (h3 : i + j ≤ 64) : tw_sp (nI i) (nI j) (nI mm) = true := by
  have e4 : (64 : Int32) - nI j = nI (64 - j) := by rw [show (64 : Int32) = nI 64 from rfl, pk_sub (by omega)]
  have g1 : ¬ nI j < 1 := by rw [show (1 : Int32) = nI 1 from rfl]; exact nI_nlt h1 (by omega)
  have g2 : ¬ nI mm < nI j := nI_nlt h2 (by omega)
  have g3 : ¬ nI i < 0 := nI_pos (by omega)
  have g4 : ¬ nI (64 - j) < nI i := nI_nlt (by omega) (by omega)
  simp [tw_sp, e4, g1, g2, g3, g4]
def tq_bv (x : Int32) : BitVec 8 := BitVec.ofNat 8 x.toNatClampNeg
theorem tq_bv_eb (b : BitVec 8) : tq_bv (tq_eb b) = b := by
  unfold tq_bv tq_eb
  have h : b.toNat < 2 ^ 8 := b.isLt
  rw [nI_clamp (by omega)]
  apply BitVec.eq_of_toNat_eq
  rw [BitVec.toNat_ofNat, Nat.mod_eq_of_lt h]
theorem tw_el_eb (b : BitVec 8) : tw_el (tq_eb b) = true := by
  obtain ⟨h1, h2, _⟩ := tq_eb_rng b
  simp [tw_el, h1, h2]
theorem tw_elD {x : Int32} (h : tw_el x = true) : ∃ b : BitVec 8, x = tq_eb b := by
  simp only [tw_el, Bool.and_eq_true, Bool.not_eq_true', decide_eq_false_iff_not] at h
  exact tq_eb_of h.1 h.2
