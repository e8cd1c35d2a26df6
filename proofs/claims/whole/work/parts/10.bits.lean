theorem wb_tb (n : Nat) : (lN n).toBitVec = BitVec.ofNat 64 n := rfl
theorem wb_inj {a b : Int64} (h : a.toBitVec = b.toBitVec) : a = b := Int64.toBitVec_inj.mp h
theorem wb_tn {n : Nat} (h : n < 2 ^ 64) : (lN n).toBitVec.toNat = n := by rw [wb_tb, BitVec.toNat_ofNat, Nat.mod_eq_of_lt h]
theorem wb_of (x : Int64) : ∃ n, n < 2 ^ 64 ∧ x = lN n := ⟨x.toBitVec.toNat, x.toBitVec.isLt, wb_inj (by rw [wb_tb]; simp)⟩
theorem wb_of32 (x : Int32) : ∃ n, n < 2 ^ 32 ∧ x = nI n := ⟨x.toBitVec.toNat, x.toBitVec.isLt, Int32.toBitVec_inj.mp (by show _ = BitVec.ofNat 32 _; simp)⟩
theorem wb_c : ∀ k, k < 64 → ((nI k).toInt64 &&& 63) = lN k := by decide +kernel
theorem wb_cu : ∀ k, k < 64 → ((nI k).toInt64.toUInt64 &&& Int64.toUInt64 63) = UInt64.ofNat k := by decide +kernel
theorem wb_sm : ∀ k, k < 64 → (BitVec.ofNat 64 k).smod 64 = BitVec.ofNat 64 k := by decide +kernel
theorem wb_pw {a b : Nat} (h : a ≤ b) : 2 ^ b = 2 ^ a * 2 ^ (b - a) := by rw [← Nat.pow_add]; congr 1; omega
theorem wb_lt2 {a b : Nat} (h : a < b) : 2 ^ a < 2 ^ b := Nat.pow_lt_pow_right (by decide) h
theorem wb_mod (n : Nat) : lN n = lN (n % 2 ^ 64) := wb_inj (by rw [wb_tb, wb_tb]; apply BitVec.eq_of_toNat_eq; rw [BitVec.toNat_ofNat, BitVec.toNat_ofNat, Nat.mod_mod])
theorem wb_shr {n k : Nat} (hn : n < 2 ^ 64) (hk : k < 64) : ((lN n).toUInt64 >>> ((nI k).toInt64.toUInt64 &&& Int64.toUInt64 63)).toInt64 = lN (n / 2 ^ k) := by
  rw [wb_cu k hk]
  apply wb_inj
  apply BitVec.eq_of_toNat_eq
  show ((lN n).toUInt64 >>> UInt64.ofNat k).toNat = (BitVec.ofNat 64 _).toNat
  have h1 : (UInt64.ofNat k).toNat = k := by
    show (BitVec.ofNat 64 k).toNat = k
    rw [BitVec.toNat_ofNat, Nat.mod_eq_of_lt (by omega)]
  have h2 : (lN n).toUInt64.toNat = n := wb_tn hn
  rw [UInt64.toNat_shiftRight, h1, h2, Nat.mod_eq_of_lt hk, Nat.shiftRight_eq_div_pow, BitVec.toNat_ofNat, Nat.mod_eq_of_lt (Nat.lt_of_le_of_lt (Nat.div_le_self _ _) hn)]
/-! ===== bytes of a long, and the seed's bytes ===== -/
def tw_by (v : Int64) (j : Nat) : BitVec 8 := BitVec.ofNat 8 (v.toBitVec.toNat / 2 ^ (8 * j))
def tw_b16 (x : Int32) : BitVec 8 := BitVec.ofNat 8 (x.toBitVec.toNat / 2 ^ 16)
theorem tw_by_x (v : Int64) (j : Nat) (hj : j < 8) : Int64.toInt32 (v.toUInt64 >>> ((Int32.toInt64 (8 * nI j)).toUInt64 &&& Int64.toUInt64 63)).toInt64 &&& 255 = tq_eb (tw_by v j) := by
  obtain ⟨n, hn, rfl⟩ := wb_of v
  rw [show (8 : Int32) = nI 8 from rfl, pk_mul, wb_shr hn (by omega), lN_i, pk_and _ 8 (by decide)]
  unfold tq_eb tw_by
  rw [BitVec.toNat_ofNat, wb_tn hn]
  congr 1
  show (BitVec.ofNat 32 _).toNat % 2 ^ 8 = _
  rw [BitVec.toNat_ofNat]
  omega
theorem tw_bit255 (i : Nat) : (255 : Int64).toBitVec.getLsbD i = decide (i < 8) := by
  show (BitVec.ofNat 64 255).getLsbD i = _
  rw [BitVec.getLsbD_ofNat, show (255 : Nat) = 2 ^ 8 - 1 from rfl, Nat.testBit_two_pow_sub_one]
  by_cases h : i < 8
  · simp [h]; omega
  · simp [h]
theorem tw_bit255i (i : Nat) : (255 : Int32).toBitVec.getLsbD i = decide (i < 8) := by
  show (BitVec.ofNat 32 255).getLsbD i = _
  rw [BitVec.getLsbD_ofNat, show (255 : Nat) = 2 ^ 8 - 1 from rfl, Nat.testBit_two_pow_sub_one]
  by_cases h : i < 8
  · simp [h]; omega
  · simp [h]
theorem tw_ebbit (N i : Nat) (hi : i < 32) : (tq_eb (BitVec.ofNat 8 N)).toBitVec.getLsbD i = (decide (i < 8) && N.testBit i) := by
  show (BitVec.ofNat 32 (BitVec.ofNat 8 N).toNat).getLsbD i = _
  rw [BitVec.getLsbD_ofNat, BitVec.toNat_ofNat, Nat.testBit_mod_two_pow]
  simp [hi]
theorem tw_by_m (v : Int64) (j : Nat) (hj : j < 8) : Int64.toInt32 ((v >>> (Int32.toInt64 (8 * nI j) &&& 63)) &&& 255) = tq_eb (tw_by v j) := by
  rw [show (8 : Int32) = nI 8 from rfl, pk_mul, wb_c (8 * j) (by omega)]
  apply Int32.toBitVec_inj.mp
  apply BitVec.eq_of_getLsbD_eq
  intro i hi
  unfold tw_by
  rw [tw_ebbit _ i hi]
  rw [Int64.toBitVec_toInt32, BitVec.getLsbD_signExtend, if_pos (by omega), Int64.toBitVec_and, BitVec.getLsbD_and, tw_bit255, Int64.toBitVec_shiftRight, wb_tb, wb_sm (8 * j) (by omega)]
  by_cases h8 : i < 8
  · have e : (v.toBitVec.sshiftRight' (BitVec.ofNat 64 (8 * j))).getLsbD i = v.toBitVec.toNat.testBit (8 * j + i) := by
      show (v.toBitVec.sshiftRight (BitVec.ofNat 64 (8 * j)).toNat).getLsbD i = _
      rw [BitVec.toNat_ofNat, Nat.mod_eq_of_lt (by omega), BitVec.getLsbD_sshiftRight]
      simp [show 8 * j + i < 64 by omega, show ¬ 64 ≤ i by omega]
      rfl
    rw [e, Nat.testBit_div_two_pow]
    simp [h8, hi, Nat.add_comm]
  · simp [h8]
theorem tw_b16_x (x : Int32) : (x.toUInt32 >>> (Int32.toUInt32 16 &&& Int32.toUInt32 31)).toInt32 &&& 255 = tq_eb (tw_b16 x) := by
  rw [pk_and _ 8 (by decide), pk_ushr x 16 16 (by decide)]
  unfold tq_eb tw_b16
  rw [BitVec.toNat_ofNat]
theorem tw_b16_m (x : Int32) : (x >>> (16 &&& 31)) &&& 255 = tq_eb (tw_b16 x) := by
  apply Int32.toBitVec_inj.mp
  apply BitVec.eq_of_getLsbD_eq
  intro i hi
  unfold tw_b16
  rw [tw_ebbit _ i hi, Int32.toBitVec_and, BitVec.getLsbD_and, tw_bit255i, Int32.toBitVec_shiftRight]
  by_cases h8 : i < 8
  · have e : (x.toBitVec.sshiftRight' ((16 &&& 31 : Int32).toBitVec.smod 32)).getLsbD i = x.toBitVec.toNat.testBit (16 + i) := by
      show (x.toBitVec.sshiftRight ((16 &&& 31 : Int32).toBitVec.smod 32).toNat).getLsbD i = _
      rw [show ((16 &&& 31 : Int32).toBitVec.smod 32).toNat = 16 from by decide, BitVec.getLsbD_sshiftRight]
      simp [show 16 + i < 32 by omega, show ¬ 32 ≤ i by omega]
      rfl
    rw [e, Nat.testBit_div_two_pow]
    simp [h8, Nat.add_comm]
  · simp [h8]
/-- the seed's numbers -/
def tw_lc (seed : Int32) : Nat → Int32
  | 0 => seed
  | j + 1 => 1103515245 * tw_lc seed j + 12345
theorem tw_low_le (g : Nat → Bool) (u n : Nat) : u ≤ tw_low g u n ∧ tw_low g u n ≤ u + n := by
  induction n generalizing u with
  | zero => exact ⟨Nat.le_refl _, Nat.le_refl _⟩
  | succ n ih =>
    unfold tw_low
    split
    · omega
    · have := ih (u + 1); omega
theorem tw_nI_m1 {a : Nat} (h : a < 2 ^ 31) : nI a ≠ -1 := fun e => by
  have h1 := nI_toInt h
  rw [e] at h1
  have h2 : (-1 : Int32).toInt = -1 := by decide
  omega
theorem tw_lfD {k : Nat} {lo : Int32} {f : Nat} (hk : k ≤ 14) (hf : f ≤ k + 2) (h : ¬ tw_lf k lo f = -1) : ∃ a : Nat, a = tw_low (tw_lb lo) f (k + 2 - f) ∧ f ≤ a ∧ a < k + 2 ∧ tw_lf k lo f = nI a := by
  have hb := tw_low_le (tw_lb lo) f (k + 2 - f)
  unfold tw_lf at h ⊢
  split at h
  · exact absurd rfl h
  · rename_i h2
    exact ⟨_, rfl, hb.1, by omega, by rw [if_neg h2]⟩
theorem tw_lfE {k : Nat} {lo : Int32} {f : Nat} (hk : k ≤ 14) (hf : f ≤ k + 2) (h : tw_lf k lo f = -1) : tw_low (tw_lb lo) f (k + 2 - f) = k + 2 := by
  have hb := tw_low_le (tw_lb lo) f (k + 2 - f)
  unfold tw_lf at h
  split at h
  · assumption
  · exact absurd h (tw_nI_m1 (by omega))
def tw_fl (F : Nat → BitVec 8) (n : Nat) : Nat → BitVec 8 := fun j => if j < n then 0#8 else F j
theorem tw_fl_0 (F : Nat → BitVec 8) : tw_fl F 0 = F := by funext j; simp [tw_fl]
theorem tw_fl_s (F : Nat → BitVec 8) (n : Nat) : va_up (tw_fl F n) n 0#8 = tw_fl F (n + 1) := by
  funext j
  unfold va_up tw_fl
  by_cases h : j = n
  · simp [h]
  · rw [if_neg h]
    by_cases h2 : j < n
    · rw [if_pos h2, if_pos (by omega)]
    · rw [if_neg h2, if_neg (by omega)]
/-- where check says a unit, it is one -/
theorem tq_fu_rng (p q : BitVec 8) (k : Nat) (hk : k ≤ 14) : ∀ n u, u + n = k → (tq_fu p q u n = -3 ∨ ∃ a, a < k ∧ tq_fu p q u n = nI a) := by
  intro n
  induction n with
  | zero => intro u _; exact Or.inl rfl
  | succ n ih =>
    intro u h
    unfold tq_fu
    split
    · exact Or.inr ⟨u, by omega, rfl⟩
    · exact ih (u + 1) (by omega)
theorem tw_of_rng (k : Nat) (F : Nat → BitVec 8) (i : Nat) (hk : k ≤ 14) : tw_of k F i = -3 ∨ tw_of k F i = -2 ∨ ∃ a, a ≤ k + 1 ∧ tw_of k F i = nI a := by
  unfold tw_of tq_off
  split
  · split
    · exact Or.inr (Or.inl rfl)
    · exact Or.inr (Or.inr ⟨k, by omega, rfl⟩)
  · split
    · exact Or.inr (Or.inr ⟨k + 1, by omega, rfl⟩)
    · rcases tq_fu_rng (tq_dP k (tq_col F i)) (tq_dQ k (tq_col F i)) k hk k 0 (by omega) with h | ⟨a, h1, h2⟩
      · exact Or.inl h
      · exact Or.inr (Or.inr ⟨a, by omega, h2⟩)
theorem tq_ck_rng (P : Int32 → Prop) (f : Nat → Int32) (h3 : P (-3)) (hf : ∀ i, P (f i)) : ∀ n o i, P o → P (tq_ck f o i n) := by
  intro n
  induction n with
  | zero => intro o i h; exact h
  | succ n ih =>
    intro o i h
    unfold tq_ck
    split
    · exact h3
    · apply ih
      split
      · exact h
      · exact hf i
theorem tw_ckD {k : Nat} {lo : Int32} {F : Nat → BitVec 8} (hk : k ≤ 14) (h : ¬ tw_ck k lo F < 0) : ∃ a, a ≤ k + 1 ∧ tw_ck k lo F = nI a := by
  have key : tw_ck k lo F = -1 ∨ tw_ck k lo F = -3 ∨ tw_ck k lo F = -2 ∨ ∃ a, a ≤ k + 1 ∧ tw_ck k lo F = nI a := by
    unfold tw_ck
    split
    · exact Or.inr (tq_ck_rng (fun r => r = -3 ∨ r = -2 ∨ ∃ a, a ≤ k + 1 ∧ r = nI a) (tw_of k F) (Or.inl rfl) (fun i => tw_of_rng k F i hk) 64 (-2) 0 (Or.inr (Or.inl rfl)))
    · exact Or.inl rfl
  rcases key with e | e | e | e
  · rw [e] at h; exact absurd (by decide) h
  · rw [e] at h; exact absurd (by decide) h
  · rw [e] at h; exact absurd (by decide) h
  · exact e
theorem tw_nneg {x : Int32} (h : ¬ x < 2) : ¬ x < 0 := by
  rw [Int32.lt_iff_toInt_lt] at h ⊢
  have e0 : (0 : Int32).toInt = 0 := by decide
  have e2 : (2 : Int32).toInt = 2 := by decide
  omega
