/-! ===== the field: bytes, doubling, powers, products, the inverse ===== -/
def tq_eb (x : BitVec 8) : Int32 := nI x.toNat
def tq_d (x : BitVec 8) : BitVec 8 := if x.getLsbD 7 then (x <<< 1) ^^^ 29#8 else x <<< 1
def tq_p : Nat → BitVec 8 → BitVec 8
  | 0, x => x
  | n + 1, x => tq_d (tq_p n x)
def tq_ms (a b : BitVec 8) : Nat → BitVec 8
  | 0 => 0#8
  | n + 1 => if b.getLsbD n then tq_ms a b n ^^^ tq_p n a else tq_ms a b n
def tq_m (a b : BitVec 8) : BitVec 8 := tq_ms a b 8
def tq_is (a : BitVec 8) : Nat → BitVec 8 × BitVec 8
  | 0 => (a, 1#8)
  | n + 1 => (tq_m (tq_is a n).1 (tq_is a n).1, tq_m (tq_is a n).2 (tq_m (tq_is a n).1 (tq_is a n).1))
def tq_i (a : BitVec 8) : BitVec 8 := (tq_is a 7).2
theorem tq_lc (a b c : BitVec 8) : a ^^^ (b ^^^ c) = b ^^^ (a ^^^ c) := by rw [← BitVec.xor_assoc, BitVec.xor_comm a b, BitVec.xor_assoc]
theorem tq_cl (a b : BitVec 8) : a ^^^ (a ^^^ b) = b := by rw [← BitVec.xor_assoc, BitVec.xor_self, BitVec.zero_xor]
theorem tq_z0 {a b : BitVec 8} (h : a ^^^ b = 0#8) : a = b := by
  have := congrArg (fun z => z ^^^ b) h
  simpa [BitVec.xor_assoc] using this
theorem tq_d_add (x y : BitVec 8) : tq_d (x ^^^ y) = tq_d x ^^^ tq_d y := by
  unfold tq_d
  rw [BitVec.getLsbD_xor, BitVec.shiftLeft_xor_distrib]
  cases x.getLsbD 7 <;> cases y.getLsbD 7 <;> simp [BitVec.xor_assoc, BitVec.xor_comm, tq_lc, tq_cl]
theorem tq_p_add (n : Nat) (x y : BitVec 8) : tq_p n (x ^^^ y) = tq_p n x ^^^ tq_p n y := by
  induction n with
  | zero => rfl
  | succ n ih => simp only [tq_p]; rw [ih, tq_d_add]
theorem tq_ms_add (x y b : BitVec 8) (n : Nat) : tq_ms (x ^^^ y) b n = tq_ms x b n ^^^ tq_ms y b n := by
  induction n with
  | zero => simp [tq_ms]
  | succ n ih =>
    simp only [tq_ms]
    rw [ih, tq_p_add]
    cases b.getLsbD n <;> simp [BitVec.xor_assoc, BitVec.xor_comm, tq_lc]
theorem tq_m_add (x y b : BitVec 8) : tq_m (x ^^^ y) b = tq_m x b ^^^ tq_m y b := tq_ms_add x y b 8
theorem tq_ms_add2 (x a b : BitVec 8) (n : Nat) : tq_ms x (a ^^^ b) n = tq_ms x a n ^^^ tq_ms x b n := by
  induction n with
  | zero => simp [tq_ms]
  | succ n ih =>
    simp only [tq_ms]
    rw [ih, BitVec.getLsbD_xor]
    cases a.getLsbD n <;> cases b.getLsbD n <;> simp [BitVec.xor_assoc, BitVec.xor_comm, tq_lc, tq_cl]
theorem tq_m_add2 (x a b : BitVec 8) : tq_m x (a ^^^ b) = tq_m x a ^^^ tq_m x b := tq_ms_add2 x a b 8
def tq_c (j : Nat) (x : BitVec 8) : BitVec 8 := if x.getLsbD j then 1#8 <<< j else 0#8
theorem tq_dec : ∀ x : BitVec 8, x = tq_c 0 x ^^^ (tq_c 1 x ^^^ (tq_c 2 x ^^^ (tq_c 3 x ^^^ (tq_c 4 x ^^^ (tq_c 5 x ^^^ (tq_c 6 x ^^^ tq_c 7 x)))))) := by decide +kernel
theorem tq_lin0 {f : BitVec 8 → BitVec 8} (hf : ∀ x y, f (x ^^^ y) = f x ^^^ f y) : f 0#8 = 0#8 := by
  have h := hf 0#8 0#8
  rw [BitVec.xor_self] at h
  rw [h, BitVec.xor_self]
theorem tq_lin {f g : BitVec 8 → BitVec 8} (hf : ∀ x y, f (x ^^^ y) = f x ^^^ f y) (hg : ∀ x y, g (x ^^^ y) = g x ^^^ g y) (h : ∀ j, j < 8 → f (1#8 <<< j) = g (1#8 <<< j)) (x : BitVec 8) : f x = g x := by
  have hc : ∀ j, j < 8 → f (tq_c j x) = g (tq_c j x) := by
    intro j hj
    unfold tq_c
    split
    · exact h j hj
    · rw [tq_lin0 hf, tq_lin0 hg]
  rw [tq_dec x]
  simp only [hf, hg]
  rw [hc 0 (by decide), hc 1 (by decide), hc 2 (by decide), hc 3 (by decide), hc 4 (by decide), hc 5 (by decide), hc 6 (by decide), hc 7 (by decide)]
theorem tq_p0 (n : Nat) : tq_p n 0#8 = 0#8 := tq_lin0 (tq_p_add n)
theorem tq_m0 (b : BitVec 8) : tq_m 0#8 b = 0#8 := tq_lin0 (f := fun x => tq_m x b) (fun x y => tq_m_add x y b)
theorem tq_ib1 : ∀ b : BitVec 8, b ≠ 0#8 → ∀ j, j < 8 → tq_m (tq_m (1#8 <<< j) b) (tq_i b) = 1#8 <<< j := by decide +kernel
theorem tq_ib2 : ∀ b : BitVec 8, b ≠ 0#8 → ∀ j, j < 8 → tq_m (tq_m (1#8 <<< j) (tq_i b)) b = 1#8 <<< j := by decide +kernel
theorem tq_pb : ∀ u, u < 16 → ∀ j, j < 8 → tq_m (1#8 <<< j) (tq_p u 1#8) = tq_p u (1#8 <<< j) := by decide +kernel
theorem tq_i1 {b : BitVec 8} (hb : b ≠ 0#8) (x : BitVec 8) : tq_m (tq_m x b) (tq_i b) = x :=
  tq_lin (f := fun x => tq_m (tq_m x b) (tq_i b)) (g := fun x => x) (fun x y => by simp only [tq_m_add]) (fun _ _ => rfl) (fun j hj => tq_ib1 b hb j hj) x
theorem tq_i2 {b : BitVec 8} (hb : b ≠ 0#8) (x : BitVec 8) : tq_m (tq_m x (tq_i b)) b = x :=
  tq_lin (f := fun x => tq_m (tq_m x (tq_i b)) b) (g := fun x => x) (fun x y => by simp only [tq_m_add]) (fun _ _ => rfl) (fun j hj => tq_ib2 b hb j hj) x
theorem tq_mp {u : Nat} (hu : u < 16) (x : BitVec 8) : tq_m x (tq_p u 1#8) = tq_p u x :=
  tq_lin (f := fun x => tq_m x (tq_p u 1#8)) (g := fun x => tq_p u x) (fun x y => tq_m_add x y _) (fun x y => tq_p_add u x y) (fun j hj => tq_pb u hu j hj) x
theorem tq_m1 (x : BitVec 8) : tq_m x 1#8 = x := tq_mp (u := 0) (by decide) x
theorem tq_m2 (x : BitVec 8) : tq_m x 2#8 = tq_d x := tq_mp (u := 1) (by decide) x
theorem tq_pn : ∀ u, u < 16 → tq_p u 1#8 ≠ 0#8 := by decide +kernel
theorem tq_pnn : ∀ u, u < 16 → ∀ v, v < 16 → u ≠ v → tq_p u 1#8 ^^^ tq_p v 1#8 ≠ 0#8 := by decide +kernel
/-- equal products have equal factors -/
theorem tq_inj {b x y : BitVec 8} (hb : b ≠ 0#8) (h : tq_m x b = tq_m y b) : x = y := by
  rw [← tq_i1 hb x, h, tq_i1 hb y]
theorem tq_puv {u v : Nat} {x : BitVec 8} (hu : u < 16) (hv : v < 16) (hx : x ≠ 0#8) (h : tq_p u x = tq_p v x) : u = v := by
  by_cases e : u = v
  · exact e
  · refine absurd ?_ hx
    refine tq_inj (tq_pnn u hu v hv e) ?_
    rw [tq_m_add2, tq_mp hu, tq_mp hv, h, BitVec.xor_self, tq_m0]
/-! ===== the machine's numbers of bytes ===== -/
theorem tq_eb_inj {x y : BitVec 8} (h : tq_eb x = tq_eb y) : x = y := by
  have hx : x.toNat < 2 ^ 8 := x.isLt
  have hy : y.toNat < 2 ^ 8 := y.isLt
  exact BitVec.eq_of_toNat_eq ((nI_eq (by omega) (by omega)).mp h)
theorem tq_eb_eq {x y : BitVec 8} : tq_eb x = tq_eb y ↔ x = y := ⟨tq_eb_inj, fun h => by rw [h]⟩
theorem tq_nx (a b : Nat) : nI a ^^^ nI b = nI (a ^^^ b) := by
  apply Int32.toBitVec_inj.mp
  rw [Int32.toBitVec_xor]
  show BitVec.ofNat 32 a ^^^ BitVec.ofNat 32 b = BitVec.ofNat 32 (a ^^^ b)
  exact BitVec.ofNat_xor.symm
theorem tq_eb_xor (x y : BitVec 8) : tq_eb x ^^^ tq_eb y = tq_eb (x ^^^ y) := by
  unfold tq_eb
  rw [tq_nx, BitVec.toNat_xor]
theorem tq_eb0 : tq_eb 0#8 = 0 := rfl
theorem tq_eb_z {x : BitVec 8} : tq_eb x = 0 ↔ x = 0#8 := ⟨fun h => tq_eb_inj (h.trans tq_eb0.symm), fun h => by rw [h]; rfl⟩
theorem tq_dbl_i : ∀ x : BitVec 8, (if (256 : Int32) ≤ tq_eb x <<< ((1 : Int32) &&& 31) then (tq_eb x <<< ((1 : Int32) &&& 31)) ^^^ 285 else tq_eb x <<< ((1 : Int32) &&& 31)) = tq_eb (tq_d x) := by decide +kernel
theorem tq_dbl_m : ∀ x : BitVec 8, (if (128 : Int32) ≤ tq_eb x then ((2 : Int32) * tq_eb x) ^^^ 285 else (2 : Int32) * tq_eb x) = tq_eb (tq_d x) := by decide +kernel
theorem tq_bit_i : ∀ x : BitVec 8, ∀ n, n < 8 → ((tq_eb x >>> (nI n &&& 31)) &&& 1) = if x.getLsbD n then 1 else 0 := by decide +kernel
theorem tq_eb_of {x : Int32} (h0 : ¬ x < 0) (h1 : ¬ (256 : Int32) ≤ x) : ∃ b : BitVec 8, x = tq_eb b := by
  obtain ⟨n, hn, rfl⟩ := nI_of h0
  have h2 : n < 256 := by
    rcases Nat.lt_or_ge n 256 with q | q
    · exact q
    · exact absurd (nI_le q hn) h1
  exact ⟨BitVec.ofNat 8 n, by unfold tq_eb; rw [BitVec.toNat_ofNat, Nat.mod_eq_of_lt h2]⟩
theorem tq_eb_rng (x : BitVec 8) : ¬ tq_eb x < 0 ∧ ¬ (256 : Int32) ≤ tq_eb x ∧ ¬ (255 : Int32) < tq_eb x := by
  have h : x.toNat < 2 ^ 8 := x.isLt
  refine ⟨nI_pos (by omega), ?_, ?_⟩
  · exact nI_ge (a := x.toNat) (b := 256) (by omega) (by decide)
  · exact nI_nlt (a := 255) (b := x.toNat) (by omega) (by decide)
