/-! ===== columns ===== -/
theorem tq_ix_inj {u v i j : Nat} (hi : i < 64) (hj : j < 64) : 64 * u + i = 64 * v + j ↔ u = v ∧ i = j := by
  constructor
  · intro h; omega
  · intro h; omega
theorem tq_col_up (F : Nat → BitVec 8) (u j : Nat) (x : BitVec 8) {i : Nat} (hi : i < 64) (hj : j < 64) : tq_col (va_up F (64 * u + j) x) i = if i = j then va_up (tq_col F i) u x else tq_col F i := by
  funext v
  unfold tq_col va_up
  by_cases e : i = j
  · subst e
    simp only [if_true]
    by_cases e2 : v = u
    · subst e2; simp
    · rw [if_neg (fun h => e2 ((tq_ix_inj hi hj).mp h).1), if_neg e2]
  · rw [if_neg e, if_neg (fun h => e ((tq_ix_inj hi hj).mp h).2)]
theorem tq_xs_congr {c d : Nat → BitVec 8} : ∀ n, (∀ u, u < n → c u = d u) → tq_xs c n = tq_xs d n := by
  intro n
  induction n with
  | zero => intro _; rfl
  | succ n ih => intro h; rw [tq_xs, tq_xs, ih (fun u hu => h u (by omega)), h n (by omega)]
theorem tq_qs_congr {c d : Nat → BitVec 8} : ∀ n, (∀ u, u < n → c u = d u) → tq_qs c n = tq_qs d n := by
  intro n
  induction n with
  | zero => intro _; rfl
  | succ n ih => intro h; rw [tq_qs, tq_qs, ih (fun u hu => h u (by omega)), h n (by omega)]
theorem tq_qs_sh (f : Nat → BitVec 8) : ∀ n, tq_qs f (n + 1) = tq_d (tq_qs (fun j => f (j + 1)) n) ^^^ f 0 := by
  intro n
  induction n with
  | zero => simp [tq_qs, tq_p, tq_d]
  | succ n ih =>
    rw [tq_qs, ih, tq_qs, tq_d_add]
    show _ ^^^ tq_d (tq_p n (f (n + 1))) = _
    simp [BitVec.xor_assoc, BitVec.xor_comm, tq_lc]
theorem tq_hs_qs (c : Nat → BitVec 8) : ∀ n u, tq_hs c u n = tq_qs (fun j => c (u + j)) n := by
  intro n
  induction n with
  | zero => intro u; rfl
  | succ n ih =>
    intro u
    rw [tq_hs, ih (u + 1), tq_qs_sh]
    have e : (fun j => c (u + 1 + j)) = (fun j => c (u + (j + 1))) := by funext j; congr 1; omega
    rw [e]
    rfl
theorem tq_hs0 (c : Nat → BitVec 8) (n : Nat) : tq_hs c 0 n = tq_qs c n := by
  rw [tq_hs_qs]
  congr 1
  funext j
  rw [Nat.zero_add]
theorem tq_dQ_eq (k : Nat) (c : Nat → BitVec 8) : tq_dQ k c = tq_qs c k ^^^ c (k + 1) := by rw [tq_dQ, tq_hs0]
/-- a sum with one place taken out -/
theorem tq_xs_out {c d : Nat → BitVec 8} {a : Nat} : ∀ n, a < n → (∀ u, u < n → u ≠ a → d u = c u) → d a = 0#8 → tq_xs c n = tq_xs d n ^^^ c a := by
  intro n
  induction n with
  | zero => intro h; omega
  | succ n ih =>
    intro h hd h0
    rw [tq_xs, tq_xs]
    by_cases e : a = n
    · subst e
      rw [h0, tq_xs_congr a (fun u hu => (hd u (by omega) (by omega)).symm), BitVec.xor_zero]
    · rw [ih (by omega) (fun u hu hn => hd u (by omega) hn) h0, hd n (by omega) (by omega)]
      simp [BitVec.xor_assoc, BitVec.xor_comm, tq_lc]
theorem tq_qs_out {c d : Nat → BitVec 8} {a : Nat} : ∀ n, a < n → (∀ u, u < n → u ≠ a → d u = c u) → d a = 0#8 → tq_qs c n = tq_qs d n ^^^ tq_p a (c a) := by
  intro n
  induction n with
  | zero => intro h; omega
  | succ n ih =>
    intro h hd h0
    rw [tq_qs, tq_qs]
    by_cases e : a = n
    · subst e
      rw [h0, tq_p0, tq_qs_congr a (fun u hu => (hd u (by omega) (by omega)).symm), BitVec.xor_zero]
    · rw [ih (by omega) (fun u hu hn => hd u (by omega) hn) h0, hd n (by omega) (by omega)]
      simp [BitVec.xor_assoc, BitVec.xor_comm, tq_lc]
/-! ===== what the passes over all places do to a column ===== -/
def tc_P (k u : Nat) (c : Nat → BitVec 8) : Nat → BitVec 8 := va_up c u (c u ^^^ tq_dP k c)
def tc_Q (k u : Nat) (c : Nat → BitVec 8) : Nat → BitVec 8 := va_up c u (c u ^^^ tq_m (tq_dQ k c) (tw_fq k u))
def tc_D (k a b : Nat) (c : Nat → BitVec 8) : Nat → BitVec 8 := va_up (va_up c a (c a ^^^ (tq_dP k c ^^^ tw_yd k a b c))) b (va_up c a (c a ^^^ (tq_dP k c ^^^ tw_yd k a b c)) b ^^^ tw_yd k a b c)
theorem tc_rp (k u : Nat) (F : Nat → BitVec 8) : ∀ n, n ≤ 64 → ∀ i, i < 64 → tq_col (ty_rp k u F n) i = if i < n then tc_P k u (tq_col F i) else tq_col F i := by
  intro n
  induction n with
  | zero => intro _ i _; rw [if_neg (by omega)]; rfl
  | succ n ih =>
    intro hn i hi
    have hc : tq_col (ty_rp k u F n) n = tq_col F n := by rw [ih (by omega) n (by omega), if_neg (by omega)]
    rw [ty_rp, tw_ch, tq_col_up _ _ _ _ hi (by omega)]
    by_cases e : i = n
    · subst e
      rw [if_pos rfl, if_pos (by omega), hc]
      show va_up _ u (tq_col (ty_rp k u F i) i u ^^^ _) = _
      rw [hc]; rfl
    · rw [if_neg e, ih (by omega) i hi]
      by_cases h2 : i < n
      · rw [if_pos h2, if_pos (by omega)]
      · rw [if_neg h2, if_neg (by omega)]
theorem tc_rq (k u : Nat) (F : Nat → BitVec 8) : ∀ n, n ≤ 64 → ∀ i, i < 64 → tq_col (ty_rq k u F n) i = if i < n then tc_Q k u (tq_col F i) else tq_col F i := by
  intro n
  induction n with
  | zero => intro _ i _; rw [if_neg (by omega)]; rfl
  | succ n ih =>
    intro hn i hi
    have hc : tq_col (ty_rq k u F n) n = tq_col F n := by rw [ih (by omega) n (by omega), if_neg (by omega)]
    rw [ty_rq, tw_ch, tq_col_up _ _ _ _ hi (by omega)]
    by_cases e : i = n
    · subst e
      rw [if_pos rfl, if_pos (by omega), hc]
      show va_up _ u (tq_col (ty_rq k u F i) i u ^^^ _) = _
      rw [hc]; rfl
    · rw [if_neg e, ih (by omega) i hi]
      by_cases h2 : i < n
      · rw [if_pos h2, if_pos (by omega)]
      · rw [if_neg h2, if_neg (by omega)]
theorem tc_rd (k a b : Nat) (F : Nat → BitVec 8) : ∀ n, n ≤ 64 → ∀ i, i < 64 → tq_col (ty_rd k a b F n) i = if i < n then tc_D k a b (tq_col F i) else tq_col F i := by
  intro n
  induction n with
  | zero => intro _ i _; rw [if_neg (by omega)]; rfl
  | succ n ih =>
    intro hn i hi
    have hc : tq_col (ty_rd k a b F n) n = tq_col F n := by rw [ih (by omega) n (by omega), if_neg (by omega)]
    rw [ty_rd, tw_ch, tq_col_up _ _ _ _ hi (by omega), tw_ch, tq_col_up _ _ _ _ hi (by omega)]
    by_cases e : i = n
    · subst e
      rw [if_pos rfl, if_pos rfl, if_pos (by omega), hc]
      show va_up (va_up _ a (tq_col (ty_rd k a b F i) i a ^^^ _)) b (tq_col (va_up (ty_rd k a b F i) (64 * a + i) (tq_col (ty_rd k a b F i) i a ^^^ _)) i b ^^^ _) = _
      rw [tq_col_up _ _ _ _ hi (by omega), if_pos rfl, hc]; rfl
    · rw [if_neg e, if_neg e, ih (by omega) i hi]
      by_cases h2 : i < n
      · rw [if_pos h2, if_pos (by omega)]
      · rw [if_neg h2, if_neg (by omega)]
def tc_f1 (k : Nat) (g : Nat → Bool) (a : Nat) (c : Nat → BitVec 8) : Nat → BitVec 8 := va_up c a (tw_x1 k g a c)
def tc_f2 (k : Nat) (g : Nat → Bool) (a b : Nat) (c : Nat → BitVec 8) : Nat → BitVec 8 := va_up (va_up c a (tw_x2 k g a b c)) b (tq_xs (tw_ml g c) k ^^^ tw_x2 k g a b c ^^^ c k)
def tc_mP (k : Nat) (g : Nat → Bool) (c : Nat → BitVec 8) : Nat → BitVec 8 := va_up c k (if g k then tq_xs (tw_ml g c) k else c k)
def tc_pq (k : Nat) (g : Nat → Bool) (c : Nat → BitVec 8) : Nat → BitVec 8 := va_up (tc_mP k g c) (k + 1) (if g (k + 1) then tq_qs (tw_ml g (tc_mP k g c)) k else tc_mP k g c (k + 1))
def tc_mk (k : Nat) (g : Nat → Bool) (c : Nat → BitVec 8) : Nat → BitVec 8 := va_up (va_up c k (tq_xs (tw_ml g c) k)) (k + 1) (tq_qs (tw_ml g (va_up c k (tq_xs (tw_ml g c) k))) k)
theorem tc_cf1 (k : Nat) (g : Nat → Bool) (a : Nat) (F : Nat → BitVec 8) : ∀ n, n ≤ 64 → ∀ i, i < 64 → tq_col (tw_f1 k g a F n) i = if i < n then tc_f1 k g a (tq_col F i) else tq_col F i := by
  intro n
  induction n with
  | zero => intro _ i _; rw [if_neg (by omega)]; rfl
  | succ n ih =>
    intro hn i hi
    have hc : tq_col (tw_f1 k g a F n) n = tq_col F n := by rw [ih (by omega) n (by omega), if_neg (by omega)]
    rw [tw_f1, tq_col_up _ _ _ _ hi (by omega)]
    by_cases e : i = n
    · subst e
      rw [if_pos rfl, if_pos (by omega), hc]; rfl
    · rw [if_neg e, ih (by omega) i hi]
      by_cases h2 : i < n
      · rw [if_pos h2, if_pos (by omega)]
      · rw [if_neg h2, if_neg (by omega)]
theorem tc_cf2 (k : Nat) (g : Nat → Bool) (a b : Nat) (F : Nat → BitVec 8) : ∀ n, n ≤ 64 → ∀ i, i < 64 → tq_col (tw_f2 k g a b F n) i = if i < n then tc_f2 k g a b (tq_col F i) else tq_col F i := by
  intro n
  induction n with
  | zero => intro _ i _; rw [if_neg (by omega)]; rfl
  | succ n ih =>
    intro hn i hi
    have hc : tq_col (tw_f2 k g a b F n) n = tq_col F n := by rw [ih (by omega) n (by omega), if_neg (by omega)]
    rw [tw_f2, tq_col_up _ _ _ _ hi (by omega), tq_col_up _ _ _ _ hi (by omega)]
    by_cases e : i = n
    · subst e
      rw [if_pos rfl, if_pos rfl, if_pos (by omega)]
      show va_up (va_up _ a _) b (tq_xs (tw_ml g (tq_col (tw_f2 k g a b F i) i)) k ^^^ _ ^^^ tq_col (tw_f2 k g a b F i) i k) = _
      rw [hc]; rfl
    · rw [if_neg e, if_neg e, ih (by omega) i hi]
      by_cases h2 : i < n
      · rw [if_pos h2, if_pos (by omega)]
      · rw [if_neg h2, if_neg (by omega)]
theorem tc_cpq (k : Nat) (g : Nat → Bool) (F : Nat → BitVec 8) : ∀ n, n ≤ 64 → ∀ i, i < 64 → tq_col (tw_pq k g F n) i = if i < n then tc_pq k g (tq_col F i) else tq_col F i := by
  intro n
  induction n with
  | zero => intro _ i _; rw [if_neg (by omega)]; rfl
  | succ n ih =>
    intro hn i hi
    have hc : tq_col (tw_pq k g F n) n = tq_col F n := by rw [ih (by omega) n (by omega), if_neg (by omega)]
    have hc1 : tq_col (tw_pq1 k g (tw_pq k g F n) n) n = tc_mP k g (tq_col F n) := by
      rw [tw_pq1, tq_col_up _ _ _ _ (by omega) (by omega), if_pos rfl]
      show va_up _ k (if g k then _ else tq_col (tw_pq k g F n) n k) = _
      rw [hc]; rfl
    rw [tw_pq, tq_col_up _ _ _ _ hi (by omega)]
    by_cases e : i = n
    · subst e
      rw [if_pos rfl, if_pos (show i < i + 1 by omega)]
      show va_up _ (k + 1) (if g (k + 1) then _ else tq_col (tw_pq1 k g (tw_pq k g F i) i) i (k + 1)) = _
      rw [hc1]; rfl
    · rw [if_neg e, tw_pq1, tq_col_up _ _ _ _ hi (by omega), if_neg e, ih (by omega) i hi]
      by_cases h2 : i < n
      · rw [if_pos h2, if_pos (by omega)]
      · rw [if_neg h2, if_neg (by omega)]
theorem tc_cmk (k : Nat) (g : Nat → Bool) (F : Nat → BitVec 8) : ∀ n, n ≤ 64 → ∀ i, i < 64 → tq_col (tw_mmk k g F n) i = if i < n then tc_mk k g (tq_col F i) else tq_col F i := by
  intro n
  induction n with
  | zero => intro _ i _; rw [if_neg (by omega)]; rfl
  | succ n ih =>
    intro hn i hi
    have hc : tq_col (tw_mmk k g F n) n = tq_col F n := by rw [ih (by omega) n (by omega), if_neg (by omega)]
    have hc1 : tq_col (tw_mk1 k g (tw_mmk k g F n) n) n = va_up (tq_col F n) k (tq_xs (tw_ml g (tq_col F n)) k) := by
      rw [tw_mk1, tq_col_up _ _ _ _ (by omega) (by omega), if_pos rfl, hc]
    rw [tw_mmk, tq_col_up _ _ _ _ hi (by omega)]
    by_cases e : i = n
    · subst e
      rw [if_pos rfl, if_pos (by omega), hc1]; rfl
    · rw [if_neg e, tw_mk1, tq_col_up _ _ _ _ hi (by omega), if_neg e, ih (by omega) i hi]
      by_cases h2 : i < n
      · rw [if_pos h2, if_pos (by omega)]
      · rw [if_neg h2, if_neg (by omega)]
