/-! ===== which units are lost: the class's bits, the reference's row ===== -/
def tw_L (k : Nat) (lo : Int32) (g : Nat → Bool) : Prop :=
  (lo = 0 ∧ ∀ u, u < k + 2 → g u = false) ∨ (∃ a, a < k + 2 ∧ lo = nI (2 ^ a) ∧ ∀ u, u < k + 2 → g u = decide (u = a)) ∨
  (∃ a b, a < b ∧ b < k + 2 ∧ lo = nI (2 ^ a + 2 ^ b) ∧ ∀ u, u < k + 2 → g u = (decide (u = a) || decide (u = b)))
theorem tl_b0 : ∀ u, u < 16 → tw_lb 0 u = false := by decide +kernel
theorem tl_b1 : ∀ a, a < 16 → ∀ u, u < 16 → tw_lb (nI (2 ^ a)) u = decide (u = a) := by decide +kernel
theorem tl_b2 : ∀ a, a < 16 → ∀ b, b < 16 → a < b → ∀ u, u < 16 → tw_lb (nI (2 ^ a + 2 ^ b)) u = (decide (u = a) || decide (u = b)) := by decide +kernel
theorem tl_c0 : tw_bc 0 = nI 0 := by decide +kernel
theorem tl_c1 : ∀ a, a < 16 → tw_bc (nI (2 ^ a)) = nI 1 := by decide +kernel
theorem tl_c2 : ∀ a, a < 16 → ∀ b, b < 16 → a < b → tw_bc (nI (2 ^ a + 2 ^ b)) = nI 2 := by decide +kernel
theorem tl_n1 : ∀ a, a < 16 → ¬ nI (2 ^ a) = 0 := by decide +kernel
theorem tl_n2 : ∀ a, a < 16 → ∀ b, b < 16 → a < b → ¬ nI (2 ^ a + 2 ^ b) = 0 := by decide +kernel
theorem tl_o0 : ∀ u, u < 16 → (0 : Int32) ||| (1 <<< (nI u &&& 31)) = nI (2 ^ u) := by decide +kernel
theorem tl_o1 : ∀ a, a < 16 → ∀ u, u < 16 → u < a → nI (2 ^ a) ||| (1 <<< (nI u &&& 31)) = nI (2 ^ u + 2 ^ a) := by decide +kernel
theorem tl_o2 : ∀ a, a < 16 → ∀ u, u < 16 → a < u → nI (2 ^ a) ||| (1 <<< (nI u &&& 31)) = nI (2 ^ a + 2 ^ u) := by decide +kernel
theorem tw_mc_congr {g h : Nat → Bool} : ∀ n, (∀ u, u < n → g u = h u) → tw_mc g n = tw_mc h n := by
  intro n
  induction n with
  | zero => intro _; rfl
  | succ n ih => intro e; rw [tw_mc, tw_mc, ih (fun u hu => e u (by omega)), e n (by omega)]
theorem tw_mc_up {g : Nat → Bool} {a : Nat} (h0 : g a = false) : ∀ n, a < n → tw_mc (va_up g a true) n = tw_mc g n + 1 := by
  intro n
  induction n with
  | zero => intro h; omega
  | succ n ih =>
    intro h
    rw [tw_mc, tw_mc]
    by_cases e : a = n
    · subst e
      rw [tw_mc_congr (h := g) a (fun u hu => by rw [va_up, if_neg (by omega)]), va_up, if_pos rfl, h0]
      simp
    · rw [ih (by omega), show va_up g a true n = g n from by rw [va_up, if_neg (fun q => e q.symm)]]
      omega
theorem tw_mc_f : ∀ n, tw_mc (fun _ => false) n = 0 := by
  intro n
  induction n with
  | zero => rfl
  | succ n ih => rw [tw_mc, ih]; rfl
theorem tw_low_congr {g h : Nat → Bool} : ∀ n f, (∀ u, f ≤ u → u < f + n → g u = h u) → tw_low g f n = tw_low h f n := by
  intro n
  induction n with
  | zero => intro f _; rfl
  | succ n ih => intro f e; rw [tw_low, tw_low, e f (by omega) (by omega), ih (f + 1) (fun u h1 h2 => e u (by omega) (by omega))]
section TWL
variable {k : Nat} {lo : Int32} {g : Nat → Bool}
theorem tw_L.lb (hk : k ≤ 14) (h : tw_L k lo g) {u : Nat} (hu : u < k + 2) : tw_lb lo u = g u := by
  rcases h with ⟨rfl, h⟩ | ⟨a, ha, rfl, h⟩ | ⟨a, b, hab, hb, rfl, h⟩
  · rw [tl_b0 u (by omega), h u hu]
  · rw [tl_b1 a (by omega) u (by omega), h u hu]
  · rw [tl_b2 a (by omega) b (by omega) hab u (by omega), h u hu]
theorem tw_L.mc (hk : k ≤ 14) (h : tw_L k lo g) : tw_bc lo = nI (tw_mc g (k + 2)) ∧ tw_mc g (k + 2) ≤ 2 ∧ (lo = 0 ↔ tw_mc g (k + 2) = 0) := by
  rcases h with ⟨rfl, h⟩ | ⟨a, ha, rfl, h⟩ | ⟨a, b, hab, hb, rfl, h⟩
  · have e : tw_mc g (k + 2) = 0 := by rw [tw_mc_congr (h := fun _ => false) _ h, tw_mc_f]
    rw [e]
    exact ⟨tl_c0, by omega, by simp⟩
  · have e : tw_mc g (k + 2) = 1 := by
      rw [tw_mc_congr (h := va_up (fun _ => false) a true) _ (fun u hu => by rw [h u hu, va_up]; by_cases q : u = a <;> simp [q]), tw_mc_up rfl _ ha, tw_mc_f]
    rw [e]
    exact ⟨tl_c1 a (by omega), by omega, ⟨fun q => absurd q (tl_n1 a (by omega)), fun q => by omega⟩⟩
  · have e : tw_mc g (k + 2) = 2 := by
      rw [tw_mc_congr (h := va_up (va_up (fun _ => false) a true) b true) _ (fun u hu => by rw [h u hu, va_up, va_up]; by_cases q : u = a <;> by_cases q2 : u = b <;> simp [q, q2]), tw_mc_up (by rw [va_up, if_neg (by omega)]) _ hb, tw_mc_up rfl _ (by omega), tw_mc_f]
    rw [e]
    exact ⟨tl_c2 a (by omega) b (by omega) hab, by omega, ⟨fun q => absurd q (tl_n2 a (by omega) b (by omega) hab), fun q => by omega⟩⟩
theorem tw_L.low (hk : k ≤ 14) (h : tw_L k lo g) {f n : Nat} (hn : f + n ≤ k + 2) : tw_low (tw_lb lo) f n = tw_low g f n := tw_low_congr n f (fun u _ h2 => h.lb hk (by omega))
theorem tw_L.lose (hk : k ≤ 14) (h : tw_L k lo g) {u : Nat} (hu : u < k + 2) (hg : g u = false) (h2 : ¬ tw_mc g (k + 2) = 2) : tw_L k (lo ||| (1 <<< (nI u &&& 31))) (va_up g u true) := by
  have hm := h.mc hk
  rcases h with ⟨rfl, h⟩ | ⟨a, ha, rfl, h⟩ | ⟨a, b, hab, hb, rfl, h⟩
  · refine Or.inr (Or.inl ⟨u, hu, tl_o0 u (by omega), fun v hv => ?_⟩)
    rw [va_up]
    by_cases q : v = u
    · simp [q]
    · rw [if_neg q, h v hv]; simp [q]
  · have hne : u ≠ a := fun q => by rw [h u hu, q] at hg; simp at hg
    refine Or.inr (Or.inr ?_)
    rcases Nat.lt_or_ge u a with q | q
    · refine ⟨u, a, q, ha, tl_o1 a (by omega) u (by omega) q, fun v hv => ?_⟩
      rw [va_up]
      by_cases q : v = u
      · simp [q]
      · rw [if_neg q, h v hv]; simp [q]
    · refine ⟨a, u, by omega, hu, tl_o2 a (by omega) u (by omega) (by omega), fun v hv => ?_⟩
      rw [va_up]
      by_cases q : v = u
      · simp [q]
      · rw [if_neg q, h v hv]; simp [q]
  · have e := (tw_L.mc hk (Or.inr (Or.inr ⟨a, b, hab, hb, rfl, h⟩))).1
    rw [tl_c2 a (by omega) b (by omega) hab] at e
    exact absurd ((nI_eq (by omega) (by omega)).mp e).symm h2
theorem tw_g2_f {u : Nat} (hu : u < k + 2) : tw_g2 k g u = false := by
  unfold tw_g2 va_up tw_gl
  by_cases e1 : u = k + 1
  · rw [if_pos e1]
  · rw [if_neg e1]
    by_cases e2 : u = k
    · rw [if_pos e2]
    · rw [if_neg e2, if_pos (by omega)]
theorem tw_L.zero (h : ∀ u, u < k + 2 → g u = false) : tw_L k 0 g := Or.inl ⟨rfl, h⟩
theorem tw_L.none (hk : k ≤ 14) (h : tw_L k lo g) (hz : lo = 0) : ∀ u, u < k + 2 → g u = false := tw_mc_z _ ((h.mc hk).2.2.mp hz)
/-- one lost unit -/
theorem tl_low1 {a : Nat} (ha : a < k + 2) (h : ∀ u, u < k + 2 → g u = decide (u = a)) : tw_low g 0 (k + 2) = a ∧ tw_mb k g a = k + 2 := by
  constructor
  · exact tw_low_at (by rw [h a ha]; simp) (k + 2) 0 (fun u _ h3 => by rw [h u (by omega)]; simp; omega) (by omega) (by omega)
  · rw [tw_mb, if_pos (by omega), tw_low_none _ _ (fun u h3 h4 => by rw [h u (by omega)]; simp; omega)]
    omega
/-- two lost units -/
theorem tl_low2 {a b : Nat} (hab : a < b) (hb : b < k + 2) (h : ∀ u, u < k + 2 → g u = (decide (u = a) || decide (u = b))) : tw_low g 0 (k + 2) = a ∧ tw_mb k g a = b := by
  constructor
  · exact tw_low_at (by rw [h a (by omega)]; simp) (k + 2) 0 (fun u _ h3 => by rw [h u (by omega)]; simp; omega) (by omega) (by omega)
  · rw [tw_mb, if_pos (by omega)]
    exact tw_low_at (by rw [h b hb]; simp) _ _ (fun u h3 h4 => by rw [h u (by omega)]; simp; omega) (by omega) (by omega)
theorem tw_L.ok (h : tw_L k lo g) : tw_ok k g := by
  intro a2 b2 e1 e2 hlt
  rcases h with ⟨rfl, h⟩ | ⟨a, ha, rfl, h⟩ | ⟨a, b, hab, hb, rfl, h⟩
  · rw [tw_low_none _ _ (fun u _ h3 => h u (by omega))] at e1
    omega
  · obtain ⟨q1, q2⟩ := tl_low1 ha h
    rw [q1] at e1
    subst e1
    rw [q2] at e2
    refine ⟨fun h => by omega, fun _ h9 => ?_⟩
    rw [h k (by omega)] at h9
    simp at h9
    omega
  · obtain ⟨q1, q2⟩ := tl_low2 hab hb h
    rw [q1] at e1
    subst e1
    rw [q2] at e2
    subst e2
    refine ⟨fun h9 => ⟨by rw [h k (by omega)]; simp; omega, by rw [h (k + 1) (by omega)]; simp; omega⟩, fun h9 h8 => ?_⟩
    rw [h k (by omega)] at h8
    rw [h (k + 1) (by omega)]
    simp at h8 ⊢
    omega
end TWL
/-! ===== the bytes of units that are not lost are the same on both sides ===== -/
def tw_E (k : Nat) (g : Nat → Bool) (FX FM : Nat → BitVec 8) : Prop := ∀ u i, u < k + 2 → i < 64 → g u = false → FX (64 * u + i) = FM (64 * u + i)
def tw_R (k : Nat) (lo : Int32) (FX FM : Nat → BitVec 8) (g : Nat → Bool) : Prop := 2 ≤ k ∧ k ≤ 14 ∧ tw_L k lo g ∧ tw_E k g FX FM
theorem tw_up_at (F : Nat → BitVec 8) {u v i j : Nat} (x : BitVec 8) (hi : i < 64) (hj : j < 64) : va_up F (64 * u + i) x (64 * v + j) = if v = u ∧ j = i then x else F (64 * v + j) := by
  unfold va_up
  by_cases e : v = u ∧ j = i
  · rw [if_pos e, if_pos ((tq_ix_inj hj hi).mpr e)]
  · rw [if_neg e, if_neg (fun h => e ((tq_ix_inj hj hi).mp h))]
theorem tw_ch_at (F : Nat → BitVec 8) {u v i j : Nat} (d : BitVec 8) (hi : i < 64) (hj : j < 64) : tw_ch F u i d (64 * v + j) = if v = u ∧ j = i then F (64 * u + i) ^^^ d else F (64 * v + j) := tw_up_at F _ hi hj
