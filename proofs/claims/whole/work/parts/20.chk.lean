/-! ===== check: place by place, or unit by unit ===== -/
theorem ck_none {f : Nat → Int32} : ∀ n o i, (∀ j, i ≤ j → j < i + n → f j = -2) → tq_ck f o i n = o := by
  intro n
  induction n with
  | zero => intro o i _; rfl
  | succ n ih =>
    intro o i h
    have h0 := h i (by omega) (by omega)
    rw [tq_ck, if_neg (fun q => q.1 h0), if_pos h0]
    exact ih o (i + 1) (fun j h1 h2 => h j (by omega) (by omega))
theorem ck_all {f : Nat → Int32} {v : Int32} : ∀ n i, (∀ j, i ≤ j → j < i + n → f j = -2 ∨ f j = v) → tq_ck f v i n = v := by
  intro n
  induction n with
  | zero => intro i _; rfl
  | succ n ih =>
    intro i h
    have h0 := h i (by omega) (by omega)
    have hn := ih (i + 1) (fun j h1 h2 => h j (by omega) (by omega))
    rw [tq_ck, if_neg (fun q => h0.elim q.1 q.2.2)]
    rcases h0 with e | e
    · rw [if_pos e]; exact hn
    · by_cases e2 : f i = -2
      · rw [if_pos e2]; exact hn
      · rw [if_neg e2, e]; exact hn
theorem ck_some {f : Nat → Int32} {v : Int32} : ∀ n i, (∀ j, i ≤ j → j < i + n → f j = -2 ∨ f j = v) → (∃ j, i ≤ j ∧ j < i + n ∧ f j ≠ -2) → tq_ck f (-2) i n = v := by
  intro n
  induction n with
  | zero => intro i _ h; obtain ⟨j, h1, h2, _⟩ := h; omega
  | succ n ih =>
    intro i h hx
    have h0 := h i (by omega) (by omega)
    rw [tq_ck, if_neg (fun q => q.2.1 rfl)]
    by_cases e : f i = -2
    · rw [if_pos e]
      refine ih (i + 1) (fun j h1 h2 => h j (by omega) (by omega)) ?_
      obtain ⟨j, h1, h2, h3⟩ := hx
      have : j ≠ i := fun q => h3 (by rw [q]; exact e)
      exact ⟨j, by omega, by omega, h3⟩
    · rw [if_neg e]
      rcases h0 with q | q
      · exact absurd q e
      · rw [q]; exact ck_all n (i + 1) (fun j h1 h2 => h j (by omega) (by omega))
theorem ck_bad {f : Nat → Int32} {o : Int32} (ho : o ≠ -2) : ∀ n i, (∃ j, i ≤ j ∧ j < i + n ∧ f j ≠ -2 ∧ f j ≠ o) → tq_ck f o i n = -3 := by
  intro n
  induction n with
  | zero => intro i h; obtain ⟨j, h1, h2, _⟩ := h; omega
  | succ n ih =>
    intro i h
    rw [tq_ck]
    by_cases e : f i ≠ -2 ∧ o ≠ -2 ∧ f i ≠ o
    · rw [if_pos e]
    · rw [if_neg e]
      have hn : f i = -2 ∨ f i = o := by
        by_cases q : f i = -2
        · exact Or.inl q
        · exact Or.inr (Classical.not_not.mp (fun q2 => e ⟨q, ho, q2⟩))
      have e2 : (if f i = -2 then o else f i) = o := by
        rcases hn with q | q
        · rw [if_pos q]
        · by_cases q2 : f i = -2
          · rw [if_pos q2]
          · rw [if_neg q2, q]
      rw [e2]
      obtain ⟨j, h1, h2, h3, h4⟩ := h
      have : j ≠ i := fun q => by rw [q] at h3 h4; exact hn.elim h3 h4
      exact ih (i + 1) ⟨j, by omega, by omega, h3, h4⟩
theorem ck_bad2 {f : Nat → Int32} : ∀ n i, (∃ j l, i ≤ j ∧ j < i + n ∧ i ≤ l ∧ l < i + n ∧ f j ≠ -2 ∧ f l ≠ -2 ∧ f j ≠ f l) → tq_ck f (-2) i n = -3 := by
  intro n
  induction n with
  | zero => intro i h; obtain ⟨j, l, h1, h2, _⟩ := h; omega
  | succ n ih =>
    intro i h
    obtain ⟨j, l, h1, h2, h3, h4, h5, h6, h7⟩ := h
    rw [tq_ck, if_neg (fun q => q.2.1 rfl)]
    by_cases e : f i = -2
    · rw [if_pos e]
      have q1 : j ≠ i := fun q => h5 (by rw [q]; exact e)
      have q2 : l ≠ i := fun q => h6 (by rw [q]; exact e)
      exact ih (i + 1) ⟨j, l, by omega, by omega, by omega, by omega, h5, h6, h7⟩
    · rw [if_neg e]
      refine ck_bad e n (i + 1) ?_
      by_cases q : f j = f i
      · have q2 : l ≠ i := fun q9 => h7 (by rw [q, q9])
        exact ⟨l, by omega, by omega, h6, fun q9 => h7 (q.trans q9.symm)⟩
      · have q2 : j ≠ i := fun q9 => q (by rw [q9])
        exact ⟨j, by omega, by omega, h5, q⟩
theorem fu_spec (p q : BitVec 8) : ∀ n u, tq_fu p q u n = -3 ∧ (∀ v, u ≤ v → v < u + n → tq_p v p ≠ q) ∨ ∃ v, u ≤ v ∧ v < u + n ∧ tq_p v p = q ∧ tq_fu p q u n = nI v := by
  intro n
  induction n with
  | zero => intro u; exact Or.inl ⟨rfl, fun v h1 h2 => by omega⟩
  | succ n ih =>
    intro u
    rw [tq_fu]
    by_cases e : tq_p u p = q
    · rw [if_pos e]; exact Or.inr ⟨u, by omega, by omega, e, rfl⟩
    · rw [if_neg e]
      rcases ih (u + 1) with ⟨h1, h2⟩ | ⟨v, h1, h2, h3, h4⟩
      · refine Or.inl ⟨h1, fun v h3 h4 => ?_⟩
        by_cases q9 : v = u
        · rw [q9]; exact e
        · exact h2 v (by omega) (by omega)
      · exact Or.inr ⟨v, by omega, by omega, h3, h4⟩
theorem fu2_spec (f : Nat → Bool) : ∀ n u, tw_fu2 f u n = -3 ∧ (∀ v, u ≤ v → v < u + n → f v = false) ∨ ∃ v, u ≤ v ∧ v < u + n ∧ f v = true ∧ tw_fu2 f u n = nI v := by
  intro n
  induction n with
  | zero => intro u; exact Or.inl ⟨rfl, fun v h1 h2 => by omega⟩
  | succ n ih =>
    intro u
    rw [tw_fu2]
    cases e : f u with
    | true => exact Or.inr ⟨u, by omega, by omega, e, rfl⟩
    | false =>
      simp only [Bool.false_eq_true, if_false]
      rcases ih (u + 1) with ⟨h1, h2⟩ | ⟨v, h1, h2, h3, h4⟩
      · refine Or.inl ⟨h1, fun v h3 h4 => ?_⟩
        by_cases q9 : v = u
        · rw [q9]; exact e
        · exact h2 v (by omega) (by omega)
      · exact Or.inr ⟨v, by omega, by omega, h3, h4⟩
theorem all_iff (f : Nat → Bool) : ∀ n, tw_all f n = true ↔ ∀ i, i < n → f i = true := by
  intro n
  induction n with
  | zero => exact ⟨fun _ i h => by omega, fun _ => rfl⟩
  | succ n ih =>
    rw [tw_all, Bool.and_eq_true, ih]
    constructor
    · intro h i hi
      by_cases e : i = n
      · rw [e]; exact h.2
      · exact h.1 i (by omega)
    · intro h; exact ⟨fun i hi => h i (by omega), h n (by omega)⟩
theorem tw_nI_m2 {a : Nat} (h : a < 2 ^ 31) : nI a ≠ -2 := fun e => by
  have h1 := nI_toInt h
  rw [e] at h1
  have h2 : (-2 : Int32).toInt = -2 := by decide
  omega
theorem tq_p_z {u : Nat} (hu : u < 16) {x : BitVec 8} (h : tq_p u x = 0#8) : x = 0#8 := by
  rw [← tq_mp hu] at h
  exact tq_inj (tq_pn u hu) (by rw [h, tq_m0])
section TWK
variable {k : Nat} {lo : Int32} {FX FM : Nat → BitVec 8} {g : Nat → Bool}
/-- with no unit lost, check and the reference's off say the same -/
theorem tr_off (hk : k ≤ 14) (hz : ∀ u, u < k + 2 → g u = false) (hE : tw_E k g FX FM) : tq_ck (tw_of k FX) (-2) 0 64 = tw_mo k g FM := by
  -- the differences
  obtain ⟨P, hP⟩ : ∃ P : Nat → BitVec 8, P = fun i => tq_dP k (tq_col FX i) := ⟨_, rfl⟩
  obtain ⟨Q, hQ⟩ : ∃ Q : Nat → BitVec 8, Q = fun i => tq_dQ k (tq_col FX i) := ⟨_, rfl⟩
  have hxs : ∀ i, i < 64 → tq_xs (tw_ml g (tq_col FM i)) k = tq_xs (tq_col FX i) k := fun i hi => tc_Pn (fun v hv => hz v (by omega)) (fun v hv => hE v i (by omega) hi (hz v (by omega)))
  have hqs : ∀ i, i < 64 → tq_qs (tw_ml g (tq_col FM i)) k = tq_qs (tq_col FX i) k := fun i hi => tc_Qn (fun v hv => hz v (by omega)) (fun v hv => hE v i (by omega) hi (hz v (by omega)))
  have hPk : ∀ i, i < 64 → tq_xs (tw_ml g (tq_col FM i)) k ^^^ FM (64 * k + i) = P i := fun i hi => by
    rw [hxs i hi, ← hE k i (by omega) hi (hz k (by omega)), hP]
    show _ = tq_dP k (tq_col FX i)
    rw [tq_dP, BitVec.xor_comm]; rfl
  have hQk : ∀ i, i < 64 → tq_qs (tw_ml g (tq_col FM i)) k ^^^ FM (64 * (k + 1) + i) = Q i := fun i hi => by
    rw [hqs i hi, ← hE (k + 1) i (by omega) hi (hz (k + 1) (by omega)), hQ]
    show _ = tq_dQ k (tq_col FX i)
    rw [tq_dQ_eq]; rfl
  have aP : ∀ i, i < 64 → (tw_aP k g FM i = true ↔ P i = 0#8) := fun i hi => by
    rw [tw_aP, decide_eq_true_eq, ← hPk i hi]
    constructor
    · intro h; rw [h, BitVec.xor_self]
    · exact tq_z0
  have aQ : ∀ i, i < 64 → (tw_aQ k g FM i = true ↔ Q i = 0#8) := fun i hi => by
    rw [tw_aQ, decide_eq_true_eq, ← hQk i hi]
    constructor
    · intro h; rw [h, BitVec.xor_self]
    · exact tq_z0
  have aU : ∀ u i, i < 64 → (tw_aU k g FM u i = true ↔ Q i = tq_p u (P i)) := fun u i hi => by rw [tw_aU, decide_eq_true_eq, hQk i hi, hPk i hi]
  -- what a place says
  have hf : ∀ i, tw_of k FX i = if Q i = 0#8 then (if P i = 0#8 then -2 else nI k) else if P i = 0#8 then nI (k + 1) else tq_fu (P i) (Q i) 0 k := fun i => by rw [hP, hQ]; rfl
  have allP := all_iff (tw_aP k g FM) 64
  have allQ := all_iff (tw_aQ k g FM) 64
  rw [tw_mo]
  cases hp : tw_all (tw_aP k g FM) 64 with
  | true =>
    have p0 : ∀ i, i < 64 → P i = 0#8 := fun i hi => (aP i hi).mp (allP.mp hp i hi)
    cases hq : tw_all (tw_aQ k g FM) 64 with
    | true =>
      have q0 : ∀ i, i < 64 → Q i = 0#8 := fun i hi => (aQ i hi).mp (allQ.mp hq i hi)
      exact ck_none 64 (-2) 0 (fun j _ hj => by rw [hf j, if_pos (q0 j (by omega)), if_pos (p0 j (by omega))])
    | false =>
      have : ∃ i, i < 64 ∧ Q i ≠ 0#8 := by
        refine Classical.byContradiction (fun h => ?_)
        have : tw_all (tw_aQ k g FM) 64 = true := allQ.mpr (fun i hi => (aQ i hi).mpr (Classical.not_not.mp (fun q => h ⟨i, hi, q⟩)))
        rw [hq] at this
        exact absurd this (by decide)
      obtain ⟨i, hi, hqi⟩ := this
      refine ck_some 64 0 (fun j _ hj => ?_) ⟨i, by omega, by omega, ?_⟩
      · rw [hf j, if_pos (p0 j (by omega)), if_pos (p0 j (by omega))]
        by_cases q : Q j = 0#8
        · rw [if_pos q]; exact Or.inl rfl
        · rw [if_neg q]; exact Or.inr rfl
      · rw [hf i, if_neg hqi, if_pos (p0 i hi)]; exact tw_nI_m2 (by omega)
  | false =>
    have exP : ∃ i, i < 64 ∧ P i ≠ 0#8 := by
      refine Classical.byContradiction (fun h => ?_)
      have : tw_all (tw_aP k g FM) 64 = true := allP.mpr (fun i hi => (aP i hi).mpr (Classical.not_not.mp (fun q => h ⟨i, hi, q⟩)))
      rw [hp] at this
      exact absurd this (by decide)
    obtain ⟨i1, hi1, hp1⟩ := exP
    cases hq : tw_all (tw_aQ k g FM) 64 with
    | true =>
      have q0 : ∀ i, i < 64 → Q i = 0#8 := fun i hi => (aQ i hi).mp (allQ.mp hq i hi)
      refine ck_some 64 0 (fun j _ hj => ?_) ⟨i1, by omega, by omega, ?_⟩
      · rw [hf j, if_pos (q0 j (by omega))]
        by_cases q : P j = 0#8
        · rw [if_pos q]; exact Or.inl rfl
        · rw [if_neg q]; exact Or.inr rfl
      · rw [hf i1, if_pos (q0 i1 hi1), if_neg hp1]; exact tw_nI_m2 (by omega)
    | false =>
      have exQ : ∃ i, i < 64 ∧ Q i ≠ 0#8 := by
        refine Classical.byContradiction (fun h => ?_)
        have : tw_all (tw_aQ k g FM) 64 = true := allQ.mpr (fun i hi => (aQ i hi).mpr (Classical.not_not.mp (fun q => h ⟨i, hi, q⟩)))
        rw [hq] at this
        exact absurd this (by decide)
      obtain ⟨i2, hi2, hq2⟩ := exQ
      simp only [Bool.or_self, Bool.false_eq_true, if_false]
      rcases fu2_spec (fun u => tw_all (tw_aU k g FM u) 64) k 0 with ⟨h1, h2⟩ | ⟨u, _, hu, h3, h4⟩
      · -- no unit
        rw [h1]
        have no : ∀ u, u < k → ¬ ∀ i, i < 64 → Q i = tq_p u (P i) := fun u hu h => by
          have e : tw_all (tw_aU k g FM u) 64 = true := (all_iff _ 64).mpr (fun i hi => (aU u i hi).mpr (h i hi))
          have e2 := h2 u (by omega) (by omega)
          rw [e] at e2
          exact absurd e2 (by decide)
        -- i1 says something
        have s1 : tw_of k FX i1 ≠ -2 := by
          rw [hf i1, if_neg hp1, if_neg hp1]
          by_cases q : Q i1 = 0#8
          · rw [if_pos q]; exact tw_nI_m2 (by omega)
          · rw [if_neg q]
            rcases fu_spec (P i1) (Q i1) k 0 with ⟨e, _⟩ | ⟨v, _, hv, _, e⟩
            · rw [e]; decide
            · rw [e]; exact tw_nI_m2 (by omega)
        by_cases same : ∀ j, j < 64 → tw_of k FX j = -2 ∨ tw_of k FX j = tw_of k FX i1
        · rw [ck_some 64 0 (fun j _ hj => same j (by omega)) ⟨i1, by omega, by omega, s1⟩]
          rw [hf i1, if_neg hp1, if_neg hp1]
          by_cases q : Q i1 = 0#8
          · -- then all q are 0
            exfalso
            have s2 := same i2 hi2
            rw [hf i2, if_neg hq2, hf i1, if_pos q, if_neg hp1] at s2
            by_cases q2 : P i2 = 0#8
            · rw [if_pos q2] at s2
              rcases s2 with s | s
              · exact tw_nI_m2 (by omega) s
              · have := (nI_eq (by omega) (by omega)).mp s; omega
            · rw [if_neg q2] at s2
              rcases fu_spec (P i2) (Q i2) k 0 with ⟨e, _⟩ | ⟨v, _, hv, _, e⟩
              · rw [e] at s2
                rcases s2 with s | s
                · exact absurd s (by decide)
                · have h9 := nI_toInt (show k < 2 ^ 31 by omega)
                  rw [← s] at h9
                  have h8 : (-3 : Int32).toInt = -3 := by decide
                  omega
              · rw [e] at s2
                rcases s2 with s | s
                · exact tw_nI_m2 (by omega) s
                · have := (nI_eq (by omega) (by omega)).mp s; omega
          · rw [if_neg q]
            rcases fu_spec (P i1) (Q i1) k 0 with ⟨e, _⟩ | ⟨v, _, hv, hv2, e⟩
            · rw [e]
            · exfalso
              refine no v (by omega) (fun j hj => ?_)
              have s3 := same j hj
              rw [hf i1, if_neg q, if_neg hp1, e, hf j] at s3
              by_cases c1 : Q j = 0#8
              · rw [if_pos c1] at s3
                by_cases c2 : P j = 0#8
                · rw [c1, c2, tq_p0]
                · rw [if_neg c2] at s3
                  rcases s3 with s | s
                  · exact absurd s (tw_nI_m2 (by omega))
                  · have := (nI_eq (by omega) (by omega)).mp s; omega
              · rw [if_neg c1] at s3
                by_cases c2 : P j = 0#8
                · rw [if_pos c2] at s3
                  rcases s3 with s | s
                  · exact absurd s (tw_nI_m2 (by omega))
                  · have := (nI_eq (by omega) (by omega)).mp s; omega
                · rw [if_neg c2] at s3
                  rcases fu_spec (P j) (Q j) k 0 with ⟨e2, _⟩ | ⟨w, _, hw, hw2, e2⟩
                  · rw [e2] at s3
                    rcases s3 with s | s
                    · exact absurd s (by decide)
                    · have h9 := nI_toInt (show v < 2 ^ 31 by omega)
                      rw [← s] at h9
                      have h8 : (-3 : Int32).toInt = -3 := by decide
                      omega
                  · rw [e2] at s3
                    rcases s3 with s | s
                    · exact absurd s (tw_nI_m2 (by omega))
                    · have e3 := (nI_eq (by omega) (by omega)).mp s
                      rw [← e3]; exact hw2.symm
        · obtain ⟨j, hj⟩ := Classical.not_forall.mp same
          have hj1 : j < 64 := Classical.not_not.mp (fun q => hj (fun q2 => absurd q2 q))
          have hj2 : ¬ (tw_of k FX j = -2 ∨ tw_of k FX j = tw_of k FX i1) := fun q => hj (fun _ => q)
          exact ck_bad2 64 0 ⟨j, i1, by omega, by omega, by omega, by omega, fun q => hj2 (Or.inl q), s1, fun q => hj2 (Or.inr q)⟩
      · -- the unit u
        rw [h4]
        have yes : ∀ i, i < 64 → Q i = tq_p u (P i) := fun i hi => (aU u i hi).mp ((all_iff _ 64).mp h3 i hi)
        have val : ∀ i, i < 64 → P i ≠ 0#8 → tw_of k FX i = nI u := fun i hi hpi => by
          have hqi : Q i ≠ 0#8 := fun q => hpi (tq_p_z (show u < 16 by omega) (by rw [← yes i hi, q]))
          rw [hf i, if_neg hqi, if_neg hpi]
          rcases fu_spec (P i) (Q i) k 0 with ⟨_, e⟩ | ⟨v, _, hv, hv2, e⟩
          · exact absurd (yes i hi).symm (e u (by omega) (by omega))
          · rw [e, tq_puv (show v < 16 by omega) (show u < 16 by omega) hpi (by rw [hv2, yes i hi])]
        refine ck_some 64 0 (fun j _ hj => ?_) ⟨i1, by omega, by omega, by rw [val i1 hi1 hp1]; exact tw_nI_m2 (by omega)⟩
        by_cases c : P j = 0#8
        · left
          rw [hf j, yes j (by omega), c, tq_p0, if_pos rfl, if_pos rfl]
        · right; exact val j (by omega) c
theorem tr_check (h : tw_R k lo FX FM g) : tw_ck k lo FX = tw_mcheck k FM g := by
  obtain ⟨h2, hk, hL, hE⟩ := h
  have hm := hL.mc hk
  rw [tw_ck, tw_mcheck]
  by_cases e : lo = 0
  · rw [if_pos e, if_pos (hm.2.2.mp e)]
    exact tr_off hk (hL.none hk e) hE
  · rw [if_neg e, if_neg (fun q => e (hm.2.2.mpr q))]
theorem tr_mend (h : tw_R k lo FX FM g) : ∃ r lo' FX' FM' g', tw_xmend k lo FX = (r, (k, lo', FX')) ∧ tw_mmend k FM g = (r, (k, FM', g')) ∧ tw_R k lo' FX' FM' g' := by
  obtain ⟨h2, hk, hL, hE⟩ := h
  have hm := hL.mc hk
  have hlo : tw_low (tw_lb lo) 0 (k + 2) = tw_low g 0 (k + 2) := hL.low hk (by omega)
  have hlo2 : ∀ a, a < k + 2 → tw_low (tw_lb lo) (a + 1) (k + 2 - (a + 1)) = tw_low g (a + 1) (k + 2 - (a + 1)) := fun a ha => hL.low hk (by omega)
  rcases hL with ⟨rfl, h⟩ | ⟨a, ha, rfl, h⟩ | ⟨a, b, hab, hb, rfl, h⟩
  · have e1 : tw_low g 0 (k + 2) = k + 2 := by rw [tw_low_none _ _ (fun u _ h3 => h u (by omega))]; omega
    refine ⟨0, 0, FX, _, _, by simp only [tw_xmend]; rw [hlo, e1, if_pos rfl], by rw [tw_mmend, hm.2.2.mp rfl]; rfl, h2, hk, tw_L.zero (fun u hu => tw_g2_f hu), fun u i hu hi _ => ?_⟩
    show _ = tq_col (tw_pq k (tw_gl g k) _ 64) i u
    rw [tc_cpq k _ _ 64 (Nat.le_refl _) i hi, if_pos hi, tc_pq_keep _ (h k (by omega)) (h (k + 1) (by omega)) u hu, e1, tc_cF1 hi, tc_F1, if_neg (by omega)]
    exact hE u i hu hi (h u hu)
  · obtain ⟨e1, e2⟩ := tl_low1 ha h
    have e3 : tw_low (tw_lb (nI (2 ^ a))) (a + 1) (k + 2 - (a + 1)) = k + 2 := by
      rw [hlo2 a ha]; rw [tw_mb, if_pos ha] at e2; exact e2
    have hmc : tw_mc g (k + 2) = 1 := by
      have h9 := hm.1
      rw [tl_c1 a (by omega)] at h9
      exact ((nI_eq (by decide) (by omega)).mp h9).symm
    refine ⟨1, 0, ty_ro k a FX, _, _, by simp only [tw_xmend]; rw [hlo, e1, if_neg (by omega), e3, if_pos rfl], by rw [tw_mmend, hmc]; rfl, h2, hk, tw_L.zero (fun u hu => tw_g2_f hu), fun u i hu hi _ => ?_⟩
    show tq_col (ty_ro k a FX) i u = tq_col (tw_pq k (tw_gl g k) _ 64) i u
    rw [tc_cpq k _ _ 64 (Nat.le_refl _) i hi, if_pos hi, e1, e2, tc_cF1 hi, tc_cro hi]
    exact tc_m1 hk ha h (fun v hv hg => hE v i hv hi hg) u hu
  · obtain ⟨e1, e2⟩ := tl_low2 hab hb h
    have e3 : tw_low (tw_lb (nI (2 ^ a + 2 ^ b))) (a + 1) (k + 2 - (a + 1)) = b := by
      rw [hlo2 a (by omega)]; rw [tw_mb, if_pos (show a < k + 2 by omega)] at e2; exact e2
    have hmc : tw_mc g (k + 2) = 2 := by
      have h9 := hm.1
      rw [tl_c2 a (by omega) b (by omega) hab] at h9
      exact ((nI_eq (by decide) (by omega)).mp h9).symm
    refine ⟨2, 0, ty_rt k a b FX, _, _, by simp only [tw_xmend]; rw [hlo, e1, if_neg (by omega), e3, if_neg (by omega)], by rw [tw_mmend, hmc]; rfl, h2, hk, tw_L.zero (fun u hu => tw_g2_f hu), fun u i hu hi _ => ?_⟩
    show tq_col (ty_rt k a b FX) i u = tq_col (tw_pq k (tw_gl g k) _ 64) i u
    rw [tc_cpq k _ _ 64 (Nat.le_refl _) i hi, if_pos hi, e1, e2, tc_cF1 hi, tc_crt hi]
    exact tc_m2 hk hab hb h (fun v hv hg => hE v i hv hi hg) u hu
theorem tr_fix (h : tw_R k lo FX FM g) : ∃ r FX' FM' g', tw_xfix k lo FX = (r, (k, lo, FX')) ∧ tw_mfix k FM g = (r, (k, FM', g')) ∧ tw_R k lo FX' FM' g' := by
  have hR := h
  have hck := tr_check h
  obtain ⟨h2, hk, hL, hE⟩ := h
  have hm := hL.mc hk
  rw [tw_xfix, tw_mfix, hck, tw_mcheck]
  by_cases e : lo = 0
  · have hz := hL.none hk e
    have hmz := hm.2.2.mp e
    rw [if_pos hmz, if_pos hmz]
    by_cases c : tw_mo k g FM < 0
    · rw [if_pos c, if_pos c]
      exact ⟨_, _, _, _, rfl, rfl, hR⟩
    · obtain ⟨a, ha, ha2⟩ := tw_moD hk c
      rw [if_neg c, if_neg c, ha2, nI_clamp (by omega)]
      obtain ⟨q1, q2⟩ := tw_one_low hz ha
      refine ⟨_, _, _, _, rfl, by rw [tw_mmend, q1, q2], h2, hk, by rw [e]; exact tw_L.zero (fun u hu => tw_g2_f hu), fun u i hu hi _ => ?_⟩
      show tq_col (ty_ro k a FX) i u = tq_col (tw_pq k (tw_gl (va_up g a true) k) _ 64) i u
      rw [tc_cpq k _ _ 64 (Nat.le_refl _) i hi, if_pos hi, tc_cF1 hi, tc_cro hi]
      refine tc_m1 hk (by omega) (fun v hv => ?_) (fun v hv _ => hE v i hv hi (hz v hv)) u hu
      rw [va_up]
      by_cases q : v = a
      · simp [q]
      · rw [if_neg q, hz v hv]; simp [q]
  · rw [if_neg (fun q => e (hm.2.2.mpr q)), if_neg (fun q => e (hm.2.2.mpr q)), if_pos (by decide)]
    exact ⟨-1, FX, FM, g, rfl, rfl, hR⟩
end TWK
