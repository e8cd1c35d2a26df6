/-! ===== each call keeps the relation, and answers alike ===== -/
section TWS
variable {k : Nat} {lo : Int32} {FX FM : Nat → BitVec 8} {g : Nat → Bool}
theorem tr_th (h : tw_R k lo FX FM g) (x : Int32) : tw_th k lo x = (!tw_nu k x && !g x.toNatClampNeg) := by
  obtain ⟨h2, hk, hL, -⟩ := h
  cases hn : tw_nu k x with
  | true =>
    simp only [tw_nu, Bool.or_eq_true, decide_eq_true_eq, Bool.not_eq_true', decide_eq_false_iff_not] at hn
    rcases hn with q | q
    · simp [tw_th, q]
    · simp [tw_th, Int32.not_lt.mp q]
  | false =>
    obtain ⟨u, hu, rfl⟩ := tw_nuD hk hn
    rw [tw_thI hk hu, nI_clamp (by omega), hL.lb hk hu]
    rfl
theorem tr_begin (h : tw_R k lo FX FM g) (x : Int32) : ∃ r k' lo' FX' FM' g', tw_xbegin k lo FX x = (r, (k', lo', FX')) ∧ tw_mbegin k FM g x = (r, (k', FM', g')) ∧ tw_R k' lo' FX' FM' g' := by
  by_cases hc : x < 2 ∨ ¬ x ≤ 14
  · exact ⟨-1, k, lo, FX, FM, g, by rw [tw_xbegin, if_pos hc], by rw [tw_mbegin, if_pos hc], h⟩
  · refine ⟨_, _, _, _, _, _, by rw [tw_xbegin, if_neg hc], by rw [tw_mbegin, if_neg hc], ?_⟩
    have c2 : ¬ x < 2 := fun q => hc (Or.inl q)
    have c14 : x ≤ 14 := Classical.not_not.mp (fun q => hc (Or.inr q))
    obtain ⟨j, hj, rfl⟩ := nI_of (tw_nneg c2)
    rw [nI_clamp hj]
    have h14 : j ≤ 14 := (nI_leI hj (by decide)).mp (show nI j ≤ nI 14 from c14)
    have h2 : 2 ≤ j := by
      rcases Nat.lt_or_ge j 2 with q | q
      · exact absurd (show nI j < nI 2 from nI_lt q (by decide)) c2
      · exact q
    refine ⟨h2, h14, tw_L.zero (fun u hu => by rw [tw_gl, if_pos (by omega)]), fun u i hu hi _ => ?_⟩
    rw [tw_fl, tw_fl, if_pos (by omega), if_pos (by omega)]
theorem tr_get (h : tw_R k lo FX FM g) (x z : Int32) : tw_get k lo FX x z = tw_mget k FM g x z := by
  have ht := tr_th h x
  obtain ⟨h2, hk, hL, hE⟩ := h
  have hs : tw_sp z 1 1 = (!decide (z < 0) && decide (z < 64)) := by
    cases hq : (!decide (z < 0) && decide (z < 64)) with
    | true =>
      simp only [Bool.and_eq_true, Bool.not_eq_true', decide_eq_false_iff_not, decide_eq_true_eq] at hq
      obtain ⟨i, hi, rfl⟩ := nI_of hq.1
      have : i < 64 := (nI_ltI hi (by decide)).mp (show nI i < nI 64 from hq.2)
      exact tw_spI (j := 1) (mm := 1) (by decide) (by decide) (by decide) (by omega)
    | false =>
      cases hp : tw_sp z 1 1 with
      | false => rfl
      | true =>
        obtain ⟨i, j, rfl, hj, h1, h2, h3⟩ := tw_spD (mm := 1) (by decide) hp
        have q1 : ¬ nI i < 0 := nI_pos (by omega)
        have q2 : nI i < 64 := nI_lt (b := 64) (by omega) (by decide)
        simp [q1, q2] at hq
  rw [tw_get, tw_mget, ht, hs]
  cases hn : tw_nu k x with
  | true => simp
  | false =>
    obtain ⟨u, hu, rfl⟩ := tw_nuD hk hn
    rw [nI_clamp (show u < 2 ^ 31 by omega)]
    cases hg : g u with
    | true => simp
    | false =>
      cases hq : (!decide (z < 0) && decide (z < 64)) with
      | false => simp
      | true =>
        simp only [Bool.and_eq_true, Bool.not_eq_true', decide_eq_false_iff_not, decide_eq_true_eq] at hq
        obtain ⟨i, hi, rfl⟩ := nI_of hq.1
        have hi64 : i < 64 := (nI_ltI hi (by decide)).mp (show nI i < nI 64 from hq.2)
        rw [nI_clamp hi, hE u i hu hi64 hg]
        rfl
theorem tq_wd_congr {b c : Nat → BitVec 8} (h : ∀ j, j < 8 → b j = c j) : ∀ n, tq_wd b n = tq_wd c n := by
  intro n
  induction n with
  | zero => rfl
  | succ n ih => rw [tq_wd, tq_wd, ih, h (7 - n) (by omega)]
theorem tr_word (h : tw_R k lo FX FM g) (x z : Int32) : tw_word k lo FX x z = tw_mword k FM g x z := by
  have ht := tr_th h x
  obtain ⟨h2, hk, hL, hE⟩ := h
  rw [tw_word, tw_mword, tw_wg, ht]
  cases hn : tw_nu k x with
  | true => simp
  | false =>
    obtain ⟨u, hu, rfl⟩ := tw_nuD hk hn
    rw [nI_clamp (show u < 2 ^ 31 by omega)]
    cases hg : g u with
    | true => simp
    | false =>
      cases hq : tw_w8 z with
      | false => simp
      | true =>
        simp only [tw_w8, Bool.and_eq_true, Bool.not_eq_true', decide_eq_false_iff_not] at hq
        obtain ⟨i, hi, rfl⟩ := nI_of hq.1
        have hi8 : i < 8 := by
          rcases Nat.lt_or_ge i 8 with q | q
          · exact q
          · exact absurd (nI_le (a := 8) q hi) hq.2
        simp only [Bool.not_false, Bool.and_self, if_true]
        rw [nI_clamp hi, tw_wval, tw_wval]
        exact tq_wd_congr (fun j hj => hE u (8 * i + j) hu (by omega) hg) 8
theorem tr_cnt (h : tw_R k lo FX FM g) (x : Int32) : tw_cnt k lo x = tw_mcnt k g x := by
  obtain ⟨h2, hk, hL, hE⟩ := h
  rw [tw_cnt, tw_mcnt, (hL.mc hk).1, tw_lf, hL.low hk (by omega)]
  rfl
theorem tr_put1 {k : Nat} {lo : Int32} {g : Nat → Bool} {GX GM : Nat → BitVec 8} (hk : k ≤ 14) (hL : tw_L k lo g) (hE : tw_E k g GX GM) {u i : Nat} (now : BitVec 8) (hu : u < k) (hg : g u = false) (hi : i < 64) :
    tw_E k g (tw_cw k lo GX u i (GX (64 * u + i) ^^^ now)) (tw_mst k u i now GM) := by
  intro v j hv hj hgv
  have e0 : GX (64 * u + i) = GM (64 * u + i) := hE u i (by omega) hi hg
  rw [tw_cw, tw_mst, hL.lb hk (show k < k + 2 by omega), hL.lb hk (show k + 1 < k + 2 by omega), ← e0]
  generalize hd : GX (64 * u + i) ^^^ now = d
  have hnow : GX (64 * u + i) ^^^ d = now := by rw [← hd, tq_cl]
  have ev := hE v j hv hj hgv
  have key : ∀ (X Y : Nat → BitVec 8), X (64 * v + j) = Y (64 * v + j) → ∀ (w : Nat) (dd : BitVec 8), tw_ch X w i dd (64 * v + j) = tw_ch Y w i dd (64 * v + j) ∨ (¬ v = w) ∨ (¬ j = i) := by
    intro X Y hXY w dd
    by_cases q1 : v = w
    · by_cases q2 : j = i
      · subst q1; subst q2
        left
        rw [tw_ch_at _ _ hj hj, tw_ch_at _ _ hj hj, hXY]
      · exact Or.inr (Or.inr q2)
    · exact Or.inr (Or.inl q1)
  have keep : ∀ (X : Nat → BitVec 8) (w : Nat) (dd : BitVec 8), ¬ (v = w ∧ j = i) → tw_ch X w i dd (64 * v + j) = X (64 * v + j) := fun X w dd q => by rw [tw_ch_at _ _ hi hj, if_neg q]
  have step : ∀ (X Y : Nat → BitVec 8), X (64 * v + j) = Y (64 * v + j) → ∀ (w : Nat) (dd : BitVec 8), tw_ch X w i dd (64 * v + j) = tw_ch Y w i dd (64 * v + j) := by
    intro X Y hXY w dd
    by_cases q : v = w ∧ j = i
    · rcases key X Y hXY w dd with h | h | h
      · exact h
      · exact absurd q.1 h
      · exact absurd q.2 h
    · rw [keep X w dd q, keep Y w dd q, hXY]
  have b1 : tw_ch GX u i d (64 * v + j) = va_up GM (64 * u + i) now (64 * v + j) := by
    rw [tw_ch_at _ _ hi hj, tw_up_at _ _ hi hj, hnow, ev]
  have b2 : (if g k = true then tw_ch GX u i d else tw_ch (tw_ch GX u i d) k i d) (64 * v + j) = tw_ch (va_up GM (64 * u + i) now) k i d (64 * v + j) := by
    by_cases q : g k = true
    · rw [if_pos q, keep _ k d (fun q2 => by rw [q2.1, q] at hgv; exact absurd hgv (by decide)), b1]
    · rw [if_neg q]; exact step _ _ b1 k d
  by_cases q : g (k + 1) = true
  · rw [if_pos q, keep _ (k + 1) _ (fun q2 => by rw [q2.1, q] at hgv; exact absurd hgv (by decide)), b2]
  · rw [if_neg q]; exact step _ _ b2 (k + 1) _
theorem tr_put (h : tw_R k lo FX FM g) (x z n : Int32) (v : Int64) : ∃ r FX' FM', tw_xput k lo FX x z n v = (r, (k, lo, FX')) ∧ tw_mput k FM g x z n v = (r, (k, FM', g)) ∧ tw_R k lo FX' FM' g := by
  have ht := tr_th h x
  have hR := h
  obtain ⟨h2, hk, hL, hE⟩ := h
  have hcond : (!decide (nI k ≤ x) && (tw_th k lo x && tw_sp z n 8)) = (!decide (x < 0) && (!decide (nI k ≤ x) && (!g x.toNatClampNeg && tw_sp z n 8))) := by
    rw [ht, tw_nu]
    by_cases q1 : x < 0
    · simp [q1]
    · by_cases q2 : nI k ≤ x
      · simp [q2]
      · have q3 : x < nI (k + 2) := by
          obtain ⟨j, hj, rfl⟩ := nI_of q1
          have : j < k := by
            rcases Nat.lt_or_ge j k with q | q
            · exact q
            · exact absurd (nI_le q hj) q2
          exact nI_lt (by omega) (by omega)
        simp [q1, q2, q3]
  cases hc : (!decide (nI k ≤ x) && (tw_th k lo x && tw_sp z n 8)) with
  | false => exact ⟨-1, FX, FM, by rw [tw_xput, hc]; rfl, by rw [tw_mput, ← hcond, hc]; rfl, hR⟩
  | true =>
    refine ⟨n, _, _, by rw [tw_xput, hc]; rfl, by rw [tw_mput, ← hcond, hc]; rfl, h2, hk, hL, ?_⟩
    simp only [Bool.and_eq_true, Bool.not_eq_true', decide_eq_false_iff_not] at hc
    obtain ⟨u, hu, rfl, hlb⟩ := tw_thD hk hc.2.1
    obtain ⟨i, q, rfl, rfl, hq1, hq2, hiq⟩ := tw_spD (mm := 8) (by decide) hc.2.2
    have huk : u < k := by
      rcases Nat.lt_or_ge u k with h9 | h9
      · exact h9
      · exact absurd (nI_le h9 (by omega)) hc.1
    have hgu : g u = false := by rw [← hL.lb hk hu]; exact hlb
    rw [nI_clamp (show u < 2 ^ 31 by omega), nI_clamp (show i < 2 ^ 31 by omega), nI_clamp (show q < 2 ^ 31 by omega)]
    have ind : ∀ j, j ≤ q → tw_E k g (tw_ps k lo u i v FX j) (tw_mps k u i v FM j) := by
      intro j
      induction j with
      | zero => intro _; exact hE
      | succ j ih => intro hj; exact tr_put1 hk hL (ih (by omega)) (tw_by v j) huk hgu (by omega)
    exact ind q (Nat.le_refl q)
theorem tr_spoil (h : tw_R k lo FX FM g) (x z n sd : Int32) : ∃ r FX' FM', tw_xspoil k lo FX x z n sd = (r, (k, lo, FX')) ∧ tw_mspoil k FM g x z n sd = (r, (k, FM', g)) ∧ tw_R k lo FX' FM' g := by
  have ht := tr_th h x
  have hR := h
  obtain ⟨h2, hk, hL, hE⟩ := h
  have hcond : (tw_th k lo x && tw_sp z n 64) = (!tw_nu k x && (!g x.toNatClampNeg && tw_sp z n 64)) := by rw [ht, Bool.and_assoc]
  cases hc : (tw_th k lo x && tw_sp z n 64) with
  | false => exact ⟨-1, FX, FM, by rw [tw_xspoil, hc]; rfl, by rw [tw_mspoil, ← hcond, hc]; rfl, hR⟩
  | true =>
    refine ⟨n, _, _, by rw [tw_xspoil, hc]; rfl, by rw [tw_mspoil, ← hcond, hc]; rfl, h2, hk, hL, ?_⟩
    simp only [Bool.and_eq_true] at hc
    obtain ⟨u, hu, rfl, hlb⟩ := tw_thD hk hc.1
    obtain ⟨i, q, rfl, rfl, hq1, hq2, hiq⟩ := tw_spD (mm := 64) (by decide) hc.2
    rw [nI_clamp (show u < 2 ^ 31 by omega), nI_clamp (show i < 2 ^ 31 by omega), nI_clamp (show q < 2 ^ 31 by omega)]
    have ind : ∀ j, j ≤ q → tw_E k g (tw_ss u i sd FX j) (tw_mss u i sd FM j) := by
      intro j
      induction j with
      | zero => intro _; exact hE
      | succ j ih =>
        intro hj w t hw ht hgw
        rw [tw_ss, tw_mss, tw_ch_at _ _ (by omega) ht, tw_up_at _ _ (by omega) ht, tq_cl, ih (by omega) w t hw ht hgw]
    exact ind q (Nat.le_refl q)
theorem tr_lose (h : tw_R k lo FX FM g) (x : Int32) : ∃ r lo' g', tw_xlose k lo FX x = (r, (k, lo', FX)) ∧ tw_mlose k FM g x = (r, (k, FM, g')) ∧ tw_R k lo' FX FM g' := by
  have ht := tr_th h x
  have hR := h
  obtain ⟨h2, hk, hL, hE⟩ := h
  have hm := hL.mc hk
  rw [tw_xlose, tw_mlose, ht]
  cases hc : (!tw_nu k x && !g x.toNatClampNeg) with
  | false => exact ⟨-1, lo, g, rfl, rfl, hR⟩
  | true =>
    simp only [if_true]
    by_cases e2 : tw_mc g (k + 2) = 2
    · rw [if_pos (show tw_bc lo = 2 by rw [hm.1, e2]; rfl), if_pos e2]
      exact ⟨-3, lo, g, rfl, rfl, hR⟩
    · rw [if_neg (show ¬ tw_bc lo = 2 from fun q => e2 ((nI_eq (by omega) (by decide)).mp (hm.1.symm.trans q))), if_neg e2]
      simp only [Bool.and_eq_true, Bool.not_eq_true'] at hc
      obtain ⟨u, hu, rfl⟩ := tw_nuD hk hc.1
      have hcu : (nI u).toNatClampNeg = u := nI_clamp (by omega)
      rw [hcu] at hc ⊢
      have hL2 := hL.lose hk hu hc.2 e2
      refine ⟨_, _, _, rfl, by rw [(hL2.mc hk).1], h2, hk, hL2, fun v j hv hj hgv => ?_⟩
      rw [va_up] at hgv
      by_cases q : v = u
      · rw [if_pos q] at hgv; exact absurd hgv (by decide)
      · rw [if_neg q] at hgv; exact hE v j hv hj hgv
theorem tr_make (h : tw_R k lo FX FM g) : ∃ r FX' FM', tw_xmake k lo FX = (r, (k, lo, FX')) ∧ tw_mmake k FM g = (r, (k, FM', g)) ∧ tw_R k lo FX' FM' g := by
  have hR := h
  obtain ⟨h2, hk, hL, hE⟩ := h
  have hm := hL.mc hk
  by_cases e : lo = 0
  · refine ⟨0, _, _, by rw [tw_xmake, if_pos e], by rw [tw_mmake, if_pos (hm.2.2.mp e)], h2, hk, hL, fun u i hu hi _ => ?_⟩
    have hz := hL.none hk e
    have hc : ∀ v, v < k + 2 → tq_col FX i v = tq_col FM i v := fun v hv => hE v i hv hi (hz v hv)
    show tq_col (ty_rq k (k + 1) (ty_rp k k FX 64) 64) i u = tq_col (tw_mmk k g FM 64) i u
    rw [tc_rq k (k + 1) _ 64 (Nat.le_refl _) i hi, if_pos hi, tc_rp k k FX 64 (Nat.le_refl _) i hi, if_pos hi, tc_cmk k g FM 64 (Nat.le_refl _) i hi, if_pos hi]
    generalize hcx : tq_col FX i = cx at hc ⊢
    generalize hcm : tq_col FM i = cm at hc ⊢
    have e1 : tq_xs (tw_ml g cm) k = tq_xs cx k := tq_xs_congr k (fun v hv => by rw [tw_ml, hz v (by omega)]; exact (hc v (by omega)).symm)
    have hP : tc_P k k cx = va_up cx k (tq_xs cx k) := by rw [tc_P, tq_dP, tq_cl]
    rw [hP, tc_mk, e1, tc_Q, tw_fq, if_pos rfl, tq_m1, tq_dQ_eq]
    have e2 : tq_qs (tw_ml g (va_up cm k (tq_xs cx k))) k = tq_qs (va_up cx k (tq_xs cx k)) k := tq_qs_congr k (fun v hv => by rw [tw_ml, hz v (by omega), va_up_ne _ _ (show v ≠ k by omega), va_up_ne _ _ (show v ≠ k by omega)]; exact (hc v (by omega)).symm)
    rw [e2]
    generalize tq_qs (va_up cx k (tq_xs cx k)) k = qq
    unfold va_up
    by_cases q1 : u = k + 1
    · rw [if_pos q1, if_pos q1]
      simp [BitVec.xor_assoc, BitVec.xor_comm, tq_lc, tq_cl]
    · rw [if_neg q1, if_neg q1]
      by_cases q2 : u = k
      · rw [if_pos q2, if_pos q2]
      · rw [if_neg q2, if_neg q2]; exact hc u hu
  · exact ⟨-1, FX, FM, by rw [tw_xmake, if_neg e], by rw [tw_mmake, if_neg (fun q => e (hm.2.2.mpr q))], hR⟩
end TWS
