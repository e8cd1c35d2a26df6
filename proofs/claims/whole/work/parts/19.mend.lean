/-! ===== mend and fix, column by column ===== -/
def tc_F1 (k : Nat) (g : Nat → Bool) (a b : Nat) (c : Nat → BitVec 8) : Nat → BitVec 8 := if a < k then (if b < k then tc_f2 k g a b c else tc_f1 k g a c) else c
def tc_ro (k u : Nat) (c : Nat → BitVec 8) : Nat → BitVec 8 := if u = k + 1 then tc_Q k u c else tc_P k u c
def tc_rt (k a b : Nat) (c : Nat → BitVec 8) : Nat → BitVec 8 := if b = k + 1 then tc_Q k b (tc_P k a c) else if b = k then tc_P k b (tc_Q k a c) else tc_D k a b c
theorem tc_cF1 {k : Nat} {g : Nat → Bool} {a b : Nat} {F : Nat → BitVec 8} {i : Nat} (hi : i < 64) : tq_col (tw_mF1 k F g a b) i = tc_F1 k g a b (tq_col F i) := by
  rw [tw_mF1, tc_F1]
  split
  · split
    · rw [tc_cf2 k g a b F 64 (Nat.le_refl _) i hi, if_pos hi]
    · rw [tc_cf1 k g a F 64 (Nat.le_refl _) i hi, if_pos hi]
  · rfl
theorem tc_cro {k u : Nat} {F : Nat → BitVec 8} {i : Nat} (hi : i < 64) : tq_col (ty_ro k u F) i = tc_ro k u (tq_col F i) := by
  rw [ty_ro, tc_ro]
  split
  · rw [tc_rq k u F 64 (Nat.le_refl _) i hi, if_pos hi]
  · rw [tc_rp k u F 64 (Nat.le_refl _) i hi, if_pos hi]
theorem tc_crt {k a b : Nat} {F : Nat → BitVec 8} {i : Nat} (hi : i < 64) : tq_col (ty_rt k a b F) i = tc_rt k a b (tq_col F i) := by
  rw [ty_rt, tc_rt]
  split
  · rw [tc_rq k b _ 64 (Nat.le_refl _) i hi, if_pos hi, tc_rp k a F 64 (Nat.le_refl _) i hi, if_pos hi]
  · split
    · rw [tc_rp k b _ 64 (Nat.le_refl _) i hi, if_pos hi, tc_rq k a F 64 (Nat.le_refl _) i hi, if_pos hi]
    · rw [tc_rd k a b F 64 (Nat.le_refl _) i hi, if_pos hi]
section TWN
variable {k : Nat} {g : Nat → Bool} {cx cm : Nat → BitVec 8}
/-- what P and Q become from data units that agree -/
theorem tc_Pn (hg : ∀ v, v < k → g v = false) (hc : ∀ v, v < k → cx v = cm v) : tq_xs (tw_ml g cm) k = tq_xs cx k := tq_xs_congr k (fun v hv => by rw [tw_ml, hg v hv]; exact (hc v hv).symm)
theorem tc_Qn (hg : ∀ v, v < k → g v = false) (hc : ∀ v, v < k → cx v = cm v) : tq_qs (tw_ml g cm) k = tq_qs cx k := tq_qs_congr k (fun v hv => by rw [tw_ml, hg v hv]; exact (hc v hv).symm)
theorem tw_gl_lt {v : Nat} (hv : v < k) : tw_gl g k v = false := by rw [tw_gl, if_pos hv]
theorem tw_gl_ge {v : Nat} (hv : k ≤ v) : tw_gl g k v = g v := by rw [tw_gl, if_neg (by omega)]
/-- the reference's last pass, place by place -/
theorem tc_pq_at (c d : Nat → BitVec 8) (hd : ∀ v, v < k → d v = c v) (u : Nat) (hu : u < k + 2) : tc_pq k (tw_gl g k) c u = if u = k + 1 then (if g (k + 1) then tq_qs d k else c (k + 1)) else if u = k then (if g k then tq_xs d k else c k) else c u := by
  have e1 : tq_xs (tw_ml (tw_gl g k) c) k = tq_xs d k := tc_Pn (fun v hv => tw_gl_lt hv) hd
  rw [tc_pq, tw_gl_ge (by omega)]
  have e2 : tq_qs (tw_ml (tw_gl g k) (tc_mP k (tw_gl g k) c)) k = tq_qs d k := tc_Qn (fun v hv => tw_gl_lt hv) (fun v hv => by rw [tc_mP, va_up_ne _ _ (show v ≠ k by omega)]; exact hd v hv)
  rw [e2]
  by_cases q1 : u = k + 1
  · subst q1
    rw [va_up_self, if_pos rfl, tc_mP, va_up_ne _ _ (show k + 1 ≠ k by omega)]
  · rw [va_up_ne _ _ q1, if_neg q1, tc_mP, tw_gl_ge (Nat.le_refl k), e1]
    by_cases q2 : u = k
    · subst q2; rw [va_up_self, if_pos rfl]
    · rw [va_up_ne _ _ q2, if_neg q2]
theorem tc_pq_keep (c : Nat → BitVec 8) (gk : g k = false) (gq : g (k + 1) = false) (u : Nat) (hu : u < k + 2) : tc_pq k (tw_gl g k) c u = c u := by
  rw [tc_pq_at c c (fun v _ => rfl) u hu, gk, gq]
  simp only [Bool.false_eq_true, if_false]
  by_cases q1 : u = k + 1
  · rw [if_pos q1, q1]
  · rw [if_neg q1]
    by_cases q2 : u = k
    · rw [if_pos q2, q2]
    · rw [if_neg q2]
/-- one unit is lost -/
theorem tc_m1 {a : Nat} (hk : k ≤ 14) (ha : a < k + 2) (hg : ∀ u, u < k + 2 → g u = decide (u = a)) (hc : ∀ u, u < k + 2 → g u = false → cx u = cm u) (u : Nat) (hu : u < k + 2) :
    tc_ro k a cx u = tc_pq k (tw_gl g k) (tc_F1 k g a (k + 2) cm) u := by
  have hn : ∀ v, v < k + 2 → v ≠ a → cx v = cm v := fun v hv hne => hc v hv (by rw [hg v hv]; simp [hne])
  by_cases h1 : a < k
  · have gk : g k = false := by rw [hg k (by omega)]; simp; omega
    have gq : g (k + 1) = false := by rw [hg (k + 1) (by omega)]; simp; omega
    rw [tc_pq_keep _ gk gq u hu, tc_F1, if_pos h1, if_neg (show ¬ k + 2 < k by omega), tc_f1, tw_x1, gk]
    simp only [Bool.false_eq_true, if_false]
    rw [tc_ro, if_neg (show ¬ a = k + 1 by omega), tc_P]
    by_cases q : u = a
    · subst q
      rw [va_up_self, va_up_self, tq_dP, ← hn k (by omega) (by omega)]
      rw [tq_xs_out (d := tw_ml g cm) (a := u) k h1 (fun v hv hne => by rw [tw_ml, hg v (by omega), hn v (by omega) hne]; simp [hne]) (by rw [tw_ml, hg u hu]; simp)]
      simp [BitVec.xor_assoc, BitVec.xor_comm, tq_lc, tq_cl]
    · rw [va_up_ne _ _ q, va_up_ne _ _ q]; exact hn u hu q
  · have hd : ∀ v, v < k → cx v = cm v := fun v hv => hn v (by omega) (by omega)
    rw [tc_F1, if_neg h1, tc_pq_at _ cx hd u hu, tc_ro]
    by_cases h2 : a = k + 1
    · have gk : g k = false := by rw [hg k (by omega)]; simp; omega
      have gq : g (k + 1) = true := by rw [hg (k + 1) (by omega)]; simp; omega
      rw [if_pos h2, gk, gq, tc_Q, tw_fq, if_pos h2, tq_m1, tq_dQ_eq, h2]
      by_cases q1 : u = k + 1
      · subst q1
        rw [va_up_self, if_pos rfl, if_pos rfl]
        simp [BitVec.xor_assoc, BitVec.xor_comm, tq_lc, tq_cl]
      · rw [va_up_ne _ _ q1, if_neg q1]
        by_cases q2 : u = k
        · subst q2; rw [if_pos rfl]; exact hn u hu (by omega)
        · rw [if_neg q2]; exact hn u hu (by omega)
    · have hak : a = k := by omega
      subst hak
      have gk : g a = true := by rw [hg a (by omega)]; simp
      have gq : g (a + 1) = false := by rw [hg (a + 1) (by omega)]; simp
      rw [if_neg h2, gk, gq, tc_P, tq_dP, tq_cl]
      by_cases q1 : u = a + 1
      · subst q1; rw [va_up_ne _ _ (show a + 1 ≠ a by omega), if_pos rfl]; exact hn _ hu (by omega)
      · rw [if_neg q1]
        by_cases q2 : u = a
        · subst q2; rw [va_up_self, if_pos rfl, if_pos rfl]
        · rw [va_up_ne _ _ q2, if_neg q2]; exact hn u hu q2
/-- two units are lost -/
theorem tc_m2 {a b : Nat} (hk : k ≤ 14) (hab : a < b) (hb : b < k + 2) (hg : ∀ u, u < k + 2 → g u = (decide (u = a) || decide (u = b))) (hc : ∀ u, u < k + 2 → g u = false → cx u = cm u) (u : Nat) (hu : u < k + 2) :
    tc_rt k a b cx u = tc_pq k (tw_gl g k) (tc_F1 k g a b cm) u := by
  have hn : ∀ v, v < k + 2 → v ≠ a → v ≠ b → cx v = cm v := fun v hv h1 h2 => hc v hv (by rw [hg v hv]; simp [h1, h2])
  by_cases h1 : b = k + 1
  · subst h1
    have gq : g (k + 1) = true := by rw [hg (k + 1) (by omega)]; simp
    rw [tc_rt, if_pos rfl]
    -- the data units and P behind the first step
    have first : ∀ v, v < k + 1 → tc_P k a cx v = (if v = k ∧ g k = true then tq_xs (tc_P k a cx) k else tc_F1 k g a (k + 1) cm v) := by
      intro v hv
      by_cases h2 : a < k
      · have gk : g k = false := by rw [hg k (by omega)]; simp; omega
        rw [gk, if_neg (by simp), tc_F1, if_pos h2, if_neg (by omega), tc_f1, tw_x1, gk, tc_P]
        simp only [Bool.false_eq_true, if_false]
        by_cases q : v = a
        · subst q
          rw [va_up_self, va_up_self, tq_dP, ← hn k (by omega) (by omega) (by omega)]
          rw [tq_xs_out (d := tw_ml g cm) (a := v) k h2 (fun w hw hne => by rw [tw_ml, hg w (by omega), hn w (by omega) hne (by omega)]; simp [hne]; omega) (by rw [tw_ml, hg v (by omega)]; simp)]
          simp [BitVec.xor_assoc, BitVec.xor_comm, tq_lc, tq_cl]
        · rw [va_up_ne _ _ q, va_up_ne _ _ q]; exact hn v (by omega) q (by omega)
      · have hak : a = k := by omega
        subst hak
        have gk : g a = true := by rw [hg a (by omega)]; simp
        rw [gk, tc_F1, if_neg h2]
        have e : tc_P a a cx = va_up cx a (tq_xs cx a) := by rw [tc_P, tq_dP, tq_cl]
        rw [e]
        by_cases q : v = a
        · subst q
          rw [va_up_self, if_pos ⟨rfl, rfl⟩]
          exact tq_xs_congr v (fun w hw => by rw [va_up_ne _ _ (show w ≠ v by omega)])
        · rw [va_up_ne _ _ q, if_neg (fun q2 => q q2.1)]; exact hn v (by omega) q (by omega)
    have hd : ∀ v, v < k → tc_P k a cx v = tc_F1 k g a (k + 1) cm v := fun v hv => by rw [first v (by omega), if_neg (fun q => by omega)]
    rw [tc_pq_at _ _ hd u hu, gq, tc_Q, tw_fq, if_pos rfl, tq_m1, tq_dQ_eq]
    by_cases q1 : u = k + 1
    · subst q1
      rw [va_up_self, if_pos rfl, if_pos rfl]
      simp [BitVec.xor_assoc, BitVec.xor_comm, tq_lc, tq_cl]
    · rw [va_up_ne _ _ q1, if_neg q1]
      by_cases q2 : u = k
      · subst q2
        rw [if_pos rfl, first u (by omega)]
        cases g u <;> simp
      · rw [if_neg q2]; exact hd u (by omega)
  · by_cases h2 : b = k
    · subst h2
      have gk : g b = true := by rw [hg b (by omega)]; simp
      have gq : g (b + 1) = false := by rw [hg (b + 1) (by omega)]; simp; omega
      have hap : tq_p a 1#8 ≠ 0#8 := tq_pn a (by omega)
      rw [tc_rt, if_neg h1, if_pos rfl]
      have hd : ∀ v, v < b → tc_Q b a cx v = tc_F1 b g a b cm v := by
        intro v hv
        rw [tc_F1, if_pos hab, if_neg (by omega), tc_f1, tw_x1, gk, if_pos rfl, tc_Q, tw_fq, if_neg (by omega)]
        by_cases q : v = a
        · subst q
          rw [va_up_self, va_up_self, tq_dQ_eq, ← hn (b + 1) (by omega) (by omega) (by omega)]
          rw [tq_qs_out (d := tw_ml g cm) (a := v) b hab (fun w hw hne => by rw [tw_ml, hg w (by omega), hn w (by omega) hne (by omega)]; simp [hne]; omega) (by rw [tw_ml, hg v (by omega)]; simp)]
          rw [show tq_qs (tw_ml g cm) b ^^^ tq_p v (cx v) ^^^ cx (b + 1) = tq_p v (cx v) ^^^ (tq_qs (tw_ml g cm) b ^^^ cx (b + 1)) from by simp [BitVec.xor_assoc, BitVec.xor_comm, tq_lc], tq_m_add, ← tq_mp (show v < 16 by omega), tq_i1 hap, tq_cl]
        · rw [va_up_ne _ _ q, va_up_ne _ _ q]; exact hn v (by omega) q (by omega)
      rw [tc_pq_at _ _ hd u hu, gk, gq, tc_P, tq_dP, tq_cl]
      have hF : ∀ v, v ≠ a → tc_F1 b g a b cm v = cm v := fun v hv => by rw [tc_F1, if_pos hab, if_neg (by omega), tc_f1, va_up_ne _ _ hv]
      have hQ : ∀ v, v ≠ a → tc_Q b a cx v = cx v := fun v hv => by rw [tc_Q, va_up_ne _ _ hv]
      by_cases q1 : u = b + 1
      · subst q1
        rw [va_up_ne _ _ (show b + 1 ≠ b by omega), if_pos rfl, if_neg (by decide), hQ _ (by omega), hF _ (by omega)]
        exact hn _ hu (by omega) (by omega)
      · rw [if_neg q1]
        by_cases q2 : u = b
        · subst q2; rw [va_up_self, if_pos rfl, if_pos rfl]
        · rw [va_up_ne _ _ q2, if_neg q2]; exact hd u (by omega)
    · have hbk : b < k := by omega
      have gk : g k = false := by rw [hg k (by omega)]; simp; omega
      have gq : g (k + 1) = false := by rw [hg (k + 1) (by omega)]; simp; omega
      have hcc : tq_p a 1#8 ^^^ tq_p b 1#8 ≠ 0#8 := tq_pnn a (by omega) b (by omega) (by omega)
      have hak : a < k := by omega
      rw [tc_rt, if_neg h1, if_neg h2]
      rw [tc_pq_keep _ gk gq u hu, tc_F1, if_pos hak, if_pos hbk, tc_f2, tc_D]
      -- sums without the two
      have ex : tq_xs cx k = tq_xs (tw_ml g cm) k ^^^ cx a ^^^ cx b := by
        rw [tq_xs_out (c := cx) (d := va_up cx a 0#8) (a := a) k hak (fun v hv hne => by rw [va_up_ne _ _ hne]) (va_up_self _ _ _),
          tq_xs_out (c := va_up cx a 0#8) (d := tw_ml g cm) (a := b) k hbk (fun v hv hne => by
            by_cases q : v = a
            · subst q; rw [va_up_self, tw_ml, hg v (by omega)]; simp
            · rw [va_up_ne _ _ q, tw_ml, hg v (by omega), hn v (by omega) q hne]; simp [q, hne]) (by rw [tw_ml, hg b (by omega)]; simp), va_up_ne _ _ (show b ≠ a by omega)]
        simp [BitVec.xor_assoc, BitVec.xor_comm, tq_lc]
      have eq : tq_qs cx k = tq_qs (tw_ml g cm) k ^^^ tq_p a (cx a) ^^^ tq_p b (cx b) := by
        rw [tq_qs_out (c := cx) (d := va_up cx a 0#8) (a := a) k hak (fun v hv hne => by rw [va_up_ne _ _ hne]) (va_up_self _ _ _),
          tq_qs_out (c := va_up cx a 0#8) (d := tw_ml g cm) (a := b) k hbk (fun v hv hne => by
            by_cases q : v = a
            · subst q; rw [va_up_self, tw_ml, hg v (by omega)]; simp
            · rw [va_up_ne _ _ q, tw_ml, hg v (by omega), hn v (by omega) q hne]; simp [q, hne]) (by rw [tw_ml, hg b (by omega)]; simp), va_up_ne _ _ (show b ≠ a by omega)]
        simp [BitVec.xor_assoc, BitVec.xor_comm, tq_lc]
      have ek : cx k = cm k := hn k (by omega) (by omega) (by omega)
      have eq1 : cx (k + 1) = cm (k + 1) := hn (k + 1) (by omega) (by omega) (by omega)
      -- s, t: what P and Q miss
      have hS : tq_dP k cx = (tq_xs (tw_ml g cm) k ^^^ cm k) ^^^ (cx a ^^^ cx b) := by
        rw [tq_dP, ex, ek]; simp [BitVec.xor_assoc, BitVec.xor_comm, tq_lc]
      have hT : tq_dQ k cx = (tq_qs (tw_ml g cm) k ^^^ cm (k + 1)) ^^^ (tq_p a (cx a) ^^^ tq_p b (cx b)) := by
        rw [tq_dQ_eq, eq, eq1]; simp [BitVec.xor_assoc, BitVec.xor_comm, tq_lc]
      have hx2 : tw_x2 k g a b cm = tq_m ((tq_qs (tw_ml g cm) k ^^^ cm (k + 1)) ^^^ tq_p b (tq_xs (tw_ml g cm) k ^^^ cm k)) (tq_i (tq_p a 1#8 ^^^ tq_p b 1#8)) := rfl
      generalize hSS : tq_xs (tw_ml g cm) k ^^^ cm k = S at hS hx2
      generalize hTT : tq_qs (tw_ml g cm) k ^^^ cm (k + 1) = T at hT hx2
      -- y of the class: the other unit of the reference, and what stood there
      have hy : tw_yd k a b cx = (S ^^^ tw_x2 k g a b cm) ^^^ cx b := by
        have e1 : tq_m ((S ^^^ tw_x2 k g a b cm) ^^^ cx b) (tq_p a 1#8 ^^^ tq_p b 1#8) = tq_dQ k cx ^^^ tq_p a (tq_dP k cx) := by
          rw [tq_m_add, tq_m_add, hx2, tq_i2 hcc, tq_m_add2, tq_m_add2, tq_mp (show a < 16 by omega), tq_mp (show b < 16 by omega), tq_mp (show a < 16 by omega), tq_mp (show b < 16 by omega), hT, hS]
          simp only [tq_p_add]
          simp [BitVec.xor_assoc, BitVec.xor_comm, tq_lc, tq_cl]
        rw [tw_yd, tw_fd, ← e1, tq_i1 hcc]
      rw [hy, hS]
      by_cases q1 : u = b
      · subst q1
        rw [va_up_self, va_up_self, va_up_ne _ _ (show u ≠ a by omega), ← hSS]
        simp [BitVec.xor_assoc, BitVec.xor_comm, tq_lc, tq_cl]
      · rw [va_up_ne _ _ q1, va_up_ne _ _ q1]
        by_cases q2 : u = a
        · subst q2
          rw [va_up_self, va_up_self]
          simp [BitVec.xor_assoc, BitVec.xor_comm, tq_lc, tq_cl]
        · rw [va_up_ne _ _ q2, va_up_ne _ _ q2]; exact hn u hu q2 q1
end TWN
