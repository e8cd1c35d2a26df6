/-! THE CLAIM OUT OF ONE WALK OF THE LAW'S BODY. Your part is whole_start (and what it stands on); all else here is the same for every law, but numbers. -/
def R_law : String := "TwinParityLaw"
def lw_P (b : Addr) (xs : List Int32) (args : Array Value) (s : State) : Prop := args = #[.ref b] ∧ s.IntsAt b xs ∧ xs.length ≤ 3072 ∧ (Jvm.Cond.and given_1 narrow_1).before args s = true
def lw_Q (_ : Array Value) (s : State) (o : Outcome) (t : State) : Prop := o = .returned (some (.int 1)) ∧ Framed s o t [] 5 2071
def lw_Z (below : List Frame) (a : Array Value) (s : State) : State → Prop := fun t => ∃ o, t.status = .running ∧ Ended t below o ∧ lw_Q a s o t
/-- the law's own end, with 1 on the stack, nothing written that was there before, its room as the claim has it -/
theorem lw_ret {p : Program} {l : Launch} {e : Env} {s : State} {m : MethodId} {below : List Frame} {meth : Method} {c : Code} {b : Nat} (hx : p.tables.exec = Jvm.exec) (hb : c.code = code) (hr : meth.sig.returnType = ret) (hlocks : meth.locks = false) {pc : Nat} {H : Heap} {ls : Array Slot} (hdg : decode code pc = .ok (.ireturn, 1)) : W p l e room_1 s m #[Value.ref b] below meth c H [] 5 2071 (lw_Z below #[Value.ref b] s) (F0 m pc ls [.int 1]) := by
  intro T hT X
  obtain ⟨fs, hret, hrun, hended, hW, hframe⟩ := X.leave (v := some (.int 1)) (hlocks := hlocks) (fun h => by rw [hr] at h; cases h)
  have hmeth' : T.vm.method? m = some meth := X.method'
  refine ⟨T.setFrames fs, ?_, .returned (some (.int 1)), hrun, hended, rfl, ⟨_, rfl⟩, hW, hframe⟩
  jvm_step X.here [X.here.top, hx, hb, hdg, hmeth', hr, ret, narrow_b1]
  (try refine ⟨rfl, ?_⟩); (try refine ⟨rfl, ?_⟩)
  first | (intro acts; rw [hret _ acts rfl rfl rfl]) | rw [hret _ _ rfl rfl rfl]
  exact Steps.refl _
/-- what holds at the law's entry: the machine, the code, the tables' words (any of lw_tbl by 'hts w (by decide +kernel)'), the script of L ints xs at the cell b, what the Statement gives of the start (any of its parts by flat_of_before) -/
def lw_At (p : Program) (s : State) (m : MethodId) (meth : Method) (c : Code) (b L : Nat) (xs : Nat → Int32) : Prop :=
  p.tables.exec = Jvm.exec ∧ c.code = code ∧ meth.sig.returnType = ret ∧ c.maxLocals = 4 ∧ s.vm.findClass R_law = some m.cls ∧ (∀ w ∈ lw_tbl, w.before #[Value.ref b] s = true) ∧ va_X b L xs s s.heap ∧ b < s.heap.size ∧ meth.locks = false ∧ (Jvm.Cond.and given_1 narrow_1).before #[Value.ref b] s = true
section TWLW
variable {p : Program} {l : Launch} {e : Env} {R : Room} {s : State} {m : MethodId} {args : Array Value} {below : List Frame} {meth : Method} {c : Code} {H H0 : Heap} {locs : List Loc} {cells slots : Nat} {Q : State → Prop}
variable {pc : Nat} {ls : Array Slot} {rest : List Value} {A : Nat → Prop} {cc : ByteArray}
theorem tw_sl (hexec : p.tables.exec = Jvm.exec) (hb : c.code = cc) {b L : Nat} {xs : Nat → Int32} (hX : va_X b L xs s H0) (hbl : b < H0.size) (hbA : ¬ A b) (hS : va_S A H0 H locs) {i : Int32} {n : Nat} (hi : i = nI n) (hn : n < L) (hL : L < 2 ^ 31) (hdg : decode cc pc = .ok (.iaload, 1))
    (kk : W p l e R s m args below meth c H locs cells slots Q (F0 m (pc + 1) ls (.int (xs n) :: rest))) : W p l e R s m args below meth c H locs cells slots Q (F0 m pc ls (.int i :: .ref b :: rest)) := by
  subst hi
  refine va_sld hexec hb hX hbl hbA hS (vp_in_nI hn hL) hdg ?_
  rw [nI_clamp (by omega)]
  exact kk
end TWLW
theorem tw_ge6 {i L : Nat} (hL : L ≤ 3072) (hi : i ≤ L) (h : ¬ nI L - 6 < nI i) : i + 6 ≤ L := by
  have e := pk_sub_toInt (a := L) (b := 6) (by omega) (by omega)
  rw [Int32.lt_iff_toInt_lt, show (6 : Int32) = nI 6 from rfl, e, nI_toInt (by omega)] at h
  omega
theorem fL_law_18 : Cond.constantLong RL 18 (4294967295) ∈ wsL_law := List.mem_of_getElem? (i := 6) rfl
set_option maxHeartbeats 4000000 in
set_option maxRecDepth 100000 in
/-- THE LAW'S LOOP -/
theorem law_loop {p : Program} {l : Launch} {e : Env} {s : State} {m : MethodId} {below : List Frame} {meth : Method} {c : Code} {D : va_G} {b L : Nat} {xs : Nat → Int32} (hL : L ≤ 3072) (C0 : lw_At p s m meth c b L xs) {cA cA2 cB : ClassId} {h0 a0 h1 a1 b1 : Nat} (hK : va_K D vwCl [(cA, .int), (cA2, .int), (cB, .boolean)] s) :
    ∀ (n i : Nat), i ≤ L → L < i + n → ∀ (k : Nat) (lo : Int32) (FX FM : Nat → BitVec 8) (g : Nat → Bool), tw_R k lo FX FM g → ∀ (ls : Array Slot) (H : Heap) (locs : List Loc), va_P D vwCl (tw_X cA h0 a0 k lo FX ++ tw_M cA2 cB h1 a1 b1 k FM g) H → va_D (fun q : Nat => s.heap.size ≤ q) (tw_X cA h0 a0 k lo FX ++ tw_M cA2 cB h1 a1 b1 k FM g) → va_S (fun q : Nat => s.heap.size ≤ q) s.heap H locs → lv_has ls 4 [(0, .ref b), (1, .ref h0), (2, .ref h1), (3, .int (nI i))] → W p l e room_1 s m #[Value.ref b] below meth c H locs 5 2071 (lw_Z below #[Value.ref b] s) (F0 m 18 ls []) := by
  obtain ⟨hx, hb, hr, hml, hown, hts0, hX, hbl, hlocks, hgv⟩ := C0
  have hA : ∀ q : Nat, s.heap.size ≤ q → (fun q : Nat => s.heap.size ≤ q) q := fun _ h => h
  have hbA : ¬ (fun q : Nat => s.heap.size ≤ q) b := Nat.not_le.mpr hbl
  have hts : ∀ w ∈ wsL_law, w.before #[Value.ref b] s = true := fun w h => hts0 w (wsL_law_in w h)
  have hown : s.vm.findClass RL = some m.cls := hown
  have hKX : va_K D vwCl (tw_tX cA) s := hK.sub [0] rfl
  have hKM : va_K D vwCl (tw_tM cA2 cB) s := hK.sub [1, 2] rfl
  intro n
  induction n with
  | zero =>
    intro i h1 h2
    exact absurd h2 (by omega)
  | succ n ih =>
    intro i hi hin k lo FX FM g hR ls H locs hP hD hS hl
    have hk : k ≤ 14 := hR.2.1
    refine lv_iload_n hx hb dL_law_18 rfl (lv_at hl 3 rfl) ?_
    refine lv_aload_n hx hb dL_law_19 rfl (lv_at hl 0 rfl) ?_
    refine va_slen hx hb hX hbl hbA hS dL_law_20 ?_
    refine lv_bipush (v := 6) hx hb dL_law_21 (by decide) ?_
    refine lv_isub hx hb dL_law_23 ?_
    refine lv_icmp_gt (tgt := 512) hx hb dL_law_24 (by decide) (fun c_24 => ?_) (fun c_24 => ?_)
    · refine lv_iconst (v := 1) hx hb dL_law_512 (by decide) ?_
      refine va_forget (fun q hq => hS.2.2 q hq) ?_
      exact lw_ret hx hb hr hlocks dL_law_513
    have hi6 : i + 6 ≤ L := tw_ge6 hL hi c_24
    have back : ∀ (k : Nat) (lo : Int32) (FX FM : Nat → BitVec 8) (g : Nat → Bool), tw_R k lo FX FM g → ∀ (ls : Array Slot) (H : Heap) (locs : List Loc), va_P D vwCl (tw_X cA h0 a0 k lo FX ++ tw_M cA2 cB h1 a1 b1 k FM g) H → va_D (fun q : Nat => s.heap.size ≤ q) (tw_X cA h0 a0 k lo FX ++ tw_M cA2 cB h1 a1 b1 k FM g) → va_S (fun q : Nat => s.heap.size ≤ q) s.heap H locs → lv_has ls 4 [(0, .ref b), (1, .ref h0), (2, .ref h1), (3, .int (nI i))] → W p l e room_1 s m #[Value.ref b] below meth c H locs 5 2071 (lw_Z below #[Value.ref b] s) (F0 m 506 ls []) := by
      intro k lo FX FM g hR ls H locs hP hD hS hl
      refine lv_iinc (v := nI (i + 6)) (lv' := [(3, .int (nI (i + 6))), (0, .ref b), (1, .ref h0), (2, .ref h1)]) hx hb dL_law_506 hl (k := 3) rfl (nI_add i 6) (by decide) rfl (fun ls hl => ?_)
      refine lv_goto (tgt := 18) hx hb dL_law_509 (by decide) ?_
      exact ih (i + 6) (by omega) (by omega) k lo FX FM g hR ls H locs hP hD hS (lv_sub hl [1, 2, 3, 0] rfl)
    refine lv_aload_n hx hb dL_law_27 rfl (lv_at hl 0 rfl) ?_
    refine lv_iload_n hx hb dL_law_28 rfl (lv_at hl 3 rfl) ?_
    refine tw_sl hx hb hX hbl hbA hS (n := i) rfl (by omega) (by omega) dL_law_29 ?_
    refine lv_bipush (v := 15) hx hb dL_law_30 (by decide) ?_
    refine lv_iand hx hb dL_law_32 ?_
    obtain ⟨j, hj, ej⟩ := pk_andE (xs i) (m := 15) 4 (by decide)
    refine tw_topr (x' := nI j) ej ?_
    have hj16 : j < 16 := hj
    rcases (show j = 0 ∨ j = 1 ∨ j = 2 ∨ j = 3 ∨ j = 4 ∨ j = 5 ∨ j = 6 ∨ j = 7 ∨ j = 8 ∨ j = 9 ∨ j = 10 ∨ j = 11 ∨ j = 12 ∨ 13 ≤ j by omega) with rfl | rfl | rfl | rfl | rfl | rfl | rfl | rfl | rfl | rfl | rfl | rfl | rfl | hj13
    · refine lv_tableIn (tgt := 100) (off := 67) hx hb dL_law_33 (by decide) (by decide) (by decide) (by decide) ?_
      obtain ⟨rr, k2, lo2, FX2, FM2, g2, e1, e2, hR2⟩ := tr_begin hR (xs (i + 1))
      refine lv_aload_n hx hb dL_law_100 rfl (lv_at hl 1 rfl) ?_
      refine lv_aload_n hx hb dL_law_101 rfl (lv_at hl 0 rfl) ?_
      refine lv_iload_n hx hb dL_law_102 rfl (lv_at hl 3 rfl) ?_
      refine lv_iconst (v := 1) hx hb dL_law_103 (by decide) ?_
      refine lv_iadd hx hb dL_law_104 ?_
      refine tw_topr (x' := nI (i + 1)) (nI_add i 1) ?_
      refine tw_sl hx hb hX hbl hbA hS (n := i + 1) rfl (by omega) (by omega) dL_law_105 ?_
      refine tw_wi (wr := tw_M cA2 cB h1 a1 b1 k FM g) (ci := 0) (q := (RX0, TX0, 3)) ⟨hx, hb, hml, hown, hts⟩ hKX hP hD hS hA [0, 1] [2, 3, 4] rfl rfl rfl rfl (by decide) (hP.sub [0, 1] rfl) rfl rfl (c_X0_begin l D cA h0 a0 k lo FX _ (xs (i + 1)) hk) (cwV 1 hts gL_law_X0_begin rfl rfl rfl kdX0_begin ⟨Nat.le_of_ble_eq_true rfl, Nat.le_of_ble_eq_true rfl⟩) rfl hl.1 rfl (Nat.le_of_ble_eq_true rfl) dL_law_106 ⟨Nat.le_of_ble_eq_true rfl, Nat.le_of_ble_eq_true rfl⟩ (fun r1 u1 H locs hr1 hP hD hS => ?_)
      have hq1 := (Prod.mk.inj (hr1.trans e1)).1
      have hq2 := (Prod.mk.inj (hr1.trans e1)).2
      subst hq2
      refine lv_aload_n hx hb dL_law_109 rfl (lv_at hl 2 rfl) ?_
      refine lv_aload_n hx hb dL_law_110 rfl (lv_at hl 0 rfl) ?_
      refine lv_iload_n hx hb dL_law_111 rfl (lv_at hl 3 rfl) ?_
      refine lv_iconst (v := 1) hx hb dL_law_112 (by decide) ?_
      refine lv_iadd hx hb dL_law_113 ?_
      refine tw_topr (x' := nI (i + 1)) (nI_add i 1) ?_
      refine tw_sl hx hb hX hbl hbA hS (n := i + 1) rfl (by omega) (by omega) dL_law_114 ?_
      refine tw_wi (wr := tw_X cA h0 a0 k2 lo2 FX2) (ci := 1) (q := (RX1, TX1, 4)) ⟨hx, hb, hml, hown, hts⟩ hKM hP hD hS hA [0, 1, 2] [3, 4] rfl rfl rfl rfl (by decide) (hP.sub [0, 1, 2] rfl) rfl rfl (c_X1_begin l D cA2 cB h1 a1 b1 k FM g _ (xs (i + 1)) ) (cwV 1 hts gL_law_X1_begin rfl rfl rfl kdX1_begin ⟨Nat.le_of_ble_eq_true rfl, Nat.le_of_ble_eq_true rfl⟩) rfl hl.1 rfl (Nat.le_of_ble_eq_true rfl) dL_law_115 ⟨Nat.le_of_ble_eq_true rfl, Nat.le_of_ble_eq_true rfl⟩ (fun r2 u2 H locs hr2 hP hD hS => ?_)
      have h3 := (Prod.mk.inj (hr2.trans e2)).1
      have h4 := (Prod.mk.inj (hr2.trans e2)).2
      subst h4
      have hP : va_P D vwCl (tw_X cA h0 a0 k2 lo2 FX2 ++ tw_M cA2 cB h1 a1 b1 k2 FM2 g2) H := hP
      have hD : va_D (fun q : Nat => s.heap.size ≤ q) (tw_X cA h0 a0 k2 lo2 FX2 ++ tw_M cA2 cB h1 a1 b1 k2 FM2 g2) := hD
      refine lv_icmp_eq (tgt := 506) hx hb dL_law_118 (by decide) (fun c9 => ?_) (fun c9 => ?_)
      · exact back k2 lo2 FX2 FM2 g2 hR2 ls H locs hP hD hS hl
      · exact absurd (hq1.trans h3.symm) c9
    · refine lv_tableIn (tgt := 123) (off := 90) hx hb dL_law_33 (by decide) (by decide) (by decide) (by decide) ?_
      obtain ⟨v, hv⟩ : ∃ v : Int64, v = (Int32.toInt64 (xs (i + 4)) <<< (Int32.toInt64 32 &&& 63)) ||| (Int32.toInt64 (xs (i + 5)) &&& 4294967295) := ⟨_, rfl⟩
      obtain ⟨rr, FX2, FM2, e1, e2, hR2⟩ := tr_put hR (xs (i + 1)) (xs (i + 2)) (xs (i + 3)) v
      refine lv_aload_n hx hb dL_law_123 rfl (lv_at hl 1 rfl) ?_
      refine lv_aload_n hx hb dL_law_124 rfl (lv_at hl 0 rfl) ?_
      refine lv_iload_n hx hb dL_law_125 rfl (lv_at hl 3 rfl) ?_
      refine lv_iconst (v := 1) hx hb dL_law_126 (by decide) ?_
      refine lv_iadd hx hb dL_law_127 ?_
      refine tw_topr (x' := nI (i + 1)) (nI_add i 1) ?_
      refine tw_sl hx hb hX hbl hbA hS (n := i + 1) rfl (by omega) (by omega) dL_law_128 ?_
      refine lv_aload_n hx hb dL_law_129 rfl (lv_at hl 0 rfl) ?_
      refine lv_iload_n hx hb dL_law_130 rfl (lv_at hl 3 rfl) ?_
      refine lv_iconst (v := 2) hx hb dL_law_131 (by decide) ?_
      refine lv_iadd hx hb dL_law_132 ?_
      refine tw_topr (x' := nI (i + 2)) (nI_add i 2) ?_
      refine tw_sl hx hb hX hbl hbA hS (n := i + 2) rfl (by omega) (by omega) dL_law_133 ?_
      refine lv_aload_n hx hb dL_law_134 rfl (lv_at hl 0 rfl) ?_
      refine lv_iload_n hx hb dL_law_135 rfl (lv_at hl 3 rfl) ?_
      refine lv_iconst (v := 3) hx hb dL_law_136 (by decide) ?_
      refine lv_iadd hx hb dL_law_137 ?_
      refine tw_topr (x' := nI (i + 3)) (nI_add i 3) ?_
      refine tw_sl hx hb hX hbl hbA hS (n := i + 3) rfl (by omega) (by omega) dL_law_138 ?_
      refine lv_aload_n hx hb dL_law_139 rfl (lv_at hl 0 rfl) ?_
      refine lv_iload_n hx hb dL_law_140 rfl (lv_at hl 3 rfl) ?_
      refine lv_iconst (v := 4) hx hb dL_law_141 (by decide) ?_
      refine lv_iadd hx hb dL_law_142 ?_
      refine tw_topr (x' := nI (i + 4)) (nI_add i 4) ?_
      refine tw_sl hx hb hX hbl hbA hS (n := i + 4) rfl (by omega) (by omega) dL_law_143 ?_
      refine lv_i2l hx hb dL_law_144 rfl ?_
      refine lv_bipush (v := 32) hx hb dL_law_145 (by decide) ?_
      refine lv_lshl hx hb dL_law_147 rfl ?_
      refine lv_aload_n hx hb dL_law_148 rfl (lv_at hl 0 rfl) ?_
      refine lv_iload_n hx hb dL_law_149 rfl (lv_at hl 3 rfl) ?_
      refine lv_iconst (v := 5) hx hb dL_law_150 (by decide) ?_
      refine lv_iadd hx hb dL_law_151 ?_
      refine tw_topr (x' := nI (i + 5)) (nI_add i 5) ?_
      refine tw_sl hx hb hX hbl hbA hS (n := i + 5) rfl (by omega) (by omega) dL_law_152 ?_
      refine lv_i2l hx hb dL_law_153 rfl ?_
      refine lv_ldc2 (v := 4294967295) hx hb hown (hts _ fL_law_18) dL_law_154 ?_
      refine lv_land hx hb dL_law_157 ?_
      refine lv_lor hx hb dL_law_158 ?_
      refine tw_toprl (x' := v) hv.symm ?_
      refine tw_wi (wr := tw_M cA2 cB h1 a1 b1 k FM g) (ci := 0) (q := (RX0, TX0, 3)) ⟨hx, hb, hml, hown, hts⟩ hKX hP hD hS hA [0, 1] [2, 3, 4] rfl rfl rfl rfl (by decide) (hP.sub [0, 1] rfl) rfl rfl (c_X0_put l D cA h0 a0 k lo FX _ (xs (i + 1)) (xs (i + 2)) (xs (i + 3)) v hk) (cwV 4 hts gL_law_X0_put rfl rfl rfl kdX0_put ⟨Nat.le_of_ble_eq_true rfl, Nat.le_of_ble_eq_true rfl⟩) rfl hl.1 rfl (Nat.le_of_ble_eq_true rfl) dL_law_159 ⟨Nat.le_of_ble_eq_true rfl, Nat.le_of_ble_eq_true rfl⟩ (fun r1 u1 H locs hr1 hP hD hS => ?_)
      have hq1 := (Prod.mk.inj (hr1.trans e1)).1
      have hq2 := (Prod.mk.inj (hr1.trans e1)).2
      subst hq2
      refine lv_aload_n hx hb dL_law_162 rfl (lv_at hl 2 rfl) ?_
      refine lv_aload_n hx hb dL_law_163 rfl (lv_at hl 0 rfl) ?_
      refine lv_iload_n hx hb dL_law_164 rfl (lv_at hl 3 rfl) ?_
      refine lv_iconst (v := 1) hx hb dL_law_165 (by decide) ?_
      refine lv_iadd hx hb dL_law_166 ?_
      refine tw_topr (x' := nI (i + 1)) (nI_add i 1) ?_
      refine tw_sl hx hb hX hbl hbA hS (n := i + 1) rfl (by omega) (by omega) dL_law_167 ?_
      refine lv_aload_n hx hb dL_law_168 rfl (lv_at hl 0 rfl) ?_
      refine lv_iload_n hx hb dL_law_169 rfl (lv_at hl 3 rfl) ?_
      refine lv_iconst (v := 2) hx hb dL_law_170 (by decide) ?_
      refine lv_iadd hx hb dL_law_171 ?_
      refine tw_topr (x' := nI (i + 2)) (nI_add i 2) ?_
      refine tw_sl hx hb hX hbl hbA hS (n := i + 2) rfl (by omega) (by omega) dL_law_172 ?_
      refine lv_aload_n hx hb dL_law_173 rfl (lv_at hl 0 rfl) ?_
      refine lv_iload_n hx hb dL_law_174 rfl (lv_at hl 3 rfl) ?_
      refine lv_iconst (v := 3) hx hb dL_law_175 (by decide) ?_
      refine lv_iadd hx hb dL_law_176 ?_
      refine tw_topr (x' := nI (i + 3)) (nI_add i 3) ?_
      refine tw_sl hx hb hX hbl hbA hS (n := i + 3) rfl (by omega) (by omega) dL_law_177 ?_
      refine lv_aload_n hx hb dL_law_178 rfl (lv_at hl 0 rfl) ?_
      refine lv_iload_n hx hb dL_law_179 rfl (lv_at hl 3 rfl) ?_
      refine lv_iconst (v := 4) hx hb dL_law_180 (by decide) ?_
      refine lv_iadd hx hb dL_law_181 ?_
      refine tw_topr (x' := nI (i + 4)) (nI_add i 4) ?_
      refine tw_sl hx hb hX hbl hbA hS (n := i + 4) rfl (by omega) (by omega) dL_law_182 ?_
      refine lv_i2l hx hb dL_law_183 rfl ?_
      refine lv_bipush (v := 32) hx hb dL_law_184 (by decide) ?_
      refine lv_lshl hx hb dL_law_186 rfl ?_
      refine lv_aload_n hx hb dL_law_187 rfl (lv_at hl 0 rfl) ?_
      refine lv_iload_n hx hb dL_law_188 rfl (lv_at hl 3 rfl) ?_
      refine lv_iconst (v := 5) hx hb dL_law_189 (by decide) ?_
      refine lv_iadd hx hb dL_law_190 ?_
      refine tw_topr (x' := nI (i + 5)) (nI_add i 5) ?_
      refine tw_sl hx hb hX hbl hbA hS (n := i + 5) rfl (by omega) (by omega) dL_law_191 ?_
      refine lv_i2l hx hb dL_law_192 rfl ?_
      refine lv_ldc2 (v := 4294967295) hx hb hown (hts _ fL_law_18) dL_law_193 ?_
      refine lv_land hx hb dL_law_196 ?_
      refine lv_lor hx hb dL_law_197 ?_
      refine tw_toprl (x' := v) hv.symm ?_
      refine tw_wi (wr := tw_X cA h0 a0 k lo FX2) (ci := 1) (q := (RX1, TX1, 4)) ⟨hx, hb, hml, hown, hts⟩ hKM hP hD hS hA [0, 1, 2] [3, 4] rfl rfl rfl rfl (by decide) (hP.sub [0, 1, 2] rfl) rfl rfl (c_X1_put l D cA2 cB h1 a1 b1 k FM g _ (xs (i + 1)) (xs (i + 2)) (xs (i + 3)) v hk) (cwV 4 hts gL_law_X1_put rfl rfl rfl kdX1_put ⟨Nat.le_of_ble_eq_true rfl, Nat.le_of_ble_eq_true rfl⟩) rfl hl.1 rfl (Nat.le_of_ble_eq_true rfl) dL_law_198 ⟨Nat.le_of_ble_eq_true rfl, Nat.le_of_ble_eq_true rfl⟩ (fun r2 u2 H locs hr2 hP hD hS => ?_)
      have h3 := (Prod.mk.inj (hr2.trans e2)).1
      have h4 := (Prod.mk.inj (hr2.trans e2)).2
      subst h4
      have hP : va_P D vwCl (tw_X cA h0 a0 k lo FX2 ++ tw_M cA2 cB h1 a1 b1 k FM2 g) H := hP
      have hD : va_D (fun q : Nat => s.heap.size ≤ q) (tw_X cA h0 a0 k lo FX2 ++ tw_M cA2 cB h1 a1 b1 k FM2 g) := hD
      refine lv_icmp_eq (tgt := 506) hx hb dL_law_201 (by decide) (fun c9 => ?_) (fun c9 => ?_)
      · exact back k lo FX2 FM2 g hR2 ls H locs hP hD hS hl
      · exact absurd (hq1.trans h3.symm) c9
    · refine lv_tableIn (tgt := 206) (off := 173) hx hb dL_law_33 (by decide) (by decide) (by decide) (by decide) ?_
      obtain ⟨rr, FX2, FM2, e1, e2, hR2⟩ := tr_spoil hR (xs (i + 1)) (xs (i + 2)) (xs (i + 3)) (xs (i + 4))
      refine lv_aload_n hx hb dL_law_206 rfl (lv_at hl 1 rfl) ?_
      refine lv_aload_n hx hb dL_law_207 rfl (lv_at hl 0 rfl) ?_
      refine lv_iload_n hx hb dL_law_208 rfl (lv_at hl 3 rfl) ?_
      refine lv_iconst (v := 1) hx hb dL_law_209 (by decide) ?_
      refine lv_iadd hx hb dL_law_210 ?_
      refine tw_topr (x' := nI (i + 1)) (nI_add i 1) ?_
      refine tw_sl hx hb hX hbl hbA hS (n := i + 1) rfl (by omega) (by omega) dL_law_211 ?_
      refine lv_aload_n hx hb dL_law_212 rfl (lv_at hl 0 rfl) ?_
      refine lv_iload_n hx hb dL_law_213 rfl (lv_at hl 3 rfl) ?_
      refine lv_iconst (v := 2) hx hb dL_law_214 (by decide) ?_
      refine lv_iadd hx hb dL_law_215 ?_
      refine tw_topr (x' := nI (i + 2)) (nI_add i 2) ?_
      refine tw_sl hx hb hX hbl hbA hS (n := i + 2) rfl (by omega) (by omega) dL_law_216 ?_
      refine lv_aload_n hx hb dL_law_217 rfl (lv_at hl 0 rfl) ?_
      refine lv_iload_n hx hb dL_law_218 rfl (lv_at hl 3 rfl) ?_
      refine lv_iconst (v := 3) hx hb dL_law_219 (by decide) ?_
      refine lv_iadd hx hb dL_law_220 ?_
      refine tw_topr (x' := nI (i + 3)) (nI_add i 3) ?_
      refine tw_sl hx hb hX hbl hbA hS (n := i + 3) rfl (by omega) (by omega) dL_law_221 ?_
      refine lv_aload_n hx hb dL_law_222 rfl (lv_at hl 0 rfl) ?_
      refine lv_iload_n hx hb dL_law_223 rfl (lv_at hl 3 rfl) ?_
      refine lv_iconst (v := 4) hx hb dL_law_224 (by decide) ?_
      refine lv_iadd hx hb dL_law_225 ?_
      refine tw_topr (x' := nI (i + 4)) (nI_add i 4) ?_
      refine tw_sl hx hb hX hbl hbA hS (n := i + 4) rfl (by omega) (by omega) dL_law_226 ?_
      refine tw_wi (wr := tw_M cA2 cB h1 a1 b1 k FM g) (ci := 0) (q := (RX0, TX0, 3)) ⟨hx, hb, hml, hown, hts⟩ hKX hP hD hS hA [0, 1] [2, 3, 4] rfl rfl rfl rfl (by decide) (hP.sub [0, 1] rfl) rfl rfl (c_X0_spoil l D cA h0 a0 k lo FX _ (xs (i + 1)) (xs (i + 2)) (xs (i + 3)) (xs (i + 4)) hk) (cwV 4 hts gL_law_X0_spoil rfl rfl rfl kdX0_spoil ⟨Nat.le_of_ble_eq_true rfl, Nat.le_of_ble_eq_true rfl⟩) rfl hl.1 rfl (Nat.le_of_ble_eq_true rfl) dL_law_227 ⟨Nat.le_of_ble_eq_true rfl, Nat.le_of_ble_eq_true rfl⟩ (fun r1 u1 H locs hr1 hP hD hS => ?_)
      have hq1 := (Prod.mk.inj (hr1.trans e1)).1
      have hq2 := (Prod.mk.inj (hr1.trans e1)).2
      subst hq2
      refine lv_aload_n hx hb dL_law_230 rfl (lv_at hl 2 rfl) ?_
      refine lv_aload_n hx hb dL_law_231 rfl (lv_at hl 0 rfl) ?_
      refine lv_iload_n hx hb dL_law_232 rfl (lv_at hl 3 rfl) ?_
      refine lv_iconst (v := 1) hx hb dL_law_233 (by decide) ?_
      refine lv_iadd hx hb dL_law_234 ?_
      refine tw_topr (x' := nI (i + 1)) (nI_add i 1) ?_
      refine tw_sl hx hb hX hbl hbA hS (n := i + 1) rfl (by omega) (by omega) dL_law_235 ?_
      refine lv_aload_n hx hb dL_law_236 rfl (lv_at hl 0 rfl) ?_
      refine lv_iload_n hx hb dL_law_237 rfl (lv_at hl 3 rfl) ?_
      refine lv_iconst (v := 2) hx hb dL_law_238 (by decide) ?_
      refine lv_iadd hx hb dL_law_239 ?_
      refine tw_topr (x' := nI (i + 2)) (nI_add i 2) ?_
      refine tw_sl hx hb hX hbl hbA hS (n := i + 2) rfl (by omega) (by omega) dL_law_240 ?_
      refine lv_aload_n hx hb dL_law_241 rfl (lv_at hl 0 rfl) ?_
      refine lv_iload_n hx hb dL_law_242 rfl (lv_at hl 3 rfl) ?_
      refine lv_iconst (v := 3) hx hb dL_law_243 (by decide) ?_
      refine lv_iadd hx hb dL_law_244 ?_
      refine tw_topr (x' := nI (i + 3)) (nI_add i 3) ?_
      refine tw_sl hx hb hX hbl hbA hS (n := i + 3) rfl (by omega) (by omega) dL_law_245 ?_
      refine lv_aload_n hx hb dL_law_246 rfl (lv_at hl 0 rfl) ?_
      refine lv_iload_n hx hb dL_law_247 rfl (lv_at hl 3 rfl) ?_
      refine lv_iconst (v := 4) hx hb dL_law_248 (by decide) ?_
      refine lv_iadd hx hb dL_law_249 ?_
      refine tw_topr (x' := nI (i + 4)) (nI_add i 4) ?_
      refine tw_sl hx hb hX hbl hbA hS (n := i + 4) rfl (by omega) (by omega) dL_law_250 ?_
      refine tw_wi (wr := tw_X cA h0 a0 k lo FX2) (ci := 1) (q := (RX1, TX1, 4)) ⟨hx, hb, hml, hown, hts⟩ hKM hP hD hS hA [0, 1, 2] [3, 4] rfl rfl rfl rfl (by decide) (hP.sub [0, 1, 2] rfl) rfl rfl (c_X1_spoil l D cA2 cB h1 a1 b1 k FM g _ (xs (i + 1)) (xs (i + 2)) (xs (i + 3)) (xs (i + 4)) hk) (cwV 4 hts gL_law_X1_spoil rfl rfl rfl kdX1_spoil ⟨Nat.le_of_ble_eq_true rfl, Nat.le_of_ble_eq_true rfl⟩) rfl hl.1 rfl (Nat.le_of_ble_eq_true rfl) dL_law_251 ⟨Nat.le_of_ble_eq_true rfl, Nat.le_of_ble_eq_true rfl⟩ (fun r2 u2 H locs hr2 hP hD hS => ?_)
      have h3 := (Prod.mk.inj (hr2.trans e2)).1
      have h4 := (Prod.mk.inj (hr2.trans e2)).2
      subst h4
      have hP : va_P D vwCl (tw_X cA h0 a0 k lo FX2 ++ tw_M cA2 cB h1 a1 b1 k FM2 g) H := hP
      have hD : va_D (fun q : Nat => s.heap.size ≤ q) (tw_X cA h0 a0 k lo FX2 ++ tw_M cA2 cB h1 a1 b1 k FM2 g) := hD
      refine lv_icmp_eq (tgt := 506) hx hb dL_law_254 (by decide) (fun c9 => ?_) (fun c9 => ?_)
      · exact back k lo FX2 FM2 g hR2 ls H locs hP hD hS hl
      · exact absurd (hq1.trans h3.symm) c9
    · refine lv_tableIn (tgt := 259) (off := 226) hx hb dL_law_33 (by decide) (by decide) (by decide) (by decide) ?_
      obtain ⟨rr, FX2, FM2, e1, e2, hR2⟩ := tr_make hR 
      refine lv_aload_n hx hb dL_law_259 rfl (lv_at hl 1 rfl) ?_
      refine tw_wi (wr := tw_M cA2 cB h1 a1 b1 k FM g) (ci := 0) (q := (RX0, TX0, 3)) ⟨hx, hb, hml, hown, hts⟩ hKX hP hD hS hA [0, 1] [2, 3, 4] rfl rfl rfl rfl (by decide) (hP.sub [0, 1] rfl) rfl rfl (c_X0_make l D cA h0 a0 k lo FX _  hk) (cwV 0 hts gL_law_X0_make rfl rfl rfl kdX0_make ⟨Nat.le_of_ble_eq_true rfl, Nat.le_of_ble_eq_true rfl⟩) rfl hl.1 rfl (Nat.le_of_ble_eq_true rfl) dL_law_260 ⟨Nat.le_of_ble_eq_true rfl, Nat.le_of_ble_eq_true rfl⟩ (fun r1 u1 H locs hr1 hP hD hS => ?_)
      have hq1 := (Prod.mk.inj (hr1.trans e1)).1
      have hq2 := (Prod.mk.inj (hr1.trans e1)).2
      subst hq2
      refine lv_aload_n hx hb dL_law_263 rfl (lv_at hl 2 rfl) ?_
      refine tw_wi (wr := tw_X cA h0 a0 k lo FX2) (ci := 1) (q := (RX1, TX1, 4)) ⟨hx, hb, hml, hown, hts⟩ hKM hP hD hS hA [0, 1, 2] [3, 4] rfl rfl rfl rfl (by decide) (hP.sub [0, 1, 2] rfl) rfl rfl (c_X1_make l D cA2 cB h1 a1 b1 k FM g _  hk) (cwV 0 hts gL_law_X1_make rfl rfl rfl kdX1_make ⟨Nat.le_of_ble_eq_true rfl, Nat.le_of_ble_eq_true rfl⟩) rfl hl.1 rfl (Nat.le_of_ble_eq_true rfl) dL_law_264 ⟨Nat.le_of_ble_eq_true rfl, Nat.le_of_ble_eq_true rfl⟩ (fun r2 u2 H locs hr2 hP hD hS => ?_)
      have h3 := (Prod.mk.inj (hr2.trans e2)).1
      have h4 := (Prod.mk.inj (hr2.trans e2)).2
      subst h4
      have hP : va_P D vwCl (tw_X cA h0 a0 k lo FX2 ++ tw_M cA2 cB h1 a1 b1 k FM2 g) H := hP
      have hD : va_D (fun q : Nat => s.heap.size ≤ q) (tw_X cA h0 a0 k lo FX2 ++ tw_M cA2 cB h1 a1 b1 k FM2 g) := hD
      refine lv_icmp_eq (tgt := 506) hx hb dL_law_267 (by decide) (fun c9 => ?_) (fun c9 => ?_)
      · exact back k lo FX2 FM2 g hR2 ls H locs hP hD hS hl
      · exact absurd (hq1.trans h3.symm) c9
    · refine lv_tableIn (tgt := 272) (off := 239) hx hb dL_law_33 (by decide) (by decide) (by decide) (by decide) ?_
      refine lv_aload_n hx hb dL_law_272 rfl (lv_at hl 1 rfl) ?_
      refine lv_aload_n hx hb dL_law_273 rfl (lv_at hl 0 rfl) ?_
      refine lv_iload_n hx hb dL_law_274 rfl (lv_at hl 3 rfl) ?_
      refine lv_iconst (v := 1) hx hb dL_law_275 (by decide) ?_
      refine lv_iadd hx hb dL_law_276 ?_
      refine tw_topr (x' := nI (i + 1)) (nI_add i 1) ?_
      refine tw_sl hx hb hX hbl hbA hS (n := i + 1) rfl (by omega) (by omega) dL_law_277 ?_
      refine lv_aload_n hx hb dL_law_278 rfl (lv_at hl 0 rfl) ?_
      refine lv_iload_n hx hb dL_law_279 rfl (lv_at hl 3 rfl) ?_
      refine lv_iconst (v := 2) hx hb dL_law_280 (by decide) ?_
      refine lv_iadd hx hb dL_law_281 ?_
      refine tw_topr (x' := nI (i + 2)) (nI_add i 2) ?_
      refine tw_sl hx hb hX hbl hbA hS (n := i + 2) rfl (by omega) (by omega) dL_law_282 ?_
      refine tw_rX ⟨hx, hb, hml, hown, hts⟩ hKX (hP.sub [0, 1] rfl) (c_X0_get l D cA h0 a0 k lo FX (xs (i + 1)) (xs (i + 2)) hk) (cwV 2 hts gL_law_X0_get rfl rfl rfl kdX0_get ⟨Nat.le_of_ble_eq_true rfl, Nat.le_of_ble_eq_true rfl⟩) rfl hl.1 rfl (Nat.le_of_ble_eq_true rfl) dL_law_283 ⟨Nat.le_of_ble_eq_true rfl, Nat.le_of_ble_eq_true rfl⟩ ?_
      refine lv_aload_n hx hb dL_law_286 rfl (lv_at hl 2 rfl) ?_
      refine lv_aload_n hx hb dL_law_287 rfl (lv_at hl 0 rfl) ?_
      refine lv_iload_n hx hb dL_law_288 rfl (lv_at hl 3 rfl) ?_
      refine lv_iconst (v := 1) hx hb dL_law_289 (by decide) ?_
      refine lv_iadd hx hb dL_law_290 ?_
      refine tw_topr (x' := nI (i + 1)) (nI_add i 1) ?_
      refine tw_sl hx hb hX hbl hbA hS (n := i + 1) rfl (by omega) (by omega) dL_law_291 ?_
      refine lv_aload_n hx hb dL_law_292 rfl (lv_at hl 0 rfl) ?_
      refine lv_iload_n hx hb dL_law_293 rfl (lv_at hl 3 rfl) ?_
      refine lv_iconst (v := 2) hx hb dL_law_294 (by decide) ?_
      refine lv_iadd hx hb dL_law_295 ?_
      refine tw_topr (x' := nI (i + 2)) (nI_add i 2) ?_
      refine tw_sl hx hb hX hbl hbA hS (n := i + 2) rfl (by omega) (by omega) dL_law_296 ?_
      refine tw_wi (wr := tw_X cA h0 a0 k lo FX) (ci := 1) (q := (RX1, TX1, 4)) ⟨hx, hb, hml, hown, hts⟩ hKM hP hD hS hA [2, 3, 4] [0, 1] rfl rfl rfl rfl (by decide) (hP.sub [2, 3, 4] rfl) rfl rfl (c_X1_get l D cA2 cB h1 a1 b1 k FM g _ (xs (i + 1)) (xs (i + 2)) hk) (cwV 2 hts gL_law_X1_get rfl rfl rfl kdX1_get ⟨Nat.le_of_ble_eq_true rfl, Nat.le_of_ble_eq_true rfl⟩) rfl hl.1 rfl (Nat.le_of_ble_eq_true rfl) dL_law_297 ⟨Nat.le_of_ble_eq_true rfl, Nat.le_of_ble_eq_true rfl⟩ (fun r2 u2 H locs hr2 hP hD hS => ?_)
      have h3 := (Prod.mk.inj hr2).1
      have h4 := (Prod.mk.inj hr2).2
      subst h4
      have hP : va_P D vwCl (tw_X cA h0 a0 k lo FX ++ tw_M cA2 cB h1 a1 b1 k FM g) H := hP
      have hD : va_D (fun q : Nat => s.heap.size ≤ q) (tw_X cA h0 a0 k lo FX ++ tw_M cA2 cB h1 a1 b1 k FM g) := hD
      refine lv_icmp_eq (tgt := 506) hx hb dL_law_300 (by decide) (fun c9 => ?_) (fun c9 => ?_)
      · exact back k lo FX FM g hR ls H locs hP hD hS hl
      · exact absurd (by rw [h3]; exact tr_get hR _ _) c9
    · refine lv_tableIn (tgt := 305) (off := 272) hx hb dL_law_33 (by decide) (by decide) (by decide) (by decide) ?_
      refine lv_aload_n hx hb dL_law_305 rfl (lv_at hl 1 rfl) ?_
      refine lv_aload_n hx hb dL_law_306 rfl (lv_at hl 0 rfl) ?_
      refine lv_iload_n hx hb dL_law_307 rfl (lv_at hl 3 rfl) ?_
      refine lv_iconst (v := 1) hx hb dL_law_308 (by decide) ?_
      refine lv_iadd hx hb dL_law_309 ?_
      refine tw_topr (x' := nI (i + 1)) (nI_add i 1) ?_
      refine tw_sl hx hb hX hbl hbA hS (n := i + 1) rfl (by omega) (by omega) dL_law_310 ?_
      refine lv_aload_n hx hb dL_law_311 rfl (lv_at hl 0 rfl) ?_
      refine lv_iload_n hx hb dL_law_312 rfl (lv_at hl 3 rfl) ?_
      refine lv_iconst (v := 2) hx hb dL_law_313 (by decide) ?_
      refine lv_iadd hx hb dL_law_314 ?_
      refine tw_topr (x' := nI (i + 2)) (nI_add i 2) ?_
      refine tw_sl hx hb hX hbl hbA hS (n := i + 2) rfl (by omega) (by omega) dL_law_315 ?_
      refine tw_rXl ⟨hx, hb, hml, hown, hts⟩ hKX (hP.sub [0, 1] rfl) (c_X0_word l D cA h0 a0 k lo FX (xs (i + 1)) (xs (i + 2)) hk) (cwV 2 hts gL_law_X0_word rfl rfl rfl kdX0_word ⟨Nat.le_of_ble_eq_true rfl, Nat.le_of_ble_eq_true rfl⟩) rfl hl.1 rfl (Nat.le_of_ble_eq_true rfl) dL_law_316 ⟨Nat.le_of_ble_eq_true rfl, Nat.le_of_ble_eq_true rfl⟩ ?_
      refine lv_aload_n hx hb dL_law_319 rfl (lv_at hl 2 rfl) ?_
      refine lv_aload_n hx hb dL_law_320 rfl (lv_at hl 0 rfl) ?_
      refine lv_iload_n hx hb dL_law_321 rfl (lv_at hl 3 rfl) ?_
      refine lv_iconst (v := 1) hx hb dL_law_322 (by decide) ?_
      refine lv_iadd hx hb dL_law_323 ?_
      refine tw_topr (x' := nI (i + 1)) (nI_add i 1) ?_
      refine tw_sl hx hb hX hbl hbA hS (n := i + 1) rfl (by omega) (by omega) dL_law_324 ?_
      refine lv_aload_n hx hb dL_law_325 rfl (lv_at hl 0 rfl) ?_
      refine lv_iload_n hx hb dL_law_326 rfl (lv_at hl 3 rfl) ?_
      refine lv_iconst (v := 2) hx hb dL_law_327 (by decide) ?_
      refine lv_iadd hx hb dL_law_328 ?_
      refine tw_topr (x' := nI (i + 2)) (nI_add i 2) ?_
      refine tw_sl hx hb hX hbl hbA hS (n := i + 2) rfl (by omega) (by omega) dL_law_329 ?_
      refine tw_wl (wr := tw_X cA h0 a0 k lo FX) (ci := 1) (q := (RX1, TX1, 4)) ⟨hx, hb, hml, hown, hts⟩ hKM hP hD hS hA [2, 3, 4] [0, 1] rfl rfl rfl rfl (by decide) (hP.sub [2, 3, 4] rfl) rfl rfl (c_X1_word l D cA2 cB h1 a1 b1 k FM g _ (xs (i + 1)) (xs (i + 2)) hk) (cwV 2 hts gL_law_X1_word rfl rfl rfl kdX1_word ⟨Nat.le_of_ble_eq_true rfl, Nat.le_of_ble_eq_true rfl⟩) rfl hl.1 rfl (Nat.le_of_ble_eq_true rfl) dL_law_330 ⟨Nat.le_of_ble_eq_true rfl, Nat.le_of_ble_eq_true rfl⟩ (fun r2 u2 H locs hr2 hP hD hS => ?_)
      have h3 := (Prod.mk.inj hr2).1
      have h4 := (Prod.mk.inj hr2).2
      subst h4
      have hP : va_P D vwCl (tw_X cA h0 a0 k lo FX ++ tw_M cA2 cB h1 a1 b1 k FM g) H := hP
      have hD : va_D (fun q : Nat => s.heap.size ≤ q) (tw_X cA h0 a0 k lo FX ++ tw_M cA2 cB h1 a1 b1 k FM g) := hD
      refine W.lcmp hx hb dL_law_333 ?_
      refine lv_if_eq (tgt := 506) hx hb dL_law_334 (by decide) (fun c9 => ?_) (fun c9 => ?_)
      · exact back k lo FX FM g hR ls H locs hP hD hS hl
      · exact absurd (by rw [h3, tr_word hR]; simp [lg_cmp]) c9
    · refine lv_tableIn (tgt := 339) (off := 306) hx hb dL_law_33 (by decide) (by decide) (by decide) (by decide) ?_
      obtain ⟨rr, lo2, g2, e1, e2, hR2⟩ := tr_lose hR (xs (i + 1))
      refine lv_aload_n hx hb dL_law_339 rfl (lv_at hl 1 rfl) ?_
      refine lv_aload_n hx hb dL_law_340 rfl (lv_at hl 0 rfl) ?_
      refine lv_iload_n hx hb dL_law_341 rfl (lv_at hl 3 rfl) ?_
      refine lv_iconst (v := 1) hx hb dL_law_342 (by decide) ?_
      refine lv_iadd hx hb dL_law_343 ?_
      refine tw_topr (x' := nI (i + 1)) (nI_add i 1) ?_
      refine tw_sl hx hb hX hbl hbA hS (n := i + 1) rfl (by omega) (by omega) dL_law_344 ?_
      refine tw_wi (wr := tw_M cA2 cB h1 a1 b1 k FM g) (ci := 0) (q := (RX0, TX0, 3)) ⟨hx, hb, hml, hown, hts⟩ hKX hP hD hS hA [0, 1] [2, 3, 4] rfl rfl rfl rfl (by decide) (hP.sub [0, 1] rfl) rfl rfl (c_X0_lose l D cA h0 a0 k lo FX _ (xs (i + 1)) hk) (cwV 1 hts gL_law_X0_lose rfl rfl rfl kdX0_lose ⟨Nat.le_of_ble_eq_true rfl, Nat.le_of_ble_eq_true rfl⟩) rfl hl.1 rfl (Nat.le_of_ble_eq_true rfl) dL_law_345 ⟨Nat.le_of_ble_eq_true rfl, Nat.le_of_ble_eq_true rfl⟩ (fun r1 u1 H locs hr1 hP hD hS => ?_)
      have hq1 := (Prod.mk.inj (hr1.trans e1)).1
      have hq2 := (Prod.mk.inj (hr1.trans e1)).2
      subst hq2
      refine lv_aload_n hx hb dL_law_348 rfl (lv_at hl 2 rfl) ?_
      refine lv_aload_n hx hb dL_law_349 rfl (lv_at hl 0 rfl) ?_
      refine lv_iload_n hx hb dL_law_350 rfl (lv_at hl 3 rfl) ?_
      refine lv_iconst (v := 1) hx hb dL_law_351 (by decide) ?_
      refine lv_iadd hx hb dL_law_352 ?_
      refine tw_topr (x' := nI (i + 1)) (nI_add i 1) ?_
      refine tw_sl hx hb hX hbl hbA hS (n := i + 1) rfl (by omega) (by omega) dL_law_353 ?_
      refine tw_wi (wr := tw_X cA h0 a0 k lo2 FX) (ci := 1) (q := (RX1, TX1, 4)) ⟨hx, hb, hml, hown, hts⟩ hKM hP hD hS hA [0, 1, 2] [3, 4] rfl rfl rfl rfl (by decide) (hP.sub [0, 1, 2] rfl) rfl rfl (c_X1_lose l D cA2 cB h1 a1 b1 k FM g _ (xs (i + 1)) hk) (cwV 1 hts gL_law_X1_lose rfl rfl rfl kdX1_lose ⟨Nat.le_of_ble_eq_true rfl, Nat.le_of_ble_eq_true rfl⟩) rfl hl.1 rfl (Nat.le_of_ble_eq_true rfl) dL_law_354 ⟨Nat.le_of_ble_eq_true rfl, Nat.le_of_ble_eq_true rfl⟩ (fun r2 u2 H locs hr2 hP hD hS => ?_)
      have h3 := (Prod.mk.inj (hr2.trans e2)).1
      have h4 := (Prod.mk.inj (hr2.trans e2)).2
      subst h4
      have hP : va_P D vwCl (tw_X cA h0 a0 k lo2 FX ++ tw_M cA2 cB h1 a1 b1 k FM g2) H := hP
      have hD : va_D (fun q : Nat => s.heap.size ≤ q) (tw_X cA h0 a0 k lo2 FX ++ tw_M cA2 cB h1 a1 b1 k FM g2) := hD
      refine lv_icmp_eq (tgt := 506) hx hb dL_law_357 (by decide) (fun c9 => ?_) (fun c9 => ?_)
      · exact back k lo2 FX FM g2 hR2 ls H locs hP hD hS hl
      · exact absurd (hq1.trans h3.symm) c9
    · refine lv_tableIn (tgt := 362) (off := 329) hx hb dL_law_33 (by decide) (by decide) (by decide) (by decide) ?_
      obtain ⟨rr, lo2, FX2, FM2, g2, e1, e2, hR2⟩ := tr_mend hR 
      refine lv_aload_n hx hb dL_law_362 rfl (lv_at hl 1 rfl) ?_
      refine tw_wi (wr := tw_M cA2 cB h1 a1 b1 k FM g) (ci := 0) (q := (RX0, TX0, 3)) ⟨hx, hb, hml, hown, hts⟩ hKX hP hD hS hA [0, 1] [2, 3, 4] rfl rfl rfl rfl (by decide) (hP.sub [0, 1] rfl) rfl rfl (c_X0_mend l D cA h0 a0 k lo FX _  hk) (cwV 0 hts gL_law_X0_mend rfl rfl rfl kdX0_mend ⟨Nat.le_of_ble_eq_true rfl, Nat.le_of_ble_eq_true rfl⟩) rfl hl.1 rfl (Nat.le_of_ble_eq_true rfl) dL_law_363 ⟨Nat.le_of_ble_eq_true rfl, Nat.le_of_ble_eq_true rfl⟩ (fun r1 u1 H locs hr1 hP hD hS => ?_)
      have hq1 := (Prod.mk.inj (hr1.trans e1)).1
      have hq2 := (Prod.mk.inj (hr1.trans e1)).2
      subst hq2
      refine lv_aload_n hx hb dL_law_366 rfl (lv_at hl 2 rfl) ?_
      refine tw_wi (wr := tw_X cA h0 a0 k lo2 FX2) (ci := 1) (q := (RX1, TX1, 4)) ⟨hx, hb, hml, hown, hts⟩ hKM hP hD hS hA [0, 1, 2] [3, 4] rfl rfl rfl rfl (by decide) (hP.sub [0, 1, 2] rfl) rfl rfl (c_X1_mend l D cA2 cB h1 a1 b1 k FM g _  hk hR.2.2.1.ok) (cwV 0 hts gL_law_X1_mend rfl rfl rfl kdX1_mend ⟨Nat.le_of_ble_eq_true rfl, Nat.le_of_ble_eq_true rfl⟩) rfl hl.1 rfl (Nat.le_of_ble_eq_true rfl) dL_law_367 ⟨Nat.le_of_ble_eq_true rfl, Nat.le_of_ble_eq_true rfl⟩ (fun r2 u2 H locs hr2 hP hD hS => ?_)
      have h3 := (Prod.mk.inj (hr2.trans e2)).1
      have h4 := (Prod.mk.inj (hr2.trans e2)).2
      subst h4
      have hP : va_P D vwCl (tw_X cA h0 a0 k lo2 FX2 ++ tw_M cA2 cB h1 a1 b1 k FM2 g2) H := hP
      have hD : va_D (fun q : Nat => s.heap.size ≤ q) (tw_X cA h0 a0 k lo2 FX2 ++ tw_M cA2 cB h1 a1 b1 k FM2 g2) := hD
      refine lv_icmp_eq (tgt := 506) hx hb dL_law_370 (by decide) (fun c9 => ?_) (fun c9 => ?_)
      · exact back k lo2 FX2 FM2 g2 hR2 ls H locs hP hD hS hl
      · exact absurd (hq1.trans h3.symm) c9
    · refine lv_tableIn (tgt := 375) (off := 342) hx hb dL_law_33 (by decide) (by decide) (by decide) (by decide) ?_
      refine lv_aload_n hx hb dL_law_375 rfl (lv_at hl 1 rfl) ?_
      refine tw_rX ⟨hx, hb, hml, hown, hts⟩ hKX (hP.sub [0, 1] rfl) (c_X0_check l D cA h0 a0 k lo FX  hk) (cwV 0 hts gL_law_X0_check rfl rfl rfl kdX0_check ⟨Nat.le_of_ble_eq_true rfl, Nat.le_of_ble_eq_true rfl⟩) rfl hl.1 rfl (Nat.le_of_ble_eq_true rfl) dL_law_376 ⟨Nat.le_of_ble_eq_true rfl, Nat.le_of_ble_eq_true rfl⟩ ?_
      refine lv_aload_n hx hb dL_law_379 rfl (lv_at hl 2 rfl) ?_
      refine tw_wi (wr := tw_X cA h0 a0 k lo FX) (ci := 1) (q := (RX1, TX1, 4)) ⟨hx, hb, hml, hown, hts⟩ hKM hP hD hS hA [2, 3, 4] [0, 1] rfl rfl rfl rfl (by decide) (hP.sub [2, 3, 4] rfl) rfl rfl (c_X1_check l D cA2 cB h1 a1 b1 k FM g _  hk) (cwV 0 hts gL_law_X1_check rfl rfl rfl kdX1_check ⟨Nat.le_of_ble_eq_true rfl, Nat.le_of_ble_eq_true rfl⟩) rfl hl.1 rfl (Nat.le_of_ble_eq_true rfl) dL_law_380 ⟨Nat.le_of_ble_eq_true rfl, Nat.le_of_ble_eq_true rfl⟩ (fun r2 u2 H locs hr2 hP hD hS => ?_)
      have h3 := (Prod.mk.inj hr2).1
      have h4 := (Prod.mk.inj hr2).2
      subst h4
      have hP : va_P D vwCl (tw_X cA h0 a0 k lo FX ++ tw_M cA2 cB h1 a1 b1 k FM g) H := hP
      have hD : va_D (fun q : Nat => s.heap.size ≤ q) (tw_X cA h0 a0 k lo FX ++ tw_M cA2 cB h1 a1 b1 k FM g) := hD
      refine lv_icmp_eq (tgt := 506) hx hb dL_law_383 (by decide) (fun c9 => ?_) (fun c9 => ?_)
      · exact back k lo FX FM g hR ls H locs hP hD hS hl
      · exact absurd (by rw [h3]; exact tr_check hR) c9
    · refine lv_tableIn (tgt := 388) (off := 355) hx hb dL_law_33 (by decide) (by decide) (by decide) (by decide) ?_
      obtain ⟨rr, FX2, FM2, g2, e1, e2, hR2⟩ := tr_fix hR 
      refine lv_aload_n hx hb dL_law_388 rfl (lv_at hl 1 rfl) ?_
      refine tw_wi (wr := tw_M cA2 cB h1 a1 b1 k FM g) (ci := 0) (q := (RX0, TX0, 3)) ⟨hx, hb, hml, hown, hts⟩ hKX hP hD hS hA [0, 1] [2, 3, 4] rfl rfl rfl rfl (by decide) (hP.sub [0, 1] rfl) rfl rfl (c_X0_fix l D cA h0 a0 k lo FX _  hk) (cwV 0 hts gL_law_X0_fix rfl rfl rfl kdX0_fix ⟨Nat.le_of_ble_eq_true rfl, Nat.le_of_ble_eq_true rfl⟩) rfl hl.1 rfl (Nat.le_of_ble_eq_true rfl) dL_law_389 ⟨Nat.le_of_ble_eq_true rfl, Nat.le_of_ble_eq_true rfl⟩ (fun r1 u1 H locs hr1 hP hD hS => ?_)
      have hq1 := (Prod.mk.inj (hr1.trans e1)).1
      have hq2 := (Prod.mk.inj (hr1.trans e1)).2
      subst hq2
      refine lv_aload_n hx hb dL_law_392 rfl (lv_at hl 2 rfl) ?_
      refine tw_wi (wr := tw_X cA h0 a0 k lo FX2) (ci := 1) (q := (RX1, TX1, 4)) ⟨hx, hb, hml, hown, hts⟩ hKM hP hD hS hA [0, 1, 2] [3, 4] rfl rfl rfl rfl (by decide) (hP.sub [0, 1, 2] rfl) rfl rfl (c_X1_fix l D cA2 cB h1 a1 b1 k FM g _  hk) (cwV 0 hts gL_law_X1_fix rfl rfl rfl kdX1_fix ⟨Nat.le_of_ble_eq_true rfl, Nat.le_of_ble_eq_true rfl⟩) rfl hl.1 rfl (Nat.le_of_ble_eq_true rfl) dL_law_393 ⟨Nat.le_of_ble_eq_true rfl, Nat.le_of_ble_eq_true rfl⟩ (fun r2 u2 H locs hr2 hP hD hS => ?_)
      have h3 := (Prod.mk.inj (hr2.trans e2)).1
      have h4 := (Prod.mk.inj (hr2.trans e2)).2
      subst h4
      have hP : va_P D vwCl (tw_X cA h0 a0 k lo FX2 ++ tw_M cA2 cB h1 a1 b1 k FM2 g2) H := hP
      have hD : va_D (fun q : Nat => s.heap.size ≤ q) (tw_X cA h0 a0 k lo FX2 ++ tw_M cA2 cB h1 a1 b1 k FM2 g2) := hD
      refine lv_icmp_eq (tgt := 506) hx hb dL_law_396 (by decide) (fun c9 => ?_) (fun c9 => ?_)
      · exact back k lo FX2 FM2 g2 hR2 ls H locs hP hD hS hl
      · exact absurd (hq1.trans h3.symm) c9
    · refine lv_tableIn (tgt := 401) (off := 368) hx hb dL_law_33 (by decide) (by decide) (by decide) (by decide) ?_
      refine lv_aload_n hx hb dL_law_401 rfl (lv_at hl 1 rfl) ?_
      refine lv_aload_n hx hb dL_law_402 rfl (lv_at hl 0 rfl) ?_
      refine lv_iload_n hx hb dL_law_403 rfl (lv_at hl 3 rfl) ?_
      refine lv_iconst (v := 1) hx hb dL_law_404 (by decide) ?_
      refine lv_iadd hx hb dL_law_405 ?_
      refine tw_topr (x' := nI (i + 1)) (nI_add i 1) ?_
      refine tw_sl hx hb hX hbl hbA hS (n := i + 1) rfl (by omega) (by omega) dL_law_406 ?_
      refine tw_rX ⟨hx, hb, hml, hown, hts⟩ hKX (hP.sub [0, 1] rfl) (c_X0_count l D cA h0 a0 k lo FX (xs (i + 1)) hk) (cwV 1 hts gL_law_X0_count rfl rfl rfl kdX0_count ⟨Nat.le_of_ble_eq_true rfl, Nat.le_of_ble_eq_true rfl⟩) rfl hl.1 rfl (Nat.le_of_ble_eq_true rfl) dL_law_407 ⟨Nat.le_of_ble_eq_true rfl, Nat.le_of_ble_eq_true rfl⟩ ?_
      refine lv_aload_n hx hb dL_law_410 rfl (lv_at hl 2 rfl) ?_
      refine lv_aload_n hx hb dL_law_411 rfl (lv_at hl 0 rfl) ?_
      refine lv_iload_n hx hb dL_law_412 rfl (lv_at hl 3 rfl) ?_
      refine lv_iconst (v := 1) hx hb dL_law_413 (by decide) ?_
      refine lv_iadd hx hb dL_law_414 ?_
      refine tw_topr (x' := nI (i + 1)) (nI_add i 1) ?_
      refine tw_sl hx hb hX hbl hbA hS (n := i + 1) rfl (by omega) (by omega) dL_law_415 ?_
      refine tw_wi (wr := tw_X cA h0 a0 k lo FX) (ci := 1) (q := (RX1, TX1, 4)) ⟨hx, hb, hml, hown, hts⟩ hKM hP hD hS hA [2, 3, 4] [0, 1] rfl rfl rfl rfl (by decide) (hP.sub [2, 3, 4] rfl) rfl rfl (c_X1_count l D cA2 cB h1 a1 b1 k FM g _ (xs (i + 1)) hk) (cwV 1 hts gL_law_X1_count rfl rfl rfl kdX1_count ⟨Nat.le_of_ble_eq_true rfl, Nat.le_of_ble_eq_true rfl⟩) rfl hl.1 rfl (Nat.le_of_ble_eq_true rfl) dL_law_416 ⟨Nat.le_of_ble_eq_true rfl, Nat.le_of_ble_eq_true rfl⟩ (fun r2 u2 H locs hr2 hP hD hS => ?_)
      have h3 := (Prod.mk.inj hr2).1
      have h4 := (Prod.mk.inj hr2).2
      subst h4
      have hP : va_P D vwCl (tw_X cA h0 a0 k lo FX ++ tw_M cA2 cB h1 a1 b1 k FM g) H := hP
      have hD : va_D (fun q : Nat => s.heap.size ≤ q) (tw_X cA h0 a0 k lo FX ++ tw_M cA2 cB h1 a1 b1 k FM g) := hD
      refine lv_icmp_eq (tgt := 506) hx hb dL_law_419 (by decide) (fun c9 => ?_) (fun c9 => ?_)
      · exact back k lo FX FM g hR ls H locs hP hD hS hl
      · exact absurd (by rw [h3]; exact tr_cnt hR _) c9
    · refine lv_tableIn (tgt := 424) (off := 391) hx hb dL_law_33 (by decide) (by decide) (by decide) (by decide) ?_
      refine lv_aload_n hx hb dL_law_424 rfl (lv_at hl 1 rfl) ?_
      refine lv_aload_n hx hb dL_law_425 rfl (lv_at hl 0 rfl) ?_
      refine lv_iload_n hx hb dL_law_426 rfl (lv_at hl 3 rfl) ?_
      refine lv_iconst (v := 1) hx hb dL_law_427 (by decide) ?_
      refine lv_iadd hx hb dL_law_428 ?_
      refine tw_topr (x' := nI (i + 1)) (nI_add i 1) ?_
      refine tw_sl hx hb hX hbl hbA hS (n := i + 1) rfl (by omega) (by omega) dL_law_429 ?_
      refine lv_aload_n hx hb dL_law_430 rfl (lv_at hl 0 rfl) ?_
      refine lv_iload_n hx hb dL_law_431 rfl (lv_at hl 3 rfl) ?_
      refine lv_iconst (v := 2) hx hb dL_law_432 (by decide) ?_
      refine lv_iadd hx hb dL_law_433 ?_
      refine tw_topr (x' := nI (i + 2)) (nI_add i 2) ?_
      refine tw_sl hx hb hX hbl hbA hS (n := i + 2) rfl (by omega) (by omega) dL_law_434 ?_
      refine lv_aload_n hx hb dL_law_435 rfl (lv_at hl 0 rfl) ?_
      refine lv_iload_n hx hb dL_law_436 rfl (lv_at hl 3 rfl) ?_
      refine lv_iconst (v := 3) hx hb dL_law_437 (by decide) ?_
      refine lv_iadd hx hb dL_law_438 ?_
      refine tw_topr (x' := nI (i + 3)) (nI_add i 3) ?_
      refine tw_sl hx hb hX hbl hbA hS (n := i + 3) rfl (by omega) (by omega) dL_law_439 ?_
      refine lv_if_eq (tgt := 447) hx hb dL_law_440 (by decide) (fun c_440 => ?_) (fun c_440 => ?_)
      · refine lv_iconst (v := 0) hx hb dL_law_447 (by decide) ?_
        refine tw_rX ⟨hx, hb, hml, hown, hts⟩ hKX (hP.sub [0, 1] rfl) (c_X0_product l D cA h0 a0 k lo FX (xs (i + 1)) (xs (i + 2)) 0) (cwV 3 hts gL_law_X0_product rfl rfl rfl kdX0_product ⟨Nat.le_of_ble_eq_true rfl, Nat.le_of_ble_eq_true rfl⟩) rfl hl.1 rfl (Nat.le_of_ble_eq_true rfl) dL_law_448 ⟨Nat.le_of_ble_eq_true rfl, Nat.le_of_ble_eq_true rfl⟩ ?_
        refine lv_aload_n hx hb dL_law_451 rfl (lv_at hl 2 rfl) ?_
        refine lv_aload_n hx hb dL_law_452 rfl (lv_at hl 0 rfl) ?_
        refine lv_iload_n hx hb dL_law_453 rfl (lv_at hl 3 rfl) ?_
        refine lv_iconst (v := 1) hx hb dL_law_454 (by decide) ?_
        refine lv_iadd hx hb dL_law_455 ?_
        refine tw_topr (x' := nI (i + 1)) (nI_add i 1) ?_
        refine tw_sl hx hb hX hbl hbA hS (n := i + 1) rfl (by omega) (by omega) dL_law_456 ?_
        refine lv_aload_n hx hb dL_law_457 rfl (lv_at hl 0 rfl) ?_
        refine lv_iload_n hx hb dL_law_458 rfl (lv_at hl 3 rfl) ?_
        refine lv_iconst (v := 2) hx hb dL_law_459 (by decide) ?_
        refine lv_iadd hx hb dL_law_460 ?_
        refine tw_topr (x' := nI (i + 2)) (nI_add i 2) ?_
        refine tw_sl hx hb hX hbl hbA hS (n := i + 2) rfl (by omega) (by omega) dL_law_461 ?_
        refine lv_aload_n hx hb dL_law_462 rfl (lv_at hl 0 rfl) ?_
        refine lv_iload_n hx hb dL_law_463 rfl (lv_at hl 3 rfl) ?_
        refine lv_iconst (v := 3) hx hb dL_law_464 (by decide) ?_
        refine lv_iadd hx hb dL_law_465 ?_
        refine tw_topr (x' := nI (i + 3)) (nI_add i 3) ?_
        refine tw_sl hx hb hX hbl hbA hS (n := i + 3) rfl (by omega) (by omega) dL_law_466 ?_
        refine lv_if_eq (tgt := 474) hx hb dL_law_467 (by decide) (fun c_467 => ?_) (fun c_467 => ?_)
        · refine lv_iconst (v := 0) hx hb dL_law_474 (by decide) ?_
          refine tw_wi (wr := tw_X cA h0 a0 k lo FX) (ci := 1) (q := (RX1, TX1, 4)) ⟨hx, hb, hml, hown, hts⟩ hKM hP hD hS hA [2, 3, 4] [0, 1] rfl rfl rfl rfl (by decide) (hP.sub [2, 3, 4] rfl) rfl rfl (c_X1_product l D cA2 cB h1 a1 b1 k FM g _ (xs (i + 1)) (xs (i + 2)) 0) (cwV 3 hts gL_law_X1_product rfl rfl rfl kdX1_product ⟨Nat.le_of_ble_eq_true rfl, Nat.le_of_ble_eq_true rfl⟩) rfl hl.1 rfl (Nat.le_of_ble_eq_true rfl) dL_law_475 ⟨Nat.le_of_ble_eq_true rfl, Nat.le_of_ble_eq_true rfl⟩ (fun r2 u2 H locs hr2 hP hD hS => ?_)
          have h3 := (Prod.mk.inj hr2).1
          have h4 := (Prod.mk.inj hr2).2
          subst h4
          have hP : va_P D vwCl (tw_X cA h0 a0 k lo FX ++ tw_M cA2 cB h1 a1 b1 k FM g) H := hP
          have hD : va_D (fun q : Nat => s.heap.size ≤ q) (tw_X cA h0 a0 k lo FX ++ tw_M cA2 cB h1 a1 b1 k FM g) := hD
          refine lv_icmp_eq (tgt := 506) hx hb dL_law_478 (by decide) (fun c9 => ?_) (fun c9 => ?_)
          · exact back k lo FX FM g hR ls H locs hP hD hS hl
          · exact absurd h3.symm c9
        · exact absurd c_440 c_467
      · refine lv_iconst (v := 1) hx hb dL_law_443 (by decide) ?_
        refine lv_goto (tgt := 448) hx hb dL_law_444 (by decide) ?_
        refine tw_rX ⟨hx, hb, hml, hown, hts⟩ hKX (hP.sub [0, 1] rfl) (c_X0_product l D cA h0 a0 k lo FX (xs (i + 1)) (xs (i + 2)) 1) (cwV 3 hts gL_law_X0_product rfl rfl rfl kdX0_product ⟨Nat.le_of_ble_eq_true rfl, Nat.le_of_ble_eq_true rfl⟩) rfl hl.1 rfl (Nat.le_of_ble_eq_true rfl) dL_law_448 ⟨Nat.le_of_ble_eq_true rfl, Nat.le_of_ble_eq_true rfl⟩ ?_
        refine lv_aload_n hx hb dL_law_451 rfl (lv_at hl 2 rfl) ?_
        refine lv_aload_n hx hb dL_law_452 rfl (lv_at hl 0 rfl) ?_
        refine lv_iload_n hx hb dL_law_453 rfl (lv_at hl 3 rfl) ?_
        refine lv_iconst (v := 1) hx hb dL_law_454 (by decide) ?_
        refine lv_iadd hx hb dL_law_455 ?_
        refine tw_topr (x' := nI (i + 1)) (nI_add i 1) ?_
        refine tw_sl hx hb hX hbl hbA hS (n := i + 1) rfl (by omega) (by omega) dL_law_456 ?_
        refine lv_aload_n hx hb dL_law_457 rfl (lv_at hl 0 rfl) ?_
        refine lv_iload_n hx hb dL_law_458 rfl (lv_at hl 3 rfl) ?_
        refine lv_iconst (v := 2) hx hb dL_law_459 (by decide) ?_
        refine lv_iadd hx hb dL_law_460 ?_
        refine tw_topr (x' := nI (i + 2)) (nI_add i 2) ?_
        refine tw_sl hx hb hX hbl hbA hS (n := i + 2) rfl (by omega) (by omega) dL_law_461 ?_
        refine lv_aload_n hx hb dL_law_462 rfl (lv_at hl 0 rfl) ?_
        refine lv_iload_n hx hb dL_law_463 rfl (lv_at hl 3 rfl) ?_
        refine lv_iconst (v := 3) hx hb dL_law_464 (by decide) ?_
        refine lv_iadd hx hb dL_law_465 ?_
        refine tw_topr (x' := nI (i + 3)) (nI_add i 3) ?_
        refine tw_sl hx hb hX hbl hbA hS (n := i + 3) rfl (by omega) (by omega) dL_law_466 ?_
        refine lv_if_eq (tgt := 474) hx hb dL_law_467 (by decide) (fun c_467 => ?_) (fun c_467 => ?_)
        · exact absurd c_467 c_440
        · refine lv_iconst (v := 1) hx hb dL_law_470 (by decide) ?_
          refine lv_goto (tgt := 475) hx hb dL_law_471 (by decide) ?_
          refine tw_wi (wr := tw_X cA h0 a0 k lo FX) (ci := 1) (q := (RX1, TX1, 4)) ⟨hx, hb, hml, hown, hts⟩ hKM hP hD hS hA [2, 3, 4] [0, 1] rfl rfl rfl rfl (by decide) (hP.sub [2, 3, 4] rfl) rfl rfl (c_X1_product l D cA2 cB h1 a1 b1 k FM g _ (xs (i + 1)) (xs (i + 2)) 1) (cwV 3 hts gL_law_X1_product rfl rfl rfl kdX1_product ⟨Nat.le_of_ble_eq_true rfl, Nat.le_of_ble_eq_true rfl⟩) rfl hl.1 rfl (Nat.le_of_ble_eq_true rfl) dL_law_475 ⟨Nat.le_of_ble_eq_true rfl, Nat.le_of_ble_eq_true rfl⟩ (fun r2 u2 H locs hr2 hP hD hS => ?_)
          have h3 := (Prod.mk.inj hr2).1
          have h4 := (Prod.mk.inj hr2).2
          subst h4
          have hP : va_P D vwCl (tw_X cA h0 a0 k lo FX ++ tw_M cA2 cB h1 a1 b1 k FM g) H := hP
          have hD : va_D (fun q : Nat => s.heap.size ≤ q) (tw_X cA h0 a0 k lo FX ++ tw_M cA2 cB h1 a1 b1 k FM g) := hD
          refine lv_icmp_eq (tgt := 506) hx hb dL_law_478 (by decide) (fun c9 => ?_) (fun c9 => ?_)
          · exact back k lo FX FM g hR ls H locs hP hD hS hl
          · exact absurd h3.symm c9
    · refine lv_tableIn (tgt := 483) (off := 450) hx hb dL_law_33 (by decide) (by decide) (by decide) (by decide) ?_
      refine lv_aload_n hx hb dL_law_483 rfl (lv_at hl 1 rfl) ?_
      refine lv_aload_n hx hb dL_law_484 rfl (lv_at hl 0 rfl) ?_
      refine lv_iload_n hx hb dL_law_485 rfl (lv_at hl 3 rfl) ?_
      refine lv_iconst (v := 1) hx hb dL_law_486 (by decide) ?_
      refine lv_iadd hx hb dL_law_487 ?_
      refine tw_topr (x' := nI (i + 1)) (nI_add i 1) ?_
      refine tw_sl hx hb hX hbl hbA hS (n := i + 1) rfl (by omega) (by omega) dL_law_488 ?_
      refine tw_rX ⟨hx, hb, hml, hown, hts⟩ hKX (hP.sub [0, 1] rfl) (c_X0_power l D cA h0 a0 k lo FX (xs (i + 1)) ) (cwV 1 hts gL_law_X0_power rfl rfl rfl kdX0_power ⟨Nat.le_of_ble_eq_true rfl, Nat.le_of_ble_eq_true rfl⟩) rfl hl.1 rfl (Nat.le_of_ble_eq_true rfl) dL_law_489 ⟨Nat.le_of_ble_eq_true rfl, Nat.le_of_ble_eq_true rfl⟩ ?_
      refine lv_aload_n hx hb dL_law_492 rfl (lv_at hl 2 rfl) ?_
      refine lv_aload_n hx hb dL_law_493 rfl (lv_at hl 0 rfl) ?_
      refine lv_iload_n hx hb dL_law_494 rfl (lv_at hl 3 rfl) ?_
      refine lv_iconst (v := 1) hx hb dL_law_495 (by decide) ?_
      refine lv_iadd hx hb dL_law_496 ?_
      refine tw_topr (x' := nI (i + 1)) (nI_add i 1) ?_
      refine tw_sl hx hb hX hbl hbA hS (n := i + 1) rfl (by omega) (by omega) dL_law_497 ?_
      refine tw_wi (wr := tw_X cA h0 a0 k lo FX) (ci := 1) (q := (RX1, TX1, 4)) ⟨hx, hb, hml, hown, hts⟩ hKM hP hD hS hA [2, 3, 4] [0, 1] rfl rfl rfl rfl (by decide) (hP.sub [2, 3, 4] rfl) rfl rfl (c_X1_power l D cA2 cB h1 a1 b1 k FM g _ (xs (i + 1)) ) (cwV 1 hts gL_law_X1_power rfl rfl rfl kdX1_power ⟨Nat.le_of_ble_eq_true rfl, Nat.le_of_ble_eq_true rfl⟩) rfl hl.1 rfl (Nat.le_of_ble_eq_true rfl) dL_law_498 ⟨Nat.le_of_ble_eq_true rfl, Nat.le_of_ble_eq_true rfl⟩ (fun r2 u2 H locs hr2 hP hD hS => ?_)
      have h3 := (Prod.mk.inj hr2).1
      have h4 := (Prod.mk.inj hr2).2
      subst h4
      have hP : va_P D vwCl (tw_X cA h0 a0 k lo FX ++ tw_M cA2 cB h1 a1 b1 k FM g) H := hP
      have hD : va_D (fun q : Nat => s.heap.size ≤ q) (tw_X cA h0 a0 k lo FX ++ tw_M cA2 cB h1 a1 b1 k FM g) := hD
      refine lv_icmp_eq (tgt := 506) hx hb dL_law_501 (by decide) (fun c9 => ?_) (fun c9 => ?_)
      · exact back k lo FX FM g hR ls H locs hP hD hS hl
      · exact absurd (by rw [h3]) c9
    · refine lv_tableOut (tgt := 506) hx hb dL_law_33 (by rw [nI_toInt (by omega)]; omega) (by decide) ?_
      exact back k lo FX FM g hR ls H locs hP hD hS hl
set_option maxHeartbeats 4000000 in
set_option maxRecDepth 100000 in
/-- THE LAW, from its entry -/
theorem whole_start {p : Program} {e : Env} {s : State} {m : MethodId} {below : List Frame} {meth : Method} {c : Code} (l : Launch) (hflags : l.flags = flags0) {b L : Nat} {xs : Nat → Int32} (hL : L ≤ 3072) (C0 : lw_At p s m meth c b L xs) : W p l e room_1 s m #[Value.ref b] below meth c s.heap [] 0 0 (lw_Z below #[Value.ref b] s) (entryFrame m ([Value.ref b] : List Value).toArray 4) := by
  obtain ⟨hx, hb, hr, hml, hown, hts0, hX, hbl, hlocks, hgv⟩ := id C0
  have hA : ∀ q : Nat, s.heap.size ≤ q → (fun q : Nat => s.heap.size ≤ q) q := fun _ h => h
  have hts : ∀ w ∈ wsL_law, w.before #[Value.ref b] s = true := fun w h => hts0 w (wsL_law_in w h)
  have hown : s.vm.findClass RL = some m.cls := hown
  have wi0 := hts (.instantiable RX0 3) (List.mem_of_getElem? (i := 1) rfl)
  have wi1 := hts (.instantiable RX1 4) (List.mem_of_getElem? (i := 4) rfl)
  have wn0 := hts (.initialized RX0) (List.mem_of_getElem? (i := 2) rfl)
  have wn1 := hts (.initialized RX1) (List.mem_of_getElem? (i := 5) rfl)
  obtain ⟨c0, iS0, hKn0⟩ := u_known (C := RX0) (T := TX0) (N := 3) (n := 3) hts inlX0 wi0
  obtain ⟨c1, iS1, hKn1⟩ := u_known (C := RX1) (T := TX1) (N := 4) (n := 4) hts inlX1 wi1
  obtain ⟨dC, dI, hKc⟩ : ∃ (dC : Nat → ClassId) (dI : Nat → Nat → Nat), ∀ (k : Nat) (q : vw_C), vwCl[k]? = some q → u_Kn s q.1 q.2.1 q.2.2 (dC k) (dI k) := by
    refine ⟨fun k => if k = 0 then c0 else c1, fun k => if k = 0 then iS0 else iS1, ?_⟩
    intro k q hq
    match k, hq with
    | 0, hq => cases hq; exact hKn0
    | 1, hq => cases hq; exact hKn1
    | k + 2, hq => simp [vwCl] at hq
  have hS : va_S (fun q : Nat => s.heap.size ≤ q) s.heap s.heap [] := va_S.rf
  have hK : va_K (dC, dI) vwCl [] s := ⟨hKc, fun k q h => by simp at h⟩
  have hP : va_P (dC, dI) vwCl [] s.heap := fun k q h => by simp at h
  have hD : va_D (fun q : Nat => s.heap.size ≤ q) [] := ⟨fun i j p q h => by simp at h, fun k q h => by simp at h⟩
  have hl := lv_entry ([.ref b]) (n := 4) (Nat.le_of_ble_eq_true rfl)
  rw [lg_entry_eq]
  generalize (lg_sl ([.ref b]) ++ List.replicate (4 - (lg_sl ([.ref b])).length) Slot.unset).toArray = ls at hl ⊢
  have hl : lv_has ls 4 [(0, .ref b)] := hl
  refine va_new (ci := 0) (fs := [.null, .int 0, .int 0]) (C := RX0) (T := TX0) (N := 3) hx hb hts inlX0 tyX0 tyX0_ok hown (hts (.classLink RL 7 RX0) (List.mem_of_getElem? (i := 0) rfl)) wi0 wn0 hK hP hD hS hA rfl (fun j hj => by rcases (show j = 0 ∨ j = 1 ∨ j = 2 by omega) with rfl | rfl | rfl <;> rfl) (Nat.le_of_ble_eq_true rfl) (Nat.le_of_ble_eq_true rfl) dL_law_0 (fun q0 H hP hD hS => ?_)
  have hP : va_P (dC, dI) vwCl [(q0, .inr (0, [.null, .int 0, .int 0]))] H := hP
  have hD : va_D (fun q : Nat => s.heap.size ≤ q) [(q0, .inr (0, [.null, .int 0, .int 0]))] := hD
  refine W.widen (k := 1) (n := 3) (Nat.le_of_ble_eq_true rfl) (Nat.le_of_ble_eq_true rfl) ?_
  refine lv_dup hx hb dL_law_3 rfl ?_
  have hFc := va_free (wc := [(q0, .inr (0, [.null, .int 0, .int 0]))]) hD hS hA [0] rfl
  refine va_callv (va_runI (As := []) (rest := [.ref q0]) ⟨hx, hb, hml, hown, hts⟩ (c_X0_init l (dC, dI) q0 H.size) (cwI 0 hts gL_law_X0_init rfl rfl rfl wn0 (hts (.methodLink RL 9 yX0_init) (List.mem_of_getElem? (i := 7) rfl)) (hts (.instanceMethod yX0_init) (List.mem_of_getElem? (i := 8) rfl)) rfl kdX0_init.2 ⟨Nat.le_of_ble_eq_true rfl, Nat.le_of_ble_eq_true rfl⟩) ⟨tw_blindw, fun U hU hW => ⟨rfl, by rw [hU], ⟨by rw [hU]; exact hP, va_K.moved hW.alike hK⟩, hD.weaken (fun _ _ _ _ => trivial)⟩⟩ rfl rfl hl.1 rfl (lv_room (Nat.le_of_ble_eq_true rfl)) dL_law_4 ⟨Nat.le_of_ble_eq_true rfl, Nat.le_of_ble_eq_true rfl⟩) hS (fun q _ h => hFc q h) hFc (fun u t H1 locs ht hvm hw hB hz1 hk1 hS => ?_)
  obtain ⟨cA, a0⟩ := u
  obtain ⟨⟨hP1, hK1⟩, hD1⟩ := hB
  rw [ht] at hP1
  have hK1 := va_K.moved hvm.symm hK1
  obtain ⟨hP, hD⟩ := va_join (wr := []) (w1 := tw_X cA q0 a0 4 0 (fun _ => 0#8)) hP hD [0] [] rfl rfl (by decide) (by decide) hk1 hFc hP1 hD1
  generalize H1 = H at hP hS ⊢
  have hP : va_P (dC, dI) vwCl (tw_X cA q0 a0 4 0 (fun _ => 0#8)) H := hP
  have hD : va_D (fun q : Nat => s.heap.size ≤ q) (tw_X cA q0 a0 4 0 (fun _ => 0#8)) := hD
  have hK : va_K (dC, dI) vwCl (tw_tX cA) s := hK1
  refine W.widen (k := 2) (n := 1027) (Nat.le_of_ble_eq_true rfl) (Nat.le_of_ble_eq_true rfl) ?_
  refine lv_astore_n (lv' := [(1, .ref q0), (0, .ref b)]) hx hb dL_law_7 rfl hl (by decide) rfl (fun ls hl => ?_)
  refine va_new (ci := 1) (fs := [.int 0, .int 0, .null, .null]) (C := RX1) (T := TX1) (N := 4) hx hb hts inlX1 tyX1 tyX1_ok hown (hts (.classLink RL 10 RX1) (List.mem_of_getElem? (i := 3) rfl)) wi1 wn1 hK hP hD hS hA rfl (fun j hj => by rcases (show j = 0 ∨ j = 1 ∨ j = 2 ∨ j = 3 by omega) with rfl | rfl | rfl | rfl <;> rfl) (Nat.le_of_ble_eq_true rfl) (Nat.le_of_ble_eq_true rfl) dL_law_8 (fun q1 H hP hD hS => ?_)
  have hP : va_P (dC, dI) vwCl (tw_X cA q0 a0 4 0 (fun _ => 0#8) ++ [(q1, .inr (1, [.int 0, .int 0, .null, .null]))]) H := hP
  have hD : va_D (fun q : Nat => s.heap.size ≤ q) (tw_X cA q0 a0 4 0 (fun _ => 0#8) ++ [(q1, .inr (1, [.int 0, .int 0, .null, .null]))]) := hD
  refine W.widen (k := 3) (n := 1031) (Nat.le_of_ble_eq_true rfl) (Nat.le_of_ble_eq_true rfl) ?_
  refine lv_dup hx hb dL_law_11 rfl ?_
  have hFc := va_free (wc := [(q1, .inr (1, [.int 0, .int 0, .null, .null]))]) hD hS hA [2] rfl
  have hPc : va_P (dC, dI) vwCl [(q1, .inr (1, [.int 0, .int 0, .null, .null]))] H := hP.sub [2] rfl
  have hDc : va_D (fun q : Nat => s.heap.size ≤ q) [(q1, .inr (1, [.int 0, .int 0, .null, .null]))] := hD.sub [2] rfl rfl
  refine va_callv (va_runI (As := []) (rest := [.ref q1]) ⟨hx, hb, hml, hown, hts⟩ (c_X1_init l (dC, dI) q1 H.size) (cwI 0 hts gL_law_X1_init rfl rfl rfl wn1 (hts (.methodLink RL 12 yX1_init) (List.mem_of_getElem? (i := 17) rfl)) (hts (.instanceMethod yX1_init) (List.mem_of_getElem? (i := 18) rfl)) rfl kdX1_init.2 ⟨Nat.le_of_ble_eq_true rfl, Nat.le_of_ble_eq_true rfl⟩) ⟨tw_blindw, fun U hU hW => ⟨rfl, by rw [hU], ⟨by rw [hU]; exact hPc, va_K.moved hW.alike (hK.sub [] rfl)⟩, hDc.weaken (fun _ _ _ _ => trivial)⟩⟩ rfl rfl hl.1 rfl (lv_room (Nat.le_of_ble_eq_true rfl)) dL_law_12 ⟨Nat.le_of_ble_eq_true rfl, Nat.le_of_ble_eq_true rfl⟩) hS (fun q _ h => hFc q h) hFc (fun u t H1 locs ht hvm hw hB hz1 hk1 hS => ?_)
  obtain ⟨cA2, cB, a1, b1⟩ := u
  obtain ⟨⟨hP1, hK1⟩, hD1⟩ := hB
  rw [ht] at hP1
  have hK1 := va_K.moved hvm.symm hK1
  obtain ⟨hP, hD⟩ := va_join (wr := tw_X cA q0 a0 4 0 (fun _ => 0#8)) (w1 := tw_M cA2 cB q1 a1 b1 4 (tw_fl (fun _ => 0#8) 1024) (tw_gl (fun _ => false) 16)) hP hD [2] [0, 1] rfl rfl (by decide) (by decide) hk1 hFc hP1 hD1
  generalize H1 = H at hP hS ⊢
  have hP : va_P (dC, dI) vwCl (tw_X cA q0 a0 4 0 (fun _ => 0#8) ++ tw_M cA2 cB q1 a1 b1 4 (tw_fl (fun _ => 0#8) 1024) (tw_gl (fun _ => false) 16)) H := hP
  have hD : va_D (fun q : Nat => s.heap.size ≤ q) (tw_X cA q0 a0 4 0 (fun _ => 0#8) ++ tw_M cA2 cB q1 a1 b1 4 (tw_fl (fun _ => 0#8) 1024) (tw_gl (fun _ => false) 16)) := hD
  have hK : va_K (dC, dI) vwCl [(cA, .int), (cA2, .int), (cB, .boolean)] s := hK.app hK1
  refine W.widen (k := 5) (n := 2071) (Nat.le_of_ble_eq_true rfl) (Nat.le_of_ble_eq_true rfl) ?_
  refine lv_astore_n (lv' := [(2, .ref q1), (1, .ref q0), (0, .ref b)]) hx hb dL_law_15 rfl hl (by decide) rfl (fun ls hl => ?_)
  refine lv_iconst (v := 0) hx hb dL_law_16 (by decide) ?_
  refine lv_istore_n (lv' := [(3, .int 0), (2, .ref q1), (1, .ref q0), (0, .ref b)]) hx hb dL_law_17 rfl hl (by decide) rfl (fun ls hl => ?_)
  have hR : tw_R 4 0 (fun _ => 0#8) (tw_fl (fun _ => 0#8) 1024) (tw_gl (fun _ => false) 16) := ⟨by decide, by decide, tw_L.zero (fun u hu => by rw [tw_gl, if_pos (by omega)]), fun u i hu hi _ => by rw [tw_fl, if_pos (by omega)]⟩
  exact law_loop hL C0 hK (L + 1) 0 (Nat.zero_le L) (by omega) 4 0 _ _ _ hR ls H _ hP hD hS (lv_sub hl [3, 2, 1, 0] rfl)
