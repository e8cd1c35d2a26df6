section TWS
variable {p : Program} {l : Launch} {e : Env} {R : Room} {s : State} {m : MethodId} {args : Array Value} {below : List Frame} {meth : Method} {c : Code} {H H0 : Heap} {locs : List Loc} {cells slots : Nat} {Q : State → Prop}
variable {pc : Nat} {ls : Array Slot} {rest st0 : List Value} {A : Nat → Prop}
variable {y : MethodName} {bytes cc : ByteArray} {maxL nL n index : Nat} {ret : Option FieldType} {ws : List Cond} {rm : Room} {Ts : List Cond} {own : String} {As : List Value} {D : va_G} {w0 wsA : va_W} {tys tysA : List (ClassId × FieldType)} {h0 : Nat}
theorem tw_wsv {w1 : va_W} {wr : va_W} (S : CallFix p m c cc nL s args Ts own) (hK : va_K D vwCl tys s) (hP : va_P D vwCl wsA H) (hD : va_D A wsA) (hS : va_S A H0 H locs) (hA : ∀ q, H0.size ≤ q → A q)
    (isC isR : List Nat) (hC : isC.map (fun i => wsA[i]?) = w0.map some) (hR : isR.map (fun i => wsA[i]?) = wr.map some) (hnC : va_nd isC = true) (hnR : va_nd isR = true) (hdis : ∀ i ∈ isR, i ∉ isC) (hPc : va_P D vwCl w0 H)
    (hM : Met l y ws rm (va_Pc As (tw_Pw D w0 tys H.size)) (va_Qv (fun _ : Unit => True) (tw_Qw D (fun _ : Unit => w1) tys (va_A w0 H.size)) (va_A w0 H.size)) 0 0 (va_A w0 H.size)) (cw : CallB R s args own index y bytes maxL ret ws rm 0 0 n ∧ (Cond.static y).before args s = true)
    (hn : As.length = n) (hsize : ls.size = nL) (hst : st0 = As.reverse ++ rest) (hW : (rest.map fun v => v.category).sum ≤ 8) (hdg : decode cc pc = .ok (.invokestatic index, 3)) (hf : cells ≤ R.cells ∧ slots ≤ R.slots)
    (kk : ∀ (H1 : Heap) (locs1 : List Loc), va_P D vwCl (wr ++ w1) H1 → va_D A (wr ++ w1) → va_S A H0 H1 locs1 → W p l e R s m args below meth c H1 locs1 cells slots Q (F0 m (pc + 3) ls rest)) : W p l e R s m args below meth c H locs cells slots Q (F0 m pc ls st0) := by
  have hDc : va_D A w0 := hD.sub isC hnC hC
  have hFc := va_free (wc := w0) hD hS hA isC hC
  refine va_callv (va_runS S hM cw ⟨tw_blindw, fun U hU hW => ⟨rfl, by rw [hU], ⟨by rw [hU]; exact hPc, va_K.moved hW.alike hK⟩, hDc.weaken (fun _ _ _ _ => trivial)⟩⟩ rfl hn hsize hst (lv_room hW) hdg hf) hS (fun q _ h => hFc q h) hFc (fun u t H1 locs1 ht hvm hw hB hz1 hk1 hS => ?_)
  obtain ⟨⟨hP1, hK1⟩, hD1⟩ := hB
  rw [ht] at hP1
  obtain ⟨hP, hD⟩ := va_join (wr := wr) (w1 := w1) hP hD isC isR hC hR hnR hdis hk1 hFc hP1 hD1
  exact kk H1 locs1 hP hD hS
end TWS
abbrev tw_Ar (cA : ClassId) (a0 : Nat) (F : Nat → BitVec 8) : va_W := [(a0, .inl (cA, 1024, .inl (fun j => tq_eb (F j))))]
abbrev rmJ7_fill_53178 : Room := { frames := 0, cells := 0, slots := 0, locals := 0 }
theorem kdJ7_fill_53178 : yJ7_fill_53178.cls ≠ "java/lang/invoke/MethodHandle" ∧ yJ7_fill_53178.cls ≠ "java/lang/invoke/VarHandle" ∧ (parseMethodDescriptor yJ7_fill_53178.desc).map (fun d => d.parameters.length) = some 2 := by decide +kernel
set_option maxHeartbeats 4000000 in
set_option maxRecDepth 100000 in
theorem c_J7_fill_53178 (l : Launch) (D : va_G) (cA : ClassId) (a0 : Nat) (F : Nat → BitVec 8) (sz : Nat) : Met l yJ7_fill_53178 wsJ7_fill_53178 rmJ7_fill_53178 (va_Pc [.ref a0, .int 0] (tw_Pw D (tw_Ar cA a0 F) (tw_tX cA) sz)) (va_Qv (fun _ : Unit => True) (tw_Qw D (fun _ : Unit => tw_Ar cA a0 (tw_fl F 1024)) (tw_tX cA) (va_A (tw_Ar cA a0 F) sz)) (va_A (tw_Ar cA a0 F) sz)) 0 0 (va_A (tw_Ar cA a0 F) sz) := by
  refine tw_metV (by decide) rfl rfl (Nat.le_of_ble_eq_true rfl) ?_
  intro p e s m args below meth c Q ls A hx hb hml hown hts hP hK hD hS hA hend hl
  have hl : lv_has ls 4 [(0, .ref a0), (1, .int 0)] := hl
  have hP : va_P D vwCl (tw_Ar cA a0 (tw_fl F 0)) s.heap := by rw [tw_fl_0]; exact hP
  have hD : va_D A (tw_Ar cA a0 (tw_fl F 0)) := by rw [tw_fl_0]; exact hD
  have loop : ∀ (n j : Nat) (ls : Array Slot) (H : Heap) (locs : List Loc), j + n = 1024 → va_P D vwCl (tw_Ar cA a0 (tw_fl F j)) H → va_D A (tw_Ar cA a0 (tw_fl F j)) → va_S A s.heap H locs → lv_has ls 4 [(0, .ref a0), (1, .int 0), (2, .int (nI j)), (3, .int (nI 1024))] → W p l e rmJ7_fill_53178 s m args below meth c H locs 0 0 Q (F0 m 5 ls []) := by
    intro n
    induction n with
    | zero =>
      intro j ls H locs hj hP hD hS hl
      refine lv_iload_n hx hb dJ7_fill_53178_5 rfl (lv_at hl 2 rfl) ?_
      refine lv_iload_n hx hb dJ7_fill_53178_6 rfl (lv_at hl 3 rfl) ?_
      refine lv_icmp_ge (tgt := 20) hx hb dJ7_fill_53178_7 (by decide) (fun c_7 => ?_) (fun c_7 => ?_)
      · rw [show j = 1024 by omega] at hP hD
        exact hend _ _ _ _ dJ7_fill_53178_20 hP hD hS
      · exact absurd (nI_le (by omega) (by omega)) c_7
    | succ n ih =>
      intro j ls H locs hj hP hD hS hl
      refine lv_iload_n hx hb dJ7_fill_53178_5 rfl (lv_at hl 2 rfl) ?_
      refine lv_iload_n hx hb dJ7_fill_53178_6 rfl (lv_at hl 3 rfl) ?_
      refine lv_icmp_ge (tgt := 20) hx hb dJ7_fill_53178_7 (by decide) (fun c_7 => ?_) (fun c_7 => ?_)
      · exact absurd c_7 (nI_ge (by omega) (by omega))
      · refine lv_aload_n hx hb dJ7_fill_53178_10 rfl (lv_at hl 0 rfl) ?_
        refine lv_iload_n hx hb dJ7_fill_53178_11 rfl (lv_at hl 2 rfl) ?_
        refine lv_iload_n hx hb dJ7_fill_53178_12 rfl (lv_at hl 1 rfl) ?_
        refine tw_st hx hb hK hP hD hS 0 0 rfl rfl (n := j) (v := 0#8) rfl rfl (by omega) (by decide) dJ7_fill_53178_13 (fun H locs hP hD hS => ?_)
        have hP : va_P D vwCl (tw_Ar cA a0 (va_up (tw_fl F j) j 0#8)) H := hP
        have hD : va_D A (tw_Ar cA a0 (va_up (tw_fl F j) j 0#8)) := hD
        rw [tw_fl_s] at hP hD
        refine lv_iinc (v := nI (j + 1)) (lv' := [(2, .int (nI (j + 1))), (0, .ref a0), (1, .int 0), (3, .int (nI 1024))]) hx hb dJ7_fill_53178_14 hl (k := 2) rfl (nI_1 j) (by decide) rfl (fun ls hl => ?_)
        refine lv_goto (tgt := 5) hx hb dJ7_fill_53178_17 (by decide) ?_
        exact ih (j + 1) ls H locs (by omega) hP hD hS (lv_sub hl [1, 2, 0, 3] rfl)
  refine lv_iconst (v := 0) hx hb dJ7_fill_53178_0 (by decide) ?_
  refine lv_istore_n (lv' := [(2, .int 0), (0, .ref a0), (1, .int 0)]) hx hb dJ7_fill_53178_1 rfl hl (by decide) rfl (fun ls hl => ?_)
  refine lv_aload_n hx hb dJ7_fill_53178_2 rfl (lv_at hl 1 rfl) ?_
  refine va_alen (v := nI 1024) hx hb hK hP 0 0 rfl rfl rfl dJ7_fill_53178_3 ?_
  refine lv_istore_n (lv' := [(3, .int (nI 1024)), (2, .int 0), (0, .ref a0), (1, .int 0)]) hx hb dJ7_fill_53178_4 rfl hl (by decide) rfl (fun ls hl => ?_)
  exact loop 1024 0 ls _ _ (by omega) hP hD hS (lv_sub hl [2, 3, 1, 0] rfl)
def tw_xbegin (k : Nat) (lo : Int32) (F : Nat → BitVec 8) (x : Int32) : Int32 × (Nat × Int32 × (Nat → BitVec 8)) := if x < 2 ∨ ¬ x ≤ 14 then (-1, (k, lo, F)) else (x + 2, (x.toNatClampNeg, 0, tw_fl F 1024))
abbrev rmX0_begin : Room := { frames := 1, cells := 0, slots := 0, locals := 23 }
theorem inX0_begin : ∀ w ∈ wsX00, w ∈ wsX0_begin := fun _ h => List.mem_cons_of_mem _ (List.mem_append_right _ h)
theorem fX0_begin_13 : Cond.fieldLink RX0 13 "TwinParity" "dataUnits" "I" ∈ wsX0_begin := List.mem_of_getElem? (i := 1) rfl
theorem fX0_begin_17 : Cond.fieldLink RX0 17 "TwinParity" "lostUnits" "I" ∈ wsX0_begin := List.mem_of_getElem? (i := 2) rfl
theorem fX0_begin_9 : Cond.fieldLink RX0 9 "TwinParity" "bytes" "[I" ∈ wsX0_begin := List.mem_of_getElem? (i := 3) rfl
theorem kdX0_begin : yX0_begin.cls = RX0 ∧ yX0_begin.cls ≠ "java/lang/invoke/MethodHandle" ∧ yX0_begin.cls ≠ "java/lang/invoke/VarHandle" ∧ (parseMethodDescriptor yX0_begin.desc).map (fun d => d.parameters.length) = some 1 := by decide +kernel
set_option maxHeartbeats 4000000 in
set_option maxRecDepth 100000 in
theorem c_X0_begin (l : Launch) (D : va_G) (cA : ClassId) (h0 a0 k : Nat) (lo : Int32) (F : Nat → BitVec 8) (sz : Nat) (x : Int32) (hk : k ≤ 14) : Met l yX0_begin wsX0_begin rmX0_begin (va_Pc [.ref h0, .int x] (tw_Pw D (tw_X cA h0 a0 k lo F) (tw_tX cA) sz)) (va_Qi (fun (r : Int32) (u : Nat × Int32 × (Nat → BitVec 8)) => (r, u) = tw_xbegin k lo F x) (tw_Qw D (fun u : Nat × Int32 × (Nat → BitVec 8) => tw_X cA h0 a0 u.1 u.2.1 u.2.2) (tw_tX cA) (va_A (tw_X cA h0 a0 k lo F) sz)) (va_A (tw_X cA h0 a0 k lo F) sz)) 0 0 (va_A (tw_X cA h0 a0 k lo F) sz) := by
  refine tw_metW (by decide) rfl rfl (Nat.le_of_ble_eq_true rfl) ?_
  intro p e s m args below meth c Q ls A hx hb hml hown hts hP hK hD hS hA hend hl
  have hown : s.vm.findClass RX0 = some m.cls := hown
  have hl : lv_has ls 2 [(0, .ref h0), (1, .int x)] := hl
  refine lv_iload_n hx hb dX0_begin_0 rfl (lv_at hl 1 rfl) ?_
  refine lv_iconst (v := 2) hx hb dX0_begin_1 (by decide) ?_
  refine lv_icmp_lt (tgt := 11) hx hb dX0_begin_2 (by decide) (fun c_2 => ?_) (fun c_2 => ?_)
  · refine lv_iconst (v := (-1)) hx hb dX0_begin_11 (by decide) ?_
    exact hend _ _ _ (k, lo, F) _ _ dX0_begin_12 (by rw [tw_xbegin, if_pos (by first | exact Or.inl c_2 | exact Or.inr c_8)]) hP hD hS
  · refine lv_iload_n hx hb dX0_begin_5 rfl (lv_at hl 1 rfl) ?_
    refine lv_bipush (v := 14) hx hb dX0_begin_6 (by decide) ?_
    refine lv_icmp_le (tgt := 13) hx hb dX0_begin_8 (by decide) (fun c_8 => ?_) (fun c_8 => ?_)
    · generalize hE : tw_xbegin k lo F x = E at hend
      obtain ⟨j, hj, rfl⟩ := nI_of (tw_nneg c_2)
      have hj14 : j ≤ 14 := (nI_leI hj (by decide)).mp (show nI j ≤ nI 14 from c_8)
      refine lv_aload_n hx hb dX0_begin_13 rfl (lv_at hl 0 rfl) ?_
      refine lv_iload_n hx hb dX0_begin_14 rfl (lv_at hl 1 rfl) ?_
      refine va_put (D := D) (ci := 0) (v := .int (nI j)) (ty := .int) (C := RX0) (T := TX0) (N := 3) hx hb hts inX0_begin tyX0 tyX0_ok nmX0 hown hK hP hD hS 0 rfl rfl 1 (by decide) (hts _ fX0_begin_13) (fun _ h9 => h9) rfl (by decide +kernel) rfl rfl (Nat.le_of_ble_eq_true rfl) dX0_begin_15 (fun H locs hP hD hS => ?_)
      have hP : va_P D vwCl (tw_X cA h0 a0 j lo F) H := hP
      have hD : va_D A (tw_X cA h0 a0 j lo F) := hD
      refine lv_aload_n hx hb dX0_begin_18 rfl (lv_at hl 0 rfl) ?_
      refine lv_iconst (v := 0) hx hb dX0_begin_19 (by decide) ?_
      refine va_put (D := D) (ci := 0) (v := .int 0) (ty := .int) (C := RX0) (T := TX0) (N := 3) hx hb hts inX0_begin tyX0 tyX0_ok nmX0 hown hK hP hD hS 0 rfl rfl 2 (by decide) (hts _ fX0_begin_17) (fun _ h9 => h9) rfl (by decide +kernel) rfl rfl (Nat.le_of_ble_eq_true rfl) dX0_begin_20 (fun H locs hP hD hS => ?_)
      have hP : va_P D vwCl (tw_X cA h0 a0 j 0 F) H := hP
      have hD : va_D A (tw_X cA h0 a0 j 0 F) := hD
      refine lv_aload_n hx hb dX0_begin_23 rfl (lv_at hl 0 rfl) ?_
      refine va_get (D := D) (ci := 0) (v := .ref a0) (C := RX0) (T := TX0) (N := 3) hx hb hts inX0_begin hown hK hP 0 rfl rfl 0 (by decide) (hts _ fX0_begin_9) (fun _ h9 => h9) rfl dX0_begin_24 ?_
      refine lv_iconst (v := 0) hx hb dX0_begin_27 (by decide) ?_
      refine tw_wsv (wr := [(h0, .inr (0, [.ref a0, .int (nI j), .int 0]))]) ⟨hx, hb, hml, hown, hts⟩ hK hP hD hS hA [1] [0] rfl rfl rfl rfl (by decide) (hP.sub [1] rfl) (c_J7_fill_53178 l D cA a0 F _) (va_cwS 2 hts gX0_begin_J7_fill_53178 rfl rfl rfl kdJ7_fill_53178 ⟨Nat.le_of_ble_eq_true rfl, Nat.le_of_ble_eq_true rfl⟩) rfl hl.1 rfl (Nat.le_of_ble_eq_true rfl) dX0_begin_28 ⟨Nat.zero_le _, Nat.zero_le _⟩ (fun H locs hP hD hS => ?_)
      have hP : va_P D vwCl (tw_X cA h0 a0 j 0 (tw_fl F 1024)) H := hP
      have hD : va_D A (tw_X cA h0 a0 j 0 (tw_fl F 1024)) := hD
      refine lv_aload_n hx hb dX0_begin_31 rfl (lv_at hl 0 rfl) ?_
      refine tw_rX ⟨hx, hb, hml, hown, hts⟩ hK hP (c_X0_units l D cA h0 a0 j 0 (tw_fl F 1024) ) (cwV 0 hts gX0_begin_X0_units rfl rfl rfl kdX0_units ⟨Nat.le_of_ble_eq_true rfl, Nat.le_of_ble_eq_true rfl⟩) rfl hl.1 rfl (Nat.le_of_ble_eq_true rfl) dX0_begin_32 ⟨Nat.zero_le _, Nat.zero_le _⟩ ?_
      exact hend _ _ _ (j, 0, tw_fl F 1024) _ _ dX0_begin_35 (by rw [← hE, tw_xbegin, if_neg (fun q9 => q9.elim c_2 (fun q8 => q8 c_8)), nI_clamp hj, show nI j + 2 = nI (j + 2) from nI_add j 2]) hP hD hS
    · refine lv_iconst (v := (-1)) hx hb dX0_begin_11 (by decide) ?_
      exact hend _ _ _ (k, lo, F) _ _ dX0_begin_12 (by rw [tw_xbegin, if_pos (by first | exact Or.inl c_2 | exact Or.inr c_8)]) hP hD hS
def tw_ps (k : Nat) (lo : Int32) (u i : Nat) (v : Int64) (F : Nat → BitVec 8) : Nat → Nat → BitVec 8
  | 0 => F
  | j + 1 => tw_cw k lo (tw_ps k lo u i v F j) u (i + j) (tw_ps k lo u i v F j (64 * u + (i + j)) ^^^ tw_by v j)
def tw_xput (k : Nat) (lo : Int32) (F : Nat → BitVec 8) (x z n : Int32) (v : Int64) : Int32 × (Nat × Int32 × (Nat → BitVec 8)) := if !decide (nI k ≤ x) && (tw_th k lo x && tw_sp z n 8) then (n, (k, lo, tw_ps k lo x.toNatClampNeg z.toNatClampNeg v F n.toNatClampNeg)) else (-1, (k, lo, F))
abbrev rmX0_put : Room := { frames := 3, cells := 0, slots := 0, locals := 67 }
theorem inX0_put : ∀ w ∈ wsX00, w ∈ wsX0_put := fun _ h => List.mem_cons_of_mem _ (List.mem_append_right _ h)
theorem fX0_put_13 : Cond.fieldLink RX0 13 "TwinParity" "dataUnits" "I" ∈ wsX0_put := List.mem_of_getElem? (i := 1) rfl
theorem fX0_put_17 : Cond.fieldLink RX0 17 "TwinParity" "lostUnits" "I" ∈ wsX0_put := List.mem_of_getElem? (i := 15) rfl
theorem fX0_put_9 : Cond.fieldLink RX0 9 "TwinParity" "bytes" "[I" ∈ wsX0_put := List.mem_of_getElem? (i := 23) rfl
theorem kdX0_put : yX0_put.cls = RX0 ∧ yX0_put.cls ≠ "java/lang/invoke/MethodHandle" ∧ yX0_put.cls ≠ "java/lang/invoke/VarHandle" ∧ (parseMethodDescriptor yX0_put.desc).map (fun d => d.parameters.length) = some 4 := by decide +kernel
set_option maxHeartbeats 4000000 in
set_option maxRecDepth 100000 in
theorem c_X0_put (l : Launch) (D : va_G) (cA : ClassId) (h0 a0 k : Nat) (lo : Int32) (F : Nat → BitVec 8) (sz : Nat) (x z n : Int32) (v : Int64) (hk : k ≤ 14) : Met l yX0_put wsX0_put rmX0_put (va_Pc [.ref h0, .int x, .int z, .int n, .long v] (tw_Pw D (tw_X cA h0 a0 k lo F) (tw_tX cA) sz)) (va_Qi (fun (r : Int32) (u : Nat × Int32 × (Nat → BitVec 8)) => (r, u) = tw_xput k lo F x z n v) (tw_Qw D (fun u : Nat × Int32 × (Nat → BitVec 8) => tw_X cA h0 a0 u.1 u.2.1 u.2.2) (tw_tX cA) (va_A (tw_X cA h0 a0 k lo F) sz)) (va_A (tw_X cA h0 a0 k lo F) sz)) 0 0 (va_A (tw_X cA h0 a0 k lo F) sz) := by
  refine tw_metW (by decide) rfl rfl (Nat.le_of_ble_eq_true rfl) ?_
  intro p e s m args below meth c Q ls A hx hb hml hown hts hP hK hD hS hA hend hl
  have hown : s.vm.findClass RX0 = some m.cls := hown
  have hl : lv_has ls 8 [(0, .ref h0), (1, .int x), (2, .int z), (3, .int n), (4, .long v)] := hl
  refine lv_iload_n hx hb dX0_put_0 rfl (lv_at hl 1 rfl) ?_
  refine lv_aload_n hx hb dX0_put_1 rfl (lv_at hl 0 rfl) ?_
  refine va_get (D := D) (ci := 0) (v := .int (nI k)) (C := RX0) (T := TX0) (N := 3) hx hb hts inX0_put hown hK hP 0 rfl rfl 1 (by decide) (hts _ fX0_put_13) (fun _ h9 => h9) rfl dX0_put_2 ?_
  refine lv_icmp_ge (tgt := 26) hx hb dX0_put_5 (by decide) (fun c_5 => ?_) (fun c_5 => ?_)
  · refine lv_iconst (v := (-1)) hx hb dX0_put_26 (by decide) ?_
    exact hend _ _ _ (k, lo, F) _ _ dX0_put_27 (by rw [tw_xput, if_neg (by first | (simp [c_5]; done) | (simp [c_13]; done) | (simp [c_23]; done))]) hP hD hS
  · refine lv_aload_n hx hb dX0_put_8 rfl (lv_at hl 0 rfl) ?_
    refine lv_iload_n hx hb dX0_put_9 rfl (lv_at hl 1 rfl) ?_
    refine tw_rX ⟨hx, hb, hml, hown, hts⟩ hK hP (c_X0_isThere l D cA h0 a0 k lo F x hk) (cwV 1 hts gX0_put_X0_isThere rfl rfl rfl kdX0_isThere ⟨Nat.le_of_ble_eq_true rfl, Nat.le_of_ble_eq_true rfl⟩) rfl hl.1 rfl (Nat.le_of_ble_eq_true rfl) dX0_put_10 ⟨Nat.zero_le _, Nat.zero_le _⟩ ?_
    refine lv_if_eq (tgt := 26) hx hb dX0_put_13 (by decide) (fun c_13 => ?_) (fun c_13 => ?_)
    · rw [tw_bI0] at c_13
      refine lv_iconst (v := (-1)) hx hb dX0_put_26 (by decide) ?_
      exact hend _ _ _ (k, lo, F) _ _ dX0_put_27 (by rw [tw_xput, if_neg (by first | (simp [c_5]; done) | (simp [c_13]; done) | (simp [c_23]; done))]) hP hD hS
    · rw [tw_bI1] at c_13
      refine lv_iload_n hx hb dX0_put_16 rfl (lv_at hl 2 rfl) ?_
      refine lv_iload_n hx hb dX0_put_17 rfl (lv_at hl 3 rfl) ?_
      refine lv_bipush (v := 8) hx hb dX0_put_18 (by decide) ?_
      refine tw_s ⟨hx, hb, hml, hown, hts⟩ (c_X0_isSpan l z n 8) (va_cwS 3 hts gX0_put_X0_isSpan rfl rfl rfl kdX0_isSpan ⟨Nat.le_of_ble_eq_true rfl, Nat.le_of_ble_eq_true rfl⟩) rfl hl.1 rfl (Nat.le_of_ble_eq_true rfl) dX0_put_20 ⟨Nat.zero_le _, Nat.zero_le _⟩ ?_
      refine lv_if_ne (tgt := 28) hx hb dX0_put_23 (by decide) (fun c_23 => ?_) (fun c_23 => ?_)
      · rw [tw_bI1] at c_23
        generalize hE : tw_xput k lo F x z n v = E at hend
        obtain ⟨u, hu, rfl, hlb⟩ := tw_thD hk c_13
        obtain ⟨i, q, rfl, rfl, hq1, hq2, hiq⟩ := tw_spD (mm := 8) (by decide) c_23
        have huk : u < k := by rcases Nat.lt_or_ge u k with h9 | h9; exact h9; exact absurd (nI_le h9 (by omega)) c_5
        have loop : ∀ (n j : Nat) (ls : Array Slot) (H : Heap) (locs : List Loc), j + n = q → va_P D vwCl (tw_X cA h0 a0 k lo (tw_ps k lo u i v F j)) H → va_D A (tw_X cA h0 a0 k lo (tw_ps k lo u i v F j)) → va_S A s.heap H locs → lv_has ls 8 [(0, .ref h0), (1, .int (nI u)), (2, .int (nI i)), (3, .int (nI q)), (4, .long v), (6, .int (nI j))] → W p l e rmX0_put s m args below meth c H locs 0 0 Q (F0 m 31 ls []) := by
          intro n
          induction n with
          | zero =>
            intro j ls H locs hj hP hD hS hl
            refine lv_iload hx hb dX0_put_31 (lv_at hl 5 rfl) ?_
            refine lv_iload_n hx hb dX0_put_33 rfl (lv_at hl 3 rfl) ?_
            refine lv_icmp_ge (tgt := 79) hx hb dX0_put_34 (by decide) (fun c_34 => ?_) (fun c_34 => ?_)
            · refine lv_iload_n hx hb dX0_put_79 rfl (lv_at hl 3 rfl) ?_
              rw [show j = q by omega] at hP hD
              exact hend _ _ _ (k, lo, tw_ps k lo u i v F q) _ _ dX0_put_80 (by rw [← hE, tw_xput, c_13, c_23]; simp [c_5, nI_clamp (show u < 2 ^ 31 by omega), nI_clamp (show i < 2 ^ 31 by omega), nI_clamp (show q < 2 ^ 31 by omega)]) hP hD hS
            · exact absurd (nI_le (by omega) (by omega)) c_34
          | succ n ih =>
            intro j ls H locs hj hP hD hS hl
            refine lv_iload hx hb dX0_put_31 (lv_at hl 5 rfl) ?_
            refine lv_iload_n hx hb dX0_put_33 rfl (lv_at hl 3 rfl) ?_
            refine lv_icmp_ge (tgt := 79) hx hb dX0_put_34 (by decide) (fun c_34 => ?_) (fun c_34 => ?_)
            · exact absurd c_34 (nI_ge (by omega) (by omega))
            · refine lv_lload hx hb dX0_put_37 (lv_at hl 4 rfl) ?_
              refine lv_bipush (v := 8) hx hb dX0_put_39 (by decide) ?_
              refine lv_iload hx hb dX0_put_41 (lv_at hl 5 rfl) ?_
              refine lv_imul hx hb dX0_put_43 ?_
              refine lv_lushr hx hb dX0_put_44 rfl ?_
              refine lv_l2i hx hb dX0_put_45 rfl ?_
              refine lv_sipush (v := 255) hx hb dX0_put_46 (by decide) ?_
              refine lv_iand hx hb dX0_put_49 ?_
              refine tw_topr (x' := tq_eb (tw_by v j)) (tw_by_x v j (by omega)) ?_
              refine lv_istore (lv' := [(7, .int (tq_eb (tw_by v j))), (0, .ref h0), (1, .int (nI u)), (2, .int (nI i)), (3, .int (nI q)), (4, .long v), (6, .int (nI j))]) hx hb dX0_put_50 hl (by decide) rfl (fun ls hl => ?_)
              refine lv_aload_n hx hb dX0_put_52 rfl (lv_at hl 1 rfl) ?_
              refine lv_iload_n hx hb dX0_put_53 rfl (lv_at hl 2 rfl) ?_
              refine lv_iload_n hx hb dX0_put_54 rfl (lv_at hl 3 rfl) ?_
              refine lv_iload hx hb dX0_put_55 (lv_at hl 6 rfl) ?_
              refine lv_iadd hx hb dX0_put_57 ?_
              refine tw_topr (x' := nI (i + j)) (nI_add i j) ?_
              refine lv_aload_n hx hb dX0_put_58 rfl (lv_at hl 1 rfl) ?_
              refine lv_iload_n hx hb dX0_put_59 rfl (lv_at hl 2 rfl) ?_
              refine lv_iload_n hx hb dX0_put_60 rfl (lv_at hl 3 rfl) ?_
              refine lv_iload hx hb dX0_put_61 (lv_at hl 6 rfl) ?_
              refine lv_iadd hx hb dX0_put_63 ?_
              refine tw_topr (x' := nI (i + j)) (nI_add i j) ?_
              refine tw_rX ⟨hx, hb, hml, hown, hts⟩ hK hP (c_X0_byteAt l D cA h0 a0 k lo (tw_ps k lo u i v F j) u (i + j) (by omega)) (cwV 2 hts gX0_put_X0_byteAt rfl rfl rfl kdX0_byteAt ⟨Nat.le_of_ble_eq_true rfl, Nat.le_of_ble_eq_true rfl⟩) rfl hl.1 rfl (Nat.le_of_ble_eq_true rfl) dX0_put_64 ⟨Nat.zero_le _, Nat.zero_le _⟩ ?_
              refine lv_iload hx hb dX0_put_67 (lv_at hl 0 rfl) ?_
              refine lv_ixor hx hb dX0_put_69 ?_
              refine tw_topr (x' := tq_eb (tw_ps k lo u i v F j (64 * u + (i + j)) ^^^ tw_by v j)) (tq_eb_xor _ _) ?_
              refine tw_wXv ⟨hx, hb, hml, hown, hts⟩ hK hP hD hS hA (c_X0_changeWithParities l D cA h0 a0 k lo (tw_ps k lo u i v F j) _ u (i + j) (tw_ps k lo u i v F j (64 * u + (i + j)) ^^^ tw_by v j) huk (by omega) hk) (cwV 3 hts gX0_put_X0_changeWithParities rfl rfl rfl kdX0_changeWithParities ⟨Nat.le_of_ble_eq_true rfl, Nat.le_of_ble_eq_true rfl⟩) rfl hl.1 rfl (Nat.le_of_ble_eq_true rfl) dX0_put_70 ⟨Nat.zero_le _, Nat.zero_le _⟩ (fun H locs hP hD hS => ?_)
              have hP : va_P D vwCl (tw_X cA h0 a0 k lo (tw_ps k lo u i v F (j + 1))) H := hP
              have hD : va_D A (tw_X cA h0 a0 k lo (tw_ps k lo u i v F (j + 1))) := hD
              refine lv_iinc (v := nI (j + 1)) (lv' := [(6, .int (nI (j + 1))), (7, .int (tq_eb (tw_by v j))), (0, .ref h0), (1, .int (nI u)), (2, .int (nI i)), (3, .int (nI q)), (4, .long v)]) hx hb dX0_put_73 hl (k := 6) rfl (nI_1 j) (by decide) rfl (fun ls hl => ?_)
              refine lv_goto (tgt := 31) hx hb dX0_put_76 (by decide) ?_
              exact ih (j + 1) ls H locs (by omega) hP hD hS (lv_sub hl [2, 3, 4, 5, 6, 0] rfl)
        refine lv_iconst (v := 0) hx hb dX0_put_28 (by decide) ?_
        refine lv_istore (lv' := [(6, .int 0), (0, .ref h0), (1, .int (nI u)), (2, .int (nI i)), (3, .int (nI q)), (4, .long v)]) hx hb dX0_put_29 hl (by decide) rfl (fun ls hl => ?_)
        exact loop q 0 ls _ _ (by omega) hP hD hS (lv_sub hl [1, 2, 3, 4, 5, 0] rfl)
      · rw [tw_bI0] at c_23
        refine lv_iconst (v := (-1)) hx hb dX0_put_26 (by decide) ?_
        exact hend _ _ _ (k, lo, F) _ _ dX0_put_27 (by rw [tw_xput, if_neg (by first | (simp [c_5]; done) | (simp [c_13]; done) | (simp [c_23]; done))]) hP hD hS
def tw_ss (u i : Nat) (sd : Int32) (F : Nat → BitVec 8) : Nat → Nat → BitVec 8
  | 0 => F
  | j + 1 => tw_ch (tw_ss u i sd F j) u (i + j) (tw_ss u i sd F j (64 * u + (i + j)) ^^^ tw_b16 (tw_lc sd (j + 1)))
def tw_xspoil (k : Nat) (lo : Int32) (F : Nat → BitVec 8) (x z n sd : Int32) : Int32 × (Nat × Int32 × (Nat → BitVec 8)) := if tw_th k lo x && tw_sp z n 64 then (n, (k, lo, tw_ss x.toNatClampNeg z.toNatClampNeg sd F n.toNatClampNeg)) else (-1, (k, lo, F))
abbrev rmX0_spoil : Room := { frames := 2, cells := 0, slots := 0, locals := 42 }
theorem inX0_spoil : ∀ w ∈ wsX00, w ∈ wsX0_spoil := fun _ h => List.mem_cons_of_mem _ (List.mem_append_right _ h)
theorem fX0_spoil_46 : Cond.constant RX0 46 (1103515245) ∈ wsX0_spoil := List.mem_of_getElem? (i := 1) rfl
theorem fX0_spoil_13 : Cond.fieldLink RX0 13 "TwinParity" "dataUnits" "I" ∈ wsX0_spoil := List.mem_of_getElem? (i := 11) rfl
theorem fX0_spoil_17 : Cond.fieldLink RX0 17 "TwinParity" "lostUnits" "I" ∈ wsX0_spoil := List.mem_of_getElem? (i := 16) rfl
theorem fX0_spoil_9 : Cond.fieldLink RX0 9 "TwinParity" "bytes" "[I" ∈ wsX0_spoil := List.mem_of_getElem? (i := 24) rfl
theorem kdX0_spoil : yX0_spoil.cls = RX0 ∧ yX0_spoil.cls ≠ "java/lang/invoke/MethodHandle" ∧ yX0_spoil.cls ≠ "java/lang/invoke/VarHandle" ∧ (parseMethodDescriptor yX0_spoil.desc).map (fun d => d.parameters.length) = some 4 := by decide +kernel
set_option maxHeartbeats 4000000 in
set_option maxRecDepth 100000 in
theorem c_X0_spoil (l : Launch) (D : va_G) (cA : ClassId) (h0 a0 k : Nat) (lo : Int32) (F : Nat → BitVec 8) (sz : Nat) (x z n sd : Int32) (hk : k ≤ 14) : Met l yX0_spoil wsX0_spoil rmX0_spoil (va_Pc [.ref h0, .int x, .int z, .int n, .int sd] (tw_Pw D (tw_X cA h0 a0 k lo F) (tw_tX cA) sz)) (va_Qi (fun (r : Int32) (u : Nat × Int32 × (Nat → BitVec 8)) => (r, u) = tw_xspoil k lo F x z n sd) (tw_Qw D (fun u : Nat × Int32 × (Nat → BitVec 8) => tw_X cA h0 a0 u.1 u.2.1 u.2.2) (tw_tX cA) (va_A (tw_X cA h0 a0 k lo F) sz)) (va_A (tw_X cA h0 a0 k lo F) sz)) 0 0 (va_A (tw_X cA h0 a0 k lo F) sz) := by
  refine tw_metW (by decide) rfl rfl (Nat.le_of_ble_eq_true rfl) ?_
  intro p e s m args below meth c Q ls A hx hb hml hown hts hP hK hD hS hA hend hl
  have hown : s.vm.findClass RX0 = some m.cls := hown
  have hl : lv_has ls 8 [(0, .ref h0), (1, .int x), (2, .int z), (3, .int n), (4, .int sd)] := hl
  refine lv_aload_n hx hb dX0_spoil_0 rfl (lv_at hl 0 rfl) ?_
  refine lv_iload_n hx hb dX0_spoil_1 rfl (lv_at hl 1 rfl) ?_
  refine tw_rX ⟨hx, hb, hml, hown, hts⟩ hK hP (c_X0_isThere l D cA h0 a0 k lo F x hk) (cwV 1 hts gX0_spoil_X0_isThere rfl rfl rfl kdX0_isThere ⟨Nat.le_of_ble_eq_true rfl, Nat.le_of_ble_eq_true rfl⟩) rfl hl.1 rfl (Nat.le_of_ble_eq_true rfl) dX0_spoil_2 ⟨Nat.zero_le _, Nat.zero_le _⟩ ?_
  refine lv_if_eq (tgt := 18) hx hb dX0_spoil_5 (by decide) (fun c_5 => ?_) (fun c_5 => ?_)
  · rw [tw_bI0] at c_5
    refine lv_iconst (v := (-1)) hx hb dX0_spoil_18 (by decide) ?_
    exact hend _ _ _ (k, lo, F) _ _ dX0_spoil_19 (by rw [tw_xspoil, if_neg (by first | (simp [c_5]; done) | (simp [c_15]; done))]) hP hD hS
  · rw [tw_bI1] at c_5
    refine lv_iload_n hx hb dX0_spoil_8 rfl (lv_at hl 2 rfl) ?_
    refine lv_iload_n hx hb dX0_spoil_9 rfl (lv_at hl 3 rfl) ?_
    refine lv_bipush (v := 64) hx hb dX0_spoil_10 (by decide) ?_
    refine tw_s ⟨hx, hb, hml, hown, hts⟩ (c_X0_isSpan l z n 64) (va_cwS 3 hts gX0_spoil_X0_isSpan rfl rfl rfl kdX0_isSpan ⟨Nat.le_of_ble_eq_true rfl, Nat.le_of_ble_eq_true rfl⟩) rfl hl.1 rfl (Nat.le_of_ble_eq_true rfl) dX0_spoil_12 ⟨Nat.zero_le _, Nat.zero_le _⟩ ?_
    refine lv_if_ne (tgt := 20) hx hb dX0_spoil_15 (by decide) (fun c_15 => ?_) (fun c_15 => ?_)
    · rw [tw_bI1] at c_15
      generalize hE : tw_xspoil k lo F x z n sd = E at hend
      obtain ⟨u, hu, rfl, hlb⟩ := tw_thD hk c_5
      obtain ⟨i, q, rfl, rfl, hq1, hq2, hiq⟩ := tw_spD (mm := 64) (by decide) c_15
      have loop : ∀ (n j : Nat) (ls : Array Slot) (H : Heap) (locs : List Loc), j + n = q → va_P D vwCl (tw_X cA h0 a0 k lo (tw_ss u i sd F j)) H → va_D A (tw_X cA h0 a0 k lo (tw_ss u i sd F j)) → va_S A s.heap H locs → lv_has ls 8 [(0, .ref h0), (1, .int (nI u)), (2, .int (nI i)), (3, .int (nI q)), (5, .int (tw_lc sd j)), (6, .int (nI j))] → W p l e rmX0_spoil s m args below meth c H locs 0 0 Q (F0 m 27 ls []) := by
        intro n
        induction n with
        | zero =>
          intro j ls H locs hj hP hD hS hl
          refine lv_iload hx hb dX0_spoil_27 (lv_at hl 5 rfl) ?_
          refine lv_iload_n hx hb dX0_spoil_29 rfl (lv_at hl 3 rfl) ?_
          refine lv_icmp_ge (tgt := 82) hx hb dX0_spoil_30 (by decide) (fun c_30 => ?_) (fun c_30 => ?_)
          · refine lv_iload_n hx hb dX0_spoil_82 rfl (lv_at hl 3 rfl) ?_
            rw [show j = q by omega] at hP hD
            exact hend _ _ _ (k, lo, tw_ss u i sd F q) _ _ dX0_spoil_83 (by rw [← hE, tw_xspoil, c_5, c_15]; simp [nI_clamp (show u < 2 ^ 31 by omega), nI_clamp (show i < 2 ^ 31 by omega), nI_clamp (show q < 2 ^ 31 by omega)]) hP hD hS
          · exact absurd (nI_le (by omega) (by omega)) c_30
        | succ n ih =>
          intro j ls H locs hj hP hD hS hl
          refine lv_iload hx hb dX0_spoil_27 (lv_at hl 5 rfl) ?_
          refine lv_iload_n hx hb dX0_spoil_29 rfl (lv_at hl 3 rfl) ?_
          refine lv_icmp_ge (tgt := 82) hx hb dX0_spoil_30 (by decide) (fun c_30 => ?_) (fun c_30 => ?_)
          · exact absurd c_30 (nI_ge (by omega) (by omega))
          · refine lv_ldc (v := 1103515245) hx hb hown (hts _ fX0_spoil_46) dX0_spoil_33 ?_
            refine lv_iload hx hb dX0_spoil_35 (lv_at hl 4 rfl) ?_
            refine lv_imul hx hb dX0_spoil_37 ?_
            refine lv_sipush (v := 12345) hx hb dX0_spoil_38 (by decide) ?_
            refine lv_iadd hx hb dX0_spoil_41 ?_
            refine tw_topr (x' := tw_lc sd (j + 1)) (rfl) ?_
            refine lv_istore (lv' := [(5, .int (tw_lc sd (j + 1))), (0, .ref h0), (1, .int (nI u)), (2, .int (nI i)), (3, .int (nI q)), (6, .int (nI j))]) hx hb dX0_spoil_42 hl (by decide) rfl (fun ls hl => ?_)
            refine lv_iload hx hb dX0_spoil_44 (lv_at hl 0 rfl) ?_
            refine lv_bipush (v := 16) hx hb dX0_spoil_46 (by decide) ?_
            refine lv_iushr hx hb dX0_spoil_48 rfl ?_
            refine lv_sipush (v := 255) hx hb dX0_spoil_49 (by decide) ?_
            refine lv_iand hx hb dX0_spoil_52 ?_
            refine tw_topr (x' := tq_eb (tw_b16 (tw_lc sd (j + 1)))) (tw_b16_x _) ?_
            refine lv_istore (lv' := [(7, .int (tq_eb (tw_b16 (tw_lc sd (j + 1))))), (5, .int (tw_lc sd (j + 1))), (0, .ref h0), (1, .int (nI u)), (2, .int (nI i)), (3, .int (nI q)), (6, .int (nI j))]) hx hb dX0_spoil_53 hl (by decide) rfl (fun ls hl => ?_)
            refine lv_aload_n hx hb dX0_spoil_55 rfl (lv_at hl 2 rfl) ?_
            refine lv_iload_n hx hb dX0_spoil_56 rfl (lv_at hl 3 rfl) ?_
            refine lv_iload_n hx hb dX0_spoil_57 rfl (lv_at hl 4 rfl) ?_
            refine lv_iload hx hb dX0_spoil_58 (lv_at hl 6 rfl) ?_
            refine lv_iadd hx hb dX0_spoil_60 ?_
            refine tw_topr (x' := nI (i + j)) (nI_add i j) ?_
            refine lv_aload_n hx hb dX0_spoil_61 rfl (lv_at hl 2 rfl) ?_
            refine lv_iload_n hx hb dX0_spoil_62 rfl (lv_at hl 3 rfl) ?_
            refine lv_iload_n hx hb dX0_spoil_63 rfl (lv_at hl 4 rfl) ?_
            refine lv_iload hx hb dX0_spoil_64 (lv_at hl 6 rfl) ?_
            refine lv_iadd hx hb dX0_spoil_66 ?_
            refine tw_topr (x' := nI (i + j)) (nI_add i j) ?_
            refine tw_rX ⟨hx, hb, hml, hown, hts⟩ hK hP (c_X0_byteAt l D cA h0 a0 k lo (tw_ss u i sd F j) u (i + j) (by omega)) (cwV 2 hts gX0_spoil_X0_byteAt rfl rfl rfl kdX0_byteAt ⟨Nat.le_of_ble_eq_true rfl, Nat.le_of_ble_eq_true rfl⟩) rfl hl.1 rfl (Nat.le_of_ble_eq_true rfl) dX0_spoil_67 ⟨Nat.zero_le _, Nat.zero_le _⟩ ?_
            refine lv_iload hx hb dX0_spoil_70 (lv_at hl 0 rfl) ?_
            refine lv_ixor hx hb dX0_spoil_72 ?_
            refine tw_topr (x' := tq_eb (tw_ss u i sd F j (64 * u + (i + j)) ^^^ tw_b16 (tw_lc sd (j + 1)))) (tq_eb_xor _ _) ?_
            refine tw_wXv ⟨hx, hb, hml, hown, hts⟩ hK hP hD hS hA (c_X0_change l D cA h0 a0 k lo (tw_ss u i sd F j) _ u (i + j) (tw_ss u i sd F j (64 * u + (i + j)) ^^^ tw_b16 (tw_lc sd (j + 1))) (by omega)) (cwV 3 hts gX0_spoil_X0_change rfl rfl rfl kdX0_change ⟨Nat.le_of_ble_eq_true rfl, Nat.le_of_ble_eq_true rfl⟩) rfl hl.1 rfl (Nat.le_of_ble_eq_true rfl) dX0_spoil_73 ⟨Nat.zero_le _, Nat.zero_le _⟩ (fun H locs hP hD hS => ?_)
            have hP : va_P D vwCl (tw_X cA h0 a0 k lo (tw_ss u i sd F (j + 1))) H := hP
            have hD : va_D A (tw_X cA h0 a0 k lo (tw_ss u i sd F (j + 1))) := hD
            refine lv_iinc (v := nI (j + 1)) (lv' := [(6, .int (nI (j + 1))), (7, .int (tq_eb (tw_b16 (tw_lc sd (j + 1))))), (5, .int (tw_lc sd (j + 1))), (0, .ref h0), (1, .int (nI u)), (2, .int (nI i)), (3, .int (nI q))]) hx hb dX0_spoil_76 hl (k := 6) rfl (nI_1 j) (by decide) rfl (fun ls hl => ?_)
            refine lv_goto (tgt := 27) hx hb dX0_spoil_79 (by decide) ?_
            exact ih (j + 1) ls H locs (by omega) hP hD hS (lv_sub hl [3, 4, 5, 6, 2, 0] rfl)
      refine lv_iload hx hb dX0_spoil_20 (lv_at hl 4 rfl) ?_
      refine lv_istore (lv' := [(5, .int sd), (0, .ref h0), (1, .int (nI u)), (2, .int (nI i)), (3, .int (nI q)), (4, .int sd)]) hx hb dX0_spoil_22 hl (by decide) rfl (fun ls hl => ?_)
      refine lv_iconst (v := 0) hx hb dX0_spoil_24 (by decide) ?_
      refine lv_istore (lv' := [(6, .int 0), (5, .int sd), (0, .ref h0), (1, .int (nI u)), (2, .int (nI i)), (3, .int (nI q)), (4, .int sd)]) hx hb dX0_spoil_25 hl (by decide) rfl (fun ls hl => ?_)
      exact loop q 0 ls _ _ (by omega) hP hD hS (lv_sub hl [2, 3, 4, 5, 1, 0] rfl)
    · rw [tw_bI0] at c_15
      refine lv_iconst (v := (-1)) hx hb dX0_spoil_18 (by decide) ?_
      exact hend _ _ _ (k, lo, F) _ _ dX0_spoil_19 (by rw [tw_xspoil, if_neg (by first | (simp [c_5]; done) | (simp [c_15]; done))]) hP hD hS
def tw_xmake (k : Nat) (lo : Int32) (F : Nat → BitVec 8) : Int32 × (Nat × Int32 × (Nat → BitVec 8)) := if lo = 0 then (0, (k, lo, ty_rq k (k + 1) (ty_rp k k F 64) 64)) else (-1, (k, lo, F))
abbrev rmX0_make : Room := { frames := 4, cells := 0, slots := 0, locals := 91 }
theorem inX0_make : ∀ w ∈ wsX00, w ∈ wsX0_make := fun _ h => List.mem_cons_of_mem _ (List.mem_append_right _ h)
theorem fX0_make_17 : Cond.fieldLink RX0 17 "TwinParity" "lostUnits" "I" ∈ wsX0_make := List.mem_of_getElem? (i := 1) rfl
theorem fX0_make_13 : Cond.fieldLink RX0 13 "TwinParity" "dataUnits" "I" ∈ wsX0_make := List.mem_of_getElem? (i := 7) rfl
theorem fX0_make_9 : Cond.fieldLink RX0 9 "TwinParity" "bytes" "[I" ∈ wsX0_make := List.mem_of_getElem? (i := 20) rfl
theorem kdX0_make : yX0_make.cls = RX0 ∧ yX0_make.cls ≠ "java/lang/invoke/MethodHandle" ∧ yX0_make.cls ≠ "java/lang/invoke/VarHandle" ∧ (parseMethodDescriptor yX0_make.desc).map (fun d => d.parameters.length) = some 0 := by decide +kernel
set_option maxHeartbeats 4000000 in
set_option maxRecDepth 100000 in
theorem c_X0_make (l : Launch) (D : va_G) (cA : ClassId) (h0 a0 k : Nat) (lo : Int32) (F : Nat → BitVec 8) (sz : Nat) (hk : k ≤ 14) : Met l yX0_make wsX0_make rmX0_make (va_Pc [.ref h0] (tw_Pw D (tw_X cA h0 a0 k lo F) (tw_tX cA) sz)) (va_Qi (fun (r : Int32) (u : Nat × Int32 × (Nat → BitVec 8)) => (r, u) = tw_xmake k lo F) (tw_Qw D (fun u : Nat × Int32 × (Nat → BitVec 8) => tw_X cA h0 a0 u.1 u.2.1 u.2.2) (tw_tX cA) (va_A (tw_X cA h0 a0 k lo F) sz)) (va_A (tw_X cA h0 a0 k lo F) sz)) 0 0 (va_A (tw_X cA h0 a0 k lo F) sz) := by
  refine tw_metW (by decide) rfl rfl (Nat.le_of_ble_eq_true rfl) ?_
  intro p e s m args below meth c Q ls A hx hb hml hown hts hP hK hD hS hA hend hl
  have hown : s.vm.findClass RX0 = some m.cls := hown
  have hl : lv_has ls 1 [(0, .ref h0)] := hl
  refine lv_aload_n hx hb dX0_make_0 rfl (lv_at hl 0 rfl) ?_
  refine va_get (D := D) (ci := 0) (v := .int lo) (C := RX0) (T := TX0) (N := 3) hx hb hts inX0_make hown hK hP 0 rfl rfl 2 (by decide) (hts _ fX0_make_17) (fun _ h9 => h9) rfl dX0_make_1 ?_
  refine lv_if_eq (tgt := 9) hx hb dX0_make_4 (by decide) (fun c_4 => ?_) (fun c_4 => ?_)
  · refine lv_aload_n hx hb dX0_make_9 rfl (lv_at hl 0 rfl) ?_
    refine lv_aload_n hx hb dX0_make_10 rfl (lv_at hl 0 rfl) ?_
    refine tw_rX ⟨hx, hb, hml, hown, hts⟩ hK hP (c_X0_unitP l D cA h0 a0 k lo F ) (cwV 0 hts gX0_make_X0_unitP rfl rfl rfl kdX0_unitP ⟨Nat.le_of_ble_eq_true rfl, Nat.le_of_ble_eq_true rfl⟩) rfl hl.1 rfl (Nat.le_of_ble_eq_true rfl) dX0_make_11 ⟨Nat.zero_le _, Nat.zero_le _⟩ ?_
    refine tw_wXv ⟨hx, hb, hml, hown, hts⟩ hK hP hD hS hA (c_X0_restoreByP l D cA h0 a0 k lo F _ k (by omega) hk) (cwV 1 hts gX0_make_X0_restoreByP rfl rfl rfl kdX0_restoreByP ⟨Nat.le_of_ble_eq_true rfl, Nat.le_of_ble_eq_true rfl⟩) rfl hl.1 rfl (Nat.le_of_ble_eq_true rfl) dX0_make_14 ⟨Nat.zero_le _, Nat.zero_le _⟩ (fun H locs hP hD hS => ?_)
    have hP : va_P D vwCl (tw_X cA h0 a0 k lo (ty_rp k k F 64)) H := hP
    have hD : va_D A (tw_X cA h0 a0 k lo (ty_rp k k F 64)) := hD
    refine lv_aload_n hx hb dX0_make_17 rfl (lv_at hl 0 rfl) ?_
    refine lv_aload_n hx hb dX0_make_18 rfl (lv_at hl 0 rfl) ?_
    refine tw_rX ⟨hx, hb, hml, hown, hts⟩ hK hP (c_X0_unitQ l D cA h0 a0 k lo (ty_rp k k F 64) ) (cwV 0 hts gX0_make_X0_unitQ rfl rfl rfl kdX0_unitQ ⟨Nat.le_of_ble_eq_true rfl, Nat.le_of_ble_eq_true rfl⟩) rfl hl.1 rfl (Nat.le_of_ble_eq_true rfl) dX0_make_19 ⟨Nat.zero_le _, Nat.zero_le _⟩ ?_
    refine tw_wXv ⟨hx, hb, hml, hown, hts⟩ hK hP hD hS hA (c_X0_restoreByQ l D cA h0 a0 k lo (ty_rp k k F 64) _ (k + 1) (by omega) hk) (cwV 1 hts gX0_make_X0_restoreByQ rfl rfl rfl kdX0_restoreByQ ⟨Nat.le_of_ble_eq_true rfl, Nat.le_of_ble_eq_true rfl⟩) rfl hl.1 rfl (Nat.le_of_ble_eq_true rfl) dX0_make_22 ⟨Nat.zero_le _, Nat.zero_le _⟩ (fun H locs hP hD hS => ?_)
    have hP : va_P D vwCl (tw_X cA h0 a0 k lo (ty_rq k (k + 1) (ty_rp k k F 64) 64)) H := hP
    have hD : va_D A (tw_X cA h0 a0 k lo (ty_rq k (k + 1) (ty_rp k k F 64) 64)) := hD
    refine lv_iconst (v := 0) hx hb dX0_make_25 (by decide) ?_
    exact hend _ _ _ (k, lo, ty_rq k (k + 1) (ty_rp k k F 64) 64) _ _ dX0_make_26 (by rw [tw_xmake, if_pos c_4]) hP hD hS
  · refine lv_iconst (v := (-1)) hx hb dX0_make_7 (by decide) ?_
    exact hend _ _ _ (k, lo, F) _ _ dX0_make_8 (by rw [tw_xmake, if_neg c_4]) hP hD hS
def tw_xlose (k : Nat) (lo : Int32) (F : Nat → BitVec 8) (x : Int32) : Int32 × (Nat × Int32 × (Nat → BitVec 8)) := if tw_th k lo x then (if tw_bc lo = 2 then (-3, (k, lo, F)) else (tw_bc (lo ||| (1 <<< (x &&& 31))), (k, lo ||| (1 <<< (x &&& 31)), F))) else (-1, (k, lo, F))
abbrev rmX0_lose : Room := { frames := 2, cells := 0, slots := 0, locals := 42 }
theorem inX0_lose : ∀ w ∈ wsX00, w ∈ wsX0_lose := fun _ h => List.mem_cons_of_mem _ (List.mem_append_right _ h)
theorem fX0_lose_17 : Cond.fieldLink RX0 17 "TwinParity" "lostUnits" "I" ∈ wsX0_lose := List.mem_of_getElem? (i := 1) rfl
theorem fX0_lose_13 : Cond.fieldLink RX0 13 "TwinParity" "dataUnits" "I" ∈ wsX0_lose := List.mem_of_getElem? (i := 11) rfl
theorem kdX0_lose : yX0_lose.cls = RX0 ∧ yX0_lose.cls ≠ "java/lang/invoke/MethodHandle" ∧ yX0_lose.cls ≠ "java/lang/invoke/VarHandle" ∧ (parseMethodDescriptor yX0_lose.desc).map (fun d => d.parameters.length) = some 1 := by decide +kernel
set_option maxHeartbeats 4000000 in
set_option maxRecDepth 100000 in
theorem c_X0_lose (l : Launch) (D : va_G) (cA : ClassId) (h0 a0 k : Nat) (lo : Int32) (F : Nat → BitVec 8) (sz : Nat) (x : Int32) (hk : k ≤ 14) : Met l yX0_lose wsX0_lose rmX0_lose (va_Pc [.ref h0, .int x] (tw_Pw D (tw_X cA h0 a0 k lo F) (tw_tX cA) sz)) (va_Qi (fun (r : Int32) (u : Nat × Int32 × (Nat → BitVec 8)) => (r, u) = tw_xlose k lo F x) (tw_Qw D (fun u : Nat × Int32 × (Nat → BitVec 8) => tw_X cA h0 a0 u.1 u.2.1 u.2.2) (tw_tX cA) (va_A (tw_X cA h0 a0 k lo F) sz)) (va_A (tw_X cA h0 a0 k lo F) sz)) 0 0 (va_A (tw_X cA h0 a0 k lo F) sz) := by
  refine tw_metW (by decide) rfl rfl (Nat.le_of_ble_eq_true rfl) ?_
  intro p e s m args below meth c Q ls A hx hb hml hown hts hP hK hD hS hA hend hl
  have hown : s.vm.findClass RX0 = some m.cls := hown
  have hl : lv_has ls 2 [(0, .ref h0), (1, .int x)] := hl
  refine lv_aload_n hx hb dX0_lose_0 rfl (lv_at hl 0 rfl) ?_
  refine lv_iload_n hx hb dX0_lose_1 rfl (lv_at hl 1 rfl) ?_
  refine tw_rX ⟨hx, hb, hml, hown, hts⟩ hK hP (c_X0_isThere l D cA h0 a0 k lo F x hk) (cwV 1 hts gX0_lose_X0_isThere rfl rfl rfl kdX0_isThere ⟨Nat.le_of_ble_eq_true rfl, Nat.le_of_ble_eq_true rfl⟩) rfl hl.1 rfl (Nat.le_of_ble_eq_true rfl) dX0_lose_2 ⟨Nat.zero_le _, Nat.zero_le _⟩ ?_
  refine lv_if_ne (tgt := 10) hx hb dX0_lose_5 (by decide) (fun c_5 => ?_) (fun c_5 => ?_)
  · rw [tw_bI1] at c_5
    refine lv_aload_n hx hb dX0_lose_10 rfl (lv_at hl 0 rfl) ?_
    refine tw_rX ⟨hx, hb, hml, hown, hts⟩ hK hP (c_X0_lostCount l D cA h0 a0 k lo F ) (cwV 0 hts gX0_lose_X0_lostCount rfl rfl rfl kdX0_lostCount ⟨Nat.le_of_ble_eq_true rfl, Nat.le_of_ble_eq_true rfl⟩) rfl hl.1 rfl (Nat.le_of_ble_eq_true rfl) dX0_lose_11 ⟨Nat.zero_le _, Nat.zero_le _⟩ ?_
    refine lv_iconst (v := 2) hx hb dX0_lose_14 (by decide) ?_
    refine lv_icmp_ne (tgt := 21) hx hb dX0_lose_15 (by decide) (fun c_15 => ?_) (fun c_15 => ?_)
    · refine lv_aload_n hx hb dX0_lose_21 rfl (lv_at hl 0 rfl) ?_
      refine lv_dup hx hb dX0_lose_22 rfl ?_
      refine va_get (D := D) (ci := 0) (v := .int lo) (C := RX0) (T := TX0) (N := 3) hx hb hts inX0_lose hown hK hP 0 rfl rfl 2 (by decide) (hts _ fX0_lose_17) (fun _ h9 => h9) rfl dX0_lose_23 ?_
      refine lv_iconst (v := 1) hx hb dX0_lose_26 (by decide) ?_
      refine lv_iload_n hx hb dX0_lose_27 rfl (lv_at hl 1 rfl) ?_
      refine lv_ishl hx hb dX0_lose_28 ?_
      refine lv_ior hx hb dX0_lose_29 ?_
      refine va_put (D := D) (ci := 0) (v := .int (lo ||| (1 <<< (x &&& 31)))) (ty := .int) (C := RX0) (T := TX0) (N := 3) hx hb hts inX0_lose tyX0 tyX0_ok nmX0 hown hK hP hD hS 0 rfl rfl 2 (by decide) (hts _ fX0_lose_17) (fun _ h9 => h9) rfl (by decide +kernel) rfl rfl (Nat.le_of_ble_eq_true rfl) dX0_lose_30 (fun H locs hP hD hS => ?_)
      have hP : va_P D vwCl (tw_X cA h0 a0 k (lo ||| (1 <<< (x &&& 31))) F) H := hP
      have hD : va_D A (tw_X cA h0 a0 k (lo ||| (1 <<< (x &&& 31))) F) := hD
      refine lv_aload_n hx hb dX0_lose_33 rfl (lv_at hl 0 rfl) ?_
      refine tw_rX ⟨hx, hb, hml, hown, hts⟩ hK hP (c_X0_lostCount l D cA h0 a0 k (lo ||| (1 <<< (x &&& 31))) F ) (cwV 0 hts gX0_lose_X0_lostCount rfl rfl rfl kdX0_lostCount ⟨Nat.le_of_ble_eq_true rfl, Nat.le_of_ble_eq_true rfl⟩) rfl hl.1 rfl (Nat.le_of_ble_eq_true rfl) dX0_lose_34 ⟨Nat.zero_le _, Nat.zero_le _⟩ ?_
      exact hend _ _ _ (k, lo ||| (1 <<< (x &&& 31)), F) _ _ dX0_lose_37 (by rw [tw_xlose, c_5, if_pos rfl, if_neg c_15]) hP hD hS
    · refine lv_bipush (v := (-3)) hx hb dX0_lose_18 (by decide) ?_
      exact hend _ _ _ (k, lo, F) _ _ dX0_lose_20 (by rw [tw_xlose, c_5, if_pos rfl, if_pos c_15]) hP hD hS
  · rw [tw_bI0] at c_5
    refine lv_iconst (v := (-1)) hx hb dX0_lose_8 (by decide) ?_
    exact hend _ _ _ (k, lo, F) _ _ dX0_lose_9 (by rw [tw_xlose, c_5]; rfl) hP hD hS
def tw_xmend (k : Nat) (lo : Int32) (F : Nat → BitVec 8) : Int32 × (Nat × Int32 × (Nat → BitVec 8)) :=
  let a := tw_low (tw_lb lo) 0 (k + 2)
  let b := tw_low (tw_lb lo) (a + 1) (k + 2 - (a + 1))
  if a = k + 2 then (0, (k, lo, F)) else if b = k + 2 then (1, (k, 0, ty_ro k a F)) else (2, (k, 0, ty_rt k a b F))
abbrev rmX0_mend : Room := { frames := 5, cells := 0, slots := 0, locals := 116 }
theorem inX0_mend : ∀ w ∈ wsX00, w ∈ wsX0_mend := fun _ h => List.mem_cons_of_mem _ (List.mem_append_right _ h)
theorem fX0_mend_17 : Cond.fieldLink RX0 17 "TwinParity" "lostUnits" "I" ∈ wsX0_mend := List.mem_of_getElem? (i := 1) rfl
theorem fX0_mend_13 : Cond.fieldLink RX0 13 "TwinParity" "dataUnits" "I" ∈ wsX0_mend := List.mem_of_getElem? (i := 11) rfl
theorem fX0_mend_9 : Cond.fieldLink RX0 9 "TwinParity" "bytes" "[I" ∈ wsX0_mend := List.mem_of_getElem? (i := 48) rfl
theorem kdX0_mend : yX0_mend.cls = RX0 ∧ yX0_mend.cls ≠ "java/lang/invoke/MethodHandle" ∧ yX0_mend.cls ≠ "java/lang/invoke/VarHandle" ∧ (parseMethodDescriptor yX0_mend.desc).map (fun d => d.parameters.length) = some 0 := by decide +kernel
set_option maxHeartbeats 4000000 in
set_option maxRecDepth 100000 in
theorem c_X0_mend (l : Launch) (D : va_G) (cA : ClassId) (h0 a0 k : Nat) (lo : Int32) (F : Nat → BitVec 8) (sz : Nat) (hk : k ≤ 14) : Met l yX0_mend wsX0_mend rmX0_mend (va_Pc [.ref h0] (tw_Pw D (tw_X cA h0 a0 k lo F) (tw_tX cA) sz)) (va_Qi (fun (r : Int32) (u : Nat × Int32 × (Nat → BitVec 8)) => (r, u) = tw_xmend k lo F) (tw_Qw D (fun u : Nat × Int32 × (Nat → BitVec 8) => tw_X cA h0 a0 u.1 u.2.1 u.2.2) (tw_tX cA) (va_A (tw_X cA h0 a0 k lo F) sz)) (va_A (tw_X cA h0 a0 k lo F) sz)) 0 0 (va_A (tw_X cA h0 a0 k lo F) sz) := by
  refine tw_metW (by decide) rfl rfl (Nat.le_of_ble_eq_true rfl) ?_
  intro p e s m args below meth c Q ls A hx hb hml hown hts hP hK hD hS hA hend hl
  have hown : s.vm.findClass RX0 = some m.cls := hown
  have hl : lv_has ls 3 [(0, .ref h0)] := hl
  refine lv_aload_n hx hb dX0_mend_0 rfl (lv_at hl 0 rfl) ?_
  refine lv_iconst (v := 0) hx hb dX0_mend_1 (by decide) ?_
  refine tw_rX ⟨hx, hb, hml, hown, hts⟩ hK hP (c_X0_lostFrom l D cA h0 a0 k lo F 0 (Nat.zero_le _) hk) (cwV 1 hts gX0_mend_X0_lostFrom rfl rfl rfl kdX0_lostFrom ⟨Nat.le_of_ble_eq_true rfl, Nat.le_of_ble_eq_true rfl⟩) rfl hl.1 rfl (Nat.le_of_ble_eq_true rfl) dX0_mend_2 ⟨Nat.zero_le _, Nat.zero_le _⟩ ?_
  refine lv_topi (fun x1_5 ex1_5 => ?_)
  refine lv_istore_n (lv' := [(1, .int x1_5), (0, .ref h0)]) hx hb dX0_mend_5 rfl hl (by decide) rfl (fun ls hl => ?_)
  refine lv_iload_n hx hb dX0_mend_6 rfl (lv_at hl 0 rfl) ?_
  refine lv_iconst (v := (-1)) hx hb dX0_mend_7 (by decide) ?_
  refine lv_icmp_ne (tgt := 13) hx hb dX0_mend_8 (by decide) (fun c_8 => ?_) (fun c_8 => ?_)
  · obtain ⟨a, ha, -, ha2, ha3⟩ := tw_lfD hk (Nat.zero_le _) (by rw [← ex1_5]; exact c_8)
    rw [ex1_5, ha3] at hl
    refine lv_aload_n hx hb dX0_mend_13 rfl (lv_at hl 1 rfl) ?_
    refine lv_iload_n hx hb dX0_mend_14 rfl (lv_at hl 0 rfl) ?_
    refine lv_iconst (v := 1) hx hb dX0_mend_15 (by decide) ?_
    refine lv_iadd hx hb dX0_mend_16 ?_
    refine tw_topr (x' := nI (a + 1)) (nI_1 a) ?_
    refine tw_rX ⟨hx, hb, hml, hown, hts⟩ hK hP (c_X0_lostFrom l D cA h0 a0 k lo F (a + 1) (by omega) hk) (cwV 1 hts gX0_mend_X0_lostFrom rfl rfl rfl kdX0_lostFrom ⟨Nat.le_of_ble_eq_true rfl, Nat.le_of_ble_eq_true rfl⟩) rfl hl.1 rfl (Nat.le_of_ble_eq_true rfl) dX0_mend_17 ⟨Nat.zero_le _, Nat.zero_le _⟩ ?_
    refine lv_topi (fun x2_20 ex2_20 => ?_)
    refine lv_istore_n (lv' := [(2, .int x2_20), (1, .int (nI a)), (0, .ref h0)]) hx hb dX0_mend_20 rfl hl (by decide) rfl (fun ls hl => ?_)
    refine lv_aload_n hx hb dX0_mend_21 rfl (lv_at hl 2 rfl) ?_
    refine lv_iconst (v := 0) hx hb dX0_mend_22 (by decide) ?_
    refine va_put (D := D) (ci := 0) (v := .int 0) (ty := .int) (C := RX0) (T := TX0) (N := 3) hx hb hts inX0_mend tyX0 tyX0_ok nmX0 hown hK hP hD hS 0 rfl rfl 2 (by decide) (hts _ fX0_mend_17) (fun _ h9 => h9) rfl (by decide +kernel) rfl rfl (Nat.le_of_ble_eq_true rfl) dX0_mend_23 (fun H locs hP hD hS => ?_)
    have hP : va_P D vwCl (tw_X cA h0 a0 k 0 F) H := hP
    have hD : va_D A (tw_X cA h0 a0 k 0 F) := hD
    refine lv_iload_n hx hb dX0_mend_26 rfl (lv_at hl 0 rfl) ?_
    refine lv_iconst (v := (-1)) hx hb dX0_mend_27 (by decide) ?_
    refine lv_icmp_ne (tgt := 38) hx hb dX0_mend_28 (by decide) (fun c_28 => ?_) (fun c_28 => ?_)
    · obtain ⟨b, hb1, hb2, hb3, hb4⟩ := tw_lfD (f := a + 1) hk (by omega) (by rw [← ex2_20]; exact c_28)
      rw [ex2_20, hb4] at hl
      refine lv_aload_n hx hb dX0_mend_38 rfl (lv_at hl 2 rfl) ?_
      refine lv_iload_n hx hb dX0_mend_39 rfl (lv_at hl 1 rfl) ?_
      refine lv_iload_n hx hb dX0_mend_40 rfl (lv_at hl 0 rfl) ?_
      refine tw_wXv ⟨hx, hb, hml, hown, hts⟩ hK hP hD hS hA (c_X0_restoreTwo l D cA h0 a0 k 0 F _ a b (by omega) (by omega) hk) (cwV 2 hts gX0_mend_X0_restoreTwo rfl rfl rfl kdX0_restoreTwo ⟨Nat.le_of_ble_eq_true rfl, Nat.le_of_ble_eq_true rfl⟩) rfl hl.1 rfl (Nat.le_of_ble_eq_true rfl) dX0_mend_41 ⟨Nat.zero_le _, Nat.zero_le _⟩ (fun H locs hP hD hS => ?_)
      have hP : va_P D vwCl (tw_X cA h0 a0 k 0 (ty_rt k a b F)) H := hP
      have hD : va_D A (tw_X cA h0 a0 k 0 (ty_rt k a b F)) := hD
      refine lv_iconst (v := 2) hx hb dX0_mend_44 (by decide) ?_
      exact hend _ _ _ (k, 0, ty_rt k a b F) _ _ dX0_mend_45 (by have h9 : tw_low (tw_lb lo) 0 (k + 2) = a := ha.symm; simp only [tw_xmend, h9, ← hb1, if_neg (show ¬ a = k + 2 by omega), if_neg (show ¬ b = k + 2 by omega)]) hP hD hS
    · refine lv_aload_n hx hb dX0_mend_31 rfl (lv_at hl 2 rfl) ?_
      refine lv_iload_n hx hb dX0_mend_32 rfl (lv_at hl 1 rfl) ?_
      refine tw_wXv ⟨hx, hb, hml, hown, hts⟩ hK hP hD hS hA (c_X0_restoreOne l D cA h0 a0 k 0 F _ a (by omega) hk) (cwV 1 hts gX0_mend_X0_restoreOne rfl rfl rfl kdX0_restoreOne ⟨Nat.le_of_ble_eq_true rfl, Nat.le_of_ble_eq_true rfl⟩) rfl hl.1 rfl (Nat.le_of_ble_eq_true rfl) dX0_mend_33 ⟨Nat.zero_le _, Nat.zero_le _⟩ (fun H locs hP hD hS => ?_)
      have hP : va_P D vwCl (tw_X cA h0 a0 k 0 (ty_ro k a F)) H := hP
      have hD : va_D A (tw_X cA h0 a0 k 0 (ty_ro k a F)) := hD
      refine lv_iconst (v := 1) hx hb dX0_mend_36 (by decide) ?_
      exact hend _ _ _ (k, 0, ty_ro k a F) _ _ dX0_mend_37 (by have h8 : tw_low (tw_lb lo) (a + 1) (k + 2 - (a + 1)) = k + 2 := tw_lfE hk (by omega) (by rw [← ex2_20]; exact c_28); have h9 : tw_low (tw_lb lo) 0 (k + 2) = a := ha.symm; simp only [tw_xmend, h9, h8, if_neg (show ¬ a = k + 2 by omega), if_true]) hP hD hS
  · refine lv_iconst (v := 0) hx hb dX0_mend_11 (by decide) ?_
    exact hend _ _ _ (k, lo, F) _ _ dX0_mend_12 (by have h9 : tw_low (tw_lb lo) 0 (k + 2) = k + 2 := tw_lfE hk (Nat.zero_le _) (by rw [← ex1_5]; exact c_8); simp [tw_xmend, h9]) hP hD hS
def tw_xfix (k : Nat) (lo : Int32) (F : Nat → BitVec 8) : Int32 × (Nat × Int32 × (Nat → BitVec 8)) := if tw_ck k lo F < 0 then (tw_ck k lo F, (k, lo, F)) else (tw_ck k lo F, (k, lo, ty_ro k (tw_ck k lo F).toNatClampNeg F))
abbrev rmX0_fix : Room := { frames := 5, cells := 0, slots := 0, locals := 112 }
theorem inX0_fix : ∀ w ∈ wsX00, w ∈ wsX0_fix := fun _ h => List.mem_cons_of_mem _ (List.mem_append_right _ h)
theorem fX0_fix_17 : Cond.fieldLink RX0 17 "TwinParity" "lostUnits" "I" ∈ wsX0_fix := List.mem_of_getElem? (i := 6) rfl
theorem fX0_fix_13 : Cond.fieldLink RX0 13 "TwinParity" "dataUnits" "I" ∈ wsX0_fix := List.mem_of_getElem? (i := 11) rfl
theorem fX0_fix_9 : Cond.fieldLink RX0 9 "TwinParity" "bytes" "[I" ∈ wsX0_fix := List.mem_of_getElem? (i := 24) rfl
theorem kdX0_fix : yX0_fix.cls = RX0 ∧ yX0_fix.cls ≠ "java/lang/invoke/MethodHandle" ∧ yX0_fix.cls ≠ "java/lang/invoke/VarHandle" ∧ (parseMethodDescriptor yX0_fix.desc).map (fun d => d.parameters.length) = some 0 := by decide +kernel
set_option maxHeartbeats 4000000 in
set_option maxRecDepth 100000 in
theorem c_X0_fix (l : Launch) (D : va_G) (cA : ClassId) (h0 a0 k : Nat) (lo : Int32) (F : Nat → BitVec 8) (sz : Nat) (hk : k ≤ 14) : Met l yX0_fix wsX0_fix rmX0_fix (va_Pc [.ref h0] (tw_Pw D (tw_X cA h0 a0 k lo F) (tw_tX cA) sz)) (va_Qi (fun (r : Int32) (u : Nat × Int32 × (Nat → BitVec 8)) => (r, u) = tw_xfix k lo F) (tw_Qw D (fun u : Nat × Int32 × (Nat → BitVec 8) => tw_X cA h0 a0 u.1 u.2.1 u.2.2) (tw_tX cA) (va_A (tw_X cA h0 a0 k lo F) sz)) (va_A (tw_X cA h0 a0 k lo F) sz)) 0 0 (va_A (tw_X cA h0 a0 k lo F) sz) := by
  refine tw_metW (by decide) rfl rfl (Nat.le_of_ble_eq_true rfl) ?_
  intro p e s m args below meth c Q ls A hx hb hml hown hts hP hK hD hS hA hend hl
  have hown : s.vm.findClass RX0 = some m.cls := hown
  have hl : lv_has ls 2 [(0, .ref h0)] := hl
  refine lv_aload_n hx hb dX0_fix_0 rfl (lv_at hl 0 rfl) ?_
  refine tw_rX ⟨hx, hb, hml, hown, hts⟩ hK hP (c_X0_check l D cA h0 a0 k lo F hk) (cwV 0 hts gX0_fix_X0_check rfl rfl rfl kdX0_check ⟨Nat.le_of_ble_eq_true rfl, Nat.le_of_ble_eq_true rfl⟩) rfl hl.1 rfl (Nat.le_of_ble_eq_true rfl) dX0_fix_1 ⟨Nat.zero_le _, Nat.zero_le _⟩ ?_
  refine lv_topi (fun x1_4 ex1_4 => ?_)
  refine lv_istore_n (lv' := [(1, .int x1_4), (0, .ref h0)]) hx hb dX0_fix_4 rfl hl (by decide) rfl (fun ls hl => ?_)
  refine lv_iload_n hx hb dX0_fix_5 rfl (lv_at hl 0 rfl) ?_
  refine lv_if_lt (tgt := 14) hx hb dX0_fix_6 (by decide) (fun c_6 => ?_) (fun c_6 => ?_)
  · refine lv_iload_n hx hb dX0_fix_14 rfl (lv_at hl 0 rfl) ?_
    exact hend _ _ _ (k, lo, F) _ _ dX0_fix_15 (by rw [tw_xfix, ← ex1_4, if_pos c_6]) hP hD hS
  · obtain ⟨a, ha, ha2⟩ := tw_ckD hk (show ¬ tw_ck k lo F < 0 by rw [← ex1_4]; exact c_6)
    rw [ex1_4, ha2] at hl
    refine lv_aload_n hx hb dX0_fix_9 rfl (lv_at hl 1 rfl) ?_
    refine lv_iload_n hx hb dX0_fix_10 rfl (lv_at hl 0 rfl) ?_
    refine tw_wXv ⟨hx, hb, hml, hown, hts⟩ hK hP hD hS hA (c_X0_restoreOne l D cA h0 a0 k lo F _ a ha hk) (cwV 1 hts gX0_fix_X0_restoreOne rfl rfl rfl kdX0_restoreOne ⟨Nat.le_of_ble_eq_true rfl, Nat.le_of_ble_eq_true rfl⟩) rfl hl.1 rfl (Nat.le_of_ble_eq_true rfl) dX0_fix_11 ⟨Nat.zero_le _, Nat.zero_le _⟩ (fun H locs hP hD hS => ?_)
    have hP : va_P D vwCl (tw_X cA h0 a0 k lo (ty_ro k a F)) H := hP
    have hD : va_D A (tw_X cA h0 a0 k lo (ty_ro k a F)) := hD
    refine lv_iload_n hx hb dX0_fix_14 rfl (lv_at hl 0 rfl) ?_
    exact hend _ _ _ (k, lo, ty_ro k a F) _ _ dX0_fix_15 (by rw [tw_xfix, ha2, if_neg (nI_pos (by omega)), nI_clamp (by omega)]) hP hD hS
