section
-- ===== PART A: goes FIRST, ahead of the names: the tables' words, and 'selects' of the private methods out of them =====
/-- a private method of a class that the tables say can be made, by its rows of tables_1 -/
def lw_okq (q : MethodName × Nat) : Prop := (q.1.cls ≠ "java/lang/invoke/MethodHandle" ∧ q.1.cls ≠ "java/lang/invoke/VarHandle") ∧ Cond.instantiable q.1.cls q.2 ∈ tables_1 ∧ Cond.privateMethod q.1 ∈ tables_1 ∧ Cond.instanceMethod q.1 ∈ tables_1
theorem lw_p0 : lw_okq (⟨"TwinParity", "units", "()I"⟩, 3) := ⟨⟨by decide +kernel, by decide +kernel⟩, List.mem_of_getElem? (i := 7) (by decide +kernel), List.mem_of_getElem? (i := 33) (by decide +kernel), List.mem_of_getElem? (i := 34) (by decide +kernel)⟩
theorem lw_p1 : lw_okq (⟨"TwinParity", "isThere", "(I)Z"⟩, 3) := ⟨⟨by decide +kernel, by decide +kernel⟩, List.mem_of_getElem? (i := 7) (by decide +kernel), List.mem_of_getElem? (i := 41) (by decide +kernel), List.mem_of_getElem? (i := 42) (by decide +kernel)⟩
theorem lw_p2 : lw_okq (⟨"TwinParity", "isLost", "(I)Z"⟩, 3) := ⟨⟨by decide +kernel, by decide +kernel⟩, List.mem_of_getElem? (i := 7) (by decide +kernel), List.mem_of_getElem? (i := 45) (by decide +kernel), List.mem_of_getElem? (i := 46) (by decide +kernel)⟩
theorem lw_p3 : lw_okq (⟨"TwinParity", "byteAt", "(II)I"⟩, 3) := ⟨⟨by decide +kernel, by decide +kernel⟩, List.mem_of_getElem? (i := 7) (by decide +kernel), List.mem_of_getElem? (i := 52) (by decide +kernel), List.mem_of_getElem? (i := 53) (by decide +kernel)⟩
theorem lw_p4 : lw_okq (⟨"TwinParity", "changeWithParities", "(III)V"⟩, 3) := ⟨⟨by decide +kernel, by decide +kernel⟩, List.mem_of_getElem? (i := 7) (by decide +kernel), List.mem_of_getElem? (i := 56) (by decide +kernel), List.mem_of_getElem? (i := 57) (by decide +kernel)⟩
theorem lw_p5 : lw_okq (⟨"TwinParity", "change", "(III)V"⟩, 3) := ⟨⟨by decide +kernel, by decide +kernel⟩, List.mem_of_getElem? (i := 7) (by decide +kernel), List.mem_of_getElem? (i := 60) (by decide +kernel), List.mem_of_getElem? (i := 61) (by decide +kernel)⟩
theorem lw_p6 : lw_okq (⟨"TwinParity", "unitP", "()I"⟩, 3) := ⟨⟨by decide +kernel, by decide +kernel⟩, List.mem_of_getElem? (i := 7) (by decide +kernel), List.mem_of_getElem? (i := 64) (by decide +kernel), List.mem_of_getElem? (i := 65) (by decide +kernel)⟩
theorem lw_p7 : lw_okq (⟨"TwinParity", "unitQ", "()I"⟩, 3) := ⟨⟨by decide +kernel, by decide +kernel⟩, List.mem_of_getElem? (i := 7) (by decide +kernel), List.mem_of_getElem? (i := 68) (by decide +kernel), List.mem_of_getElem? (i := 69) (by decide +kernel)⟩
theorem lw_p8 : lw_okq (⟨"TwinParity", "restoreByP", "(I)V"⟩, 3) := ⟨⟨by decide +kernel, by decide +kernel⟩, List.mem_of_getElem? (i := 7) (by decide +kernel), List.mem_of_getElem? (i := 87) (by decide +kernel), List.mem_of_getElem? (i := 88) (by decide +kernel)⟩
theorem lw_p9 : lw_okq (⟨"TwinParity", "differenceP", "(I)I"⟩, 3) := ⟨⟨by decide +kernel, by decide +kernel⟩, List.mem_of_getElem? (i := 7) (by decide +kernel), List.mem_of_getElem? (i := 91) (by decide +kernel), List.mem_of_getElem? (i := 92) (by decide +kernel)⟩
theorem lw_p10 : lw_okq (⟨"TwinParity", "restoreByQ", "(I)V"⟩, 3) := ⟨⟨by decide +kernel, by decide +kernel⟩, List.mem_of_getElem? (i := 7) (by decide +kernel), List.mem_of_getElem? (i := 95) (by decide +kernel), List.mem_of_getElem? (i := 96) (by decide +kernel)⟩
theorem lw_p11 : lw_okq (⟨"TwinParity", "differenceQ", "(I)I"⟩, 3) := ⟨⟨by decide +kernel, by decide +kernel⟩, List.mem_of_getElem? (i := 7) (by decide +kernel), List.mem_of_getElem? (i := 105) (by decide +kernel), List.mem_of_getElem? (i := 106) (by decide +kernel)⟩
theorem lw_p12 : lw_okq (⟨"TwinParity", "lostCount", "()I"⟩, 3) := ⟨⟨by decide +kernel, by decide +kernel⟩, List.mem_of_getElem? (i := 7) (by decide +kernel), List.mem_of_getElem? (i := 121) (by decide +kernel), List.mem_of_getElem? (i := 122) (by decide +kernel)⟩
theorem lw_p13 : lw_okq (⟨"TwinParity", "lostFrom", "(I)I"⟩, 3) := ⟨⟨by decide +kernel, by decide +kernel⟩, List.mem_of_getElem? (i := 7) (by decide +kernel), List.mem_of_getElem? (i := 135) (by decide +kernel), List.mem_of_getElem? (i := 136) (by decide +kernel)⟩
theorem lw_p14 : lw_okq (⟨"TwinParity", "restoreOne", "(I)V"⟩, 3) := ⟨⟨by decide +kernel, by decide +kernel⟩, List.mem_of_getElem? (i := 7) (by decide +kernel), List.mem_of_getElem? (i := 139) (by decide +kernel), List.mem_of_getElem? (i := 140) (by decide +kernel)⟩
theorem lw_p15 : lw_okq (⟨"TwinParity", "restoreTwo", "(II)V"⟩, 3) := ⟨⟨by decide +kernel, by decide +kernel⟩, List.mem_of_getElem? (i := 7) (by decide +kernel), List.mem_of_getElem? (i := 143) (by decide +kernel), List.mem_of_getElem? (i := 144) (by decide +kernel)⟩
def lw_privs_1 : List (MethodName × Nat) := [(⟨"TwinParity", "units", "()I"⟩, 3), (⟨"TwinParity", "isThere", "(I)Z"⟩, 3), (⟨"TwinParity", "isLost", "(I)Z"⟩, 3), (⟨"TwinParity", "byteAt", "(II)I"⟩, 3), (⟨"TwinParity", "changeWithParities", "(III)V"⟩, 3), (⟨"TwinParity", "change", "(III)V"⟩, 3), (⟨"TwinParity", "unitP", "()I"⟩, 3), (⟨"TwinParity", "unitQ", "()I"⟩, 3), (⟨"TwinParity", "restoreByP", "(I)V"⟩, 3), (⟨"TwinParity", "differenceP", "(I)I"⟩, 3), (⟨"TwinParity", "restoreByQ", "(I)V"⟩, 3), (⟨"TwinParity", "differenceQ", "(I)I"⟩, 3), (⟨"TwinParity", "lostCount", "()I"⟩, 3), (⟨"TwinParity", "lostFrom", "(I)I"⟩, 3), (⟨"TwinParity", "restoreOne", "(I)V"⟩, 3), (⟨"TwinParity", "restoreTwo", "(II)V"⟩, 3)]
theorem lw_r1 : ∀ q ∈ lw_privs_1, lw_okq q := List.forall_mem_cons.mpr ⟨lw_p0, List.forall_mem_cons.mpr ⟨lw_p1, List.forall_mem_cons.mpr ⟨lw_p2, List.forall_mem_cons.mpr ⟨lw_p3, List.forall_mem_cons.mpr ⟨lw_p4, List.forall_mem_cons.mpr ⟨lw_p5, List.forall_mem_cons.mpr ⟨lw_p6, List.forall_mem_cons.mpr ⟨lw_p7, List.forall_mem_cons.mpr ⟨lw_p8, List.forall_mem_cons.mpr ⟨lw_p9, List.forall_mem_cons.mpr ⟨lw_p10, List.forall_mem_cons.mpr ⟨lw_p11, List.forall_mem_cons.mpr ⟨lw_p12, List.forall_mem_cons.mpr ⟨lw_p13, List.forall_mem_cons.mpr ⟨lw_p14, List.forall_mem_cons.mpr ⟨lw_p15, fun _ h => absurd h List.not_mem_nil⟩⟩⟩⟩⟩⟩⟩⟩⟩⟩⟩⟩⟩⟩⟩⟩
theorem lw_p16 : lw_okq (⟨"TwinParity", "restoreDataPair", "(II)V"⟩, 3) := ⟨⟨by decide +kernel, by decide +kernel⟩, List.mem_of_getElem? (i := 7) (by decide +kernel), List.mem_of_getElem? (i := 147) (by decide +kernel), List.mem_of_getElem? (i := 148) (by decide +kernel)⟩
theorem lw_p17 : lw_okq (⟨"TwinParity", "offAt", "(I)I"⟩, 3) := ⟨⟨by decide +kernel, by decide +kernel⟩, List.mem_of_getElem? (i := 7) (by decide +kernel), List.mem_of_getElem? (i := 155) (by decide +kernel), List.mem_of_getElem? (i := 156) (by decide +kernel)⟩
theorem lw_p18 : lw_okq (⟨"TwinParityModel", "part", "(II)I"⟩, 4) := ⟨⟨by decide +kernel, by decide +kernel⟩, List.mem_of_getElem? (i := 182) (by decide +kernel), List.mem_of_getElem? (i := 211) (by decide +kernel), List.mem_of_getElem? (i := 212) (by decide +kernel)⟩
theorem lw_p19 : lw_okq (⟨"TwinParityModel", "times", "(II)I"⟩, 4) := ⟨⟨by decide +kernel, by decide +kernel⟩, List.mem_of_getElem? (i := 182) (by decide +kernel), List.mem_of_getElem? (i := 215) (by decide +kernel), List.mem_of_getElem? (i := 216) (by decide +kernel)⟩
theorem lw_p20 : lw_okq (⟨"TwinParityModel", "twos", "(I)I"⟩, 4) := ⟨⟨by decide +kernel, by decide +kernel⟩, List.mem_of_getElem? (i := 182) (by decide +kernel), List.mem_of_getElem? (i := 223) (by decide +kernel), List.mem_of_getElem? (i := 224) (by decide +kernel)⟩
theorem lw_p21 : lw_okq (⟨"TwinParityModel", "p", "()I"⟩, 4) := ⟨⟨by decide +kernel, by decide +kernel⟩, List.mem_of_getElem? (i := 182) (by decide +kernel), List.mem_of_getElem? (i := 231) (by decide +kernel), List.mem_of_getElem? (i := 232) (by decide +kernel)⟩
theorem lw_p22 : lw_okq (⟨"TwinParityModel", "q", "()I"⟩, 4) := ⟨⟨by decide +kernel, by decide +kernel⟩, List.mem_of_getElem? (i := 182) (by decide +kernel), List.mem_of_getElem? (i := 236) (by decide +kernel), List.mem_of_getElem? (i := 237) (by decide +kernel)⟩
theorem lw_p23 : lw_okq (⟨"TwinParityModel", "noUnit", "(I)Z"⟩, 4) := ⟨⟨by decide +kernel, by decide +kernel⟩, List.mem_of_getElem? (i := 182) (by decide +kernel), List.mem_of_getElem? (i := 244) (by decide +kernel), List.mem_of_getElem? (i := 245) (by decide +kernel)⟩
theorem lw_p24 : lw_okq (⟨"TwinParityModel", "manyLost", "()I"⟩, 4) := ⟨⟨by decide +kernel, by decide +kernel⟩, List.mem_of_getElem? (i := 182) (by decide +kernel), List.mem_of_getElem? (i := 253) (by decide +kernel), List.mem_of_getElem? (i := 254) (by decide +kernel)⟩
theorem lw_p25 : lw_okq (⟨"TwinParityModel", "sumAt", "(IZ)I"⟩, 4) := ⟨⟨by decide +kernel, by decide +kernel⟩, List.mem_of_getElem? (i := 182) (by decide +kernel), List.mem_of_getElem? (i := 257) (by decide +kernel), List.mem_of_getElem? (i := 258) (by decide +kernel)⟩
theorem lw_p26 : lw_okq (⟨"TwinParityModel", "lowest", "(I)I"⟩, 4) := ⟨⟨by decide +kernel, by decide +kernel⟩, List.mem_of_getElem? (i := 182) (by decide +kernel), List.mem_of_getElem? (i := 277) (by decide +kernel), List.mem_of_getElem? (i := 278) (by decide +kernel)⟩
theorem lw_p27 : lw_okq (⟨"TwinParityModel", "find", "(III)V"⟩, 4) := ⟨⟨by decide +kernel, by decide +kernel⟩, List.mem_of_getElem? (i := 182) (by decide +kernel), List.mem_of_getElem? (i := 281) (by decide +kernel), List.mem_of_getElem? (i := 282) (by decide +kernel)⟩
theorem lw_p28 : lw_okq (⟨"TwinParityModel", "wouldFit", "(IIIII)Z"⟩, 4) := ⟨⟨by decide +kernel, by decide +kernel⟩, List.mem_of_getElem? (i := 182) (by decide +kernel), List.mem_of_getElem? (i := 285) (by decide +kernel), List.mem_of_getElem? (i := 286) (by decide +kernel)⟩
theorem lw_p29 : lw_okq (⟨"TwinParityModel", "off", "()I"⟩, 4) := ⟨⟨by decide +kernel, by decide +kernel⟩, List.mem_of_getElem? (i := 182) (by decide +kernel), List.mem_of_getElem? (i := 293) (by decide +kernel), List.mem_of_getElem? (i := 294) (by decide +kernel)⟩
def lw_privs_2 : List (MethodName × Nat) := [(⟨"TwinParity", "restoreDataPair", "(II)V"⟩, 3), (⟨"TwinParity", "offAt", "(I)I"⟩, 3), (⟨"TwinParityModel", "part", "(II)I"⟩, 4), (⟨"TwinParityModel", "times", "(II)I"⟩, 4), (⟨"TwinParityModel", "twos", "(I)I"⟩, 4), (⟨"TwinParityModel", "p", "()I"⟩, 4), (⟨"TwinParityModel", "q", "()I"⟩, 4), (⟨"TwinParityModel", "noUnit", "(I)Z"⟩, 4), (⟨"TwinParityModel", "manyLost", "()I"⟩, 4), (⟨"TwinParityModel", "sumAt", "(IZ)I"⟩, 4), (⟨"TwinParityModel", "lowest", "(I)I"⟩, 4), (⟨"TwinParityModel", "find", "(III)V"⟩, 4), (⟨"TwinParityModel", "wouldFit", "(IIIII)Z"⟩, 4), (⟨"TwinParityModel", "off", "()I"⟩, 4)]
theorem lw_r2 : ∀ q ∈ lw_privs_2, lw_okq q := List.forall_mem_cons.mpr ⟨lw_p16, List.forall_mem_cons.mpr ⟨lw_p17, List.forall_mem_cons.mpr ⟨lw_p18, List.forall_mem_cons.mpr ⟨lw_p19, List.forall_mem_cons.mpr ⟨lw_p20, List.forall_mem_cons.mpr ⟨lw_p21, List.forall_mem_cons.mpr ⟨lw_p22, List.forall_mem_cons.mpr ⟨lw_p23, List.forall_mem_cons.mpr ⟨lw_p24, List.forall_mem_cons.mpr ⟨lw_p25, List.forall_mem_cons.mpr ⟨lw_p26, List.forall_mem_cons.mpr ⟨lw_p27, List.forall_mem_cons.mpr ⟨lw_p28, List.forall_mem_cons.mpr ⟨lw_p29, fun _ h => absurd h List.not_mem_nil⟩⟩⟩⟩⟩⟩⟩⟩⟩⟩⟩⟩⟩⟩
def lw_privs : List (MethodName × Nat) := lw_privs_1 ++ (lw_privs_2)
def lw_tbl : List Cond := k2_sels lw_privs ++ tables_1
theorem lw_privs_ok : ∀ q ∈ lw_privs, lw_okq q := by
  show ∀ q ∈ lw_privs_1 ++ (lw_privs_2), lw_okq q
  exact List.forall_mem_append.mpr ⟨lw_r1, lw_r2⟩
end
section
/-! ===== BEGIN words of one list among another's, by their places ===== -/
theorem goodIn_r {big : List Cond} (ws : List Cond) (ps : List Nat) (hp : ws = ps.filterMap (fun i => big[i]?)) (h : ws.all goodWord = true) : GoodIn big ws := by
  intro w hw
  have h1 := List.all_eq_true.mp h w hw
  rw [hp] at hw
  obtain ⟨i, -, hi⟩ := List.mem_filterMap.mp hw
  have hm : w ∈ big := by first | exact List.mem_of_getElem? hi | exact List.getElem?_mem hi
  exact ⟨hm, good_of_word h1⟩
theorem goodIn_app {big a b : List Cond} (ha : GoodIn big a) (hb : GoodIn big b) : GoodIn big (a ++ b) := fun w h => (List.mem_append.mp h).elim (ha w) (hb w)
theorem goodIn_ca {big a b : List Cond} {c : Cond} (ha : GoodIn big (c :: a)) (hb : GoodIn big b) : GoodIn big (c :: (a ++ b)) := fun w h => (List.mem_cons.mp h).elim (fun e => ha w (List.mem_cons.mpr (Or.inl e))) (fun h => (List.mem_append.mp h).elim (fun h => ha w (List.mem_cons.mpr (Or.inr h))) (hb w))
theorem goodIn_sub {big ws : List Cond} (hm : ∀ w ∈ ws, w ∈ big) (h : ws.all goodWord = true) : GoodIn big ws := fun w hw => ⟨hm w hw, good_of_word (List.all_eq_true.mp h w hw)⟩
/-! ===== END ===== -/

/-! ===== BEGIN printed: names, fields, word lists, decode rows ===== -/
def RX0 : String := "TwinParity"
def TX0 : u_T := fun k => match k with
  | 0 => ("TwinParity", "bytes", "[I", true)
  | 1 => ("TwinParity", "dataUnits", "I", false)
  | _ => ("TwinParity", "lostUnits", "I", false)
def tyX0 : Nat → FieldType := fun k => match k with
  | 0 => .array .int
  | 1 => .int
  | _ => .int
abbrev wsX00 : List Cond := u_ws RX0 TX0 3
theorem nmX0 : ∀ a, a < 3 → ∀ b, b < 3 → a ≠ b → (TX0 a).2.1 ≠ (TX0 b).2.1 := by decide +kernel
theorem tyX0_ok : ∀ k, k < 3 → parseFieldDescriptor (TX0 k).2.2.1 = some (tyX0 k) := by decide +kernel
abbrev cX0_init : ByteArray := prog_1_method_1_code
def yX0_init : MethodName := ⟨RX0, "<init>", "()V"⟩
abbrev cX0_begin : ByteArray := prog_1_method_2_code
def yX0_begin : MethodName := ⟨RX0, "begin", "(I)I"⟩
abbrev cX0_put : ByteArray := prog_1_method_3_code
def yX0_put : MethodName := ⟨RX0, "put", "(IIIJ)I"⟩
abbrev cX0_spoil : ByteArray := prog_1_method_4_code
def yX0_spoil : MethodName := ⟨RX0, "spoil", "(IIII)I"⟩
abbrev cX0_make : ByteArray := prog_1_method_5_code
def yX0_make : MethodName := ⟨RX0, "make", "()I"⟩
abbrev cX0_get : ByteArray := prog_1_method_6_code
def yX0_get : MethodName := ⟨RX0, "get", "(II)I"⟩
abbrev cX0_word : ByteArray := prog_1_method_7_code
def yX0_word : MethodName := ⟨RX0, "word", "(II)J"⟩
abbrev cX0_lose : ByteArray := prog_1_method_8_code
def yX0_lose : MethodName := ⟨RX0, "lose", "(I)I"⟩
abbrev cX0_mend : ByteArray := prog_1_method_9_code
def yX0_mend : MethodName := ⟨RX0, "mend", "()I"⟩
abbrev cX0_check : ByteArray := prog_1_method_10_code
def yX0_check : MethodName := ⟨RX0, "check", "()I"⟩
abbrev cX0_fix : ByteArray := prog_1_method_11_code
def yX0_fix : MethodName := ⟨RX0, "fix", "()I"⟩
abbrev cX0_count : ByteArray := prog_1_method_12_code
def yX0_count : MethodName := ⟨RX0, "count", "(I)I"⟩
abbrev cX0_product : ByteArray := prog_1_method_13_code
def yX0_product : MethodName := ⟨RX0, "product", "(IIZ)I"⟩
abbrev cX0_power : ByteArray := prog_1_method_14_code
def yX0_power : MethodName := ⟨RX0, "power", "(I)I"⟩
abbrev cX0_units : ByteArray := prog_1_method_15_code
def yX0_units : MethodName := ⟨RX0, "units", "()I"⟩
abbrev cX0_unitP : ByteArray := prog_1_method_16_code
def yX0_unitP : MethodName := ⟨RX0, "unitP", "()I"⟩
abbrev cX0_unitQ : ByteArray := prog_1_method_17_code
def yX0_unitQ : MethodName := ⟨RX0, "unitQ", "()I"⟩
abbrev cX0_isThere : ByteArray := prog_1_method_18_code
def yX0_isThere : MethodName := ⟨RX0, "isThere", "(I)Z"⟩
abbrev cX0_isLost : ByteArray := prog_1_method_19_code
def yX0_isLost : MethodName := ⟨RX0, "isLost", "(I)Z"⟩
abbrev cX0_lostCount : ByteArray := prog_1_method_20_code
def yX0_lostCount : MethodName := ⟨RX0, "lostCount", "()I"⟩
abbrev cX0_lostFrom : ByteArray := prog_1_method_21_code
def yX0_lostFrom : MethodName := ⟨RX0, "lostFrom", "(I)I"⟩
abbrev cX0_isSpan : ByteArray := prog_1_method_22_code
def yX0_isSpan : MethodName := ⟨RX0, "isSpan", "(III)Z"⟩
abbrev cX0_byteAt : ByteArray := prog_1_method_23_code
def yX0_byteAt : MethodName := ⟨RX0, "byteAt", "(II)I"⟩
abbrev cX0_change : ByteArray := prog_1_method_24_code
def yX0_change : MethodName := ⟨RX0, "change", "(III)V"⟩
abbrev cX0_changeWithParities : ByteArray := prog_1_method_25_code
def yX0_changeWithParities : MethodName := ⟨RX0, "changeWithParities", "(III)V"⟩
abbrev cX0_differenceP : ByteArray := prog_1_method_26_code
def yX0_differenceP : MethodName := ⟨RX0, "differenceP", "(I)I"⟩
abbrev cX0_differenceQ : ByteArray := prog_1_method_27_code
def yX0_differenceQ : MethodName := ⟨RX0, "differenceQ", "(I)I"⟩
abbrev cX0_offAt : ByteArray := prog_1_method_28_code
def yX0_offAt : MethodName := ⟨RX0, "offAt", "(I)I"⟩
abbrev cX0_restoreOne : ByteArray := prog_1_method_29_code
def yX0_restoreOne : MethodName := ⟨RX0, "restoreOne", "(I)V"⟩
abbrev cX0_restoreTwo : ByteArray := prog_1_method_30_code
def yX0_restoreTwo : MethodName := ⟨RX0, "restoreTwo", "(II)V"⟩
abbrev cX0_restoreByP : ByteArray := prog_1_method_31_code
def yX0_restoreByP : MethodName := ⟨RX0, "restoreByP", "(I)V"⟩
abbrev cX0_restoreByQ : ByteArray := prog_1_method_32_code
def yX0_restoreByQ : MethodName := ⟨RX0, "restoreByQ", "(I)V"⟩
abbrev cX0_restoreDataPair : ByteArray := prog_1_method_33_code
def yX0_restoreDataPair : MethodName := ⟨RX0, "restoreDataPair", "(II)V"⟩
abbrev cX0_isElement : ByteArray := prog_1_method_34_code
def yX0_isElement : MethodName := ⟨RX0, "isElement", "(I)Z"⟩
abbrev cX0_doubled : ByteArray := prog_1_method_35_code
def yX0_doubled : MethodName := ⟨RX0, "doubled", "(I)I"⟩
abbrev cX0_timesPower : ByteArray := prog_1_method_36_code
def yX0_timesPower : MethodName := ⟨RX0, "timesPower", "(II)I"⟩
abbrev cX0_multiplied : ByteArray := prog_1_method_37_code
def yX0_multiplied : MethodName := ⟨RX0, "multiplied", "(II)I"⟩
abbrev cX0_inverse : ByteArray := prog_1_method_38_code
def yX0_inverse : MethodName := ⟨RX0, "inverse", "(I)I"⟩
def RX1 : String := "TwinParityModel"
def TX1 : u_T := fun k => match k with
  | 0 => ("TwinParityModel", "thrown", "I", false)
  | 1 => ("TwinParityModel", "units", "I", false)
  | 2 => ("TwinParityModel", "bytes", "[I", true)
  | _ => ("TwinParityModel", "lost", "[Z", true)
def tyX1 : Nat → FieldType := fun k => match k with
  | 0 => .int
  | 1 => .int
  | 2 => .array .int
  | _ => .array .boolean
abbrev wsX10 : List Cond := u_ws RX1 TX1 4
theorem nmX1 : ∀ a, a < 4 → ∀ b, b < 4 → a ≠ b → (TX1 a).2.1 ≠ (TX1 b).2.1 := by decide +kernel
theorem tyX1_ok : ∀ k, k < 4 → parseFieldDescriptor (TX1 k).2.2.1 = some (tyX1 k) := by decide +kernel
abbrev cX1_init : ByteArray := prog_3_method_1_code
def yX1_init : MethodName := ⟨RX1, "<init>", "()V"⟩
abbrev cX1_begin : ByteArray := prog_3_method_3_code
def yX1_begin : MethodName := ⟨RX1, "begin", "(I)I"⟩
abbrev cX1_times : ByteArray := prog_3_method_4_code
def yX1_times : MethodName := ⟨RX1, "times", "(II)I"⟩
abbrev cX1_twos : ByteArray := prog_3_method_5_code
def yX1_twos : MethodName := ⟨RX1, "twos", "(I)I"⟩
abbrev cX1_part : ByteArray := prog_3_method_6_code
def yX1_part : MethodName := ⟨RX1, "part", "(II)I"⟩
abbrev cX1_product : ByteArray := prog_3_method_7_code
def yX1_product : MethodName := ⟨RX1, "product", "(IIZ)I"⟩
abbrev cX1_power : ByteArray := prog_3_method_8_code
def yX1_power : MethodName := ⟨RX1, "power", "(I)I"⟩
abbrev cX1_p : ByteArray := prog_3_method_9_code
def yX1_p : MethodName := ⟨RX1, "p", "()I"⟩
abbrev cX1_q : ByteArray := prog_3_method_10_code
def yX1_q : MethodName := ⟨RX1, "q", "()I"⟩
abbrev cX1_noUnit : ByteArray := prog_3_method_11_code
def yX1_noUnit : MethodName := ⟨RX1, "noUnit", "(I)Z"⟩
abbrev cX1_manyLost : ByteArray := prog_3_method_12_code
def yX1_manyLost : MethodName := ⟨RX1, "manyLost", "()I"⟩
abbrev cX1_put : ByteArray := prog_3_method_13_code
def yX1_put : MethodName := ⟨RX1, "put", "(IIIJ)I"⟩
abbrev cX1_spoil : ByteArray := prog_3_method_14_code
def yX1_spoil : MethodName := ⟨RX1, "spoil", "(IIII)I"⟩
abbrev cX1_sumAt : ByteArray := prog_3_method_15_code
def yX1_sumAt : MethodName := ⟨RX1, "sumAt", "(IZ)I"⟩
abbrev cX1_make : ByteArray := prog_3_method_16_code
def yX1_make : MethodName := ⟨RX1, "make", "()I"⟩
abbrev cX1_get : ByteArray := prog_3_method_17_code
def yX1_get : MethodName := ⟨RX1, "get", "(II)I"⟩
abbrev cX1_word : ByteArray := prog_3_method_18_code
def yX1_word : MethodName := ⟨RX1, "word", "(II)J"⟩
abbrev cX1_lose : ByteArray := prog_3_method_19_code
def yX1_lose : MethodName := ⟨RX1, "lose", "(I)I"⟩
abbrev cX1_lowest : ByteArray := prog_3_method_20_code
def yX1_lowest : MethodName := ⟨RX1, "lowest", "(I)I"⟩
abbrev cX1_wouldFit : ByteArray := prog_3_method_21_code
def yX1_wouldFit : MethodName := ⟨RX1, "wouldFit", "(IIIII)Z"⟩
abbrev cX1_find : ByteArray := prog_3_method_22_code
def yX1_find : MethodName := ⟨RX1, "find", "(III)V"⟩
abbrev cX1_mend : ByteArray := prog_3_method_23_code
def yX1_mend : MethodName := ⟨RX1, "mend", "()I"⟩
abbrev cX1_off : ByteArray := prog_3_method_24_code
def yX1_off : MethodName := ⟨RX1, "off", "()I"⟩
abbrev cX1_check : ByteArray := prog_3_method_25_code
def yX1_check : MethodName := ⟨RX1, "check", "()I"⟩
abbrev cX1_fix : ByteArray := prog_3_method_26_code
def yX1_fix : MethodName := ⟨RX1, "fix", "()I"⟩
abbrev cX1_count : ByteArray := prog_3_method_27_code
def yX1_count : MethodName := ⟨RX1, "count", "(I)I"⟩
def RJ6 : String := "java/lang/Integer"
def TJ6 : u_T := fun k => match k with
  | _ => ("", "", "", false)
def tyJ6 : Nat → FieldType := fun k => match k with
  | _ => .int
abbrev wsJ60 : List Cond := u_ws RJ6 TJ6 0
theorem nmJ6 : ∀ a, a < 0 → ∀ b, b < 0 → a ≠ b → (TJ6 a).2.1 ≠ (TJ6 b).2.1 := by decide +kernel
theorem tyJ6_ok : ∀ k, k < 0 → parseFieldDescriptor (TJ6 k).2.2.1 = some (tyJ6 k) := by decide +kernel
abbrev cJ6_bitCount_0f7a4 : ByteArray := prog_4_method_49_code
def yJ6_bitCount_0f7a4 : MethodName := ⟨RJ6, "bitCount", "(I)I"⟩
def RJ9 : String := "java/lang/Math"
def TJ9 : u_T := fun k => match k with
  | _ => ("", "", "", false)
def tyJ9 : Nat → FieldType := fun k => match k with
  | _ => .int
abbrev wsJ90 : List Cond := u_ws RJ9 TJ9 0
theorem nmJ9 : ∀ a, a < 0 → ∀ b, b < 0 → a ≠ b → (TJ9 a).2.1 ≠ (TJ9 b).2.1 := by decide +kernel
theorem tyJ9_ok : ∀ k, k < 0 → parseFieldDescriptor (TJ9 k).2.2.1 = some (tyJ9 k) := by decide +kernel
abbrev cJ9_floorMod_7cf53 : ByteArray := prog_5_method_50_code
def yJ9_floorMod_7cf53 : MethodName := ⟨RJ9, "floorMod", "(II)I"⟩
def RJ7 : String := "java/util/Arrays"
def TJ7 : u_T := fun k => match k with
  | _ => ("", "", "", false)
def tyJ7 : Nat → FieldType := fun k => match k with
  | _ => .int
abbrev wsJ70 : List Cond := u_ws RJ7 TJ7 0
theorem nmJ7 : ∀ a, a < 0 → ∀ b, b < 0 → a ≠ b → (TJ7 a).2.1 ≠ (TJ7 b).2.1 := by decide +kernel
theorem tyJ7_ok : ∀ k, k < 0 → parseFieldDescriptor (TJ7 k).2.2.1 = some (tyJ7 k) := by decide +kernel
abbrev cJ7_fill_53178 : ByteArray := prog_6_method_103_code
def yJ7_fill_53178 : MethodName := ⟨RJ7, "fill", "([II)V"⟩
def RL : String := "TwinParityLaw"
abbrev cL_law : ByteArray := code
def yL_law : MethodName := ⟨RL, "law", "([I)Z"⟩
def wsX0_init : List Cond := .code yX0_init cX0_init 1 none :: ([.methodLink RX0 3 objectInit, .instanceMethod objectInit, .code objectInit ⟨#[0xb1]⟩ 1 none, .arrayClass .int, .fieldLink RX0 9 "TwinParity" "bytes" "[I", .fieldLink RX0 13 "TwinParity" "dataUnits" "I", .fieldLink RX0 17 "TwinParity" "lostUnits" "I"] ++ wsX00)
def wsJ7_fill_53178 : List Cond := .code yJ7_fill_53178 cJ7_fill_53178 4 none :: ([])
def wsX0_units : List Cond := .code yX0_units cX0_units 1 (some .int) :: ([.fieldLink RX0 13 "TwinParity" "dataUnits" "I"] ++ wsX00)
def wsX0_begin : List Cond := .code yX0_begin cX0_begin 2 (some .int) :: ([.fieldLink RX0 13 "TwinParity" "dataUnits" "I", .fieldLink RX0 17 "TwinParity" "lostUnits" "I", .fieldLink RX0 9 "TwinParity" "bytes" "[I", .methodLink RX0 20 yJ7_fill_53178, .static yJ7_fill_53178, .initialized RJ7, .code yJ7_fill_53178 cJ7_fill_53178 4 none, .methodLink RX0 26 yX0_units, .instanceMethod yX0_units, .selects RX0 yX0_units yX0_units, .initialized RX0, .code yX0_units cX0_units 1 (some .int)] ++ wsX00)
def wsX0_isLost : List Cond := .code yX0_isLost cX0_isLost 2 (some .boolean) :: ([.fieldLink RX0 17 "TwinParity" "lostUnits" "I"] ++ wsX00)
def wsX0_isThere : List Cond := .code yX0_isThere cX0_isThere 2 (some .boolean) :: ([.methodLink RX0 26 yX0_units, .instanceMethod yX0_units, .selects RX0 yX0_units yX0_units, .initialized RX0, .code yX0_units cX0_units 1 (some .int), .fieldLink RX0 13 "TwinParity" "dataUnits" "I", .methodLink RX0 100 yX0_isLost, .instanceMethod yX0_isLost, .selects RX0 yX0_isLost yX0_isLost, .code yX0_isLost cX0_isLost 2 (some .boolean), .fieldLink RX0 17 "TwinParity" "lostUnits" "I"] ++ wsX00)
def wsX0_isSpan : List Cond := .code yX0_isSpan cX0_isSpan 3 (some .boolean) :: ([])
def wsX0_byteAt : List Cond := .code yX0_byteAt cX0_byteAt 3 (some .int) :: ([.fieldLink RX0 9 "TwinParity" "bytes" "[I"] ++ wsX00)
def wsX0_change : List Cond := .code yX0_change cX0_change 4 none :: ([.fieldLink RX0 9 "TwinParity" "bytes" "[I"] ++ wsX00)
def wsX0_unitP : List Cond := .code yX0_unitP cX0_unitP 1 (some .int) :: ([.fieldLink RX0 13 "TwinParity" "dataUnits" "I"] ++ wsX00)
def wsX0_unitQ : List Cond := .code yX0_unitQ cX0_unitQ 1 (some .int) :: ([.fieldLink RX0 13 "TwinParity" "dataUnits" "I"] ++ wsX00)
def wsX0_doubled : List Cond := .code yX0_doubled cX0_doubled 2 (some .int) :: ([])
def wsX0_timesPower : List Cond := .code yX0_timesPower cX0_timesPower 4 (some .int) :: ([.methodLink RX0 108 yX0_doubled, .static yX0_doubled, .initialized RX0, .code yX0_doubled cX0_doubled 2 (some .int)])
def wsX0_changeWithParities_r1 : List Cond := [Cond.methodLink RX0 47 yX0_change, Cond.instanceMethod yX0_change, Cond.selects RX0 yX0_change yX0_change, Cond.initialized RX0, Cond.code yX0_change cX0_change 4 none, Cond.fieldLink RX0 9 "TwinParity" "bytes" "[I", Cond.methodLink RX0 50 yX0_unitP, Cond.instanceMethod yX0_unitP, Cond.selects RX0 yX0_unitP yX0_unitP, Cond.code yX0_unitP cX0_unitP 1 (some .int), Cond.fieldLink RX0 13 "TwinParity" "dataUnits" "I", Cond.methodLink RX0 100 yX0_isLost, Cond.instanceMethod yX0_isLost, Cond.selects RX0 yX0_isLost yX0_isLost, Cond.code yX0_isLost cX0_isLost 2 (some .boolean), Cond.fieldLink RX0 17 "TwinParity" "lostUnits" "I", Cond.methodLink RX0 57 yX0_unitQ, Cond.instanceMethod yX0_unitQ, Cond.selects RX0 yX0_unitQ yX0_unitQ, Cond.code yX0_unitQ cX0_unitQ 1 (some .int), Cond.methodLink RX0 97 yX0_timesPower, Cond.static yX0_timesPower, Cond.code yX0_timesPower cX0_timesPower 4 (some .int), Cond.methodLink RX0 108 yX0_doubled]
def wsX0_changeWithParities_r2 : List Cond := [Cond.static yX0_doubled, Cond.code yX0_doubled cX0_doubled 2 (some .int)]
def wsX0_changeWithParities : List Cond := .code yX0_changeWithParities cX0_changeWithParities 4 none :: ((wsX0_changeWithParities_r1 ++ wsX0_changeWithParities_r2) ++ wsX00)
def wsX0_put_r1 : List Cond := [Cond.fieldLink RX0 13 "TwinParity" "dataUnits" "I", Cond.methodLink RX0 30 yX0_isThere, Cond.instanceMethod yX0_isThere, Cond.selects RX0 yX0_isThere yX0_isThere, Cond.initialized RX0, Cond.code yX0_isThere cX0_isThere 2 (some .boolean), Cond.methodLink RX0 26 yX0_units, Cond.instanceMethod yX0_units, Cond.selects RX0 yX0_units yX0_units, Cond.code yX0_units cX0_units 1 (some .int), Cond.methodLink RX0 100 yX0_isLost, Cond.instanceMethod yX0_isLost, Cond.selects RX0 yX0_isLost yX0_isLost, Cond.code yX0_isLost cX0_isLost 2 (some .boolean), Cond.fieldLink RX0 17 "TwinParity" "lostUnits" "I", Cond.methodLink RX0 34 yX0_isSpan, Cond.static yX0_isSpan, Cond.code yX0_isSpan cX0_isSpan 3 (some .boolean), Cond.methodLink RX0 38 yX0_byteAt, Cond.instanceMethod yX0_byteAt, Cond.selects RX0 yX0_byteAt yX0_byteAt, Cond.code yX0_byteAt cX0_byteAt 3 (some .int), Cond.fieldLink RX0 9 "TwinParity" "bytes" "[I", Cond.methodLink RX0 42 yX0_changeWithParities]
def wsX0_put_r2 : List Cond := [Cond.instanceMethod yX0_changeWithParities, Cond.selects RX0 yX0_changeWithParities yX0_changeWithParities, Cond.code yX0_changeWithParities cX0_changeWithParities 4 none, Cond.methodLink RX0 47 yX0_change, Cond.instanceMethod yX0_change, Cond.selects RX0 yX0_change yX0_change, Cond.code yX0_change cX0_change 4 none, Cond.methodLink RX0 50 yX0_unitP, Cond.instanceMethod yX0_unitP, Cond.selects RX0 yX0_unitP yX0_unitP, Cond.code yX0_unitP cX0_unitP 1 (some .int), Cond.methodLink RX0 57 yX0_unitQ, Cond.instanceMethod yX0_unitQ, Cond.selects RX0 yX0_unitQ yX0_unitQ, Cond.code yX0_unitQ cX0_unitQ 1 (some .int), Cond.methodLink RX0 97 yX0_timesPower, Cond.static yX0_timesPower, Cond.code yX0_timesPower cX0_timesPower 4 (some .int), Cond.methodLink RX0 108 yX0_doubled, Cond.static yX0_doubled, Cond.code yX0_doubled cX0_doubled 2 (some .int)]
def wsX0_put : List Cond := .code yX0_put cX0_put 8 (some .int) :: ((wsX0_put_r1 ++ wsX0_put_r2) ++ wsX00)
def wsX0_spoil_r1 : List Cond := [Cond.constant RX0 46 (1103515245), Cond.methodLink RX0 30 yX0_isThere, Cond.instanceMethod yX0_isThere, Cond.selects RX0 yX0_isThere yX0_isThere, Cond.initialized RX0, Cond.code yX0_isThere cX0_isThere 2 (some .boolean), Cond.methodLink RX0 26 yX0_units, Cond.instanceMethod yX0_units, Cond.selects RX0 yX0_units yX0_units, Cond.code yX0_units cX0_units 1 (some .int), Cond.fieldLink RX0 13 "TwinParity" "dataUnits" "I", Cond.methodLink RX0 100 yX0_isLost, Cond.instanceMethod yX0_isLost, Cond.selects RX0 yX0_isLost yX0_isLost, Cond.code yX0_isLost cX0_isLost 2 (some .boolean), Cond.fieldLink RX0 17 "TwinParity" "lostUnits" "I", Cond.methodLink RX0 34 yX0_isSpan, Cond.static yX0_isSpan, Cond.code yX0_isSpan cX0_isSpan 3 (some .boolean), Cond.methodLink RX0 38 yX0_byteAt, Cond.instanceMethod yX0_byteAt, Cond.selects RX0 yX0_byteAt yX0_byteAt, Cond.code yX0_byteAt cX0_byteAt 3 (some .int), Cond.fieldLink RX0 9 "TwinParity" "bytes" "[I"]
def wsX0_spoil_r2 : List Cond := [Cond.methodLink RX0 47 yX0_change, Cond.instanceMethod yX0_change, Cond.selects RX0 yX0_change yX0_change, Cond.code yX0_change cX0_change 4 none]
def wsX0_spoil : List Cond := .code yX0_spoil cX0_spoil 8 (some .int) :: ((wsX0_spoil_r1 ++ wsX0_spoil_r2) ++ wsX00)
def wsX0_differenceP : List Cond := .code yX0_differenceP cX0_differenceP 4 (some .int) :: ([.fieldLink RX0 13 "TwinParity" "dataUnits" "I", .methodLink RX0 50 yX0_unitP, .instanceMethod yX0_unitP, .selects RX0 yX0_unitP yX0_unitP, .initialized RX0, .code yX0_unitP cX0_unitP 1 (some .int), .methodLink RX0 38 yX0_byteAt, .instanceMethod yX0_byteAt, .selects RX0 yX0_byteAt yX0_byteAt, .code yX0_byteAt cX0_byteAt 3 (some .int), .fieldLink RX0 9 "TwinParity" "bytes" "[I"] ++ wsX00)
def wsX0_restoreByP : List Cond := .code yX0_restoreByP cX0_restoreByP 3 none :: ([.methodLink RX0 111 yX0_differenceP, .instanceMethod yX0_differenceP, .selects RX0 yX0_differenceP yX0_differenceP, .initialized RX0, .code yX0_differenceP cX0_differenceP 4 (some .int), .fieldLink RX0 13 "TwinParity" "dataUnits" "I", .methodLink RX0 50 yX0_unitP, .instanceMethod yX0_unitP, .selects RX0 yX0_unitP yX0_unitP, .code yX0_unitP cX0_unitP 1 (some .int), .methodLink RX0 38 yX0_byteAt, .instanceMethod yX0_byteAt, .selects RX0 yX0_byteAt yX0_byteAt, .code yX0_byteAt cX0_byteAt 3 (some .int), .fieldLink RX0 9 "TwinParity" "bytes" "[I", .methodLink RX0 47 yX0_change, .instanceMethod yX0_change, .selects RX0 yX0_change yX0_change, .code yX0_change cX0_change 4 none] ++ wsX00)
def wsX0_multiplied : List Cond := .code yX0_multiplied cX0_multiplied 5 (some .int) :: ([.methodLink RX0 108 yX0_doubled, .static yX0_doubled, .initialized RX0, .code yX0_doubled cX0_doubled 2 (some .int)])
def wsX0_inverse : List Cond := .code yX0_inverse cX0_inverse 4 (some .int) :: ([.methodLink RX0 89 yX0_multiplied, .static yX0_multiplied, .initialized RX0, .code yX0_multiplied cX0_multiplied 5 (some .int), .methodLink RX0 108 yX0_doubled, .static yX0_doubled, .code yX0_doubled cX0_doubled 2 (some .int)])
def wsX0_differenceQ : List Cond := .code yX0_differenceQ cX0_differenceQ 4 (some .int) :: ([.fieldLink RX0 13 "TwinParity" "dataUnits" "I", .methodLink RX0 108 yX0_doubled, .static yX0_doubled, .initialized RX0, .code yX0_doubled cX0_doubled 2 (some .int), .methodLink RX0 38 yX0_byteAt, .instanceMethod yX0_byteAt, .selects RX0 yX0_byteAt yX0_byteAt, .code yX0_byteAt cX0_byteAt 3 (some .int), .fieldLink RX0 9 "TwinParity" "bytes" "[I", .methodLink RX0 57 yX0_unitQ, .instanceMethod yX0_unitQ, .selects RX0 yX0_unitQ yX0_unitQ, .code yX0_unitQ cX0_unitQ 1 (some .int)] ++ wsX00)
def wsX0_restoreByQ_r1 : List Cond := [Cond.methodLink RX0 57 yX0_unitQ, Cond.instanceMethod yX0_unitQ, Cond.selects RX0 yX0_unitQ yX0_unitQ, Cond.initialized RX0, Cond.code yX0_unitQ cX0_unitQ 1 (some .int), Cond.fieldLink RX0 13 "TwinParity" "dataUnits" "I", Cond.methodLink RX0 97 yX0_timesPower, Cond.static yX0_timesPower, Cond.code yX0_timesPower cX0_timesPower 4 (some .int), Cond.methodLink RX0 108 yX0_doubled, Cond.static yX0_doubled, Cond.code yX0_doubled cX0_doubled 2 (some .int), Cond.methodLink RX0 86 yX0_inverse, Cond.static yX0_inverse, Cond.code yX0_inverse cX0_inverse 4 (some .int), Cond.methodLink RX0 89 yX0_multiplied, Cond.static yX0_multiplied, Cond.code yX0_multiplied cX0_multiplied 5 (some .int), Cond.methodLink RX0 114 yX0_differenceQ, Cond.instanceMethod yX0_differenceQ, Cond.selects RX0 yX0_differenceQ yX0_differenceQ, Cond.code yX0_differenceQ cX0_differenceQ 4 (some .int), Cond.methodLink RX0 38 yX0_byteAt, Cond.instanceMethod yX0_byteAt]
def wsX0_restoreByQ_r2 : List Cond := [Cond.selects RX0 yX0_byteAt yX0_byteAt, Cond.code yX0_byteAt cX0_byteAt 3 (some .int), Cond.fieldLink RX0 9 "TwinParity" "bytes" "[I", Cond.methodLink RX0 47 yX0_change, Cond.instanceMethod yX0_change, Cond.selects RX0 yX0_change yX0_change, Cond.code yX0_change cX0_change 4 none]
def wsX0_restoreByQ : List Cond := .code yX0_restoreByQ cX0_restoreByQ 4 none :: ((wsX0_restoreByQ_r1 ++ wsX0_restoreByQ_r2) ++ wsX00)
def wsX0_make_r1 : List Cond := [Cond.fieldLink RX0 17 "TwinParity" "lostUnits" "I", Cond.methodLink RX0 50 yX0_unitP, Cond.instanceMethod yX0_unitP, Cond.selects RX0 yX0_unitP yX0_unitP, Cond.initialized RX0, Cond.code yX0_unitP cX0_unitP 1 (some .int), Cond.fieldLink RX0 13 "TwinParity" "dataUnits" "I", Cond.methodLink RX0 53 yX0_restoreByP, Cond.instanceMethod yX0_restoreByP, Cond.selects RX0 yX0_restoreByP yX0_restoreByP, Cond.code yX0_restoreByP cX0_restoreByP 3 none, Cond.methodLink RX0 111 yX0_differenceP, Cond.instanceMethod yX0_differenceP, Cond.selects RX0 yX0_differenceP yX0_differenceP, Cond.code yX0_differenceP cX0_differenceP 4 (some .int), Cond.methodLink RX0 38 yX0_byteAt, Cond.instanceMethod yX0_byteAt, Cond.selects RX0 yX0_byteAt yX0_byteAt, Cond.code yX0_byteAt cX0_byteAt 3 (some .int), Cond.fieldLink RX0 9 "TwinParity" "bytes" "[I", Cond.methodLink RX0 47 yX0_change, Cond.instanceMethod yX0_change, Cond.selects RX0 yX0_change yX0_change, Cond.code yX0_change cX0_change 4 none]
def wsX0_make_r2 : List Cond := [Cond.methodLink RX0 57 yX0_unitQ, Cond.instanceMethod yX0_unitQ, Cond.selects RX0 yX0_unitQ yX0_unitQ, Cond.code yX0_unitQ cX0_unitQ 1 (some .int), Cond.methodLink RX0 60 yX0_restoreByQ, Cond.instanceMethod yX0_restoreByQ, Cond.selects RX0 yX0_restoreByQ yX0_restoreByQ, Cond.code yX0_restoreByQ cX0_restoreByQ 4 none, Cond.methodLink RX0 97 yX0_timesPower, Cond.static yX0_timesPower, Cond.code yX0_timesPower cX0_timesPower 4 (some .int), Cond.methodLink RX0 108 yX0_doubled, Cond.static yX0_doubled, Cond.code yX0_doubled cX0_doubled 2 (some .int), Cond.methodLink RX0 86 yX0_inverse, Cond.static yX0_inverse, Cond.code yX0_inverse cX0_inverse 4 (some .int), Cond.methodLink RX0 89 yX0_multiplied, Cond.static yX0_multiplied, Cond.code yX0_multiplied cX0_multiplied 5 (some .int), Cond.methodLink RX0 114 yX0_differenceQ, Cond.instanceMethod yX0_differenceQ, Cond.selects RX0 yX0_differenceQ yX0_differenceQ, Cond.code yX0_differenceQ cX0_differenceQ 4 (some .int)]
def wsX0_make : List Cond := .code yX0_make cX0_make 1 (some .int) :: ((wsX0_make_r1 ++ wsX0_make_r2) ++ wsX00)
def wsX0_get : List Cond := .code yX0_get cX0_get 3 (some .int) :: ([.methodLink RX0 30 yX0_isThere, .instanceMethod yX0_isThere, .selects RX0 yX0_isThere yX0_isThere, .initialized RX0, .code yX0_isThere cX0_isThere 2 (some .boolean), .methodLink RX0 26 yX0_units, .instanceMethod yX0_units, .selects RX0 yX0_units yX0_units, .code yX0_units cX0_units 1 (some .int), .fieldLink RX0 13 "TwinParity" "dataUnits" "I", .methodLink RX0 100 yX0_isLost, .instanceMethod yX0_isLost, .selects RX0 yX0_isLost yX0_isLost, .code yX0_isLost cX0_isLost 2 (some .boolean), .fieldLink RX0 17 "TwinParity" "lostUnits" "I", .methodLink RX0 34 yX0_isSpan, .static yX0_isSpan, .code yX0_isSpan cX0_isSpan 3 (some .boolean), .methodLink RX0 38 yX0_byteAt, .instanceMethod yX0_byteAt, .selects RX0 yX0_byteAt yX0_byteAt, .code yX0_byteAt cX0_byteAt 3 (some .int), .fieldLink RX0 9 "TwinParity" "bytes" "[I"] ++ wsX00)
def wsX0_word : List Cond := .code yX0_word cX0_word 6 (some .long) :: ([.methodLink RX0 30 yX0_isThere, .instanceMethod yX0_isThere, .selects RX0 yX0_isThere yX0_isThere, .initialized RX0, .code yX0_isThere cX0_isThere 2 (some .boolean), .methodLink RX0 26 yX0_units, .instanceMethod yX0_units, .selects RX0 yX0_units yX0_units, .code yX0_units cX0_units 1 (some .int), .fieldLink RX0 13 "TwinParity" "dataUnits" "I", .methodLink RX0 100 yX0_isLost, .instanceMethod yX0_isLost, .selects RX0 yX0_isLost yX0_isLost, .code yX0_isLost cX0_isLost 2 (some .boolean), .fieldLink RX0 17 "TwinParity" "lostUnits" "I", .methodLink RX0 38 yX0_byteAt, .instanceMethod yX0_byteAt, .selects RX0 yX0_byteAt yX0_byteAt, .code yX0_byteAt cX0_byteAt 3 (some .int), .fieldLink RX0 9 "TwinParity" "bytes" "[I"] ++ wsX00)
def wsJ6_bitCount_0f7a4 : List Cond := .code yJ6_bitCount_0f7a4 cJ6_bitCount_0f7a4 1 (some .int) :: ([.constant RJ6 265 (1431655765), .constant RJ6 266 (858993459), .constant RJ6 267 (252645135)])
def wsX0_lostCount : List Cond := .code yX0_lostCount cX0_lostCount 1 (some .int) :: ([.fieldLink RX0 17 "TwinParity" "lostUnits" "I", .methodLink RX0 103 yJ6_bitCount_0f7a4, .static yJ6_bitCount_0f7a4, .initialized RJ6, .code yJ6_bitCount_0f7a4 cJ6_bitCount_0f7a4 1 (some .int), .constant RJ6 265 (1431655765), .constant RJ6 266 (858993459), .constant RJ6 267 (252645135)] ++ wsX00)
def wsX0_lose_r1 : List Cond := [Cond.fieldLink RX0 17 "TwinParity" "lostUnits" "I", Cond.methodLink RX0 30 yX0_isThere, Cond.instanceMethod yX0_isThere, Cond.selects RX0 yX0_isThere yX0_isThere, Cond.initialized RX0, Cond.code yX0_isThere cX0_isThere 2 (some .boolean), Cond.methodLink RX0 26 yX0_units, Cond.instanceMethod yX0_units, Cond.selects RX0 yX0_units yX0_units, Cond.code yX0_units cX0_units 1 (some .int), Cond.fieldLink RX0 13 "TwinParity" "dataUnits" "I", Cond.methodLink RX0 100 yX0_isLost, Cond.instanceMethod yX0_isLost, Cond.selects RX0 yX0_isLost yX0_isLost, Cond.code yX0_isLost cX0_isLost 2 (some .boolean), Cond.methodLink RX0 63 yX0_lostCount, Cond.instanceMethod yX0_lostCount, Cond.selects RX0 yX0_lostCount yX0_lostCount, Cond.code yX0_lostCount cX0_lostCount 1 (some .int), Cond.methodLink RX0 103 yJ6_bitCount_0f7a4, Cond.static yJ6_bitCount_0f7a4, Cond.initialized RJ6, Cond.code yJ6_bitCount_0f7a4 cJ6_bitCount_0f7a4 1 (some .int), Cond.constant RJ6 265 (1431655765)]
def wsX0_lose_r2 : List Cond := [Cond.constant RJ6 266 (858993459), Cond.constant RJ6 267 (252645135)]
def wsX0_lose : List Cond := .code yX0_lose cX0_lose 2 (some .int) :: ((wsX0_lose_r1 ++ wsX0_lose_r2) ++ wsX00)
def wsX0_lostFrom : List Cond := .code yX0_lostFrom cX0_lostFrom 3 (some .int) :: ([.methodLink RX0 26 yX0_units, .instanceMethod yX0_units, .selects RX0 yX0_units yX0_units, .initialized RX0, .code yX0_units cX0_units 1 (some .int), .fieldLink RX0 13 "TwinParity" "dataUnits" "I", .methodLink RX0 100 yX0_isLost, .instanceMethod yX0_isLost, .selects RX0 yX0_isLost yX0_isLost, .code yX0_isLost cX0_isLost 2 (some .boolean), .fieldLink RX0 17 "TwinParity" "lostUnits" "I"] ++ wsX00)
def wsX0_restoreOne_r1 : List Cond := [Cond.methodLink RX0 57 yX0_unitQ, Cond.instanceMethod yX0_unitQ, Cond.selects RX0 yX0_unitQ yX0_unitQ, Cond.initialized RX0, Cond.code yX0_unitQ cX0_unitQ 1 (some .int), Cond.fieldLink RX0 13 "TwinParity" "dataUnits" "I", Cond.methodLink RX0 60 yX0_restoreByQ, Cond.instanceMethod yX0_restoreByQ, Cond.selects RX0 yX0_restoreByQ yX0_restoreByQ, Cond.code yX0_restoreByQ cX0_restoreByQ 4 none, Cond.methodLink RX0 97 yX0_timesPower, Cond.static yX0_timesPower, Cond.code yX0_timesPower cX0_timesPower 4 (some .int), Cond.methodLink RX0 108 yX0_doubled, Cond.static yX0_doubled, Cond.code yX0_doubled cX0_doubled 2 (some .int), Cond.methodLink RX0 86 yX0_inverse, Cond.static yX0_inverse, Cond.code yX0_inverse cX0_inverse 4 (some .int), Cond.methodLink RX0 89 yX0_multiplied, Cond.static yX0_multiplied, Cond.code yX0_multiplied cX0_multiplied 5 (some .int), Cond.methodLink RX0 114 yX0_differenceQ, Cond.instanceMethod yX0_differenceQ]
def wsX0_restoreOne_r2 : List Cond := [Cond.selects RX0 yX0_differenceQ yX0_differenceQ, Cond.code yX0_differenceQ cX0_differenceQ 4 (some .int), Cond.methodLink RX0 38 yX0_byteAt, Cond.instanceMethod yX0_byteAt, Cond.selects RX0 yX0_byteAt yX0_byteAt, Cond.code yX0_byteAt cX0_byteAt 3 (some .int), Cond.fieldLink RX0 9 "TwinParity" "bytes" "[I", Cond.methodLink RX0 47 yX0_change, Cond.instanceMethod yX0_change, Cond.selects RX0 yX0_change yX0_change, Cond.code yX0_change cX0_change 4 none, Cond.methodLink RX0 53 yX0_restoreByP, Cond.instanceMethod yX0_restoreByP, Cond.selects RX0 yX0_restoreByP yX0_restoreByP, Cond.code yX0_restoreByP cX0_restoreByP 3 none, Cond.methodLink RX0 111 yX0_differenceP, Cond.instanceMethod yX0_differenceP, Cond.selects RX0 yX0_differenceP yX0_differenceP, Cond.code yX0_differenceP cX0_differenceP 4 (some .int), Cond.methodLink RX0 50 yX0_unitP, Cond.instanceMethod yX0_unitP, Cond.selects RX0 yX0_unitP yX0_unitP, Cond.code yX0_unitP cX0_unitP 1 (some .int)]
def wsX0_restoreOne : List Cond := .code yX0_restoreOne cX0_restoreOne 2 none :: ((wsX0_restoreOne_r1 ++ wsX0_restoreOne_r2) ++ wsX00)
def wsX0_restoreDataPair_r1 : List Cond := [Cond.methodLink RX0 97 yX0_timesPower, Cond.static yX0_timesPower, Cond.initialized RX0, Cond.code yX0_timesPower cX0_timesPower 4 (some .int), Cond.methodLink RX0 108 yX0_doubled, Cond.static yX0_doubled, Cond.code yX0_doubled cX0_doubled 2 (some .int), Cond.methodLink RX0 86 yX0_inverse, Cond.static yX0_inverse, Cond.code yX0_inverse cX0_inverse 4 (some .int), Cond.methodLink RX0 89 yX0_multiplied, Cond.static yX0_multiplied, Cond.code yX0_multiplied cX0_multiplied 5 (some .int), Cond.methodLink RX0 111 yX0_differenceP, Cond.instanceMethod yX0_differenceP, Cond.selects RX0 yX0_differenceP yX0_differenceP, Cond.code yX0_differenceP cX0_differenceP 4 (some .int), Cond.fieldLink RX0 13 "TwinParity" "dataUnits" "I", Cond.methodLink RX0 50 yX0_unitP, Cond.instanceMethod yX0_unitP, Cond.selects RX0 yX0_unitP yX0_unitP, Cond.code yX0_unitP cX0_unitP 1 (some .int), Cond.methodLink RX0 38 yX0_byteAt, Cond.instanceMethod yX0_byteAt]
def wsX0_restoreDataPair_r2 : List Cond := [Cond.selects RX0 yX0_byteAt yX0_byteAt, Cond.code yX0_byteAt cX0_byteAt 3 (some .int), Cond.fieldLink RX0 9 "TwinParity" "bytes" "[I", Cond.methodLink RX0 114 yX0_differenceQ, Cond.instanceMethod yX0_differenceQ, Cond.selects RX0 yX0_differenceQ yX0_differenceQ, Cond.code yX0_differenceQ cX0_differenceQ 4 (some .int), Cond.methodLink RX0 57 yX0_unitQ, Cond.instanceMethod yX0_unitQ, Cond.selects RX0 yX0_unitQ yX0_unitQ, Cond.code yX0_unitQ cX0_unitQ 1 (some .int), Cond.methodLink RX0 47 yX0_change, Cond.instanceMethod yX0_change, Cond.selects RX0 yX0_change yX0_change, Cond.code yX0_change cX0_change 4 none]
def wsX0_restoreDataPair : List Cond := .code yX0_restoreDataPair cX0_restoreDataPair 7 none :: ((wsX0_restoreDataPair_r1 ++ wsX0_restoreDataPair_r2) ++ wsX00)
def wsX0_restoreTwo_r1 : List Cond := [Cond.methodLink RX0 57 yX0_unitQ, Cond.instanceMethod yX0_unitQ, Cond.selects RX0 yX0_unitQ yX0_unitQ, Cond.initialized RX0, Cond.code yX0_unitQ cX0_unitQ 1 (some .int), Cond.fieldLink RX0 13 "TwinParity" "dataUnits" "I", Cond.methodLink RX0 53 yX0_restoreByP, Cond.instanceMethod yX0_restoreByP, Cond.selects RX0 yX0_restoreByP yX0_restoreByP, Cond.code yX0_restoreByP cX0_restoreByP 3 none, Cond.methodLink RX0 111 yX0_differenceP, Cond.instanceMethod yX0_differenceP, Cond.selects RX0 yX0_differenceP yX0_differenceP, Cond.code yX0_differenceP cX0_differenceP 4 (some .int), Cond.methodLink RX0 50 yX0_unitP, Cond.instanceMethod yX0_unitP, Cond.selects RX0 yX0_unitP yX0_unitP, Cond.code yX0_unitP cX0_unitP 1 (some .int), Cond.methodLink RX0 38 yX0_byteAt, Cond.instanceMethod yX0_byteAt, Cond.selects RX0 yX0_byteAt yX0_byteAt, Cond.code yX0_byteAt cX0_byteAt 3 (some .int), Cond.fieldLink RX0 9 "TwinParity" "bytes" "[I", Cond.methodLink RX0 47 yX0_change]
def wsX0_restoreTwo_r2 : List Cond := [Cond.instanceMethod yX0_change, Cond.selects RX0 yX0_change yX0_change, Cond.code yX0_change cX0_change 4 none, Cond.methodLink RX0 60 yX0_restoreByQ, Cond.instanceMethod yX0_restoreByQ, Cond.selects RX0 yX0_restoreByQ yX0_restoreByQ, Cond.code yX0_restoreByQ cX0_restoreByQ 4 none, Cond.methodLink RX0 97 yX0_timesPower, Cond.static yX0_timesPower, Cond.code yX0_timesPower cX0_timesPower 4 (some .int), Cond.methodLink RX0 108 yX0_doubled, Cond.static yX0_doubled, Cond.code yX0_doubled cX0_doubled 2 (some .int), Cond.methodLink RX0 86 yX0_inverse, Cond.static yX0_inverse, Cond.code yX0_inverse cX0_inverse 4 (some .int), Cond.methodLink RX0 89 yX0_multiplied, Cond.static yX0_multiplied, Cond.code yX0_multiplied cX0_multiplied 5 (some .int), Cond.methodLink RX0 114 yX0_differenceQ, Cond.instanceMethod yX0_differenceQ, Cond.selects RX0 yX0_differenceQ yX0_differenceQ, Cond.code yX0_differenceQ cX0_differenceQ 4 (some .int), Cond.methodLink RX0 117 yX0_restoreDataPair]
def wsX0_restoreTwo_r3 : List Cond := [Cond.instanceMethod yX0_restoreDataPair, Cond.selects RX0 yX0_restoreDataPair yX0_restoreDataPair, Cond.code yX0_restoreDataPair cX0_restoreDataPair 7 none]
def wsX0_restoreTwo : List Cond := .code yX0_restoreTwo cX0_restoreTwo 3 none :: ((wsX0_restoreTwo_r1 ++ (wsX0_restoreTwo_r2 ++ wsX0_restoreTwo_r3)) ++ wsX00)
def wsX0_mend_r1 : List Cond := [Cond.fieldLink RX0 17 "TwinParity" "lostUnits" "I", Cond.methodLink RX0 66 yX0_lostFrom, Cond.instanceMethod yX0_lostFrom, Cond.selects RX0 yX0_lostFrom yX0_lostFrom, Cond.initialized RX0, Cond.code yX0_lostFrom cX0_lostFrom 3 (some .int), Cond.methodLink RX0 26 yX0_units, Cond.instanceMethod yX0_units, Cond.selects RX0 yX0_units yX0_units, Cond.code yX0_units cX0_units 1 (some .int), Cond.fieldLink RX0 13 "TwinParity" "dataUnits" "I", Cond.methodLink RX0 100 yX0_isLost, Cond.instanceMethod yX0_isLost, Cond.selects RX0 yX0_isLost yX0_isLost, Cond.code yX0_isLost cX0_isLost 2 (some .boolean), Cond.methodLink RX0 70 yX0_restoreOne, Cond.instanceMethod yX0_restoreOne, Cond.selects RX0 yX0_restoreOne yX0_restoreOne, Cond.code yX0_restoreOne cX0_restoreOne 2 none, Cond.methodLink RX0 57 yX0_unitQ, Cond.instanceMethod yX0_unitQ, Cond.selects RX0 yX0_unitQ yX0_unitQ, Cond.code yX0_unitQ cX0_unitQ 1 (some .int), Cond.methodLink RX0 60 yX0_restoreByQ]
def wsX0_mend_r2 : List Cond := [Cond.instanceMethod yX0_restoreByQ, Cond.selects RX0 yX0_restoreByQ yX0_restoreByQ, Cond.code yX0_restoreByQ cX0_restoreByQ 4 none, Cond.methodLink RX0 97 yX0_timesPower, Cond.static yX0_timesPower, Cond.code yX0_timesPower cX0_timesPower 4 (some .int), Cond.methodLink RX0 108 yX0_doubled, Cond.static yX0_doubled, Cond.code yX0_doubled cX0_doubled 2 (some .int), Cond.methodLink RX0 86 yX0_inverse, Cond.static yX0_inverse, Cond.code yX0_inverse cX0_inverse 4 (some .int), Cond.methodLink RX0 89 yX0_multiplied, Cond.static yX0_multiplied, Cond.code yX0_multiplied cX0_multiplied 5 (some .int), Cond.methodLink RX0 114 yX0_differenceQ, Cond.instanceMethod yX0_differenceQ, Cond.selects RX0 yX0_differenceQ yX0_differenceQ, Cond.code yX0_differenceQ cX0_differenceQ 4 (some .int), Cond.methodLink RX0 38 yX0_byteAt, Cond.instanceMethod yX0_byteAt, Cond.selects RX0 yX0_byteAt yX0_byteAt, Cond.code yX0_byteAt cX0_byteAt 3 (some .int), Cond.fieldLink RX0 9 "TwinParity" "bytes" "[I"]
def wsX0_mend_r3 : List Cond := [Cond.methodLink RX0 47 yX0_change, Cond.instanceMethod yX0_change, Cond.selects RX0 yX0_change yX0_change, Cond.code yX0_change cX0_change 4 none, Cond.methodLink RX0 53 yX0_restoreByP, Cond.instanceMethod yX0_restoreByP, Cond.selects RX0 yX0_restoreByP yX0_restoreByP, Cond.code yX0_restoreByP cX0_restoreByP 3 none, Cond.methodLink RX0 111 yX0_differenceP, Cond.instanceMethod yX0_differenceP, Cond.selects RX0 yX0_differenceP yX0_differenceP, Cond.code yX0_differenceP cX0_differenceP 4 (some .int), Cond.methodLink RX0 50 yX0_unitP, Cond.instanceMethod yX0_unitP, Cond.selects RX0 yX0_unitP yX0_unitP, Cond.code yX0_unitP cX0_unitP 1 (some .int), Cond.methodLink RX0 73 yX0_restoreTwo, Cond.instanceMethod yX0_restoreTwo, Cond.selects RX0 yX0_restoreTwo yX0_restoreTwo, Cond.code yX0_restoreTwo cX0_restoreTwo 3 none, Cond.methodLink RX0 117 yX0_restoreDataPair, Cond.instanceMethod yX0_restoreDataPair, Cond.selects RX0 yX0_restoreDataPair yX0_restoreDataPair, Cond.code yX0_restoreDataPair cX0_restoreDataPair 7 none]
def wsX0_mend : List Cond := .code yX0_mend cX0_mend 3 (some .int) :: ((wsX0_mend_r1 ++ (wsX0_mend_r2 ++ wsX0_mend_r3)) ++ wsX00)
def wsX0_offAt_r1 : List Cond := [Cond.fieldLink RX0 13 "TwinParity" "dataUnits" "I", Cond.methodLink RX0 111 yX0_differenceP, Cond.instanceMethod yX0_differenceP, Cond.selects RX0 yX0_differenceP yX0_differenceP, Cond.initialized RX0, Cond.code yX0_differenceP cX0_differenceP 4 (some .int), Cond.methodLink RX0 50 yX0_unitP, Cond.instanceMethod yX0_unitP, Cond.selects RX0 yX0_unitP yX0_unitP, Cond.code yX0_unitP cX0_unitP 1 (some .int), Cond.methodLink RX0 38 yX0_byteAt, Cond.instanceMethod yX0_byteAt, Cond.selects RX0 yX0_byteAt yX0_byteAt, Cond.code yX0_byteAt cX0_byteAt 3 (some .int), Cond.fieldLink RX0 9 "TwinParity" "bytes" "[I", Cond.methodLink RX0 114 yX0_differenceQ, Cond.instanceMethod yX0_differenceQ, Cond.selects RX0 yX0_differenceQ yX0_differenceQ, Cond.code yX0_differenceQ cX0_differenceQ 4 (some .int), Cond.methodLink RX0 108 yX0_doubled, Cond.static yX0_doubled, Cond.code yX0_doubled cX0_doubled 2 (some .int), Cond.methodLink RX0 57 yX0_unitQ, Cond.instanceMethod yX0_unitQ]
def wsX0_offAt_r2 : List Cond := [Cond.selects RX0 yX0_unitQ yX0_unitQ, Cond.code yX0_unitQ cX0_unitQ 1 (some .int)]
def wsX0_offAt : List Cond := .code yX0_offAt cX0_offAt 6 (some .int) :: ((wsX0_offAt_r1 ++ wsX0_offAt_r2) ++ wsX00)
def wsX0_check_r1 : List Cond := [Cond.fieldLink RX0 17 "TwinParity" "lostUnits" "I", Cond.methodLink RX0 77 yX0_offAt, Cond.instanceMethod yX0_offAt, Cond.selects RX0 yX0_offAt yX0_offAt, Cond.initialized RX0, Cond.code yX0_offAt cX0_offAt 6 (some .int), Cond.fieldLink RX0 13 "TwinParity" "dataUnits" "I", Cond.methodLink RX0 111 yX0_differenceP, Cond.instanceMethod yX0_differenceP, Cond.selects RX0 yX0_differenceP yX0_differenceP, Cond.code yX0_differenceP cX0_differenceP 4 (some .int), Cond.methodLink RX0 50 yX0_unitP, Cond.instanceMethod yX0_unitP, Cond.selects RX0 yX0_unitP yX0_unitP, Cond.code yX0_unitP cX0_unitP 1 (some .int), Cond.methodLink RX0 38 yX0_byteAt, Cond.instanceMethod yX0_byteAt, Cond.selects RX0 yX0_byteAt yX0_byteAt, Cond.code yX0_byteAt cX0_byteAt 3 (some .int), Cond.fieldLink RX0 9 "TwinParity" "bytes" "[I", Cond.methodLink RX0 114 yX0_differenceQ, Cond.instanceMethod yX0_differenceQ, Cond.selects RX0 yX0_differenceQ yX0_differenceQ, Cond.code yX0_differenceQ cX0_differenceQ 4 (some .int)]
def wsX0_check_r2 : List Cond := [Cond.methodLink RX0 108 yX0_doubled, Cond.static yX0_doubled, Cond.code yX0_doubled cX0_doubled 2 (some .int), Cond.methodLink RX0 57 yX0_unitQ, Cond.instanceMethod yX0_unitQ, Cond.selects RX0 yX0_unitQ yX0_unitQ, Cond.code yX0_unitQ cX0_unitQ 1 (some .int)]
def wsX0_check : List Cond := .code yX0_check cX0_check 4 (some .int) :: ((wsX0_check_r1 ++ wsX0_check_r2) ++ wsX00)
def wsX0_fix_r1 : List Cond := [Cond.methodLink RX0 80 yX0_check, Cond.instanceMethod yX0_check, Cond.selects RX0 yX0_check yX0_check, Cond.initialized RX0, Cond.code yX0_check cX0_check 4 (some .int), Cond.fieldLink RX0 17 "TwinParity" "lostUnits" "I", Cond.methodLink RX0 77 yX0_offAt, Cond.instanceMethod yX0_offAt, Cond.selects RX0 yX0_offAt yX0_offAt, Cond.code yX0_offAt cX0_offAt 6 (some .int), Cond.fieldLink RX0 13 "TwinParity" "dataUnits" "I", Cond.methodLink RX0 111 yX0_differenceP, Cond.instanceMethod yX0_differenceP, Cond.selects RX0 yX0_differenceP yX0_differenceP, Cond.code yX0_differenceP cX0_differenceP 4 (some .int), Cond.methodLink RX0 50 yX0_unitP, Cond.instanceMethod yX0_unitP, Cond.selects RX0 yX0_unitP yX0_unitP, Cond.code yX0_unitP cX0_unitP 1 (some .int), Cond.methodLink RX0 38 yX0_byteAt, Cond.instanceMethod yX0_byteAt, Cond.selects RX0 yX0_byteAt yX0_byteAt, Cond.code yX0_byteAt cX0_byteAt 3 (some .int), Cond.fieldLink RX0 9 "TwinParity" "bytes" "[I"]
def wsX0_fix_r2 : List Cond := [Cond.methodLink RX0 114 yX0_differenceQ, Cond.instanceMethod yX0_differenceQ, Cond.selects RX0 yX0_differenceQ yX0_differenceQ, Cond.code yX0_differenceQ cX0_differenceQ 4 (some .int), Cond.methodLink RX0 108 yX0_doubled, Cond.static yX0_doubled, Cond.code yX0_doubled cX0_doubled 2 (some .int), Cond.methodLink RX0 57 yX0_unitQ, Cond.instanceMethod yX0_unitQ, Cond.selects RX0 yX0_unitQ yX0_unitQ, Cond.code yX0_unitQ cX0_unitQ 1 (some .int), Cond.methodLink RX0 70 yX0_restoreOne, Cond.instanceMethod yX0_restoreOne, Cond.selects RX0 yX0_restoreOne yX0_restoreOne, Cond.code yX0_restoreOne cX0_restoreOne 2 none, Cond.methodLink RX0 60 yX0_restoreByQ, Cond.instanceMethod yX0_restoreByQ, Cond.selects RX0 yX0_restoreByQ yX0_restoreByQ, Cond.code yX0_restoreByQ cX0_restoreByQ 4 none, Cond.methodLink RX0 97 yX0_timesPower, Cond.static yX0_timesPower, Cond.code yX0_timesPower cX0_timesPower 4 (some .int), Cond.methodLink RX0 86 yX0_inverse, Cond.static yX0_inverse]
def wsX0_fix_r3 : List Cond := [Cond.code yX0_inverse cX0_inverse 4 (some .int), Cond.methodLink RX0 89 yX0_multiplied, Cond.static yX0_multiplied, Cond.code yX0_multiplied cX0_multiplied 5 (some .int), Cond.methodLink RX0 47 yX0_change, Cond.instanceMethod yX0_change, Cond.selects RX0 yX0_change yX0_change, Cond.code yX0_change cX0_change 4 none, Cond.methodLink RX0 53 yX0_restoreByP, Cond.instanceMethod yX0_restoreByP, Cond.selects RX0 yX0_restoreByP yX0_restoreByP, Cond.code yX0_restoreByP cX0_restoreByP 3 none]
def wsX0_fix : List Cond := .code yX0_fix cX0_fix 2 (some .int) :: ((wsX0_fix_r1 ++ (wsX0_fix_r2 ++ wsX0_fix_r3)) ++ wsX00)
def wsX0_count_r1 : List Cond := [Cond.methodLink RX0 26 yX0_units, Cond.instanceMethod yX0_units, Cond.selects RX0 yX0_units yX0_units, Cond.initialized RX0, Cond.code yX0_units cX0_units 1 (some .int), Cond.fieldLink RX0 13 "TwinParity" "dataUnits" "I", Cond.methodLink RX0 63 yX0_lostCount, Cond.instanceMethod yX0_lostCount, Cond.selects RX0 yX0_lostCount yX0_lostCount, Cond.code yX0_lostCount cX0_lostCount 1 (some .int), Cond.fieldLink RX0 17 "TwinParity" "lostUnits" "I", Cond.methodLink RX0 103 yJ6_bitCount_0f7a4, Cond.static yJ6_bitCount_0f7a4, Cond.initialized RJ6, Cond.code yJ6_bitCount_0f7a4 cJ6_bitCount_0f7a4 1 (some .int), Cond.constant RJ6 265 (1431655765), Cond.constant RJ6 266 (858993459), Cond.constant RJ6 267 (252645135), Cond.methodLink RX0 66 yX0_lostFrom, Cond.instanceMethod yX0_lostFrom, Cond.selects RX0 yX0_lostFrom yX0_lostFrom, Cond.code yX0_lostFrom cX0_lostFrom 3 (some .int), Cond.methodLink RX0 100 yX0_isLost, Cond.instanceMethod yX0_isLost]
def wsX0_count_r2 : List Cond := [Cond.selects RX0 yX0_isLost yX0_isLost, Cond.code yX0_isLost cX0_isLost 2 (some .boolean)]
def wsX0_count : List Cond := .code yX0_count cX0_count 2 (some .int) :: ((wsX0_count_r1 ++ wsX0_count_r2) ++ wsX00)
def wsX0_isElement : List Cond := .code yX0_isElement cX0_isElement 1 (some .boolean) :: ([])
def wsX0_product : List Cond := .code yX0_product cX0_product 4 (some .int) :: ([.methodLink RX0 83 yX0_isElement, .static yX0_isElement, .initialized RX0, .code yX0_isElement cX0_isElement 1 (some .boolean), .methodLink RX0 86 yX0_inverse, .static yX0_inverse, .code yX0_inverse cX0_inverse 4 (some .int), .methodLink RX0 89 yX0_multiplied, .static yX0_multiplied, .code yX0_multiplied cX0_multiplied 5 (some .int), .methodLink RX0 108 yX0_doubled, .static yX0_doubled, .code yX0_doubled cX0_doubled 2 (some .int)])
def wsJ9_floorMod_7cf53 : List Cond := .code yJ9_floorMod_7cf53 cJ9_floorMod_7cf53 3 (some .int) :: ([])
def wsX0_power : List Cond := .code yX0_power cX0_power 2 (some .int) :: ([.methodLink RX0 92 yJ9_floorMod_7cf53, .static yJ9_floorMod_7cf53, .initialized RJ9, .code yJ9_floorMod_7cf53 cJ9_floorMod_7cf53 3 (some .int), .methodLink RX0 97 yX0_timesPower, .static yX0_timesPower, .initialized RX0, .code yX0_timesPower cX0_timesPower 4 (some .int), .methodLink RX0 108 yX0_doubled, .static yX0_doubled, .code yX0_doubled cX0_doubled 2 (some .int)])
def wsX1_begin : List Cond := .code yX1_begin cX1_begin 3 (some .int) :: ([.fieldLink RX1 21 "TwinParityModel" "thrown" "I", .fieldLink RX1 25 "TwinParityModel" "units" "I", .fieldLink RX1 7 "TwinParityModel" "bytes" "[I", .fieldLink RX1 13 "TwinParityModel" "lost" "[Z"] ++ wsX10)
def wsX1_init : List Cond := .code yX1_init cX1_init 2 none :: ([.methodLink RX1 1 objectInit, .instanceMethod objectInit, .code objectInit ⟨#[0xb1]⟩ 1 none, .arrayClass .int, .fieldLink RX1 7 "TwinParityModel" "bytes" "[I", .arrayClass .boolean, .fieldLink RX1 13 "TwinParityModel" "lost" "[Z", .methodLink RX1 17 yX1_begin, .instanceMethod yX1_begin, .selects RX1 yX1_begin yX1_begin, .initialized RX1, .code yX1_begin cX1_begin 3 (some .int), .fieldLink RX1 21 "TwinParityModel" "thrown" "I", .fieldLink RX1 25 "TwinParityModel" "units" "I"] ++ wsX10)
def wsX1_times : List Cond := .code yX1_times cX1_times 6 (some .int) :: ([])
def wsX1_twos : List Cond := .code yX1_twos cX1_twos 4 (some .int) :: ([.methodLink RX1 28 yX1_times, .instanceMethod yX1_times, .selects RX1 yX1_times yX1_times, .initialized RX1, .code yX1_times cX1_times 6 (some .int)])
def wsX1_part : List Cond := .code yX1_part cX1_part 4 (some .int) :: ([.methodLink RX1 28 yX1_times, .instanceMethod yX1_times, .selects RX1 yX1_times yX1_times, .initialized RX1, .code yX1_times cX1_times 6 (some .int)])
def wsX1_product : List Cond := .code yX1_product cX1_product 4 (some .int) :: ([.fieldLink RX1 21 "TwinParityModel" "thrown" "I", .methodLink RX1 32 yX1_part, .instanceMethod yX1_part, .selects RX1 yX1_part yX1_part, .initialized RX1, .code yX1_part cX1_part 4 (some .int), .methodLink RX1 28 yX1_times, .instanceMethod yX1_times, .selects RX1 yX1_times yX1_times, .code yX1_times cX1_times 6 (some .int)] ++ wsX10)
def wsX1_power : List Cond := .code yX1_power cX1_power 3 (some .int) :: ([.fieldLink RX1 21 "TwinParityModel" "thrown" "I", .methodLink RX1 35 yX1_twos, .instanceMethod yX1_twos, .selects RX1 yX1_twos yX1_twos, .initialized RX1, .code yX1_twos cX1_twos 4 (some .int), .methodLink RX1 28 yX1_times, .instanceMethod yX1_times, .selects RX1 yX1_times yX1_times, .code yX1_times cX1_times 6 (some .int)] ++ wsX10)
def wsX1_p : List Cond := .code yX1_p cX1_p 1 (some .int) :: ([.fieldLink RX1 25 "TwinParityModel" "units" "I"] ++ wsX10)
def wsX1_q : List Cond := .code yX1_q cX1_q 1 (some .int) :: ([.fieldLink RX1 25 "TwinParityModel" "units" "I"] ++ wsX10)
def wsX1_noUnit : List Cond := .code yX1_noUnit cX1_noUnit 2 (some .boolean) :: ([.fieldLink RX1 25 "TwinParityModel" "units" "I"] ++ wsX10)
def wsX1_manyLost : List Cond := .code yX1_manyLost cX1_manyLost 3 (some .int) :: ([.fieldLink RX1 25 "TwinParityModel" "units" "I", .fieldLink RX1 13 "TwinParityModel" "lost" "[Z"] ++ wsX10)
def wsX1_put : List Cond := .code yX1_put cX1_put 10 (some .int) :: ([.fieldLink RX1 21 "TwinParityModel" "thrown" "I", .fieldLink RX1 13 "TwinParityModel" "lost" "[Z", .constantLong RX1 42 (255), .fieldLink RX1 7 "TwinParityModel" "bytes" "[I", .methodLink RX1 38 yX1_p, .instanceMethod yX1_p, .selects RX1 yX1_p yX1_p, .initialized RX1, .code yX1_p cX1_p 1 (some .int), .fieldLink RX1 25 "TwinParityModel" "units" "I", .methodLink RX1 44 yX1_q, .instanceMethod yX1_q, .selects RX1 yX1_q yX1_q, .code yX1_q cX1_q 1 (some .int), .methodLink RX1 35 yX1_twos, .instanceMethod yX1_twos, .selects RX1 yX1_twos yX1_twos, .code yX1_twos cX1_twos 4 (some .int), .methodLink RX1 28 yX1_times, .instanceMethod yX1_times, .selects RX1 yX1_times yX1_times, .code yX1_times cX1_times 6 (some .int)] ++ wsX10)
def wsX1_spoil : List Cond := .code yX1_spoil cX1_spoil 7 (some .int) :: ([.fieldLink RX1 21 "TwinParityModel" "thrown" "I", .fieldLink RX1 13 "TwinParityModel" "lost" "[Z", .constant RX1 51 (1103515245), .fieldLink RX1 7 "TwinParityModel" "bytes" "[I", .methodLink RX1 47 yX1_noUnit, .instanceMethod yX1_noUnit, .selects RX1 yX1_noUnit yX1_noUnit, .initialized RX1, .code yX1_noUnit cX1_noUnit 2 (some .boolean), .fieldLink RX1 25 "TwinParityModel" "units" "I"] ++ wsX10)
def wsX1_sumAt : List Cond := .code yX1_sumAt cX1_sumAt 6 (some .int) :: ([.fieldLink RX1 13 "TwinParityModel" "lost" "[Z", .fieldLink RX1 7 "TwinParityModel" "bytes" "[I", .methodLink RX1 38 yX1_p, .instanceMethod yX1_p, .selects RX1 yX1_p yX1_p, .initialized RX1, .code yX1_p cX1_p 1 (some .int), .fieldLink RX1 25 "TwinParityModel" "units" "I", .methodLink RX1 35 yX1_twos, .instanceMethod yX1_twos, .selects RX1 yX1_twos yX1_twos, .code yX1_twos cX1_twos 4 (some .int), .methodLink RX1 28 yX1_times, .instanceMethod yX1_times, .selects RX1 yX1_times yX1_times, .code yX1_times cX1_times 6 (some .int)] ++ wsX10)
def wsX1_make_r1 : List Cond := [Cond.fieldLink RX1 21 "TwinParityModel" "thrown" "I", Cond.fieldLink RX1 7 "TwinParityModel" "bytes" "[I", Cond.methodLink RX1 52 yX1_manyLost, Cond.instanceMethod yX1_manyLost, Cond.selects RX1 yX1_manyLost yX1_manyLost, Cond.initialized RX1, Cond.code yX1_manyLost cX1_manyLost 3 (some .int), Cond.fieldLink RX1 25 "TwinParityModel" "units" "I", Cond.fieldLink RX1 13 "TwinParityModel" "lost" "[Z", Cond.methodLink RX1 38 yX1_p, Cond.instanceMethod yX1_p, Cond.selects RX1 yX1_p yX1_p, Cond.code yX1_p cX1_p 1 (some .int), Cond.methodLink RX1 55 yX1_sumAt, Cond.instanceMethod yX1_sumAt, Cond.selects RX1 yX1_sumAt yX1_sumAt, Cond.code yX1_sumAt cX1_sumAt 6 (some .int), Cond.methodLink RX1 35 yX1_twos, Cond.instanceMethod yX1_twos, Cond.selects RX1 yX1_twos yX1_twos, Cond.code yX1_twos cX1_twos 4 (some .int), Cond.methodLink RX1 28 yX1_times, Cond.instanceMethod yX1_times, Cond.selects RX1 yX1_times yX1_times]
def wsX1_make_r2 : List Cond := [Cond.code yX1_times cX1_times 6 (some .int), Cond.methodLink RX1 44 yX1_q, Cond.instanceMethod yX1_q, Cond.selects RX1 yX1_q yX1_q, Cond.code yX1_q cX1_q 1 (some .int)]
def wsX1_make : List Cond := .code yX1_make cX1_make 2 (some .int) :: ((wsX1_make_r1 ++ wsX1_make_r2) ++ wsX10)
def wsX1_get : List Cond := .code yX1_get cX1_get 3 (some .int) :: ([.fieldLink RX1 21 "TwinParityModel" "thrown" "I", .fieldLink RX1 13 "TwinParityModel" "lost" "[Z", .fieldLink RX1 7 "TwinParityModel" "bytes" "[I", .methodLink RX1 47 yX1_noUnit, .instanceMethod yX1_noUnit, .selects RX1 yX1_noUnit yX1_noUnit, .initialized RX1, .code yX1_noUnit cX1_noUnit 2 (some .boolean), .fieldLink RX1 25 "TwinParityModel" "units" "I"] ++ wsX10)
def wsX1_word : List Cond := .code yX1_word cX1_word 6 (some .long) :: ([.fieldLink RX1 21 "TwinParityModel" "thrown" "I", .fieldLink RX1 13 "TwinParityModel" "lost" "[Z", .fieldLink RX1 7 "TwinParityModel" "bytes" "[I", .methodLink RX1 47 yX1_noUnit, .instanceMethod yX1_noUnit, .selects RX1 yX1_noUnit yX1_noUnit, .initialized RX1, .code yX1_noUnit cX1_noUnit 2 (some .boolean), .fieldLink RX1 25 "TwinParityModel" "units" "I"] ++ wsX10)
def wsX1_lose : List Cond := .code yX1_lose cX1_lose 2 (some .int) :: ([.fieldLink RX1 21 "TwinParityModel" "thrown" "I", .fieldLink RX1 13 "TwinParityModel" "lost" "[Z", .methodLink RX1 47 yX1_noUnit, .instanceMethod yX1_noUnit, .selects RX1 yX1_noUnit yX1_noUnit, .initialized RX1, .code yX1_noUnit cX1_noUnit 2 (some .boolean), .fieldLink RX1 25 "TwinParityModel" "units" "I", .methodLink RX1 52 yX1_manyLost, .instanceMethod yX1_manyLost, .selects RX1 yX1_manyLost yX1_manyLost, .code yX1_manyLost cX1_manyLost 3 (some .int)] ++ wsX10)
def wsX1_lowest : List Cond := .code yX1_lowest cX1_lowest 3 (some .int) :: ([.fieldLink RX1 25 "TwinParityModel" "units" "I", .fieldLink RX1 13 "TwinParityModel" "lost" "[Z"] ++ wsX10)
def wsX1_wouldFit : List Cond := .code yX1_wouldFit cX1_wouldFit 10 (some .boolean) :: ([.fieldLink RX1 13 "TwinParityModel" "lost" "[Z", .fieldLink RX1 7 "TwinParityModel" "bytes" "[I", .methodLink RX1 55 yX1_sumAt, .instanceMethod yX1_sumAt, .selects RX1 yX1_sumAt yX1_sumAt, .initialized RX1, .code yX1_sumAt cX1_sumAt 6 (some .int), .methodLink RX1 38 yX1_p, .instanceMethod yX1_p, .selects RX1 yX1_p yX1_p, .code yX1_p cX1_p 1 (some .int), .fieldLink RX1 25 "TwinParityModel" "units" "I", .methodLink RX1 35 yX1_twos, .instanceMethod yX1_twos, .selects RX1 yX1_twos yX1_twos, .code yX1_twos cX1_twos 4 (some .int), .methodLink RX1 28 yX1_times, .instanceMethod yX1_times, .selects RX1 yX1_times yX1_times, .code yX1_times cX1_times 6 (some .int), .methodLink RX1 44 yX1_q, .instanceMethod yX1_q, .selects RX1 yX1_q yX1_q, .code yX1_q cX1_q 1 (some .int)] ++ wsX10)
def wsX1_find_r1 : List Cond := [Cond.fieldLink RX1 7 "TwinParityModel" "bytes" "[I", Cond.methodLink RX1 38 yX1_p, Cond.instanceMethod yX1_p, Cond.selects RX1 yX1_p yX1_p, Cond.initialized RX1, Cond.code yX1_p cX1_p 1 (some .int), Cond.fieldLink RX1 25 "TwinParityModel" "units" "I", Cond.methodLink RX1 55 yX1_sumAt, Cond.instanceMethod yX1_sumAt, Cond.selects RX1 yX1_sumAt yX1_sumAt, Cond.code yX1_sumAt cX1_sumAt 6 (some .int), Cond.fieldLink RX1 13 "TwinParityModel" "lost" "[Z", Cond.methodLink RX1 35 yX1_twos, Cond.instanceMethod yX1_twos, Cond.selects RX1 yX1_twos yX1_twos, Cond.code yX1_twos cX1_twos 4 (some .int), Cond.methodLink RX1 28 yX1_times, Cond.instanceMethod yX1_times, Cond.selects RX1 yX1_times yX1_times, Cond.code yX1_times cX1_times 6 (some .int), Cond.methodLink RX1 59 yX1_wouldFit, Cond.instanceMethod yX1_wouldFit, Cond.selects RX1 yX1_wouldFit yX1_wouldFit, Cond.code yX1_wouldFit cX1_wouldFit 10 (some .boolean)]
def wsX1_find_r2 : List Cond := [Cond.methodLink RX1 44 yX1_q, Cond.instanceMethod yX1_q, Cond.selects RX1 yX1_q yX1_q, Cond.code yX1_q cX1_q 1 (some .int)]
def wsX1_find : List Cond := .code yX1_find cX1_find 7 none :: ((wsX1_find_r1 ++ wsX1_find_r2) ++ wsX10)
def wsX1_mend_r1 : List Cond := [Cond.fieldLink RX1 21 "TwinParityModel" "thrown" "I", Cond.fieldLink RX1 25 "TwinParityModel" "units" "I", Cond.fieldLink RX1 13 "TwinParityModel" "lost" "[Z", Cond.fieldLink RX1 7 "TwinParityModel" "bytes" "[I", Cond.methodLink RX1 52 yX1_manyLost, Cond.instanceMethod yX1_manyLost, Cond.selects RX1 yX1_manyLost yX1_manyLost, Cond.initialized RX1, Cond.code yX1_manyLost cX1_manyLost 3 (some .int), Cond.methodLink RX1 63 yX1_lowest, Cond.instanceMethod yX1_lowest, Cond.selects RX1 yX1_lowest yX1_lowest, Cond.code yX1_lowest cX1_lowest 3 (some .int), Cond.methodLink RX1 38 yX1_p, Cond.instanceMethod yX1_p, Cond.selects RX1 yX1_p yX1_p, Cond.code yX1_p cX1_p 1 (some .int), Cond.methodLink RX1 66 yX1_find, Cond.instanceMethod yX1_find, Cond.selects RX1 yX1_find yX1_find, Cond.code yX1_find cX1_find 7 none, Cond.methodLink RX1 55 yX1_sumAt, Cond.instanceMethod yX1_sumAt, Cond.selects RX1 yX1_sumAt yX1_sumAt]
def wsX1_mend_r2 : List Cond := [Cond.code yX1_sumAt cX1_sumAt 6 (some .int), Cond.methodLink RX1 35 yX1_twos, Cond.instanceMethod yX1_twos, Cond.selects RX1 yX1_twos yX1_twos, Cond.code yX1_twos cX1_twos 4 (some .int), Cond.methodLink RX1 28 yX1_times, Cond.instanceMethod yX1_times, Cond.selects RX1 yX1_times yX1_times, Cond.code yX1_times cX1_times 6 (some .int), Cond.methodLink RX1 59 yX1_wouldFit, Cond.instanceMethod yX1_wouldFit, Cond.selects RX1 yX1_wouldFit yX1_wouldFit, Cond.code yX1_wouldFit cX1_wouldFit 10 (some .boolean), Cond.methodLink RX1 44 yX1_q, Cond.instanceMethod yX1_q, Cond.selects RX1 yX1_q yX1_q, Cond.code yX1_q cX1_q 1 (some .int)]
def wsX1_mend : List Cond := .code yX1_mend cX1_mend 7 (some .int) :: ((wsX1_mend_r1 ++ wsX1_mend_r2) ++ wsX10)
def wsX1_off : List Cond := .code yX1_off cX1_off 7 (some .int) :: ([.fieldLink RX1 7 "TwinParityModel" "bytes" "[I", .methodLink RX1 55 yX1_sumAt, .instanceMethod yX1_sumAt, .selects RX1 yX1_sumAt yX1_sumAt, .initialized RX1, .code yX1_sumAt cX1_sumAt 6 (some .int), .fieldLink RX1 13 "TwinParityModel" "lost" "[Z", .methodLink RX1 38 yX1_p, .instanceMethod yX1_p, .selects RX1 yX1_p yX1_p, .code yX1_p cX1_p 1 (some .int), .fieldLink RX1 25 "TwinParityModel" "units" "I", .methodLink RX1 35 yX1_twos, .instanceMethod yX1_twos, .selects RX1 yX1_twos yX1_twos, .code yX1_twos cX1_twos 4 (some .int), .methodLink RX1 28 yX1_times, .instanceMethod yX1_times, .selects RX1 yX1_times yX1_times, .code yX1_times cX1_times 6 (some .int), .methodLink RX1 44 yX1_q, .instanceMethod yX1_q, .selects RX1 yX1_q yX1_q, .code yX1_q cX1_q 1 (some .int)] ++ wsX10)
def wsX1_check_r1 : List Cond := [Cond.fieldLink RX1 21 "TwinParityModel" "thrown" "I", Cond.methodLink RX1 52 yX1_manyLost, Cond.instanceMethod yX1_manyLost, Cond.selects RX1 yX1_manyLost yX1_manyLost, Cond.initialized RX1, Cond.code yX1_manyLost cX1_manyLost 3 (some .int), Cond.fieldLink RX1 25 "TwinParityModel" "units" "I", Cond.fieldLink RX1 13 "TwinParityModel" "lost" "[Z", Cond.methodLink RX1 70 yX1_off, Cond.instanceMethod yX1_off, Cond.selects RX1 yX1_off yX1_off, Cond.code yX1_off cX1_off 7 (some .int), Cond.fieldLink RX1 7 "TwinParityModel" "bytes" "[I", Cond.methodLink RX1 55 yX1_sumAt, Cond.instanceMethod yX1_sumAt, Cond.selects RX1 yX1_sumAt yX1_sumAt, Cond.code yX1_sumAt cX1_sumAt 6 (some .int), Cond.methodLink RX1 38 yX1_p, Cond.instanceMethod yX1_p, Cond.selects RX1 yX1_p yX1_p, Cond.code yX1_p cX1_p 1 (some .int), Cond.methodLink RX1 35 yX1_twos, Cond.instanceMethod yX1_twos, Cond.selects RX1 yX1_twos yX1_twos]
def wsX1_check_r2 : List Cond := [Cond.code yX1_twos cX1_twos 4 (some .int), Cond.methodLink RX1 28 yX1_times, Cond.instanceMethod yX1_times, Cond.selects RX1 yX1_times yX1_times, Cond.code yX1_times cX1_times 6 (some .int), Cond.methodLink RX1 44 yX1_q, Cond.instanceMethod yX1_q, Cond.selects RX1 yX1_q yX1_q, Cond.code yX1_q cX1_q 1 (some .int)]
def wsX1_check : List Cond := .code yX1_check cX1_check 1 (some .int) :: ((wsX1_check_r1 ++ wsX1_check_r2) ++ wsX10)
def wsX1_fix_r1 : List Cond := [Cond.fieldLink RX1 21 "TwinParityModel" "thrown" "I", Cond.fieldLink RX1 13 "TwinParityModel" "lost" "[Z", Cond.methodLink RX1 52 yX1_manyLost, Cond.instanceMethod yX1_manyLost, Cond.selects RX1 yX1_manyLost yX1_manyLost, Cond.initialized RX1, Cond.code yX1_manyLost cX1_manyLost 3 (some .int), Cond.fieldLink RX1 25 "TwinParityModel" "units" "I", Cond.methodLink RX1 70 yX1_off, Cond.instanceMethod yX1_off, Cond.selects RX1 yX1_off yX1_off, Cond.code yX1_off cX1_off 7 (some .int), Cond.fieldLink RX1 7 "TwinParityModel" "bytes" "[I", Cond.methodLink RX1 55 yX1_sumAt, Cond.instanceMethod yX1_sumAt, Cond.selects RX1 yX1_sumAt yX1_sumAt, Cond.code yX1_sumAt cX1_sumAt 6 (some .int), Cond.methodLink RX1 38 yX1_p, Cond.instanceMethod yX1_p, Cond.selects RX1 yX1_p yX1_p, Cond.code yX1_p cX1_p 1 (some .int), Cond.methodLink RX1 35 yX1_twos, Cond.instanceMethod yX1_twos, Cond.selects RX1 yX1_twos yX1_twos]
def wsX1_fix_r2 : List Cond := [Cond.code yX1_twos cX1_twos 4 (some .int), Cond.methodLink RX1 28 yX1_times, Cond.instanceMethod yX1_times, Cond.selects RX1 yX1_times yX1_times, Cond.code yX1_times cX1_times 6 (some .int), Cond.methodLink RX1 44 yX1_q, Cond.instanceMethod yX1_q, Cond.selects RX1 yX1_q yX1_q, Cond.code yX1_q cX1_q 1 (some .int), Cond.methodLink RX1 73 yX1_mend, Cond.instanceMethod yX1_mend, Cond.selects RX1 yX1_mend yX1_mend, Cond.code yX1_mend cX1_mend 7 (some .int), Cond.methodLink RX1 63 yX1_lowest, Cond.instanceMethod yX1_lowest, Cond.selects RX1 yX1_lowest yX1_lowest, Cond.code yX1_lowest cX1_lowest 3 (some .int), Cond.methodLink RX1 66 yX1_find, Cond.instanceMethod yX1_find, Cond.selects RX1 yX1_find yX1_find, Cond.code yX1_find cX1_find 7 none, Cond.methodLink RX1 59 yX1_wouldFit, Cond.instanceMethod yX1_wouldFit, Cond.selects RX1 yX1_wouldFit yX1_wouldFit]
def wsX1_fix_r3 : List Cond := [Cond.code yX1_wouldFit cX1_wouldFit 10 (some .boolean)]
def wsX1_fix : List Cond := .code yX1_fix cX1_fix 3 (some .int) :: ((wsX1_fix_r1 ++ (wsX1_fix_r2 ++ wsX1_fix_r3)) ++ wsX10)
def wsX1_count : List Cond := .code yX1_count cX1_count 3 (some .int) :: ([.fieldLink RX1 21 "TwinParityModel" "thrown" "I", .fieldLink RX1 25 "TwinParityModel" "units" "I", .methodLink RX1 63 yX1_lowest, .instanceMethod yX1_lowest, .selects RX1 yX1_lowest yX1_lowest, .initialized RX1, .code yX1_lowest cX1_lowest 3 (some .int), .fieldLink RX1 13 "TwinParityModel" "lost" "[Z", .methodLink RX1 52 yX1_manyLost, .instanceMethod yX1_manyLost, .selects RX1 yX1_manyLost yX1_manyLost, .code yX1_manyLost cX1_manyLost 3 (some .int)] ++ wsX10)
def wsL_law_r1 : List Cond := [Cond.classLink RL 7 RX0, Cond.instantiable RX0 3, Cond.initialized RX0, Cond.classLink RL 10 RX1, Cond.instantiable RX1 4, Cond.initialized RX1, Cond.constantLong RL 18 (4294967295), Cond.methodLink RL 9 yX0_init, Cond.instanceMethod yX0_init, Cond.code yX0_init cX0_init 1 none, Cond.methodLink RX0 3 objectInit, Cond.instanceMethod objectInit, Cond.code objectInit ⟨#[0xb1]⟩ 1 none, Cond.arrayClass .int, Cond.fieldLink RX0 9 "TwinParity" "bytes" "[I", Cond.fieldLink RX0 13 "TwinParity" "dataUnits" "I", Cond.fieldLink RX0 17 "TwinParity" "lostUnits" "I", Cond.methodLink RL 12 yX1_init, Cond.instanceMethod yX1_init, Cond.code yX1_init cX1_init 2 none, Cond.methodLink RX1 1 objectInit, Cond.fieldLink RX1 7 "TwinParityModel" "bytes" "[I", Cond.arrayClass .boolean, Cond.fieldLink RX1 13 "TwinParityModel" "lost" "[Z"]
def wsL_law_r2 : List Cond := [Cond.methodLink RX1 17 yX1_begin, Cond.instanceMethod yX1_begin, Cond.selects RX1 yX1_begin yX1_begin, Cond.code yX1_begin cX1_begin 3 (some .int), Cond.fieldLink RX1 21 "TwinParityModel" "thrown" "I", Cond.fieldLink RX1 25 "TwinParityModel" "units" "I", Cond.methodLink RL 13 yX0_begin, Cond.instanceMethod yX0_begin, Cond.selects RX0 yX0_begin yX0_begin, Cond.code yX0_begin cX0_begin 2 (some .int), Cond.methodLink RX0 20 yJ7_fill_53178, Cond.static yJ7_fill_53178, Cond.initialized RJ7, Cond.code yJ7_fill_53178 cJ7_fill_53178 4 none, Cond.methodLink RX0 26 yX0_units, Cond.instanceMethod yX0_units, Cond.selects RX0 yX0_units yX0_units, Cond.code yX0_units cX0_units 1 (some .int), Cond.methodLink RL 17 yX1_begin, Cond.methodLink RL 20 yX0_put, Cond.instanceMethod yX0_put, Cond.selects RX0 yX0_put yX0_put, Cond.code yX0_put cX0_put 8 (some .int), Cond.methodLink RX0 30 yX0_isThere]
def wsL_law_r3 : List Cond := [Cond.instanceMethod yX0_isThere, Cond.selects RX0 yX0_isThere yX0_isThere, Cond.code yX0_isThere cX0_isThere 2 (some .boolean), Cond.methodLink RX0 100 yX0_isLost, Cond.instanceMethod yX0_isLost, Cond.selects RX0 yX0_isLost yX0_isLost, Cond.code yX0_isLost cX0_isLost 2 (some .boolean), Cond.methodLink RX0 34 yX0_isSpan, Cond.static yX0_isSpan, Cond.code yX0_isSpan cX0_isSpan 3 (some .boolean), Cond.methodLink RX0 38 yX0_byteAt, Cond.instanceMethod yX0_byteAt, Cond.selects RX0 yX0_byteAt yX0_byteAt, Cond.code yX0_byteAt cX0_byteAt 3 (some .int), Cond.methodLink RX0 42 yX0_changeWithParities, Cond.instanceMethod yX0_changeWithParities, Cond.selects RX0 yX0_changeWithParities yX0_changeWithParities, Cond.code yX0_changeWithParities cX0_changeWithParities 4 none, Cond.methodLink RX0 47 yX0_change, Cond.instanceMethod yX0_change, Cond.selects RX0 yX0_change yX0_change, Cond.code yX0_change cX0_change 4 none, Cond.methodLink RX0 50 yX0_unitP, Cond.instanceMethod yX0_unitP]
def wsL_law_r4 : List Cond := [Cond.selects RX0 yX0_unitP yX0_unitP, Cond.code yX0_unitP cX0_unitP 1 (some .int), Cond.methodLink RX0 57 yX0_unitQ, Cond.instanceMethod yX0_unitQ, Cond.selects RX0 yX0_unitQ yX0_unitQ, Cond.code yX0_unitQ cX0_unitQ 1 (some .int), Cond.methodLink RX0 97 yX0_timesPower, Cond.static yX0_timesPower, Cond.code yX0_timesPower cX0_timesPower 4 (some .int), Cond.methodLink RX0 108 yX0_doubled, Cond.static yX0_doubled, Cond.code yX0_doubled cX0_doubled 2 (some .int), Cond.methodLink RL 24 yX1_put, Cond.instanceMethod yX1_put, Cond.selects RX1 yX1_put yX1_put, Cond.code yX1_put cX1_put 10 (some .int), Cond.constantLong RX1 42 (255), Cond.methodLink RX1 38 yX1_p, Cond.instanceMethod yX1_p, Cond.selects RX1 yX1_p yX1_p, Cond.code yX1_p cX1_p 1 (some .int), Cond.methodLink RX1 44 yX1_q, Cond.instanceMethod yX1_q, Cond.selects RX1 yX1_q yX1_q]
def wsL_law_r5 : List Cond := [Cond.code yX1_q cX1_q 1 (some .int), Cond.methodLink RX1 35 yX1_twos, Cond.instanceMethod yX1_twos, Cond.selects RX1 yX1_twos yX1_twos, Cond.code yX1_twos cX1_twos 4 (some .int), Cond.methodLink RX1 28 yX1_times, Cond.instanceMethod yX1_times, Cond.selects RX1 yX1_times yX1_times, Cond.code yX1_times cX1_times 6 (some .int), Cond.methodLink RL 25 yX0_spoil, Cond.instanceMethod yX0_spoil, Cond.selects RX0 yX0_spoil yX0_spoil, Cond.code yX0_spoil cX0_spoil 8 (some .int), Cond.constant RX0 46 (1103515245), Cond.methodLink RL 29 yX1_spoil, Cond.instanceMethod yX1_spoil, Cond.selects RX1 yX1_spoil yX1_spoil, Cond.code yX1_spoil cX1_spoil 7 (some .int), Cond.constant RX1 51 (1103515245), Cond.methodLink RX1 47 yX1_noUnit, Cond.instanceMethod yX1_noUnit, Cond.selects RX1 yX1_noUnit yX1_noUnit, Cond.code yX1_noUnit cX1_noUnit 2 (some .boolean), Cond.methodLink RL 30 yX0_make]
def wsL_law_r6 : List Cond := [Cond.instanceMethod yX0_make, Cond.selects RX0 yX0_make yX0_make, Cond.code yX0_make cX0_make 1 (some .int), Cond.methodLink RX0 53 yX0_restoreByP, Cond.instanceMethod yX0_restoreByP, Cond.selects RX0 yX0_restoreByP yX0_restoreByP, Cond.code yX0_restoreByP cX0_restoreByP 3 none, Cond.methodLink RX0 111 yX0_differenceP, Cond.instanceMethod yX0_differenceP, Cond.selects RX0 yX0_differenceP yX0_differenceP, Cond.code yX0_differenceP cX0_differenceP 4 (some .int), Cond.methodLink RX0 60 yX0_restoreByQ, Cond.instanceMethod yX0_restoreByQ, Cond.selects RX0 yX0_restoreByQ yX0_restoreByQ, Cond.code yX0_restoreByQ cX0_restoreByQ 4 none, Cond.methodLink RX0 86 yX0_inverse, Cond.static yX0_inverse, Cond.code yX0_inverse cX0_inverse 4 (some .int), Cond.methodLink RX0 89 yX0_multiplied, Cond.static yX0_multiplied, Cond.code yX0_multiplied cX0_multiplied 5 (some .int), Cond.methodLink RX0 114 yX0_differenceQ, Cond.instanceMethod yX0_differenceQ, Cond.selects RX0 yX0_differenceQ yX0_differenceQ]
def wsL_law_r7 : List Cond := [Cond.code yX0_differenceQ cX0_differenceQ 4 (some .int), Cond.methodLink RL 34 yX1_make, Cond.instanceMethod yX1_make, Cond.selects RX1 yX1_make yX1_make, Cond.code yX1_make cX1_make 2 (some .int), Cond.methodLink RX1 52 yX1_manyLost, Cond.instanceMethod yX1_manyLost, Cond.selects RX1 yX1_manyLost yX1_manyLost, Cond.code yX1_manyLost cX1_manyLost 3 (some .int), Cond.methodLink RX1 55 yX1_sumAt, Cond.instanceMethod yX1_sumAt, Cond.selects RX1 yX1_sumAt yX1_sumAt, Cond.code yX1_sumAt cX1_sumAt 6 (some .int), Cond.methodLink RL 35 yX0_get, Cond.instanceMethod yX0_get, Cond.selects RX0 yX0_get yX0_get, Cond.code yX0_get cX0_get 3 (some .int), Cond.methodLink RL 39 yX1_get, Cond.instanceMethod yX1_get, Cond.selects RX1 yX1_get yX1_get, Cond.code yX1_get cX1_get 3 (some .int), Cond.methodLink RL 40 yX0_word, Cond.instanceMethod yX0_word, Cond.selects RX0 yX0_word yX0_word]
def wsL_law_r8 : List Cond := [Cond.code yX0_word cX0_word 6 (some .long), Cond.methodLink RL 44 yX1_word, Cond.instanceMethod yX1_word, Cond.selects RX1 yX1_word yX1_word, Cond.code yX1_word cX1_word 6 (some .long), Cond.methodLink RL 45 yX0_lose, Cond.instanceMethod yX0_lose, Cond.selects RX0 yX0_lose yX0_lose, Cond.code yX0_lose cX0_lose 2 (some .int), Cond.methodLink RX0 63 yX0_lostCount, Cond.instanceMethod yX0_lostCount, Cond.selects RX0 yX0_lostCount yX0_lostCount, Cond.code yX0_lostCount cX0_lostCount 1 (some .int), Cond.methodLink RX0 103 yJ6_bitCount_0f7a4, Cond.static yJ6_bitCount_0f7a4, Cond.initialized RJ6, Cond.code yJ6_bitCount_0f7a4 cJ6_bitCount_0f7a4 1 (some .int), Cond.constant RJ6 265 (1431655765), Cond.constant RJ6 266 (858993459), Cond.constant RJ6 267 (252645135), Cond.methodLink RL 48 yX1_lose, Cond.instanceMethod yX1_lose, Cond.selects RX1 yX1_lose yX1_lose, Cond.code yX1_lose cX1_lose 2 (some .int)]
def wsL_law_r9 : List Cond := [Cond.methodLink RL 49 yX0_mend, Cond.instanceMethod yX0_mend, Cond.selects RX0 yX0_mend yX0_mend, Cond.code yX0_mend cX0_mend 3 (some .int), Cond.methodLink RX0 66 yX0_lostFrom, Cond.instanceMethod yX0_lostFrom, Cond.selects RX0 yX0_lostFrom yX0_lostFrom, Cond.code yX0_lostFrom cX0_lostFrom 3 (some .int), Cond.methodLink RX0 70 yX0_restoreOne, Cond.instanceMethod yX0_restoreOne, Cond.selects RX0 yX0_restoreOne yX0_restoreOne, Cond.code yX0_restoreOne cX0_restoreOne 2 none, Cond.methodLink RX0 73 yX0_restoreTwo, Cond.instanceMethod yX0_restoreTwo, Cond.selects RX0 yX0_restoreTwo yX0_restoreTwo, Cond.code yX0_restoreTwo cX0_restoreTwo 3 none, Cond.methodLink RX0 117 yX0_restoreDataPair, Cond.instanceMethod yX0_restoreDataPair, Cond.selects RX0 yX0_restoreDataPair yX0_restoreDataPair, Cond.code yX0_restoreDataPair cX0_restoreDataPair 7 none, Cond.methodLink RL 52 yX1_mend, Cond.instanceMethod yX1_mend, Cond.selects RX1 yX1_mend yX1_mend, Cond.code yX1_mend cX1_mend 7 (some .int)]
def wsL_law_r10 : List Cond := [Cond.methodLink RX1 63 yX1_lowest, Cond.instanceMethod yX1_lowest, Cond.selects RX1 yX1_lowest yX1_lowest, Cond.code yX1_lowest cX1_lowest 3 (some .int), Cond.methodLink RX1 66 yX1_find, Cond.instanceMethod yX1_find, Cond.selects RX1 yX1_find yX1_find, Cond.code yX1_find cX1_find 7 none, Cond.methodLink RX1 59 yX1_wouldFit, Cond.instanceMethod yX1_wouldFit, Cond.selects RX1 yX1_wouldFit yX1_wouldFit, Cond.code yX1_wouldFit cX1_wouldFit 10 (some .boolean), Cond.methodLink RL 53 yX0_check, Cond.instanceMethod yX0_check, Cond.selects RX0 yX0_check yX0_check, Cond.code yX0_check cX0_check 4 (some .int), Cond.methodLink RX0 77 yX0_offAt, Cond.instanceMethod yX0_offAt, Cond.selects RX0 yX0_offAt yX0_offAt, Cond.code yX0_offAt cX0_offAt 6 (some .int), Cond.methodLink RL 56 yX1_check, Cond.instanceMethod yX1_check, Cond.selects RX1 yX1_check yX1_check, Cond.code yX1_check cX1_check 1 (some .int)]
def wsL_law_r11 : List Cond := [Cond.methodLink RX1 70 yX1_off, Cond.instanceMethod yX1_off, Cond.selects RX1 yX1_off yX1_off, Cond.code yX1_off cX1_off 7 (some .int), Cond.methodLink RL 57 yX0_fix, Cond.instanceMethod yX0_fix, Cond.selects RX0 yX0_fix yX0_fix, Cond.code yX0_fix cX0_fix 2 (some .int), Cond.methodLink RX0 80 yX0_check, Cond.methodLink RL 60 yX1_fix, Cond.instanceMethod yX1_fix, Cond.selects RX1 yX1_fix yX1_fix, Cond.code yX1_fix cX1_fix 3 (some .int), Cond.methodLink RX1 73 yX1_mend, Cond.methodLink RL 61 yX0_count, Cond.instanceMethod yX0_count, Cond.selects RX0 yX0_count yX0_count, Cond.code yX0_count cX0_count 2 (some .int), Cond.methodLink RL 64 yX1_count, Cond.instanceMethod yX1_count, Cond.selects RX1 yX1_count yX1_count, Cond.code yX1_count cX1_count 3 (some .int), Cond.methodLink RL 65 yX0_product, Cond.instanceMethod yX0_product]
def wsL_law_r12 : List Cond := [Cond.selects RX0 yX0_product yX0_product, Cond.code yX0_product cX0_product 4 (some .int), Cond.methodLink RX0 83 yX0_isElement, Cond.static yX0_isElement, Cond.code yX0_isElement cX0_isElement 1 (some .boolean), Cond.methodLink RL 69 yX1_product, Cond.instanceMethod yX1_product, Cond.selects RX1 yX1_product yX1_product, Cond.code yX1_product cX1_product 4 (some .int), Cond.methodLink RX1 32 yX1_part, Cond.instanceMethod yX1_part, Cond.selects RX1 yX1_part yX1_part, Cond.code yX1_part cX1_part 4 (some .int), Cond.methodLink RL 70 yX0_power, Cond.instanceMethod yX0_power, Cond.selects RX0 yX0_power yX0_power, Cond.code yX0_power cX0_power 2 (some .int), Cond.methodLink RX0 92 yJ9_floorMod_7cf53, Cond.static yJ9_floorMod_7cf53, Cond.initialized RJ9, Cond.code yJ9_floorMod_7cf53 cJ9_floorMod_7cf53 3 (some .int), Cond.methodLink RL 73 yX1_power, Cond.instanceMethod yX1_power, Cond.selects RX1 yX1_power yX1_power]
def wsL_law_r13 : List Cond := [Cond.code yX1_power cX1_power 3 (some .int)]
def wsL_law : List Cond := (wsL_law_r1 ++ (wsL_law_r2 ++ (wsL_law_r3 ++ (wsL_law_r4 ++ (wsL_law_r5 ++ (wsL_law_r6 ++ (wsL_law_r7 ++ (wsL_law_r8 ++ (wsL_law_r9 ++ (wsL_law_r10 ++ (wsL_law_r11 ++ (wsL_law_r12 ++ wsL_law_r13)))))))))))) ++ wsX00 ++ wsX10 ++ ([] : List Cond)
abbrev vwCl : List vw_C := [(RX0, TX0, 3), (RX1, TX1, 4)]
end
section
theorem lw_gi {big ws : List Cond} (ps : List Nat) (h : ws = ps.filterMap (fun i => big[i]?)) : ∀ w ∈ ws, w ∈ big := by
  intro w hw
  rw [h] at hw
  obtain ⟨i, -, hi⟩ := List.mem_filterMap.mp hw
  exact List.mem_of_getElem? hi
set_option maxRecDepth 20000 in
theorem inwsL_law_r1 : ∀ w ∈ wsL_law_r1, w ∈ lw_tbl := List.forall_mem_cons.mpr ⟨List.mem_of_getElem? (i := 36) rfl, List.forall_mem_cons.mpr ⟨List.mem_of_getElem? (i := 37) rfl, List.forall_mem_cons.mpr ⟨List.mem_of_getElem? (i := 31) rfl, List.forall_mem_cons.mpr ⟨List.mem_of_getElem? (i := 211) rfl, List.forall_mem_cons.mpr ⟨List.mem_of_getElem? (i := 212) rfl, List.forall_mem_cons.mpr ⟨List.mem_of_getElem? (i := 32) rfl, List.forall_mem_cons.mpr ⟨List.mem_of_getElem? (i := 335) rfl, List.forall_mem_cons.mpr ⟨List.mem_of_getElem? (i := 38) rfl, List.forall_mem_cons.mpr ⟨List.mem_of_getElem? (i := 39) rfl, List.forall_mem_cons.mpr ⟨List.mem_of_getElem? (i := 40) rfl, List.forall_mem_cons.mpr ⟨List.mem_of_getElem? (i := 41) rfl, List.forall_mem_cons.mpr ⟨List.mem_of_getElem? (i := 42) rfl, List.forall_mem_cons.mpr ⟨List.mem_of_getElem? (i := 43) rfl, List.forall_mem_cons.mpr ⟨List.mem_of_getElem? (i := 54) rfl, List.forall_mem_cons.mpr ⟨List.mem_of_getElem? (i := 44) rfl, List.forall_mem_cons.mpr ⟨List.mem_of_getElem? (i := 45) rfl, List.forall_mem_cons.mpr ⟨List.mem_of_getElem? (i := 46) rfl, List.forall_mem_cons.mpr ⟨List.mem_of_getElem? (i := 213) rfl, List.forall_mem_cons.mpr ⟨List.mem_of_getElem? (i := 214) rfl, List.forall_mem_cons.mpr ⟨List.mem_of_getElem? (i := 215) rfl, List.forall_mem_cons.mpr ⟨List.mem_of_getElem? (i := 216) rfl, List.forall_mem_cons.mpr ⟨List.mem_of_getElem? (i := 223) rfl, List.forall_mem_cons.mpr ⟨List.mem_of_getElem? (i := 234) rfl, List.forall_mem_cons.mpr ⟨List.mem_of_getElem? (i := 224) rfl, fun _ h => absurd h List.not_mem_nil⟩⟩⟩⟩⟩⟩⟩⟩⟩⟩⟩⟩⟩⟩⟩⟩⟩⟩⟩⟩⟩⟩⟩⟩
set_option maxRecDepth 20000 in
theorem inwsL_law_r2 : ∀ w ∈ wsL_law_r2, w ∈ lw_tbl := List.forall_mem_cons.mpr ⟨List.mem_of_getElem? (i := 217) rfl, List.forall_mem_cons.mpr ⟨List.mem_of_getElem? (i := 218) rfl, List.forall_mem_cons.mpr ⟨List.mem_of_getElem? (i := 219) rfl, List.forall_mem_cons.mpr ⟨List.mem_of_getElem? (i := 220) rfl, List.forall_mem_cons.mpr ⟨List.mem_of_getElem? (i := 221) rfl, List.forall_mem_cons.mpr ⟨List.mem_of_getElem? (i := 222) rfl, List.forall_mem_cons.mpr ⟨List.mem_of_getElem? (i := 55) rfl, List.forall_mem_cons.mpr ⟨List.mem_of_getElem? (i := 56) rfl, List.forall_mem_cons.mpr ⟨List.mem_of_getElem? (i := 57) rfl, List.forall_mem_cons.mpr ⟨List.mem_of_getElem? (i := 58) rfl, List.forall_mem_cons.mpr ⟨List.mem_of_getElem? (i := 59) rfl, List.forall_mem_cons.mpr ⟨List.mem_of_getElem? (i := 60) rfl, List.forall_mem_cons.mpr ⟨List.mem_of_getElem? (i := 33) rfl, List.forall_mem_cons.mpr ⟨List.mem_of_getElem? (i := 61) rfl, List.forall_mem_cons.mpr ⟨List.mem_of_getElem? (i := 62) rfl, List.forall_mem_cons.mpr ⟨List.mem_of_getElem? (i := 64) rfl, List.forall_mem_cons.mpr ⟨List.mem_of_getElem? (i := 0) rfl, List.forall_mem_cons.mpr ⟨List.mem_of_getElem? (i := 65) rfl, List.forall_mem_cons.mpr ⟨List.mem_of_getElem? (i := 235) rfl, List.forall_mem_cons.mpr ⟨List.mem_of_getElem? (i := 66) rfl, List.forall_mem_cons.mpr ⟨List.mem_of_getElem? (i := 67) rfl, List.forall_mem_cons.mpr ⟨List.mem_of_getElem? (i := 68) rfl, List.forall_mem_cons.mpr ⟨List.mem_of_getElem? (i := 69) rfl, List.forall_mem_cons.mpr ⟨List.mem_of_getElem? (i := 70) rfl, fun _ h => absurd h List.not_mem_nil⟩⟩⟩⟩⟩⟩⟩⟩⟩⟩⟩⟩⟩⟩⟩⟩⟩⟩⟩⟩⟩⟩⟩⟩
set_option maxRecDepth 20000 in
theorem inwsL_law_r3 : ∀ w ∈ wsL_law_r3, w ∈ lw_tbl := List.forall_mem_cons.mpr ⟨List.mem_of_getElem? (i := 72) rfl, List.forall_mem_cons.mpr ⟨List.mem_of_getElem? (i := 1) rfl, List.forall_mem_cons.mpr ⟨List.mem_of_getElem? (i := 73) rfl, List.forall_mem_cons.mpr ⟨List.mem_of_getElem? (i := 74) rfl, List.forall_mem_cons.mpr ⟨List.mem_of_getElem? (i := 76) rfl, List.forall_mem_cons.mpr ⟨List.mem_of_getElem? (i := 2) rfl, List.forall_mem_cons.mpr ⟨List.mem_of_getElem? (i := 77) rfl, List.forall_mem_cons.mpr ⟨List.mem_of_getElem? (i := 78) rfl, List.forall_mem_cons.mpr ⟨List.mem_of_getElem? (i := 79) rfl, List.forall_mem_cons.mpr ⟨List.mem_of_getElem? (i := 80) rfl, List.forall_mem_cons.mpr ⟨List.mem_of_getElem? (i := 81) rfl, List.forall_mem_cons.mpr ⟨List.mem_of_getElem? (i := 83) rfl, List.forall_mem_cons.mpr ⟨List.mem_of_getElem? (i := 3) rfl, List.forall_mem_cons.mpr ⟨List.mem_of_getElem? (i := 84) rfl, List.forall_mem_cons.mpr ⟨List.mem_of_getElem? (i := 85) rfl, List.forall_mem_cons.mpr ⟨List.mem_of_getElem? (i := 87) rfl, List.forall_mem_cons.mpr ⟨List.mem_of_getElem? (i := 4) rfl, List.forall_mem_cons.mpr ⟨List.mem_of_getElem? (i := 88) rfl, List.forall_mem_cons.mpr ⟨List.mem_of_getElem? (i := 89) rfl, List.forall_mem_cons.mpr ⟨List.mem_of_getElem? (i := 91) rfl, List.forall_mem_cons.mpr ⟨List.mem_of_getElem? (i := 5) rfl, List.forall_mem_cons.mpr ⟨List.mem_of_getElem? (i := 92) rfl, List.forall_mem_cons.mpr ⟨List.mem_of_getElem? (i := 93) rfl, List.forall_mem_cons.mpr ⟨List.mem_of_getElem? (i := 95) rfl, fun _ h => absurd h List.not_mem_nil⟩⟩⟩⟩⟩⟩⟩⟩⟩⟩⟩⟩⟩⟩⟩⟩⟩⟩⟩⟩⟩⟩⟩⟩
set_option maxRecDepth 20000 in
theorem inwsL_law_r4 : ∀ w ∈ wsL_law_r4, w ∈ lw_tbl := List.forall_mem_cons.mpr ⟨List.mem_of_getElem? (i := 6) rfl, List.forall_mem_cons.mpr ⟨List.mem_of_getElem? (i := 96) rfl, List.forall_mem_cons.mpr ⟨List.mem_of_getElem? (i := 97) rfl, List.forall_mem_cons.mpr ⟨List.mem_of_getElem? (i := 99) rfl, List.forall_mem_cons.mpr ⟨List.mem_of_getElem? (i := 7) rfl, List.forall_mem_cons.mpr ⟨List.mem_of_getElem? (i := 100) rfl, List.forall_mem_cons.mpr ⟨List.mem_of_getElem? (i := 101) rfl, List.forall_mem_cons.mpr ⟨List.mem_of_getElem? (i := 102) rfl, List.forall_mem_cons.mpr ⟨List.mem_of_getElem? (i := 103) rfl, List.forall_mem_cons.mpr ⟨List.mem_of_getElem? (i := 104) rfl, List.forall_mem_cons.mpr ⟨List.mem_of_getElem? (i := 105) rfl, List.forall_mem_cons.mpr ⟨List.mem_of_getElem? (i := 106) rfl, List.forall_mem_cons.mpr ⟨List.mem_of_getElem? (i := 256) rfl, List.forall_mem_cons.mpr ⟨List.mem_of_getElem? (i := 257) rfl, List.forall_mem_cons.mpr ⟨List.mem_of_getElem? (i := 258) rfl, List.forall_mem_cons.mpr ⟨List.mem_of_getElem? (i := 259) rfl, List.forall_mem_cons.mpr ⟨List.mem_of_getElem? (i := 264) rfl, List.forall_mem_cons.mpr ⟨List.mem_of_getElem? (i := 260) rfl, List.forall_mem_cons.mpr ⟨List.mem_of_getElem? (i := 262) rfl, List.forall_mem_cons.mpr ⟨List.mem_of_getElem? (i := 21) rfl, List.forall_mem_cons.mpr ⟨List.mem_of_getElem? (i := 263) rfl, List.forall_mem_cons.mpr ⟨List.mem_of_getElem? (i := 265) rfl, List.forall_mem_cons.mpr ⟨List.mem_of_getElem? (i := 267) rfl, List.forall_mem_cons.mpr ⟨List.mem_of_getElem? (i := 22) rfl, fun _ h => absurd h List.not_mem_nil⟩⟩⟩⟩⟩⟩⟩⟩⟩⟩⟩⟩⟩⟩⟩⟩⟩⟩⟩⟩⟩⟩⟩⟩
set_option maxRecDepth 20000 in
theorem inwsL_law_r5 : ∀ w ∈ wsL_law_r5, w ∈ lw_tbl := List.forall_mem_cons.mpr ⟨List.mem_of_getElem? (i := 268) rfl, List.forall_mem_cons.mpr ⟨List.mem_of_getElem? (i := 252) rfl, List.forall_mem_cons.mpr ⟨List.mem_of_getElem? (i := 254) rfl, List.forall_mem_cons.mpr ⟨List.mem_of_getElem? (i := 20) rfl, List.forall_mem_cons.mpr ⟨List.mem_of_getElem? (i := 255) rfl, List.forall_mem_cons.mpr ⟨List.mem_of_getElem? (i := 244) rfl, List.forall_mem_cons.mpr ⟨List.mem_of_getElem? (i := 246) rfl, List.forall_mem_cons.mpr ⟨List.mem_of_getElem? (i := 19) rfl, List.forall_mem_cons.mpr ⟨List.mem_of_getElem? (i := 247) rfl, List.forall_mem_cons.mpr ⟨List.mem_of_getElem? (i := 107) rfl, List.forall_mem_cons.mpr ⟨List.mem_of_getElem? (i := 108) rfl, List.forall_mem_cons.mpr ⟨List.mem_of_getElem? (i := 109) rfl, List.forall_mem_cons.mpr ⟨List.mem_of_getElem? (i := 110) rfl, List.forall_mem_cons.mpr ⟨List.mem_of_getElem? (i := 111) rfl, List.forall_mem_cons.mpr ⟨List.mem_of_getElem? (i := 269) rfl, List.forall_mem_cons.mpr ⟨List.mem_of_getElem? (i := 270) rfl, List.forall_mem_cons.mpr ⟨List.mem_of_getElem? (i := 271) rfl, List.forall_mem_cons.mpr ⟨List.mem_of_getElem? (i := 272) rfl, List.forall_mem_cons.mpr ⟨List.mem_of_getElem? (i := 277) rfl, List.forall_mem_cons.mpr ⟨List.mem_of_getElem? (i := 273) rfl, List.forall_mem_cons.mpr ⟨List.mem_of_getElem? (i := 275) rfl, List.forall_mem_cons.mpr ⟨List.mem_of_getElem? (i := 23) rfl, List.forall_mem_cons.mpr ⟨List.mem_of_getElem? (i := 276) rfl, List.forall_mem_cons.mpr ⟨List.mem_of_getElem? (i := 112) rfl, fun _ h => absurd h List.not_mem_nil⟩⟩⟩⟩⟩⟩⟩⟩⟩⟩⟩⟩⟩⟩⟩⟩⟩⟩⟩⟩⟩⟩⟩⟩
set_option maxRecDepth 20000 in
theorem inwsL_law_r6 : ∀ w ∈ wsL_law_r6, w ∈ lw_tbl := List.forall_mem_cons.mpr ⟨List.mem_of_getElem? (i := 113) rfl, List.forall_mem_cons.mpr ⟨List.mem_of_getElem? (i := 114) rfl, List.forall_mem_cons.mpr ⟨List.mem_of_getElem? (i := 115) rfl, List.forall_mem_cons.mpr ⟨List.mem_of_getElem? (i := 116) rfl, List.forall_mem_cons.mpr ⟨List.mem_of_getElem? (i := 118) rfl, List.forall_mem_cons.mpr ⟨List.mem_of_getElem? (i := 8) rfl, List.forall_mem_cons.mpr ⟨List.mem_of_getElem? (i := 119) rfl, List.forall_mem_cons.mpr ⟨List.mem_of_getElem? (i := 120) rfl, List.forall_mem_cons.mpr ⟨List.mem_of_getElem? (i := 122) rfl, List.forall_mem_cons.mpr ⟨List.mem_of_getElem? (i := 9) rfl, List.forall_mem_cons.mpr ⟨List.mem_of_getElem? (i := 123) rfl, List.forall_mem_cons.mpr ⟨List.mem_of_getElem? (i := 124) rfl, List.forall_mem_cons.mpr ⟨List.mem_of_getElem? (i := 126) rfl, List.forall_mem_cons.mpr ⟨List.mem_of_getElem? (i := 10) rfl, List.forall_mem_cons.mpr ⟨List.mem_of_getElem? (i := 127) rfl, List.forall_mem_cons.mpr ⟨List.mem_of_getElem? (i := 128) rfl, List.forall_mem_cons.mpr ⟨List.mem_of_getElem? (i := 129) rfl, List.forall_mem_cons.mpr ⟨List.mem_of_getElem? (i := 130) rfl, List.forall_mem_cons.mpr ⟨List.mem_of_getElem? (i := 131) rfl, List.forall_mem_cons.mpr ⟨List.mem_of_getElem? (i := 132) rfl, List.forall_mem_cons.mpr ⟨List.mem_of_getElem? (i := 133) rfl, List.forall_mem_cons.mpr ⟨List.mem_of_getElem? (i := 134) rfl, List.forall_mem_cons.mpr ⟨List.mem_of_getElem? (i := 136) rfl, List.forall_mem_cons.mpr ⟨List.mem_of_getElem? (i := 11) rfl, fun _ h => absurd h List.not_mem_nil⟩⟩⟩⟩⟩⟩⟩⟩⟩⟩⟩⟩⟩⟩⟩⟩⟩⟩⟩⟩⟩⟩⟩⟩
set_option maxRecDepth 20000 in
theorem inwsL_law_r7 : ∀ w ∈ wsL_law_r7, w ∈ lw_tbl := List.forall_mem_cons.mpr ⟨List.mem_of_getElem? (i := 137) rfl, List.forall_mem_cons.mpr ⟨List.mem_of_getElem? (i := 278) rfl, List.forall_mem_cons.mpr ⟨List.mem_of_getElem? (i := 279) rfl, List.forall_mem_cons.mpr ⟨List.mem_of_getElem? (i := 280) rfl, List.forall_mem_cons.mpr ⟨List.mem_of_getElem? (i := 281) rfl, List.forall_mem_cons.mpr ⟨List.mem_of_getElem? (i := 282) rfl, List.forall_mem_cons.mpr ⟨List.mem_of_getElem? (i := 284) rfl, List.forall_mem_cons.mpr ⟨List.mem_of_getElem? (i := 24) rfl, List.forall_mem_cons.mpr ⟨List.mem_of_getElem? (i := 285) rfl, List.forall_mem_cons.mpr ⟨List.mem_of_getElem? (i := 286) rfl, List.forall_mem_cons.mpr ⟨List.mem_of_getElem? (i := 288) rfl, List.forall_mem_cons.mpr ⟨List.mem_of_getElem? (i := 25) rfl, List.forall_mem_cons.mpr ⟨List.mem_of_getElem? (i := 289) rfl, List.forall_mem_cons.mpr ⟨List.mem_of_getElem? (i := 138) rfl, List.forall_mem_cons.mpr ⟨List.mem_of_getElem? (i := 139) rfl, List.forall_mem_cons.mpr ⟨List.mem_of_getElem? (i := 140) rfl, List.forall_mem_cons.mpr ⟨List.mem_of_getElem? (i := 141) rfl, List.forall_mem_cons.mpr ⟨List.mem_of_getElem? (i := 290) rfl, List.forall_mem_cons.mpr ⟨List.mem_of_getElem? (i := 291) rfl, List.forall_mem_cons.mpr ⟨List.mem_of_getElem? (i := 292) rfl, List.forall_mem_cons.mpr ⟨List.mem_of_getElem? (i := 293) rfl, List.forall_mem_cons.mpr ⟨List.mem_of_getElem? (i := 142) rfl, List.forall_mem_cons.mpr ⟨List.mem_of_getElem? (i := 143) rfl, List.forall_mem_cons.mpr ⟨List.mem_of_getElem? (i := 144) rfl, fun _ h => absurd h List.not_mem_nil⟩⟩⟩⟩⟩⟩⟩⟩⟩⟩⟩⟩⟩⟩⟩⟩⟩⟩⟩⟩⟩⟩⟩⟩
set_option maxRecDepth 20000 in
theorem inwsL_law_r8 : ∀ w ∈ wsL_law_r8, w ∈ lw_tbl := List.forall_mem_cons.mpr ⟨List.mem_of_getElem? (i := 145) rfl, List.forall_mem_cons.mpr ⟨List.mem_of_getElem? (i := 294) rfl, List.forall_mem_cons.mpr ⟨List.mem_of_getElem? (i := 295) rfl, List.forall_mem_cons.mpr ⟨List.mem_of_getElem? (i := 296) rfl, List.forall_mem_cons.mpr ⟨List.mem_of_getElem? (i := 297) rfl, List.forall_mem_cons.mpr ⟨List.mem_of_getElem? (i := 146) rfl, List.forall_mem_cons.mpr ⟨List.mem_of_getElem? (i := 147) rfl, List.forall_mem_cons.mpr ⟨List.mem_of_getElem? (i := 148) rfl, List.forall_mem_cons.mpr ⟨List.mem_of_getElem? (i := 149) rfl, List.forall_mem_cons.mpr ⟨List.mem_of_getElem? (i := 150) rfl, List.forall_mem_cons.mpr ⟨List.mem_of_getElem? (i := 152) rfl, List.forall_mem_cons.mpr ⟨List.mem_of_getElem? (i := 12) rfl, List.forall_mem_cons.mpr ⟨List.mem_of_getElem? (i := 153) rfl, List.forall_mem_cons.mpr ⟨List.mem_of_getElem? (i := 154) rfl, List.forall_mem_cons.mpr ⟨List.mem_of_getElem? (i := 155) rfl, List.forall_mem_cons.mpr ⟨List.mem_of_getElem? (i := 34) rfl, List.forall_mem_cons.mpr ⟨List.mem_of_getElem? (i := 156) rfl, List.forall_mem_cons.mpr ⟨List.mem_of_getElem? (i := 157) rfl, List.forall_mem_cons.mpr ⟨List.mem_of_getElem? (i := 158) rfl, List.forall_mem_cons.mpr ⟨List.mem_of_getElem? (i := 159) rfl, List.forall_mem_cons.mpr ⟨List.mem_of_getElem? (i := 298) rfl, List.forall_mem_cons.mpr ⟨List.mem_of_getElem? (i := 299) rfl, List.forall_mem_cons.mpr ⟨List.mem_of_getElem? (i := 300) rfl, List.forall_mem_cons.mpr ⟨List.mem_of_getElem? (i := 301) rfl, fun _ h => absurd h List.not_mem_nil⟩⟩⟩⟩⟩⟩⟩⟩⟩⟩⟩⟩⟩⟩⟩⟩⟩⟩⟩⟩⟩⟩⟩⟩
set_option maxRecDepth 20000 in
theorem inwsL_law_r9 : ∀ w ∈ wsL_law_r9, w ∈ lw_tbl := List.forall_mem_cons.mpr ⟨List.mem_of_getElem? (i := 160) rfl, List.forall_mem_cons.mpr ⟨List.mem_of_getElem? (i := 161) rfl, List.forall_mem_cons.mpr ⟨List.mem_of_getElem? (i := 162) rfl, List.forall_mem_cons.mpr ⟨List.mem_of_getElem? (i := 163) rfl, List.forall_mem_cons.mpr ⟨List.mem_of_getElem? (i := 164) rfl, List.forall_mem_cons.mpr ⟨List.mem_of_getElem? (i := 166) rfl, List.forall_mem_cons.mpr ⟨List.mem_of_getElem? (i := 13) rfl, List.forall_mem_cons.mpr ⟨List.mem_of_getElem? (i := 167) rfl, List.forall_mem_cons.mpr ⟨List.mem_of_getElem? (i := 168) rfl, List.forall_mem_cons.mpr ⟨List.mem_of_getElem? (i := 170) rfl, List.forall_mem_cons.mpr ⟨List.mem_of_getElem? (i := 14) rfl, List.forall_mem_cons.mpr ⟨List.mem_of_getElem? (i := 171) rfl, List.forall_mem_cons.mpr ⟨List.mem_of_getElem? (i := 172) rfl, List.forall_mem_cons.mpr ⟨List.mem_of_getElem? (i := 174) rfl, List.forall_mem_cons.mpr ⟨List.mem_of_getElem? (i := 15) rfl, List.forall_mem_cons.mpr ⟨List.mem_of_getElem? (i := 175) rfl, List.forall_mem_cons.mpr ⟨List.mem_of_getElem? (i := 176) rfl, List.forall_mem_cons.mpr ⟨List.mem_of_getElem? (i := 178) rfl, List.forall_mem_cons.mpr ⟨List.mem_of_getElem? (i := 16) rfl, List.forall_mem_cons.mpr ⟨List.mem_of_getElem? (i := 179) rfl, List.forall_mem_cons.mpr ⟨List.mem_of_getElem? (i := 302) rfl, List.forall_mem_cons.mpr ⟨List.mem_of_getElem? (i := 303) rfl, List.forall_mem_cons.mpr ⟨List.mem_of_getElem? (i := 304) rfl, List.forall_mem_cons.mpr ⟨List.mem_of_getElem? (i := 305) rfl, fun _ h => absurd h List.not_mem_nil⟩⟩⟩⟩⟩⟩⟩⟩⟩⟩⟩⟩⟩⟩⟩⟩⟩⟩⟩⟩⟩⟩⟩⟩
set_option maxRecDepth 20000 in
theorem inwsL_law_r10 : ∀ w ∈ wsL_law_r10, w ∈ lw_tbl := List.forall_mem_cons.mpr ⟨List.mem_of_getElem? (i := 306) rfl, List.forall_mem_cons.mpr ⟨List.mem_of_getElem? (i := 308) rfl, List.forall_mem_cons.mpr ⟨List.mem_of_getElem? (i := 26) rfl, List.forall_mem_cons.mpr ⟨List.mem_of_getElem? (i := 309) rfl, List.forall_mem_cons.mpr ⟨List.mem_of_getElem? (i := 310) rfl, List.forall_mem_cons.mpr ⟨List.mem_of_getElem? (i := 312) rfl, List.forall_mem_cons.mpr ⟨List.mem_of_getElem? (i := 27) rfl, List.forall_mem_cons.mpr ⟨List.mem_of_getElem? (i := 313) rfl, List.forall_mem_cons.mpr ⟨List.mem_of_getElem? (i := 314) rfl, List.forall_mem_cons.mpr ⟨List.mem_of_getElem? (i := 316) rfl, List.forall_mem_cons.mpr ⟨List.mem_of_getElem? (i := 28) rfl, List.forall_mem_cons.mpr ⟨List.mem_of_getElem? (i := 317) rfl, List.forall_mem_cons.mpr ⟨List.mem_of_getElem? (i := 180) rfl, List.forall_mem_cons.mpr ⟨List.mem_of_getElem? (i := 181) rfl, List.forall_mem_cons.mpr ⟨List.mem_of_getElem? (i := 182) rfl, List.forall_mem_cons.mpr ⟨List.mem_of_getElem? (i := 183) rfl, List.forall_mem_cons.mpr ⟨List.mem_of_getElem? (i := 184) rfl, List.forall_mem_cons.mpr ⟨List.mem_of_getElem? (i := 186) rfl, List.forall_mem_cons.mpr ⟨List.mem_of_getElem? (i := 17) rfl, List.forall_mem_cons.mpr ⟨List.mem_of_getElem? (i := 187) rfl, List.forall_mem_cons.mpr ⟨List.mem_of_getElem? (i := 318) rfl, List.forall_mem_cons.mpr ⟨List.mem_of_getElem? (i := 319) rfl, List.forall_mem_cons.mpr ⟨List.mem_of_getElem? (i := 320) rfl, List.forall_mem_cons.mpr ⟨List.mem_of_getElem? (i := 321) rfl, fun _ h => absurd h List.not_mem_nil⟩⟩⟩⟩⟩⟩⟩⟩⟩⟩⟩⟩⟩⟩⟩⟩⟩⟩⟩⟩⟩⟩⟩⟩
set_option maxRecDepth 20000 in
theorem inwsL_law_r11 : ∀ w ∈ wsL_law_r11, w ∈ lw_tbl := List.forall_mem_cons.mpr ⟨List.mem_of_getElem? (i := 322) rfl, List.forall_mem_cons.mpr ⟨List.mem_of_getElem? (i := 324) rfl, List.forall_mem_cons.mpr ⟨List.mem_of_getElem? (i := 29) rfl, List.forall_mem_cons.mpr ⟨List.mem_of_getElem? (i := 325) rfl, List.forall_mem_cons.mpr ⟨List.mem_of_getElem? (i := 188) rfl, List.forall_mem_cons.mpr ⟨List.mem_of_getElem? (i := 189) rfl, List.forall_mem_cons.mpr ⟨List.mem_of_getElem? (i := 190) rfl, List.forall_mem_cons.mpr ⟨List.mem_of_getElem? (i := 191) rfl, List.forall_mem_cons.mpr ⟨List.mem_of_getElem? (i := 192) rfl, List.forall_mem_cons.mpr ⟨List.mem_of_getElem? (i := 326) rfl, List.forall_mem_cons.mpr ⟨List.mem_of_getElem? (i := 327) rfl, List.forall_mem_cons.mpr ⟨List.mem_of_getElem? (i := 328) rfl, List.forall_mem_cons.mpr ⟨List.mem_of_getElem? (i := 329) rfl, List.forall_mem_cons.mpr ⟨List.mem_of_getElem? (i := 330) rfl, List.forall_mem_cons.mpr ⟨List.mem_of_getElem? (i := 193) rfl, List.forall_mem_cons.mpr ⟨List.mem_of_getElem? (i := 194) rfl, List.forall_mem_cons.mpr ⟨List.mem_of_getElem? (i := 195) rfl, List.forall_mem_cons.mpr ⟨List.mem_of_getElem? (i := 196) rfl, List.forall_mem_cons.mpr ⟨List.mem_of_getElem? (i := 331) rfl, List.forall_mem_cons.mpr ⟨List.mem_of_getElem? (i := 332) rfl, List.forall_mem_cons.mpr ⟨List.mem_of_getElem? (i := 333) rfl, List.forall_mem_cons.mpr ⟨List.mem_of_getElem? (i := 334) rfl, List.forall_mem_cons.mpr ⟨List.mem_of_getElem? (i := 197) rfl, List.forall_mem_cons.mpr ⟨List.mem_of_getElem? (i := 198) rfl, fun _ h => absurd h List.not_mem_nil⟩⟩⟩⟩⟩⟩⟩⟩⟩⟩⟩⟩⟩⟩⟩⟩⟩⟩⟩⟩⟩⟩⟩⟩
set_option maxRecDepth 20000 in
theorem inwsL_law_r12 : ∀ w ∈ wsL_law_r12, w ∈ lw_tbl := List.forall_mem_cons.mpr ⟨List.mem_of_getElem? (i := 199) rfl, List.forall_mem_cons.mpr ⟨List.mem_of_getElem? (i := 200) rfl, List.forall_mem_cons.mpr ⟨List.mem_of_getElem? (i := 201) rfl, List.forall_mem_cons.mpr ⟨List.mem_of_getElem? (i := 202) rfl, List.forall_mem_cons.mpr ⟨List.mem_of_getElem? (i := 203) rfl, List.forall_mem_cons.mpr ⟨List.mem_of_getElem? (i := 236) rfl, List.forall_mem_cons.mpr ⟨List.mem_of_getElem? (i := 237) rfl, List.forall_mem_cons.mpr ⟨List.mem_of_getElem? (i := 238) rfl, List.forall_mem_cons.mpr ⟨List.mem_of_getElem? (i := 239) rfl, List.forall_mem_cons.mpr ⟨List.mem_of_getElem? (i := 240) rfl, List.forall_mem_cons.mpr ⟨List.mem_of_getElem? (i := 242) rfl, List.forall_mem_cons.mpr ⟨List.mem_of_getElem? (i := 18) rfl, List.forall_mem_cons.mpr ⟨List.mem_of_getElem? (i := 243) rfl, List.forall_mem_cons.mpr ⟨List.mem_of_getElem? (i := 204) rfl, List.forall_mem_cons.mpr ⟨List.mem_of_getElem? (i := 205) rfl, List.forall_mem_cons.mpr ⟨List.mem_of_getElem? (i := 206) rfl, List.forall_mem_cons.mpr ⟨List.mem_of_getElem? (i := 207) rfl, List.forall_mem_cons.mpr ⟨List.mem_of_getElem? (i := 208) rfl, List.forall_mem_cons.mpr ⟨List.mem_of_getElem? (i := 209) rfl, List.forall_mem_cons.mpr ⟨List.mem_of_getElem? (i := 35) rfl, List.forall_mem_cons.mpr ⟨List.mem_of_getElem? (i := 210) rfl, List.forall_mem_cons.mpr ⟨List.mem_of_getElem? (i := 248) rfl, List.forall_mem_cons.mpr ⟨List.mem_of_getElem? (i := 249) rfl, List.forall_mem_cons.mpr ⟨List.mem_of_getElem? (i := 250) rfl, fun _ h => absurd h List.not_mem_nil⟩⟩⟩⟩⟩⟩⟩⟩⟩⟩⟩⟩⟩⟩⟩⟩⟩⟩⟩⟩⟩⟩⟩⟩
set_option maxRecDepth 20000 in
theorem inwsL_law_r13 : ∀ w ∈ wsL_law_r13, w ∈ lw_tbl := List.forall_mem_cons.mpr ⟨List.mem_of_getElem? (i := 251) rfl, fun _ h => absurd h List.not_mem_nil⟩
theorem inwsX00 : ∀ w ∈ wsX00, w ∈ lw_tbl := by decide +kernel
theorem inwsX10 : ∀ w ∈ wsX10, w ∈ lw_tbl := by decide +kernel
theorem wsL_law_in : ∀ w ∈ wsL_law, w ∈ lw_tbl := List.forall_mem_append.mpr ⟨List.forall_mem_append.mpr ⟨List.forall_mem_append.mpr ⟨List.forall_mem_append.mpr ⟨inwsL_law_r1, List.forall_mem_append.mpr ⟨inwsL_law_r2, List.forall_mem_append.mpr ⟨inwsL_law_r3, List.forall_mem_append.mpr ⟨inwsL_law_r4, List.forall_mem_append.mpr ⟨inwsL_law_r5, List.forall_mem_append.mpr ⟨inwsL_law_r6, List.forall_mem_append.mpr ⟨inwsL_law_r7, List.forall_mem_append.mpr ⟨inwsL_law_r8, List.forall_mem_append.mpr ⟨inwsL_law_r9, List.forall_mem_append.mpr ⟨inwsL_law_r10, List.forall_mem_append.mpr ⟨inwsL_law_r11, List.forall_mem_append.mpr ⟨inwsL_law_r12, inwsL_law_r13⟩⟩⟩⟩⟩⟩⟩⟩⟩⟩⟩⟩, inwsX00⟩, inwsX10⟩, fun _ h => absurd h List.not_mem_nil⟩
end
section
theorem inlX0 : ∀ w ∈ wsX00, w ∈ wsL_law := fun _ h => List.mem_append_left _ (List.mem_append_left _ (List.mem_append_right _ h))
theorem inX0 : ∀ w ∈ wsX00, w ∈ lw_tbl := fun w h => wsL_law_in w (inlX0 w h)
theorem inlX1 : ∀ w ∈ wsX10, w ∈ wsL_law := fun _ h => List.mem_append_left _ (List.mem_append_right _ h)
theorem inX1 : ∀ w ∈ wsX10, w ∈ lw_tbl := fun w h => wsL_law_in w (inlX1 w h)
theorem inJ6 : ∀ w ∈ wsJ60, w ∈ lw_tbl := by decide +kernel
theorem inJ9 : ∀ w ∈ wsJ90, w ∈ lw_tbl := by decide +kernel
theorem inJ7 : ∀ w ∈ wsJ70, w ∈ lw_tbl := by decide +kernel
end
section
theorem dX0_init_0 : decode cX0_init 0 = .ok (.aload_n 0, 1) := by decide +kernel
theorem dX0_init_1 : decode cX0_init 1 = .ok (.invokespecial 3, 3) := by decide +kernel
theorem dX0_init_4 : decode cX0_init 4 = .ok (.aload_n 0, 1) := by decide +kernel
theorem dX0_init_5 : decode cX0_init 5 = .ok (.sipush 1024, 3) := by decide +kernel
theorem dX0_init_8 : decode cX0_init 8 = .ok (.newarray .int, 2) := by decide +kernel
theorem dX0_init_10 : decode cX0_init 10 = .ok (.putfield 9, 3) := by decide +kernel
theorem dX0_init_13 : decode cX0_init 13 = .ok (.aload_n 0, 1) := by decide +kernel
theorem dX0_init_14 : decode cX0_init 14 = .ok (.iconst 4, 1) := by decide +kernel
theorem dX0_init_15 : decode cX0_init 15 = .ok (.putfield 13, 3) := by decide +kernel
theorem dX0_init_18 : decode cX0_init 18 = .ok (.aload_n 0, 1) := by decide +kernel
theorem dX0_init_19 : decode cX0_init 19 = .ok (.iconst 0, 1) := by decide +kernel
theorem dX0_init_20 : decode cX0_init 20 = .ok (.putfield 17, 3) := by decide +kernel
theorem dX0_init_23 : decode cX0_init 23 = .ok (.return_, 1) := by decide +kernel
set_option maxRecDepth 20000 in
theorem ggX0_begin_J7_fill_53178 : GoodIn wsX0_begin wsJ7_fill_53178 := goodIn_r _ [7] (by decide +kernel) (by decide +kernel)
set_option maxRecDepth 20000 in
theorem gX0_begin_J7_fill_53178 : GoodIn wsX0_begin (va_wsS RX0 20 yJ7_fill_53178 wsJ7_fill_53178) := goodIn_app (goodIn_of _ (by decide +kernel)) ggX0_begin_J7_fill_53178
set_option maxRecDepth 20000 in
theorem ggX0_begin_X0_units : GoodIn wsX0_begin wsX0_units := goodIn_r _ [12, 1, 13, 14, 15] (by decide +kernel) (by decide +kernel)
set_option maxRecDepth 20000 in
theorem gX0_begin_X0_units : GoodIn wsX0_begin (wsV RX0 26 RX0 yX0_units wsX0_units) := goodIn_app (goodIn_of _ (by decide +kernel)) ggX0_begin_X0_units
theorem dX0_begin_0 : decode cX0_begin 0 = .ok (.iload_n 1, 1) := by decide +kernel
theorem dX0_begin_1 : decode cX0_begin 1 = .ok (.iconst 2, 1) := by decide +kernel
theorem dX0_begin_2 : decode cX0_begin 2 = .ok (.if_icmp .lt 9, 3) := by decide +kernel
theorem dX0_begin_5 : decode cX0_begin 5 = .ok (.iload_n 1, 1) := by decide +kernel
theorem dX0_begin_6 : decode cX0_begin 6 = .ok (.bipush 14, 2) := by decide +kernel
theorem dX0_begin_8 : decode cX0_begin 8 = .ok (.if_icmp .le 5, 3) := by decide +kernel
theorem dX0_begin_11 : decode cX0_begin 11 = .ok (.iconst (-1), 1) := by decide +kernel
theorem dX0_begin_12 : decode cX0_begin 12 = .ok (.ireturn, 1) := by decide +kernel
theorem dX0_begin_13 : decode cX0_begin 13 = .ok (.aload_n 0, 1) := by decide +kernel
theorem dX0_begin_14 : decode cX0_begin 14 = .ok (.iload_n 1, 1) := by decide +kernel
theorem dX0_begin_15 : decode cX0_begin 15 = .ok (.putfield 13, 3) := by decide +kernel
theorem dX0_begin_18 : decode cX0_begin 18 = .ok (.aload_n 0, 1) := by decide +kernel
theorem dX0_begin_19 : decode cX0_begin 19 = .ok (.iconst 0, 1) := by decide +kernel
theorem dX0_begin_20 : decode cX0_begin 20 = .ok (.putfield 17, 3) := by decide +kernel
theorem dX0_begin_23 : decode cX0_begin 23 = .ok (.aload_n 0, 1) := by decide +kernel
theorem dX0_begin_24 : decode cX0_begin 24 = .ok (.getfield 9, 3) := by decide +kernel
theorem dX0_begin_27 : decode cX0_begin 27 = .ok (.iconst 0, 1) := by decide +kernel
theorem dX0_begin_28 : decode cX0_begin 28 = .ok (.invokestatic 20, 3) := by decide +kernel
theorem dX0_begin_31 : decode cX0_begin 31 = .ok (.aload_n 0, 1) := by decide +kernel
theorem dX0_begin_32 : decode cX0_begin 32 = .ok (.invokevirtual 26, 3) := by decide +kernel
theorem dX0_begin_35 : decode cX0_begin 35 = .ok (.ireturn, 1) := by decide +kernel
set_option maxRecDepth 20000 in
theorem ggX0_put_X0_isThere : GoodIn wsX0_put wsX0_isThere := goodIn_r _ [6, 7, 8, 9, 5, 10, 1, 11, 12, 13, 14, 15, 46, 47, 48] (by decide +kernel) (by decide +kernel)
set_option maxRecDepth 20000 in
theorem gX0_put_X0_isThere : GoodIn wsX0_put (wsV RX0 30 RX0 yX0_isThere wsX0_isThere) := goodIn_app (goodIn_of _ (by decide +kernel)) ggX0_put_X0_isThere
set_option maxRecDepth 20000 in
theorem ggX0_put_X0_isSpan : GoodIn wsX0_put wsX0_isSpan := goodIn_r _ [18] (by decide +kernel) (by decide +kernel)
set_option maxRecDepth 20000 in
theorem gX0_put_X0_isSpan : GoodIn wsX0_put (va_wsS RX0 34 yX0_isSpan wsX0_isSpan) := goodIn_app (goodIn_of _ (by decide +kernel)) ggX0_put_X0_isSpan
set_option maxRecDepth 20000 in
theorem ggX0_put_X0_byteAt : GoodIn wsX0_put wsX0_byteAt := goodIn_r _ [22, 23, 46, 47, 48] (by decide +kernel) (by decide +kernel)
set_option maxRecDepth 20000 in
theorem gX0_put_X0_byteAt : GoodIn wsX0_put (wsV RX0 38 RX0 yX0_byteAt wsX0_byteAt) := goodIn_app (goodIn_of _ (by decide +kernel)) ggX0_put_X0_byteAt
set_option maxRecDepth 20000 in
theorem ggX0_put_X0_changeWithParities : GoodIn wsX0_put wsX0_changeWithParities := goodIn_r _ [27, 28, 29, 30, 5, 31, 23, 32, 33, 34, 35, 1, 11, 12, 13, 14, 15, 36, 37, 38, 39, 40, 41, 42, 43, 44, 45, 46, 47, 48] (by decide +kernel) (by decide +kernel)
set_option maxRecDepth 20000 in
theorem gX0_put_X0_changeWithParities : GoodIn wsX0_put (wsV RX0 42 RX0 yX0_changeWithParities wsX0_changeWithParities) := goodIn_app (goodIn_of _ (by decide +kernel)) ggX0_put_X0_changeWithParities
theorem dX0_put_0 : decode cX0_put 0 = .ok (.iload_n 1, 1) := by decide +kernel
theorem dX0_put_1 : decode cX0_put 1 = .ok (.aload_n 0, 1) := by decide +kernel
theorem dX0_put_2 : decode cX0_put 2 = .ok (.getfield 13, 3) := by decide +kernel
theorem dX0_put_5 : decode cX0_put 5 = .ok (.if_icmp .ge 21, 3) := by decide +kernel
theorem dX0_put_8 : decode cX0_put 8 = .ok (.aload_n 0, 1) := by decide +kernel
theorem dX0_put_9 : decode cX0_put 9 = .ok (.iload_n 1, 1) := by decide +kernel
theorem dX0_put_10 : decode cX0_put 10 = .ok (.invokevirtual 30, 3) := by decide +kernel
theorem dX0_put_13 : decode cX0_put 13 = .ok (.ifCond .eq 13, 3) := by decide +kernel
theorem dX0_put_16 : decode cX0_put 16 = .ok (.iload_n 2, 1) := by decide +kernel
theorem dX0_put_17 : decode cX0_put 17 = .ok (.iload_n 3, 1) := by decide +kernel
theorem dX0_put_18 : decode cX0_put 18 = .ok (.bipush 8, 2) := by decide +kernel
theorem dX0_put_20 : decode cX0_put 20 = .ok (.invokestatic 34, 3) := by decide +kernel
theorem dX0_put_23 : decode cX0_put 23 = .ok (.ifCond .ne 5, 3) := by decide +kernel
theorem dX0_put_26 : decode cX0_put 26 = .ok (.iconst (-1), 1) := by decide +kernel
theorem dX0_put_27 : decode cX0_put 27 = .ok (.ireturn, 1) := by decide +kernel
theorem dX0_put_28 : decode cX0_put 28 = .ok (.iconst 0, 1) := by decide +kernel
theorem dX0_put_29 : decode cX0_put 29 = .ok (.istore 6, 2) := by decide +kernel
theorem dX0_put_31 : decode cX0_put 31 = .ok (.iload 6, 2) := by decide +kernel
theorem dX0_put_33 : decode cX0_put 33 = .ok (.iload_n 3, 1) := by decide +kernel
theorem dX0_put_34 : decode cX0_put 34 = .ok (.if_icmp .ge 45, 3) := by decide +kernel
theorem dX0_put_37 : decode cX0_put 37 = .ok (.lload 4, 2) := by decide +kernel
theorem dX0_put_39 : decode cX0_put 39 = .ok (.bipush 8, 2) := by decide +kernel
theorem dX0_put_41 : decode cX0_put 41 = .ok (.iload 6, 2) := by decide +kernel
theorem dX0_put_43 : decode cX0_put 43 = .ok (.imul, 1) := by decide +kernel
theorem dX0_put_44 : decode cX0_put 44 = .ok (.lushr, 1) := by decide +kernel
theorem dX0_put_45 : decode cX0_put 45 = .ok (.l2i, 1) := by decide +kernel
theorem dX0_put_46 : decode cX0_put 46 = .ok (.sipush 255, 3) := by decide +kernel
theorem dX0_put_49 : decode cX0_put 49 = .ok (.iand, 1) := by decide +kernel
theorem dX0_put_50 : decode cX0_put 50 = .ok (.istore 7, 2) := by decide +kernel
theorem dX0_put_52 : decode cX0_put 52 = .ok (.aload_n 0, 1) := by decide +kernel
theorem dX0_put_53 : decode cX0_put 53 = .ok (.iload_n 1, 1) := by decide +kernel
theorem dX0_put_54 : decode cX0_put 54 = .ok (.iload_n 2, 1) := by decide +kernel
theorem dX0_put_55 : decode cX0_put 55 = .ok (.iload 6, 2) := by decide +kernel
theorem dX0_put_57 : decode cX0_put 57 = .ok (.iadd, 1) := by decide +kernel
theorem dX0_put_58 : decode cX0_put 58 = .ok (.aload_n 0, 1) := by decide +kernel
theorem dX0_put_59 : decode cX0_put 59 = .ok (.iload_n 1, 1) := by decide +kernel
theorem dX0_put_60 : decode cX0_put 60 = .ok (.iload_n 2, 1) := by decide +kernel
theorem dX0_put_61 : decode cX0_put 61 = .ok (.iload 6, 2) := by decide +kernel
theorem dX0_put_63 : decode cX0_put 63 = .ok (.iadd, 1) := by decide +kernel
theorem dX0_put_64 : decode cX0_put 64 = .ok (.invokevirtual 38, 3) := by decide +kernel
theorem dX0_put_67 : decode cX0_put 67 = .ok (.iload 7, 2) := by decide +kernel
theorem dX0_put_69 : decode cX0_put 69 = .ok (.ixor, 1) := by decide +kernel
theorem dX0_put_70 : decode cX0_put 70 = .ok (.invokevirtual 42, 3) := by decide +kernel
theorem dX0_put_73 : decode cX0_put 73 = .ok (.iinc 6 1, 3) := by decide +kernel
theorem dX0_put_76 : decode cX0_put 76 = .ok (.goto (-45), 3) := by decide +kernel
theorem dX0_put_79 : decode cX0_put 79 = .ok (.iload_n 3, 1) := by decide +kernel
theorem dX0_put_80 : decode cX0_put 80 = .ok (.ireturn, 1) := by decide +kernel
set_option maxRecDepth 20000 in
theorem ggX0_spoil_X0_isThere : GoodIn wsX0_spoil wsX0_isThere := goodIn_r _ [6, 7, 8, 9, 5, 10, 11, 12, 13, 14, 15, 16, 29, 30, 31] (by decide +kernel) (by decide +kernel)
set_option maxRecDepth 20000 in
theorem gX0_spoil_X0_isThere : GoodIn wsX0_spoil (wsV RX0 30 RX0 yX0_isThere wsX0_isThere) := goodIn_app (goodIn_of _ (by decide +kernel)) ggX0_spoil_X0_isThere
set_option maxRecDepth 20000 in
theorem ggX0_spoil_X0_isSpan : GoodIn wsX0_spoil wsX0_isSpan := goodIn_r _ [19] (by decide +kernel) (by decide +kernel)
set_option maxRecDepth 20000 in
theorem gX0_spoil_X0_isSpan : GoodIn wsX0_spoil (va_wsS RX0 34 yX0_isSpan wsX0_isSpan) := goodIn_app (goodIn_of _ (by decide +kernel)) ggX0_spoil_X0_isSpan
set_option maxRecDepth 20000 in
theorem ggX0_spoil_X0_byteAt : GoodIn wsX0_spoil wsX0_byteAt := goodIn_r _ [23, 24, 29, 30, 31] (by decide +kernel) (by decide +kernel)
set_option maxRecDepth 20000 in
theorem gX0_spoil_X0_byteAt : GoodIn wsX0_spoil (wsV RX0 38 RX0 yX0_byteAt wsX0_byteAt) := goodIn_app (goodIn_of _ (by decide +kernel)) ggX0_spoil_X0_byteAt
set_option maxRecDepth 20000 in
theorem ggX0_spoil_X0_change : GoodIn wsX0_spoil wsX0_change := goodIn_r _ [28, 24, 29, 30, 31] (by decide +kernel) (by decide +kernel)
set_option maxRecDepth 20000 in
theorem gX0_spoil_X0_change : GoodIn wsX0_spoil (wsV RX0 47 RX0 yX0_change wsX0_change) := goodIn_app (goodIn_of _ (by decide +kernel)) ggX0_spoil_X0_change
theorem dX0_spoil_0 : decode cX0_spoil 0 = .ok (.aload_n 0, 1) := by decide +kernel
theorem dX0_spoil_1 : decode cX0_spoil 1 = .ok (.iload_n 1, 1) := by decide +kernel
theorem dX0_spoil_2 : decode cX0_spoil 2 = .ok (.invokevirtual 30, 3) := by decide +kernel
theorem dX0_spoil_5 : decode cX0_spoil 5 = .ok (.ifCond .eq 13, 3) := by decide +kernel
theorem dX0_spoil_8 : decode cX0_spoil 8 = .ok (.iload_n 2, 1) := by decide +kernel
theorem dX0_spoil_9 : decode cX0_spoil 9 = .ok (.iload_n 3, 1) := by decide +kernel
theorem dX0_spoil_10 : decode cX0_spoil 10 = .ok (.bipush 64, 2) := by decide +kernel
theorem dX0_spoil_12 : decode cX0_spoil 12 = .ok (.invokestatic 34, 3) := by decide +kernel
theorem dX0_spoil_15 : decode cX0_spoil 15 = .ok (.ifCond .ne 5, 3) := by decide +kernel
theorem dX0_spoil_18 : decode cX0_spoil 18 = .ok (.iconst (-1), 1) := by decide +kernel
theorem dX0_spoil_19 : decode cX0_spoil 19 = .ok (.ireturn, 1) := by decide +kernel
theorem dX0_spoil_20 : decode cX0_spoil 20 = .ok (.iload 4, 2) := by decide +kernel
theorem dX0_spoil_22 : decode cX0_spoil 22 = .ok (.istore 5, 2) := by decide +kernel
theorem dX0_spoil_24 : decode cX0_spoil 24 = .ok (.iconst 0, 1) := by decide +kernel
theorem dX0_spoil_25 : decode cX0_spoil 25 = .ok (.istore 6, 2) := by decide +kernel
theorem dX0_spoil_27 : decode cX0_spoil 27 = .ok (.iload 6, 2) := by decide +kernel
theorem dX0_spoil_29 : decode cX0_spoil 29 = .ok (.iload_n 3, 1) := by decide +kernel
theorem dX0_spoil_30 : decode cX0_spoil 30 = .ok (.if_icmp .ge 52, 3) := by decide +kernel
theorem dX0_spoil_33 : decode cX0_spoil 33 = .ok (.ldc 46, 2) := by decide +kernel
theorem dX0_spoil_35 : decode cX0_spoil 35 = .ok (.iload 5, 2) := by decide +kernel
theorem dX0_spoil_37 : decode cX0_spoil 37 = .ok (.imul, 1) := by decide +kernel
theorem dX0_spoil_38 : decode cX0_spoil 38 = .ok (.sipush 12345, 3) := by decide +kernel
theorem dX0_spoil_41 : decode cX0_spoil 41 = .ok (.iadd, 1) := by decide +kernel
theorem dX0_spoil_42 : decode cX0_spoil 42 = .ok (.istore 5, 2) := by decide +kernel
theorem dX0_spoil_44 : decode cX0_spoil 44 = .ok (.iload 5, 2) := by decide +kernel
theorem dX0_spoil_46 : decode cX0_spoil 46 = .ok (.bipush 16, 2) := by decide +kernel
theorem dX0_spoil_48 : decode cX0_spoil 48 = .ok (.iushr, 1) := by decide +kernel
theorem dX0_spoil_49 : decode cX0_spoil 49 = .ok (.sipush 255, 3) := by decide +kernel
theorem dX0_spoil_52 : decode cX0_spoil 52 = .ok (.iand, 1) := by decide +kernel
theorem dX0_spoil_53 : decode cX0_spoil 53 = .ok (.istore 7, 2) := by decide +kernel
theorem dX0_spoil_55 : decode cX0_spoil 55 = .ok (.aload_n 0, 1) := by decide +kernel
theorem dX0_spoil_56 : decode cX0_spoil 56 = .ok (.iload_n 1, 1) := by decide +kernel
theorem dX0_spoil_57 : decode cX0_spoil 57 = .ok (.iload_n 2, 1) := by decide +kernel
theorem dX0_spoil_58 : decode cX0_spoil 58 = .ok (.iload 6, 2) := by decide +kernel
theorem dX0_spoil_60 : decode cX0_spoil 60 = .ok (.iadd, 1) := by decide +kernel
theorem dX0_spoil_61 : decode cX0_spoil 61 = .ok (.aload_n 0, 1) := by decide +kernel
theorem dX0_spoil_62 : decode cX0_spoil 62 = .ok (.iload_n 1, 1) := by decide +kernel
theorem dX0_spoil_63 : decode cX0_spoil 63 = .ok (.iload_n 2, 1) := by decide +kernel
theorem dX0_spoil_64 : decode cX0_spoil 64 = .ok (.iload 6, 2) := by decide +kernel
theorem dX0_spoil_66 : decode cX0_spoil 66 = .ok (.iadd, 1) := by decide +kernel
theorem dX0_spoil_67 : decode cX0_spoil 67 = .ok (.invokevirtual 38, 3) := by decide +kernel
theorem dX0_spoil_70 : decode cX0_spoil 70 = .ok (.iload 7, 2) := by decide +kernel
theorem dX0_spoil_72 : decode cX0_spoil 72 = .ok (.ixor, 1) := by decide +kernel
theorem dX0_spoil_73 : decode cX0_spoil 73 = .ok (.invokevirtual 47, 3) := by decide +kernel
theorem dX0_spoil_76 : decode cX0_spoil 76 = .ok (.iinc 6 1, 3) := by decide +kernel
theorem dX0_spoil_79 : decode cX0_spoil 79 = .ok (.goto (-52), 3) := by decide +kernel
theorem dX0_spoil_82 : decode cX0_spoil 82 = .ok (.iload_n 3, 1) := by decide +kernel
theorem dX0_spoil_83 : decode cX0_spoil 83 = .ok (.ireturn, 1) := by decide +kernel
set_option maxRecDepth 20000 in
theorem ggX0_make_X0_unitP : GoodIn wsX0_make wsX0_unitP := goodIn_r _ [6, 7, 49, 50, 51] (by decide +kernel) (by decide +kernel)
set_option maxRecDepth 20000 in
theorem gX0_make_X0_unitP : GoodIn wsX0_make (wsV RX0 50 RX0 yX0_unitP wsX0_unitP) := goodIn_app (goodIn_of _ (by decide +kernel)) ggX0_make_X0_unitP
set_option maxRecDepth 20000 in
theorem ggX0_make_X0_restoreByP : GoodIn wsX0_make wsX0_restoreByP := goodIn_r _ [11, 12, 13, 14, 5, 15, 7, 2, 3, 4, 6, 16, 17, 18, 19, 20, 21, 22, 23, 24, 49, 50, 51] (by decide +kernel) (by decide +kernel)
set_option maxRecDepth 20000 in
theorem gX0_make_X0_restoreByP : GoodIn wsX0_make (wsV RX0 53 RX0 yX0_restoreByP wsX0_restoreByP) := goodIn_app (goodIn_of _ (by decide +kernel)) ggX0_make_X0_restoreByP
set_option maxRecDepth 20000 in
theorem ggX0_make_X0_unitQ : GoodIn wsX0_make wsX0_unitQ := goodIn_r _ [28, 7, 49, 50, 51] (by decide +kernel) (by decide +kernel)
set_option maxRecDepth 20000 in
theorem gX0_make_X0_unitQ : GoodIn wsX0_make (wsV RX0 57 RX0 yX0_unitQ wsX0_unitQ) := goodIn_app (goodIn_of _ (by decide +kernel)) ggX0_make_X0_unitQ
set_option maxRecDepth 20000 in
theorem ggX0_make_X0_restoreByQ : GoodIn wsX0_make wsX0_restoreByQ := goodIn_r _ [32, 25, 26, 27, 5, 28, 7, 33, 34, 35, 36, 37, 38, 39, 40, 41, 42, 43, 44, 45, 46, 47, 48, 16, 17, 18, 19, 20, 21, 22, 23, 24, 49, 50, 51] (by decide +kernel) (by decide +kernel)
set_option maxRecDepth 20000 in
theorem gX0_make_X0_restoreByQ : GoodIn wsX0_make (wsV RX0 60 RX0 yX0_restoreByQ wsX0_restoreByQ) := goodIn_app (goodIn_of _ (by decide +kernel)) ggX0_make_X0_restoreByQ
theorem dX0_make_0 : decode cX0_make 0 = .ok (.aload_n 0, 1) := by decide +kernel
theorem dX0_make_1 : decode cX0_make 1 = .ok (.getfield 17, 3) := by decide +kernel
theorem dX0_make_4 : decode cX0_make 4 = .ok (.ifCond .eq 5, 3) := by decide +kernel
theorem dX0_make_7 : decode cX0_make 7 = .ok (.iconst (-1), 1) := by decide +kernel
theorem dX0_make_8 : decode cX0_make 8 = .ok (.ireturn, 1) := by decide +kernel
theorem dX0_make_9 : decode cX0_make 9 = .ok (.aload_n 0, 1) := by decide +kernel
theorem dX0_make_10 : decode cX0_make 10 = .ok (.aload_n 0, 1) := by decide +kernel
theorem dX0_make_11 : decode cX0_make 11 = .ok (.invokevirtual 50, 3) := by decide +kernel
theorem dX0_make_14 : decode cX0_make 14 = .ok (.invokevirtual 53, 3) := by decide +kernel
theorem dX0_make_17 : decode cX0_make 17 = .ok (.aload_n 0, 1) := by decide +kernel
theorem dX0_make_18 : decode cX0_make 18 = .ok (.aload_n 0, 1) := by decide +kernel
theorem dX0_make_19 : decode cX0_make 19 = .ok (.invokevirtual 57, 3) := by decide +kernel
theorem dX0_make_22 : decode cX0_make 22 = .ok (.invokevirtual 60, 3) := by decide +kernel
theorem dX0_make_25 : decode cX0_make 25 = .ok (.iconst 0, 1) := by decide +kernel
theorem dX0_make_26 : decode cX0_make 26 = .ok (.ireturn, 1) := by decide +kernel
set_option maxRecDepth 20000 in
theorem ggX0_get_X0_isThere : GoodIn wsX0_get wsX0_isThere := goodIn_r _ [5, 6, 7, 8, 4, 9, 10, 11, 12, 13, 14, 15, 24, 25, 26] (by decide +kernel) (by decide +kernel)
set_option maxRecDepth 20000 in
theorem gX0_get_X0_isThere : GoodIn wsX0_get (wsV RX0 30 RX0 yX0_isThere wsX0_isThere) := goodIn_app (goodIn_of _ (by decide +kernel)) ggX0_get_X0_isThere
set_option maxRecDepth 20000 in
theorem ggX0_get_X0_isSpan : GoodIn wsX0_get wsX0_isSpan := goodIn_r _ [18] (by decide +kernel) (by decide +kernel)
set_option maxRecDepth 20000 in
theorem gX0_get_X0_isSpan : GoodIn wsX0_get (va_wsS RX0 34 yX0_isSpan wsX0_isSpan) := goodIn_app (goodIn_of _ (by decide +kernel)) ggX0_get_X0_isSpan
set_option maxRecDepth 20000 in
theorem ggX0_get_X0_byteAt : GoodIn wsX0_get wsX0_byteAt := goodIn_r _ [22, 23, 24, 25, 26] (by decide +kernel) (by decide +kernel)
set_option maxRecDepth 20000 in
theorem gX0_get_X0_byteAt : GoodIn wsX0_get (wsV RX0 38 RX0 yX0_byteAt wsX0_byteAt) := goodIn_app (goodIn_of _ (by decide +kernel)) ggX0_get_X0_byteAt
theorem dX0_get_0 : decode cX0_get 0 = .ok (.aload_n 0, 1) := by decide +kernel
theorem dX0_get_1 : decode cX0_get 1 = .ok (.iload_n 1, 1) := by decide +kernel
theorem dX0_get_2 : decode cX0_get 2 = .ok (.invokevirtual 30, 3) := by decide +kernel
theorem dX0_get_5 : decode cX0_get 5 = .ok (.ifCond .eq 12, 3) := by decide +kernel
theorem dX0_get_8 : decode cX0_get 8 = .ok (.iload_n 2, 1) := by decide +kernel
theorem dX0_get_9 : decode cX0_get 9 = .ok (.iconst 1, 1) := by decide +kernel
theorem dX0_get_10 : decode cX0_get 10 = .ok (.iconst 1, 1) := by decide +kernel
theorem dX0_get_11 : decode cX0_get 11 = .ok (.invokestatic 34, 3) := by decide +kernel
theorem dX0_get_14 : decode cX0_get 14 = .ok (.ifCond .ne 5, 3) := by decide +kernel
theorem dX0_get_17 : decode cX0_get 17 = .ok (.iconst (-1), 1) := by decide +kernel
theorem dX0_get_18 : decode cX0_get 18 = .ok (.ireturn, 1) := by decide +kernel
theorem dX0_get_19 : decode cX0_get 19 = .ok (.aload_n 0, 1) := by decide +kernel
theorem dX0_get_20 : decode cX0_get 20 = .ok (.iload_n 1, 1) := by decide +kernel
theorem dX0_get_21 : decode cX0_get 21 = .ok (.iload_n 2, 1) := by decide +kernel
theorem dX0_get_22 : decode cX0_get 22 = .ok (.invokevirtual 38, 3) := by decide +kernel
theorem dX0_get_25 : decode cX0_get 25 = .ok (.ireturn, 1) := by decide +kernel
set_option maxRecDepth 20000 in
theorem ggX0_word_X0_isThere : GoodIn wsX0_word wsX0_isThere := goodIn_r _ [5, 6, 7, 8, 4, 9, 10, 11, 12, 13, 14, 15, 21, 22, 23] (by decide +kernel) (by decide +kernel)
set_option maxRecDepth 20000 in
theorem gX0_word_X0_isThere : GoodIn wsX0_word (wsV RX0 30 RX0 yX0_isThere wsX0_isThere) := goodIn_app (goodIn_of _ (by decide +kernel)) ggX0_word_X0_isThere
set_option maxRecDepth 20000 in
theorem ggX0_word_X0_byteAt : GoodIn wsX0_word wsX0_byteAt := goodIn_r _ [19, 20, 21, 22, 23] (by decide +kernel) (by decide +kernel)
set_option maxRecDepth 20000 in
theorem gX0_word_X0_byteAt : GoodIn wsX0_word (wsV RX0 38 RX0 yX0_byteAt wsX0_byteAt) := goodIn_app (goodIn_of _ (by decide +kernel)) ggX0_word_X0_byteAt
theorem dX0_word_0 : decode cX0_word 0 = .ok (.aload_n 0, 1) := by decide +kernel
theorem dX0_word_1 : decode cX0_word 1 = .ok (.iload_n 1, 1) := by decide +kernel
theorem dX0_word_2 : decode cX0_word 2 = .ok (.invokevirtual 30, 3) := by decide +kernel
theorem dX0_word_5 : decode cX0_word 5 = .ok (.ifCond .eq 13, 3) := by decide +kernel
theorem dX0_word_8 : decode cX0_word 8 = .ok (.iload_n 2, 1) := by decide +kernel
theorem dX0_word_9 : decode cX0_word 9 = .ok (.ifCond .lt 9, 3) := by decide +kernel
theorem dX0_word_12 : decode cX0_word 12 = .ok (.iload_n 2, 1) := by decide +kernel
theorem dX0_word_13 : decode cX0_word 13 = .ok (.bipush 8, 2) := by decide +kernel
theorem dX0_word_15 : decode cX0_word 15 = .ok (.if_icmp .lt 5, 3) := by decide +kernel
theorem dX0_word_18 : decode cX0_word 18 = .ok (.lconst 0, 1) := by decide +kernel
theorem dX0_word_19 : decode cX0_word 19 = .ok (.lreturn, 1) := by decide +kernel
theorem dX0_word_20 : decode cX0_word 20 = .ok (.lconst 0, 1) := by decide +kernel
theorem dX0_word_21 : decode cX0_word 21 = .ok (.lstore_n 3, 1) := by decide +kernel
theorem dX0_word_22 : decode cX0_word 22 = .ok (.bipush 7, 2) := by decide +kernel
theorem dX0_word_24 : decode cX0_word 24 = .ok (.istore 5, 2) := by decide +kernel
theorem dX0_word_26 : decode cX0_word 26 = .ok (.iload 5, 2) := by decide +kernel
theorem dX0_word_28 : decode cX0_word 28 = .ok (.ifCond .lt 28, 3) := by decide +kernel
theorem dX0_word_31 : decode cX0_word 31 = .ok (.lload_n 3, 1) := by decide +kernel
theorem dX0_word_32 : decode cX0_word 32 = .ok (.bipush 8, 2) := by decide +kernel
theorem dX0_word_34 : decode cX0_word 34 = .ok (.lshl, 1) := by decide +kernel
theorem dX0_word_35 : decode cX0_word 35 = .ok (.aload_n 0, 1) := by decide +kernel
theorem dX0_word_36 : decode cX0_word 36 = .ok (.iload_n 1, 1) := by decide +kernel
theorem dX0_word_37 : decode cX0_word 37 = .ok (.bipush 8, 2) := by decide +kernel
theorem dX0_word_39 : decode cX0_word 39 = .ok (.iload_n 2, 1) := by decide +kernel
theorem dX0_word_40 : decode cX0_word 40 = .ok (.imul, 1) := by decide +kernel
theorem dX0_word_41 : decode cX0_word 41 = .ok (.iload 5, 2) := by decide +kernel
theorem dX0_word_43 : decode cX0_word 43 = .ok (.iadd, 1) := by decide +kernel
theorem dX0_word_44 : decode cX0_word 44 = .ok (.invokevirtual 38, 3) := by decide +kernel
theorem dX0_word_47 : decode cX0_word 47 = .ok (.i2l, 1) := by decide +kernel
theorem dX0_word_48 : decode cX0_word 48 = .ok (.lor, 1) := by decide +kernel
theorem dX0_word_49 : decode cX0_word 49 = .ok (.lstore_n 3, 1) := by decide +kernel
theorem dX0_word_50 : decode cX0_word 50 = .ok (.iinc 5 (-1), 3) := by decide +kernel
theorem dX0_word_53 : decode cX0_word 53 = .ok (.goto (-27), 3) := by decide +kernel
theorem dX0_word_56 : decode cX0_word 56 = .ok (.lload_n 3, 1) := by decide +kernel
theorem dX0_word_57 : decode cX0_word 57 = .ok (.lreturn, 1) := by decide +kernel
set_option maxRecDepth 20000 in
theorem ggX0_lose_X0_isThere : GoodIn wsX0_lose wsX0_isThere := goodIn_r _ [6, 7, 8, 9, 5, 10, 11, 12, 13, 14, 15, 1, 27, 28, 29] (by decide +kernel) (by decide +kernel)
set_option maxRecDepth 20000 in
theorem gX0_lose_X0_isThere : GoodIn wsX0_lose (wsV RX0 30 RX0 yX0_isThere wsX0_isThere) := goodIn_app (goodIn_of _ (by decide +kernel)) ggX0_lose_X0_isThere
set_option maxRecDepth 20000 in
theorem ggX0_lose_X0_lostCount : GoodIn wsX0_lose wsX0_lostCount := goodIn_r _ [19, 1, 20, 21, 22, 23, 24, 25, 26, 27, 28, 29] (by decide +kernel) (by decide +kernel)
set_option maxRecDepth 20000 in
theorem gX0_lose_X0_lostCount : GoodIn wsX0_lose (wsV RX0 63 RX0 yX0_lostCount wsX0_lostCount) := goodIn_app (goodIn_of _ (by decide +kernel)) ggX0_lose_X0_lostCount
theorem dX0_lose_0 : decode cX0_lose 0 = .ok (.aload_n 0, 1) := by decide +kernel
theorem dX0_lose_1 : decode cX0_lose 1 = .ok (.iload_n 1, 1) := by decide +kernel
theorem dX0_lose_2 : decode cX0_lose 2 = .ok (.invokevirtual 30, 3) := by decide +kernel
theorem dX0_lose_5 : decode cX0_lose 5 = .ok (.ifCond .ne 5, 3) := by decide +kernel
theorem dX0_lose_8 : decode cX0_lose 8 = .ok (.iconst (-1), 1) := by decide +kernel
theorem dX0_lose_9 : decode cX0_lose 9 = .ok (.ireturn, 1) := by decide +kernel
theorem dX0_lose_10 : decode cX0_lose 10 = .ok (.aload_n 0, 1) := by decide +kernel
theorem dX0_lose_11 : decode cX0_lose 11 = .ok (.invokevirtual 63, 3) := by decide +kernel
theorem dX0_lose_14 : decode cX0_lose 14 = .ok (.iconst 2, 1) := by decide +kernel
theorem dX0_lose_15 : decode cX0_lose 15 = .ok (.if_icmp .ne 6, 3) := by decide +kernel
theorem dX0_lose_18 : decode cX0_lose 18 = .ok (.bipush (-3), 2) := by decide +kernel
theorem dX0_lose_20 : decode cX0_lose 20 = .ok (.ireturn, 1) := by decide +kernel
theorem dX0_lose_21 : decode cX0_lose 21 = .ok (.aload_n 0, 1) := by decide +kernel
theorem dX0_lose_22 : decode cX0_lose 22 = .ok (.dup, 1) := by decide +kernel
theorem dX0_lose_23 : decode cX0_lose 23 = .ok (.getfield 17, 3) := by decide +kernel
theorem dX0_lose_26 : decode cX0_lose 26 = .ok (.iconst 1, 1) := by decide +kernel
theorem dX0_lose_27 : decode cX0_lose 27 = .ok (.iload_n 1, 1) := by decide +kernel
theorem dX0_lose_28 : decode cX0_lose 28 = .ok (.ishl, 1) := by decide +kernel
theorem dX0_lose_29 : decode cX0_lose 29 = .ok (.ior, 1) := by decide +kernel
theorem dX0_lose_30 : decode cX0_lose 30 = .ok (.putfield 17, 3) := by decide +kernel
theorem dX0_lose_33 : decode cX0_lose 33 = .ok (.aload_n 0, 1) := by decide +kernel
theorem dX0_lose_34 : decode cX0_lose 34 = .ok (.invokevirtual 63, 3) := by decide +kernel
theorem dX0_lose_37 : decode cX0_lose 37 = .ok (.ireturn, 1) := by decide +kernel
set_option maxRecDepth 20000 in
theorem ggX0_mend_X0_lostFrom : GoodIn wsX0_mend wsX0_lostFrom := goodIn_r _ [6, 7, 8, 9, 5, 10, 11, 12, 13, 14, 15, 1, 73, 74, 75] (by decide +kernel) (by decide +kernel)
set_option maxRecDepth 20000 in
theorem gX0_mend_X0_lostFrom : GoodIn wsX0_mend (wsV RX0 66 RX0 yX0_lostFrom wsX0_lostFrom) := goodIn_app (goodIn_of _ (by decide +kernel)) ggX0_mend_X0_lostFrom
set_option maxRecDepth 20000 in
theorem ggX0_mend_X0_restoreOne : GoodIn wsX0_mend wsX0_restoreOne := goodIn_r _ [19, 20, 21, 22, 5, 23, 11, 24, 25, 26, 27, 28, 29, 30, 31, 32, 33, 34, 35, 36, 37, 38, 39, 40, 41, 42, 43, 44, 45, 46, 47, 48, 49, 50, 51, 52, 53, 54, 55, 56, 57, 58, 59, 60, 61, 62, 63, 64, 73, 74, 75] (by decide +kernel) (by decide +kernel)
set_option maxRecDepth 20000 in
theorem gX0_mend_X0_restoreOne : GoodIn wsX0_mend (wsV RX0 70 RX0 yX0_restoreOne wsX0_restoreOne) := goodIn_app (goodIn_of _ (by decide +kernel)) ggX0_mend_X0_restoreOne
set_option maxRecDepth 20000 in
theorem ggX0_mend_X0_restoreTwo : GoodIn wsX0_mend wsX0_restoreTwo := goodIn_r _ [68, 20, 21, 22, 5, 23, 11, 53, 54, 55, 56, 57, 58, 59, 60, 61, 62, 63, 64, 44, 45, 46, 47, 48, 49, 50, 51, 52, 24, 25, 26, 27, 28, 29, 30, 31, 32, 33, 34, 35, 36, 37, 38, 39, 40, 41, 42, 43, 69, 70, 71, 72, 73, 74, 75] (by decide +kernel) (by decide +kernel)
set_option maxRecDepth 20000 in
theorem gX0_mend_X0_restoreTwo : GoodIn wsX0_mend (wsV RX0 73 RX0 yX0_restoreTwo wsX0_restoreTwo) := goodIn_app (goodIn_of _ (by decide +kernel)) ggX0_mend_X0_restoreTwo
theorem dX0_mend_0 : decode cX0_mend 0 = .ok (.aload_n 0, 1) := by decide +kernel
theorem dX0_mend_1 : decode cX0_mend 1 = .ok (.iconst 0, 1) := by decide +kernel
theorem dX0_mend_2 : decode cX0_mend 2 = .ok (.invokevirtual 66, 3) := by decide +kernel
theorem dX0_mend_5 : decode cX0_mend 5 = .ok (.istore_n 1, 1) := by decide +kernel
theorem dX0_mend_6 : decode cX0_mend 6 = .ok (.iload_n 1, 1) := by decide +kernel
theorem dX0_mend_7 : decode cX0_mend 7 = .ok (.iconst (-1), 1) := by decide +kernel
theorem dX0_mend_8 : decode cX0_mend 8 = .ok (.if_icmp .ne 5, 3) := by decide +kernel
theorem dX0_mend_11 : decode cX0_mend 11 = .ok (.iconst 0, 1) := by decide +kernel
theorem dX0_mend_12 : decode cX0_mend 12 = .ok (.ireturn, 1) := by decide +kernel
theorem dX0_mend_13 : decode cX0_mend 13 = .ok (.aload_n 0, 1) := by decide +kernel
theorem dX0_mend_14 : decode cX0_mend 14 = .ok (.iload_n 1, 1) := by decide +kernel
theorem dX0_mend_15 : decode cX0_mend 15 = .ok (.iconst 1, 1) := by decide +kernel
theorem dX0_mend_16 : decode cX0_mend 16 = .ok (.iadd, 1) := by decide +kernel
theorem dX0_mend_17 : decode cX0_mend 17 = .ok (.invokevirtual 66, 3) := by decide +kernel
theorem dX0_mend_20 : decode cX0_mend 20 = .ok (.istore_n 2, 1) := by decide +kernel
theorem dX0_mend_21 : decode cX0_mend 21 = .ok (.aload_n 0, 1) := by decide +kernel
theorem dX0_mend_22 : decode cX0_mend 22 = .ok (.iconst 0, 1) := by decide +kernel
theorem dX0_mend_23 : decode cX0_mend 23 = .ok (.putfield 17, 3) := by decide +kernel
theorem dX0_mend_26 : decode cX0_mend 26 = .ok (.iload_n 2, 1) := by decide +kernel
theorem dX0_mend_27 : decode cX0_mend 27 = .ok (.iconst (-1), 1) := by decide +kernel
theorem dX0_mend_28 : decode cX0_mend 28 = .ok (.if_icmp .ne 10, 3) := by decide +kernel
theorem dX0_mend_31 : decode cX0_mend 31 = .ok (.aload_n 0, 1) := by decide +kernel
theorem dX0_mend_32 : decode cX0_mend 32 = .ok (.iload_n 1, 1) := by decide +kernel
theorem dX0_mend_33 : decode cX0_mend 33 = .ok (.invokevirtual 70, 3) := by decide +kernel
theorem dX0_mend_36 : decode cX0_mend 36 = .ok (.iconst 1, 1) := by decide +kernel
theorem dX0_mend_37 : decode cX0_mend 37 = .ok (.ireturn, 1) := by decide +kernel
theorem dX0_mend_38 : decode cX0_mend 38 = .ok (.aload_n 0, 1) := by decide +kernel
theorem dX0_mend_39 : decode cX0_mend 39 = .ok (.iload_n 1, 1) := by decide +kernel
theorem dX0_mend_40 : decode cX0_mend 40 = .ok (.iload_n 2, 1) := by decide +kernel
theorem dX0_mend_41 : decode cX0_mend 41 = .ok (.invokevirtual 73, 3) := by decide +kernel
theorem dX0_mend_44 : decode cX0_mend 44 = .ok (.iconst 2, 1) := by decide +kernel
theorem dX0_mend_45 : decode cX0_mend 45 = .ok (.ireturn, 1) := by decide +kernel
set_option maxRecDepth 20000 in
theorem ggX0_check_X0_offAt : GoodIn wsX0_check wsX0_offAt := goodIn_r _ [6, 7, 8, 9, 10, 5, 11, 12, 13, 14, 15, 16, 17, 18, 19, 20, 21, 22, 23, 24, 25, 26, 27, 28, 29, 30, 31, 32, 33, 34] (by decide +kernel) (by decide +kernel)
set_option maxRecDepth 20000 in
theorem gX0_check_X0_offAt : GoodIn wsX0_check (wsV RX0 77 RX0 yX0_offAt wsX0_offAt) := goodIn_app (goodIn_of _ (by decide +kernel)) ggX0_check_X0_offAt
theorem dX0_check_0 : decode cX0_check 0 = .ok (.aload_n 0, 1) := by decide +kernel
theorem dX0_check_1 : decode cX0_check 1 = .ok (.getfield 17, 3) := by decide +kernel
theorem dX0_check_4 : decode cX0_check 4 = .ok (.ifCond .eq 5, 3) := by decide +kernel
theorem dX0_check_7 : decode cX0_check 7 = .ok (.iconst (-1), 1) := by decide +kernel
theorem dX0_check_8 : decode cX0_check 8 = .ok (.ireturn, 1) := by decide +kernel
theorem dX0_check_9 : decode cX0_check 9 = .ok (.bipush (-2), 2) := by decide +kernel
theorem dX0_check_11 : decode cX0_check 11 = .ok (.istore_n 1, 1) := by decide +kernel
theorem dX0_check_12 : decode cX0_check 12 = .ok (.iconst 0, 1) := by decide +kernel
theorem dX0_check_13 : decode cX0_check 13 = .ok (.istore_n 2, 1) := by decide +kernel
theorem dX0_check_14 : decode cX0_check 14 = .ok (.iload_n 2, 1) := by decide +kernel
theorem dX0_check_15 : decode cX0_check 15 = .ok (.bipush 64, 2) := by decide +kernel
theorem dX0_check_17 : decode cX0_check 17 = .ok (.if_icmp .ge 43, 3) := by decide +kernel
theorem dX0_check_20 : decode cX0_check 20 = .ok (.aload_n 0, 1) := by decide +kernel
theorem dX0_check_21 : decode cX0_check 21 = .ok (.iload_n 2, 1) := by decide +kernel
theorem dX0_check_22 : decode cX0_check 22 = .ok (.invokevirtual 77, 3) := by decide +kernel
theorem dX0_check_25 : decode cX0_check 25 = .ok (.istore_n 3, 1) := by decide +kernel
theorem dX0_check_26 : decode cX0_check 26 = .ok (.iload_n 3, 1) := by decide +kernel
theorem dX0_check_27 : decode cX0_check 27 = .ok (.bipush (-2), 2) := by decide +kernel
theorem dX0_check_29 : decode cX0_check 29 = .ok (.if_icmp .eq 17, 3) := by decide +kernel
theorem dX0_check_32 : decode cX0_check 32 = .ok (.iload_n 1, 1) := by decide +kernel
theorem dX0_check_33 : decode cX0_check 33 = .ok (.bipush (-2), 2) := by decide +kernel
theorem dX0_check_35 : decode cX0_check 35 = .ok (.if_icmp .eq 11, 3) := by decide +kernel
theorem dX0_check_38 : decode cX0_check 38 = .ok (.iload_n 3, 1) := by decide +kernel
theorem dX0_check_39 : decode cX0_check 39 = .ok (.iload_n 1, 1) := by decide +kernel
theorem dX0_check_40 : decode cX0_check 40 = .ok (.if_icmp .eq 6, 3) := by decide +kernel
theorem dX0_check_43 : decode cX0_check 43 = .ok (.bipush (-3), 2) := by decide +kernel
theorem dX0_check_45 : decode cX0_check 45 = .ok (.ireturn, 1) := by decide +kernel
theorem dX0_check_46 : decode cX0_check 46 = .ok (.iload_n 3, 1) := by decide +kernel
theorem dX0_check_47 : decode cX0_check 47 = .ok (.bipush (-2), 2) := by decide +kernel
theorem dX0_check_49 : decode cX0_check 49 = .ok (.if_icmp .eq 5, 3) := by decide +kernel
theorem dX0_check_52 : decode cX0_check 52 = .ok (.iload_n 3, 1) := by decide +kernel
theorem dX0_check_53 : decode cX0_check 53 = .ok (.istore_n 1, 1) := by decide +kernel
theorem dX0_check_54 : decode cX0_check 54 = .ok (.iinc 2 1, 3) := by decide +kernel
theorem dX0_check_57 : decode cX0_check 57 = .ok (.goto (-43), 3) := by decide +kernel
theorem dX0_check_60 : decode cX0_check 60 = .ok (.iload_n 1, 1) := by decide +kernel
theorem dX0_check_61 : decode cX0_check 61 = .ok (.ireturn, 1) := by decide +kernel
set_option maxRecDepth 20000 in
theorem ggX0_fix_X0_check : GoodIn wsX0_fix wsX0_check := goodIn_r _ [5, 6, 7, 8, 9, 4, 10, 11, 12, 13, 14, 15, 16, 17, 18, 19, 20, 21, 22, 23, 24, 25, 26, 27, 28, 29, 30, 31, 32, 33, 34, 35, 61, 62, 63] (by decide +kernel) (by decide +kernel)
set_option maxRecDepth 20000 in
theorem gX0_fix_X0_check : GoodIn wsX0_fix (wsV RX0 80 RX0 yX0_check wsX0_check) := goodIn_app (goodIn_of _ (by decide +kernel)) ggX0_fix_X0_check
set_option maxRecDepth 20000 in
theorem ggX0_fix_X0_restoreOne : GoodIn wsX0_fix wsX0_restoreOne := goodIn_r _ [39, 32, 33, 34, 4, 35, 11, 40, 41, 42, 43, 44, 45, 46, 29, 30, 31, 47, 48, 49, 50, 51, 52, 25, 26, 27, 28, 20, 21, 22, 23, 24, 53, 54, 55, 56, 57, 58, 59, 60, 12, 13, 14, 15, 16, 17, 18, 19, 61, 62, 63] (by decide +kernel) (by decide +kernel)
set_option maxRecDepth 20000 in
theorem gX0_fix_X0_restoreOne : GoodIn wsX0_fix (wsV RX0 70 RX0 yX0_restoreOne wsX0_restoreOne) := goodIn_app (goodIn_of _ (by decide +kernel)) ggX0_fix_X0_restoreOne
theorem dX0_fix_0 : decode cX0_fix 0 = .ok (.aload_n 0, 1) := by decide +kernel
theorem dX0_fix_1 : decode cX0_fix 1 = .ok (.invokevirtual 80, 3) := by decide +kernel
theorem dX0_fix_4 : decode cX0_fix 4 = .ok (.istore_n 1, 1) := by decide +kernel
theorem dX0_fix_5 : decode cX0_fix 5 = .ok (.iload_n 1, 1) := by decide +kernel
theorem dX0_fix_6 : decode cX0_fix 6 = .ok (.ifCond .lt 8, 3) := by decide +kernel
theorem dX0_fix_9 : decode cX0_fix 9 = .ok (.aload_n 0, 1) := by decide +kernel
theorem dX0_fix_10 : decode cX0_fix 10 = .ok (.iload_n 1, 1) := by decide +kernel
theorem dX0_fix_11 : decode cX0_fix 11 = .ok (.invokevirtual 70, 3) := by decide +kernel
theorem dX0_fix_14 : decode cX0_fix 14 = .ok (.iload_n 1, 1) := by decide +kernel
theorem dX0_fix_15 : decode cX0_fix 15 = .ok (.ireturn, 1) := by decide +kernel
set_option maxRecDepth 20000 in
theorem ggX0_count_X0_units : GoodIn wsX0_count wsX0_units := goodIn_r _ [5, 6, 27, 28, 29] (by decide +kernel) (by decide +kernel)
set_option maxRecDepth 20000 in
theorem gX0_count_X0_units : GoodIn wsX0_count (wsV RX0 26 RX0 yX0_units wsX0_units) := goodIn_app (goodIn_of _ (by decide +kernel)) ggX0_count_X0_units
set_option maxRecDepth 20000 in
theorem ggX0_count_X0_lostCount : GoodIn wsX0_count wsX0_lostCount := goodIn_r _ [10, 11, 12, 13, 14, 15, 16, 17, 18, 27, 28, 29] (by decide +kernel) (by decide +kernel)
set_option maxRecDepth 20000 in
theorem gX0_count_X0_lostCount : GoodIn wsX0_count (wsV RX0 63 RX0 yX0_lostCount wsX0_lostCount) := goodIn_app (goodIn_of _ (by decide +kernel)) ggX0_count_X0_lostCount
set_option maxRecDepth 20000 in
theorem ggX0_count_X0_lostFrom : GoodIn wsX0_count wsX0_lostFrom := goodIn_r _ [22, 1, 2, 3, 4, 5, 6, 23, 24, 25, 26, 11, 27, 28, 29] (by decide +kernel) (by decide +kernel)
set_option maxRecDepth 20000 in
theorem gX0_count_X0_lostFrom : GoodIn wsX0_count (wsV RX0 66 RX0 yX0_lostFrom wsX0_lostFrom) := goodIn_app (goodIn_of _ (by decide +kernel)) ggX0_count_X0_lostFrom
theorem dX0_count_0 : decode cX0_count 0 = .ok (.iload_n 1, 1) := by decide +kernel
theorem dX0_count_1 : decode cX0_count 1 = .ok (.tableswitch 43 0 2 #[27, 32, 37], 27) := by decide +kernel
theorem dX0_count_28 : decode cX0_count 28 = .ok (.aload_n 0, 1) := by decide +kernel
theorem dX0_count_29 : decode cX0_count 29 = .ok (.invokevirtual 26, 3) := by decide +kernel
theorem dX0_count_32 : decode cX0_count 32 = .ok (.ireturn, 1) := by decide +kernel
theorem dX0_count_33 : decode cX0_count 33 = .ok (.aload_n 0, 1) := by decide +kernel
theorem dX0_count_34 : decode cX0_count 34 = .ok (.invokevirtual 63, 3) := by decide +kernel
theorem dX0_count_37 : decode cX0_count 37 = .ok (.ireturn, 1) := by decide +kernel
theorem dX0_count_38 : decode cX0_count 38 = .ok (.aload_n 0, 1) := by decide +kernel
theorem dX0_count_39 : decode cX0_count 39 = .ok (.iconst 0, 1) := by decide +kernel
theorem dX0_count_40 : decode cX0_count 40 = .ok (.invokevirtual 66, 3) := by decide +kernel
theorem dX0_count_43 : decode cX0_count 43 = .ok (.ireturn, 1) := by decide +kernel
theorem dX0_count_44 : decode cX0_count 44 = .ok (.iconst (-1), 1) := by decide +kernel
theorem dX0_count_45 : decode cX0_count 45 = .ok (.ireturn, 1) := by decide +kernel
set_option maxRecDepth 20000 in
theorem ggX0_product_X0_isElement : GoodIn wsX0_product wsX0_isElement := goodIn_r _ [4] (by decide +kernel) (by decide +kernel)
set_option maxRecDepth 20000 in
theorem gX0_product_X0_isElement : GoodIn wsX0_product (va_wsS RX0 83 yX0_isElement wsX0_isElement) := goodIn_app (goodIn_of _ (by decide +kernel)) ggX0_product_X0_isElement
set_option maxRecDepth 20000 in
theorem ggX0_product_X0_inverse : GoodIn wsX0_product wsX0_inverse := goodIn_r _ [7, 8, 9, 3, 10, 11, 12, 13] (by decide +kernel) (by decide +kernel)
set_option maxRecDepth 20000 in
theorem gX0_product_X0_inverse : GoodIn wsX0_product (va_wsS RX0 86 yX0_inverse wsX0_inverse) := goodIn_app (goodIn_of _ (by decide +kernel)) ggX0_product_X0_inverse
set_option maxRecDepth 20000 in
theorem ggX0_product_X0_multiplied : GoodIn wsX0_product wsX0_multiplied := goodIn_r _ [10, 11, 12, 3, 13] (by decide +kernel) (by decide +kernel)
set_option maxRecDepth 20000 in
theorem gX0_product_X0_multiplied : GoodIn wsX0_product (va_wsS RX0 89 yX0_multiplied wsX0_multiplied) := goodIn_app (goodIn_of _ (by decide +kernel)) ggX0_product_X0_multiplied
theorem dX0_product_0 : decode cX0_product 0 = .ok (.iload_n 1, 1) := by decide +kernel
theorem dX0_product_1 : decode cX0_product 1 = .ok (.invokestatic 83, 3) := by decide +kernel
theorem dX0_product_4 : decode cX0_product 4 = .ok (.ifCond .eq 18, 3) := by decide +kernel
theorem dX0_product_7 : decode cX0_product 7 = .ok (.iload_n 2, 1) := by decide +kernel
theorem dX0_product_8 : decode cX0_product 8 = .ok (.invokestatic 83, 3) := by decide +kernel
theorem dX0_product_11 : decode cX0_product 11 = .ok (.ifCond .eq 11, 3) := by decide +kernel
theorem dX0_product_14 : decode cX0_product 14 = .ok (.iload_n 3, 1) := by decide +kernel
theorem dX0_product_15 : decode cX0_product 15 = .ok (.ifCond .eq 9, 3) := by decide +kernel
theorem dX0_product_18 : decode cX0_product 18 = .ok (.iload_n 2, 1) := by decide +kernel
theorem dX0_product_19 : decode cX0_product 19 = .ok (.ifCond .ne 5, 3) := by decide +kernel
theorem dX0_product_22 : decode cX0_product 22 = .ok (.iconst (-1), 1) := by decide +kernel
theorem dX0_product_23 : decode cX0_product 23 = .ok (.ireturn, 1) := by decide +kernel
theorem dX0_product_24 : decode cX0_product 24 = .ok (.iload_n 1, 1) := by decide +kernel
theorem dX0_product_25 : decode cX0_product 25 = .ok (.iload_n 3, 1) := by decide +kernel
theorem dX0_product_26 : decode cX0_product 26 = .ok (.ifCond .eq 10, 3) := by decide +kernel
theorem dX0_product_29 : decode cX0_product 29 = .ok (.iload_n 2, 1) := by decide +kernel
theorem dX0_product_30 : decode cX0_product 30 = .ok (.invokestatic 86, 3) := by decide +kernel
theorem dX0_product_33 : decode cX0_product 33 = .ok (.goto 4, 3) := by decide +kernel
theorem dX0_product_36 : decode cX0_product 36 = .ok (.iload_n 2, 1) := by decide +kernel
theorem dX0_product_37 : decode cX0_product 37 = .ok (.invokestatic 89, 3) := by decide +kernel
theorem dX0_product_40 : decode cX0_product 40 = .ok (.ireturn, 1) := by decide +kernel
set_option maxRecDepth 20000 in
theorem ggX0_power_J9_floorMod_7cf53 : GoodIn wsX0_power wsJ9_floorMod_7cf53 := goodIn_r _ [4] (by decide +kernel) (by decide +kernel)
set_option maxRecDepth 20000 in
theorem gX0_power_J9_floorMod_7cf53 : GoodIn wsX0_power (va_wsS RX0 92 yJ9_floorMod_7cf53 wsJ9_floorMod_7cf53) := goodIn_app (goodIn_of _ (by decide +kernel)) ggX0_power_J9_floorMod_7cf53
set_option maxRecDepth 20000 in
theorem ggX0_power_X0_timesPower : GoodIn wsX0_power wsX0_timesPower := goodIn_r _ [8, 9, 10, 7, 11] (by decide +kernel) (by decide +kernel)
set_option maxRecDepth 20000 in
theorem gX0_power_X0_timesPower : GoodIn wsX0_power (va_wsS RX0 97 yX0_timesPower wsX0_timesPower) := goodIn_app (goodIn_of _ (by decide +kernel)) ggX0_power_X0_timesPower
theorem dX0_power_0 : decode cX0_power 0 = .ok (.iconst 1, 1) := by decide +kernel
theorem dX0_power_1 : decode cX0_power 1 = .ok (.iload_n 1, 1) := by decide +kernel
theorem dX0_power_2 : decode cX0_power 2 = .ok (.sipush 255, 3) := by decide +kernel
theorem dX0_power_5 : decode cX0_power 5 = .ok (.invokestatic 92, 3) := by decide +kernel
theorem dX0_power_8 : decode cX0_power 8 = .ok (.invokestatic 97, 3) := by decide +kernel
theorem dX0_power_11 : decode cX0_power 11 = .ok (.ireturn, 1) := by decide +kernel
theorem dX0_units_0 : decode cX0_units 0 = .ok (.aload_n 0, 1) := by decide +kernel
theorem dX0_units_1 : decode cX0_units 1 = .ok (.getfield 13, 3) := by decide +kernel
theorem dX0_units_4 : decode cX0_units 4 = .ok (.iconst 2, 1) := by decide +kernel
theorem dX0_units_5 : decode cX0_units 5 = .ok (.iadd, 1) := by decide +kernel
theorem dX0_units_6 : decode cX0_units 6 = .ok (.ireturn, 1) := by decide +kernel
theorem dX0_unitP_0 : decode cX0_unitP 0 = .ok (.aload_n 0, 1) := by decide +kernel
theorem dX0_unitP_1 : decode cX0_unitP 1 = .ok (.getfield 13, 3) := by decide +kernel
theorem dX0_unitP_4 : decode cX0_unitP 4 = .ok (.ireturn, 1) := by decide +kernel
theorem dX0_unitQ_0 : decode cX0_unitQ 0 = .ok (.aload_n 0, 1) := by decide +kernel
theorem dX0_unitQ_1 : decode cX0_unitQ 1 = .ok (.getfield 13, 3) := by decide +kernel
theorem dX0_unitQ_4 : decode cX0_unitQ 4 = .ok (.iconst 1, 1) := by decide +kernel
theorem dX0_unitQ_5 : decode cX0_unitQ 5 = .ok (.iadd, 1) := by decide +kernel
theorem dX0_unitQ_6 : decode cX0_unitQ 6 = .ok (.ireturn, 1) := by decide +kernel
set_option maxRecDepth 20000 in
theorem ggX0_isThere_X0_units : GoodIn wsX0_isThere wsX0_units := goodIn_r _ [5, 6, 12, 13, 14] (by decide +kernel) (by decide +kernel)
set_option maxRecDepth 20000 in
theorem gX0_isThere_X0_units : GoodIn wsX0_isThere (wsV RX0 26 RX0 yX0_units wsX0_units) := goodIn_app (goodIn_of _ (by decide +kernel)) ggX0_isThere_X0_units
set_option maxRecDepth 20000 in
theorem ggX0_isThere_X0_isLost : GoodIn wsX0_isThere wsX0_isLost := goodIn_r _ [10, 11, 12, 13, 14] (by decide +kernel) (by decide +kernel)
set_option maxRecDepth 20000 in
theorem gX0_isThere_X0_isLost : GoodIn wsX0_isThere (wsV RX0 100 RX0 yX0_isLost wsX0_isLost) := goodIn_app (goodIn_of _ (by decide +kernel)) ggX0_isThere_X0_isLost
theorem dX0_isThere_0 : decode cX0_isThere 0 = .ok (.iload_n 1, 1) := by decide +kernel
theorem dX0_isThere_1 : decode cX0_isThere 1 = .ok (.ifCond .lt 23, 3) := by decide +kernel
theorem dX0_isThere_4 : decode cX0_isThere 4 = .ok (.iload_n 1, 1) := by decide +kernel
theorem dX0_isThere_5 : decode cX0_isThere 5 = .ok (.aload_n 0, 1) := by decide +kernel
theorem dX0_isThere_6 : decode cX0_isThere 6 = .ok (.invokevirtual 26, 3) := by decide +kernel
theorem dX0_isThere_9 : decode cX0_isThere 9 = .ok (.if_icmp .ge 15, 3) := by decide +kernel
theorem dX0_isThere_12 : decode cX0_isThere 12 = .ok (.aload_n 0, 1) := by decide +kernel
theorem dX0_isThere_13 : decode cX0_isThere 13 = .ok (.iload_n 1, 1) := by decide +kernel
theorem dX0_isThere_14 : decode cX0_isThere 14 = .ok (.invokevirtual 100, 3) := by decide +kernel
theorem dX0_isThere_17 : decode cX0_isThere 17 = .ok (.ifCond .ne 7, 3) := by decide +kernel
theorem dX0_isThere_20 : decode cX0_isThere 20 = .ok (.iconst 1, 1) := by decide +kernel
theorem dX0_isThere_21 : decode cX0_isThere 21 = .ok (.goto 4, 3) := by decide +kernel
theorem dX0_isThere_24 : decode cX0_isThere 24 = .ok (.iconst 0, 1) := by decide +kernel
theorem dX0_isThere_25 : decode cX0_isThere 25 = .ok (.ireturn, 1) := by decide +kernel
theorem dX0_isLost_0 : decode cX0_isLost 0 = .ok (.aload_n 0, 1) := by decide +kernel
theorem dX0_isLost_1 : decode cX0_isLost 1 = .ok (.getfield 17, 3) := by decide +kernel
theorem dX0_isLost_4 : decode cX0_isLost 4 = .ok (.iload_n 1, 1) := by decide +kernel
theorem dX0_isLost_5 : decode cX0_isLost 5 = .ok (.ishr, 1) := by decide +kernel
theorem dX0_isLost_6 : decode cX0_isLost 6 = .ok (.iconst 1, 1) := by decide +kernel
theorem dX0_isLost_7 : decode cX0_isLost 7 = .ok (.iand, 1) := by decide +kernel
theorem dX0_isLost_8 : decode cX0_isLost 8 = .ok (.ifCond .eq 7, 3) := by decide +kernel
theorem dX0_isLost_11 : decode cX0_isLost 11 = .ok (.iconst 1, 1) := by decide +kernel
theorem dX0_isLost_12 : decode cX0_isLost 12 = .ok (.goto 4, 3) := by decide +kernel
theorem dX0_isLost_15 : decode cX0_isLost 15 = .ok (.iconst 0, 1) := by decide +kernel
theorem dX0_isLost_16 : decode cX0_isLost 16 = .ok (.ireturn, 1) := by decide +kernel
set_option maxRecDepth 20000 in
theorem ggX0_lostCount_J6_bitCount_0f7a4 : GoodIn wsX0_lostCount wsJ6_bitCount_0f7a4 := goodIn_r _ [5, 6, 7, 8] (by decide +kernel) (by decide +kernel)
set_option maxRecDepth 20000 in
theorem gX0_lostCount_J6_bitCount_0f7a4 : GoodIn wsX0_lostCount (va_wsS RX0 103 yJ6_bitCount_0f7a4 wsJ6_bitCount_0f7a4) := goodIn_app (goodIn_of _ (by decide +kernel)) ggX0_lostCount_J6_bitCount_0f7a4
theorem dX0_lostCount_0 : decode cX0_lostCount 0 = .ok (.aload_n 0, 1) := by decide +kernel
theorem dX0_lostCount_1 : decode cX0_lostCount 1 = .ok (.getfield 17, 3) := by decide +kernel
theorem dX0_lostCount_4 : decode cX0_lostCount 4 = .ok (.invokestatic 103, 3) := by decide +kernel
theorem dX0_lostCount_7 : decode cX0_lostCount 7 = .ok (.ireturn, 1) := by decide +kernel
set_option maxRecDepth 20000 in
theorem ggX0_lostFrom_X0_units : GoodIn wsX0_lostFrom wsX0_units := goodIn_r _ [5, 6, 12, 13, 14] (by decide +kernel) (by decide +kernel)
set_option maxRecDepth 20000 in
theorem gX0_lostFrom_X0_units : GoodIn wsX0_lostFrom (wsV RX0 26 RX0 yX0_units wsX0_units) := goodIn_app (goodIn_of _ (by decide +kernel)) ggX0_lostFrom_X0_units
set_option maxRecDepth 20000 in
theorem ggX0_lostFrom_X0_isLost : GoodIn wsX0_lostFrom wsX0_isLost := goodIn_r _ [10, 11, 12, 13, 14] (by decide +kernel) (by decide +kernel)
set_option maxRecDepth 20000 in
theorem gX0_lostFrom_X0_isLost : GoodIn wsX0_lostFrom (wsV RX0 100 RX0 yX0_isLost wsX0_isLost) := goodIn_app (goodIn_of _ (by decide +kernel)) ggX0_lostFrom_X0_isLost
theorem dX0_lostFrom_0 : decode cX0_lostFrom 0 = .ok (.iload_n 1, 1) := by decide +kernel
theorem dX0_lostFrom_1 : decode cX0_lostFrom 1 = .ok (.istore_n 2, 1) := by decide +kernel
theorem dX0_lostFrom_2 : decode cX0_lostFrom 2 = .ok (.iload_n 2, 1) := by decide +kernel
theorem dX0_lostFrom_3 : decode cX0_lostFrom 3 = .ok (.aload_n 0, 1) := by decide +kernel
theorem dX0_lostFrom_4 : decode cX0_lostFrom 4 = .ok (.invokevirtual 26, 3) := by decide +kernel
theorem dX0_lostFrom_7 : decode cX0_lostFrom 7 = .ok (.if_icmp .ge 19, 3) := by decide +kernel
theorem dX0_lostFrom_10 : decode cX0_lostFrom 10 = .ok (.aload_n 0, 1) := by decide +kernel
theorem dX0_lostFrom_11 : decode cX0_lostFrom 11 = .ok (.iload_n 2, 1) := by decide +kernel
theorem dX0_lostFrom_12 : decode cX0_lostFrom 12 = .ok (.invokevirtual 100, 3) := by decide +kernel
theorem dX0_lostFrom_15 : decode cX0_lostFrom 15 = .ok (.ifCond .eq 5, 3) := by decide +kernel
theorem dX0_lostFrom_18 : decode cX0_lostFrom 18 = .ok (.iload_n 2, 1) := by decide +kernel
theorem dX0_lostFrom_19 : decode cX0_lostFrom 19 = .ok (.ireturn, 1) := by decide +kernel
theorem dX0_lostFrom_20 : decode cX0_lostFrom 20 = .ok (.iinc 2 1, 3) := by decide +kernel
theorem dX0_lostFrom_23 : decode cX0_lostFrom 23 = .ok (.goto (-21), 3) := by decide +kernel
theorem dX0_lostFrom_26 : decode cX0_lostFrom 26 = .ok (.iconst (-1), 1) := by decide +kernel
theorem dX0_lostFrom_27 : decode cX0_lostFrom 27 = .ok (.ireturn, 1) := by decide +kernel
theorem dX0_isSpan_0 : decode cX0_isSpan 0 = .ok (.iload_n 1, 1) := by decide +kernel
theorem dX0_isSpan_1 : decode cX0_isSpan 1 = .ok (.iconst 1, 1) := by decide +kernel
theorem dX0_isSpan_2 : decode cX0_isSpan 2 = .ok (.if_icmp .lt 24, 3) := by decide +kernel
theorem dX0_isSpan_5 : decode cX0_isSpan 5 = .ok (.iload_n 1, 1) := by decide +kernel
theorem dX0_isSpan_6 : decode cX0_isSpan 6 = .ok (.iload_n 2, 1) := by decide +kernel
theorem dX0_isSpan_7 : decode cX0_isSpan 7 = .ok (.if_icmp .gt 19, 3) := by decide +kernel
theorem dX0_isSpan_10 : decode cX0_isSpan 10 = .ok (.iload_n 0, 1) := by decide +kernel
theorem dX0_isSpan_11 : decode cX0_isSpan 11 = .ok (.ifCond .lt 15, 3) := by decide +kernel
theorem dX0_isSpan_14 : decode cX0_isSpan 14 = .ok (.iload_n 0, 1) := by decide +kernel
theorem dX0_isSpan_15 : decode cX0_isSpan 15 = .ok (.bipush 64, 2) := by decide +kernel
theorem dX0_isSpan_17 : decode cX0_isSpan 17 = .ok (.iload_n 1, 1) := by decide +kernel
theorem dX0_isSpan_18 : decode cX0_isSpan 18 = .ok (.isub, 1) := by decide +kernel
theorem dX0_isSpan_19 : decode cX0_isSpan 19 = .ok (.if_icmp .gt 7, 3) := by decide +kernel
theorem dX0_isSpan_22 : decode cX0_isSpan 22 = .ok (.iconst 1, 1) := by decide +kernel
theorem dX0_isSpan_23 : decode cX0_isSpan 23 = .ok (.goto 4, 3) := by decide +kernel
theorem dX0_isSpan_26 : decode cX0_isSpan 26 = .ok (.iconst 0, 1) := by decide +kernel
theorem dX0_isSpan_27 : decode cX0_isSpan 27 = .ok (.ireturn, 1) := by decide +kernel
theorem dX0_byteAt_0 : decode cX0_byteAt 0 = .ok (.aload_n 0, 1) := by decide +kernel
theorem dX0_byteAt_1 : decode cX0_byteAt 1 = .ok (.getfield 9, 3) := by decide +kernel
theorem dX0_byteAt_4 : decode cX0_byteAt 4 = .ok (.iload_n 1, 1) := by decide +kernel
theorem dX0_byteAt_5 : decode cX0_byteAt 5 = .ok (.bipush 64, 2) := by decide +kernel
theorem dX0_byteAt_7 : decode cX0_byteAt 7 = .ok (.imul, 1) := by decide +kernel
theorem dX0_byteAt_8 : decode cX0_byteAt 8 = .ok (.iload_n 2, 1) := by decide +kernel
theorem dX0_byteAt_9 : decode cX0_byteAt 9 = .ok (.iadd, 1) := by decide +kernel
theorem dX0_byteAt_10 : decode cX0_byteAt 10 = .ok (.iaload, 1) := by decide +kernel
theorem dX0_byteAt_11 : decode cX0_byteAt 11 = .ok (.ireturn, 1) := by decide +kernel
theorem dX0_change_0 : decode cX0_change 0 = .ok (.aload_n 0, 1) := by decide +kernel
theorem dX0_change_1 : decode cX0_change 1 = .ok (.getfield 9, 3) := by decide +kernel
theorem dX0_change_4 : decode cX0_change 4 = .ok (.iload_n 1, 1) := by decide +kernel
theorem dX0_change_5 : decode cX0_change 5 = .ok (.bipush 64, 2) := by decide +kernel
theorem dX0_change_7 : decode cX0_change 7 = .ok (.imul, 1) := by decide +kernel
theorem dX0_change_8 : decode cX0_change 8 = .ok (.iload_n 2, 1) := by decide +kernel
theorem dX0_change_9 : decode cX0_change 9 = .ok (.iadd, 1) := by decide +kernel
theorem dX0_change_10 : decode cX0_change 10 = .ok (.dup2, 1) := by decide +kernel
theorem dX0_change_11 : decode cX0_change 11 = .ok (.iaload, 1) := by decide +kernel
theorem dX0_change_12 : decode cX0_change 12 = .ok (.iload_n 3, 1) := by decide +kernel
theorem dX0_change_13 : decode cX0_change 13 = .ok (.ixor, 1) := by decide +kernel
theorem dX0_change_14 : decode cX0_change 14 = .ok (.iastore, 1) := by decide +kernel
theorem dX0_change_15 : decode cX0_change 15 = .ok (.return_, 1) := by decide +kernel
set_option maxRecDepth 20000 in
theorem ggX0_changeWithParities_X0_change : GoodIn wsX0_changeWithParities wsX0_change := goodIn_r _ [5, 6, 27, 28, 29] (by decide +kernel) (by decide +kernel)
set_option maxRecDepth 20000 in
theorem gX0_changeWithParities_X0_change : GoodIn wsX0_changeWithParities (wsV RX0 47 RX0 yX0_change wsX0_change) := goodIn_app (goodIn_of _ (by decide +kernel)) ggX0_changeWithParities_X0_change
set_option maxRecDepth 20000 in
theorem ggX0_changeWithParities_X0_unitP : GoodIn wsX0_changeWithParities wsX0_unitP := goodIn_r _ [10, 11, 27, 28, 29] (by decide +kernel) (by decide +kernel)
set_option maxRecDepth 20000 in
theorem gX0_changeWithParities_X0_unitP : GoodIn wsX0_changeWithParities (wsV RX0 50 RX0 yX0_unitP wsX0_unitP) := goodIn_app (goodIn_of _ (by decide +kernel)) ggX0_changeWithParities_X0_unitP
set_option maxRecDepth 20000 in
theorem ggX0_changeWithParities_X0_isLost : GoodIn wsX0_changeWithParities wsX0_isLost := goodIn_r _ [15, 16, 27, 28, 29] (by decide +kernel) (by decide +kernel)
set_option maxRecDepth 20000 in
theorem gX0_changeWithParities_X0_isLost : GoodIn wsX0_changeWithParities (wsV RX0 100 RX0 yX0_isLost wsX0_isLost) := goodIn_app (goodIn_of _ (by decide +kernel)) ggX0_changeWithParities_X0_isLost
set_option maxRecDepth 20000 in
theorem ggX0_changeWithParities_X0_unitQ : GoodIn wsX0_changeWithParities wsX0_unitQ := goodIn_r _ [20, 11, 27, 28, 29] (by decide +kernel) (by decide +kernel)
set_option maxRecDepth 20000 in
theorem gX0_changeWithParities_X0_unitQ : GoodIn wsX0_changeWithParities (wsV RX0 57 RX0 yX0_unitQ wsX0_unitQ) := goodIn_app (goodIn_of _ (by decide +kernel)) ggX0_changeWithParities_X0_unitQ
set_option maxRecDepth 20000 in
theorem ggX0_changeWithParities_X0_timesPower : GoodIn wsX0_changeWithParities wsX0_timesPower := goodIn_r _ [23, 24, 25, 4, 26] (by decide +kernel) (by decide +kernel)
set_option maxRecDepth 20000 in
theorem gX0_changeWithParities_X0_timesPower : GoodIn wsX0_changeWithParities (va_wsS RX0 97 yX0_timesPower wsX0_timesPower) := goodIn_app (goodIn_of _ (by decide +kernel)) ggX0_changeWithParities_X0_timesPower
theorem dX0_changeWithParities_0 : decode cX0_changeWithParities 0 = .ok (.aload_n 0, 1) := by decide +kernel
theorem dX0_changeWithParities_1 : decode cX0_changeWithParities 1 = .ok (.iload_n 1, 1) := by decide +kernel
theorem dX0_changeWithParities_2 : decode cX0_changeWithParities 2 = .ok (.iload_n 2, 1) := by decide +kernel
theorem dX0_changeWithParities_3 : decode cX0_changeWithParities 3 = .ok (.iload_n 3, 1) := by decide +kernel
theorem dX0_changeWithParities_4 : decode cX0_changeWithParities 4 = .ok (.invokevirtual 47, 3) := by decide +kernel
end
section
theorem dX0_changeWithParities_7 : decode cX0_changeWithParities 7 = .ok (.aload_n 0, 1) := by decide +kernel
theorem dX0_changeWithParities_8 : decode cX0_changeWithParities 8 = .ok (.aload_n 0, 1) := by decide +kernel
theorem dX0_changeWithParities_9 : decode cX0_changeWithParities 9 = .ok (.invokevirtual 50, 3) := by decide +kernel
theorem dX0_changeWithParities_12 : decode cX0_changeWithParities 12 = .ok (.invokevirtual 100, 3) := by decide +kernel
theorem dX0_changeWithParities_15 : decode cX0_changeWithParities 15 = .ok (.ifCond .ne 13, 3) := by decide +kernel
theorem dX0_changeWithParities_18 : decode cX0_changeWithParities 18 = .ok (.aload_n 0, 1) := by decide +kernel
theorem dX0_changeWithParities_19 : decode cX0_changeWithParities 19 = .ok (.aload_n 0, 1) := by decide +kernel
theorem dX0_changeWithParities_20 : decode cX0_changeWithParities 20 = .ok (.invokevirtual 50, 3) := by decide +kernel
theorem dX0_changeWithParities_23 : decode cX0_changeWithParities 23 = .ok (.iload_n 2, 1) := by decide +kernel
theorem dX0_changeWithParities_24 : decode cX0_changeWithParities 24 = .ok (.iload_n 3, 1) := by decide +kernel
theorem dX0_changeWithParities_25 : decode cX0_changeWithParities 25 = .ok (.invokevirtual 47, 3) := by decide +kernel
theorem dX0_changeWithParities_28 : decode cX0_changeWithParities 28 = .ok (.aload_n 0, 1) := by decide +kernel
theorem dX0_changeWithParities_29 : decode cX0_changeWithParities 29 = .ok (.aload_n 0, 1) := by decide +kernel
theorem dX0_changeWithParities_30 : decode cX0_changeWithParities 30 = .ok (.invokevirtual 57, 3) := by decide +kernel
theorem dX0_changeWithParities_33 : decode cX0_changeWithParities 33 = .ok (.invokevirtual 100, 3) := by decide +kernel
theorem dX0_changeWithParities_36 : decode cX0_changeWithParities 36 = .ok (.ifCond .ne 17, 3) := by decide +kernel
theorem dX0_changeWithParities_39 : decode cX0_changeWithParities 39 = .ok (.aload_n 0, 1) := by decide +kernel
theorem dX0_changeWithParities_40 : decode cX0_changeWithParities 40 = .ok (.aload_n 0, 1) := by decide +kernel
theorem dX0_changeWithParities_41 : decode cX0_changeWithParities 41 = .ok (.invokevirtual 57, 3) := by decide +kernel
theorem dX0_changeWithParities_44 : decode cX0_changeWithParities 44 = .ok (.iload_n 2, 1) := by decide +kernel
theorem dX0_changeWithParities_45 : decode cX0_changeWithParities 45 = .ok (.iload_n 3, 1) := by decide +kernel
theorem dX0_changeWithParities_46 : decode cX0_changeWithParities 46 = .ok (.iload_n 1, 1) := by decide +kernel
theorem dX0_changeWithParities_47 : decode cX0_changeWithParities 47 = .ok (.invokestatic 97, 3) := by decide +kernel
theorem dX0_changeWithParities_50 : decode cX0_changeWithParities 50 = .ok (.invokevirtual 47, 3) := by decide +kernel
theorem dX0_changeWithParities_53 : decode cX0_changeWithParities 53 = .ok (.return_, 1) := by decide +kernel
set_option maxRecDepth 20000 in
theorem ggX0_differenceP_X0_unitP : GoodIn wsX0_differenceP wsX0_unitP := goodIn_r _ [6, 1, 12, 13, 14] (by decide +kernel) (by decide +kernel)
set_option maxRecDepth 20000 in
theorem gX0_differenceP_X0_unitP : GoodIn wsX0_differenceP (wsV RX0 50 RX0 yX0_unitP wsX0_unitP) := goodIn_app (goodIn_of _ (by decide +kernel)) ggX0_differenceP_X0_unitP
set_option maxRecDepth 20000 in
theorem ggX0_differenceP_X0_byteAt : GoodIn wsX0_differenceP wsX0_byteAt := goodIn_r _ [10, 11, 12, 13, 14] (by decide +kernel) (by decide +kernel)
set_option maxRecDepth 20000 in
theorem gX0_differenceP_X0_byteAt : GoodIn wsX0_differenceP (wsV RX0 38 RX0 yX0_byteAt wsX0_byteAt) := goodIn_app (goodIn_of _ (by decide +kernel)) ggX0_differenceP_X0_byteAt
theorem dX0_differenceP_0 : decode cX0_differenceP 0 = .ok (.aload_n 0, 1) := by decide +kernel
theorem dX0_differenceP_1 : decode cX0_differenceP 1 = .ok (.aload_n 0, 1) := by decide +kernel
theorem dX0_differenceP_2 : decode cX0_differenceP 2 = .ok (.invokevirtual 50, 3) := by decide +kernel
theorem dX0_differenceP_5 : decode cX0_differenceP 5 = .ok (.iload_n 1, 1) := by decide +kernel
theorem dX0_differenceP_6 : decode cX0_differenceP 6 = .ok (.invokevirtual 38, 3) := by decide +kernel
theorem dX0_differenceP_9 : decode cX0_differenceP 9 = .ok (.istore_n 2, 1) := by decide +kernel
theorem dX0_differenceP_10 : decode cX0_differenceP 10 = .ok (.iconst 0, 1) := by decide +kernel
theorem dX0_differenceP_11 : decode cX0_differenceP 11 = .ok (.istore_n 3, 1) := by decide +kernel
theorem dX0_differenceP_12 : decode cX0_differenceP 12 = .ok (.iload_n 3, 1) := by decide +kernel
theorem dX0_differenceP_13 : decode cX0_differenceP 13 = .ok (.aload_n 0, 1) := by decide +kernel
theorem dX0_differenceP_14 : decode cX0_differenceP 14 = .ok (.getfield 13, 3) := by decide +kernel
theorem dX0_differenceP_17 : decode cX0_differenceP 17 = .ok (.if_icmp .ge 18, 3) := by decide +kernel
theorem dX0_differenceP_20 : decode cX0_differenceP 20 = .ok (.iload_n 2, 1) := by decide +kernel
theorem dX0_differenceP_21 : decode cX0_differenceP 21 = .ok (.aload_n 0, 1) := by decide +kernel
theorem dX0_differenceP_22 : decode cX0_differenceP 22 = .ok (.iload_n 3, 1) := by decide +kernel
theorem dX0_differenceP_23 : decode cX0_differenceP 23 = .ok (.iload_n 1, 1) := by decide +kernel
theorem dX0_differenceP_24 : decode cX0_differenceP 24 = .ok (.invokevirtual 38, 3) := by decide +kernel
theorem dX0_differenceP_27 : decode cX0_differenceP 27 = .ok (.ixor, 1) := by decide +kernel
theorem dX0_differenceP_28 : decode cX0_differenceP 28 = .ok (.istore_n 2, 1) := by decide +kernel
theorem dX0_differenceP_29 : decode cX0_differenceP 29 = .ok (.iinc 3 1, 3) := by decide +kernel
theorem dX0_differenceP_32 : decode cX0_differenceP 32 = .ok (.goto (-20), 3) := by decide +kernel
theorem dX0_differenceP_35 : decode cX0_differenceP 35 = .ok (.iload_n 2, 1) := by decide +kernel
theorem dX0_differenceP_36 : decode cX0_differenceP 36 = .ok (.ireturn, 1) := by decide +kernel
set_option maxRecDepth 20000 in
theorem ggX0_differenceQ_X0_doubled : GoodIn wsX0_differenceQ wsX0_doubled := goodIn_r _ [5] (by decide +kernel) (by decide +kernel)
set_option maxRecDepth 20000 in
theorem gX0_differenceQ_X0_doubled : GoodIn wsX0_differenceQ (va_wsS RX0 108 yX0_doubled wsX0_doubled) := goodIn_app (goodIn_of _ (by decide +kernel)) ggX0_differenceQ_X0_doubled
set_option maxRecDepth 20000 in
theorem ggX0_differenceQ_X0_byteAt : GoodIn wsX0_differenceQ wsX0_byteAt := goodIn_r _ [9, 10, 15, 16, 17] (by decide +kernel) (by decide +kernel)
set_option maxRecDepth 20000 in
theorem gX0_differenceQ_X0_byteAt : GoodIn wsX0_differenceQ (wsV RX0 38 RX0 yX0_byteAt wsX0_byteAt) := goodIn_app (goodIn_of _ (by decide +kernel)) ggX0_differenceQ_X0_byteAt
set_option maxRecDepth 20000 in
theorem ggX0_differenceQ_X0_unitQ : GoodIn wsX0_differenceQ wsX0_unitQ := goodIn_r _ [14, 1, 15, 16, 17] (by decide +kernel) (by decide +kernel)
set_option maxRecDepth 20000 in
theorem gX0_differenceQ_X0_unitQ : GoodIn wsX0_differenceQ (wsV RX0 57 RX0 yX0_unitQ wsX0_unitQ) := goodIn_app (goodIn_of _ (by decide +kernel)) ggX0_differenceQ_X0_unitQ
theorem dX0_differenceQ_0 : decode cX0_differenceQ 0 = .ok (.iconst 0, 1) := by decide +kernel
theorem dX0_differenceQ_1 : decode cX0_differenceQ 1 = .ok (.istore_n 2, 1) := by decide +kernel
theorem dX0_differenceQ_2 : decode cX0_differenceQ 2 = .ok (.aload_n 0, 1) := by decide +kernel
theorem dX0_differenceQ_3 : decode cX0_differenceQ 3 = .ok (.getfield 13, 3) := by decide +kernel
theorem dX0_differenceQ_6 : decode cX0_differenceQ 6 = .ok (.iconst 1, 1) := by decide +kernel
theorem dX0_differenceQ_7 : decode cX0_differenceQ 7 = .ok (.isub, 1) := by decide +kernel
theorem dX0_differenceQ_8 : decode cX0_differenceQ 8 = .ok (.istore_n 3, 1) := by decide +kernel
theorem dX0_differenceQ_9 : decode cX0_differenceQ 9 = .ok (.iload_n 3, 1) := by decide +kernel
theorem dX0_differenceQ_10 : decode cX0_differenceQ 10 = .ok (.ifCond .lt 21, 3) := by decide +kernel
theorem dX0_differenceQ_13 : decode cX0_differenceQ 13 = .ok (.iload_n 2, 1) := by decide +kernel
theorem dX0_differenceQ_14 : decode cX0_differenceQ 14 = .ok (.invokestatic 108, 3) := by decide +kernel
theorem dX0_differenceQ_17 : decode cX0_differenceQ 17 = .ok (.aload_n 0, 1) := by decide +kernel
theorem dX0_differenceQ_18 : decode cX0_differenceQ 18 = .ok (.iload_n 3, 1) := by decide +kernel
theorem dX0_differenceQ_19 : decode cX0_differenceQ 19 = .ok (.iload_n 1, 1) := by decide +kernel
theorem dX0_differenceQ_20 : decode cX0_differenceQ 20 = .ok (.invokevirtual 38, 3) := by decide +kernel
theorem dX0_differenceQ_23 : decode cX0_differenceQ 23 = .ok (.ixor, 1) := by decide +kernel
theorem dX0_differenceQ_24 : decode cX0_differenceQ 24 = .ok (.istore_n 2, 1) := by decide +kernel
theorem dX0_differenceQ_25 : decode cX0_differenceQ 25 = .ok (.iinc 3 (-1), 3) := by decide +kernel
theorem dX0_differenceQ_28 : decode cX0_differenceQ 28 = .ok (.goto (-19), 3) := by decide +kernel
theorem dX0_differenceQ_31 : decode cX0_differenceQ 31 = .ok (.iload_n 2, 1) := by decide +kernel
theorem dX0_differenceQ_32 : decode cX0_differenceQ 32 = .ok (.aload_n 0, 1) := by decide +kernel
theorem dX0_differenceQ_33 : decode cX0_differenceQ 33 = .ok (.aload_n 0, 1) := by decide +kernel
theorem dX0_differenceQ_34 : decode cX0_differenceQ 34 = .ok (.invokevirtual 57, 3) := by decide +kernel
theorem dX0_differenceQ_37 : decode cX0_differenceQ 37 = .ok (.iload_n 1, 1) := by decide +kernel
theorem dX0_differenceQ_38 : decode cX0_differenceQ 38 = .ok (.invokevirtual 38, 3) := by decide +kernel
theorem dX0_differenceQ_41 : decode cX0_differenceQ 41 = .ok (.ixor, 1) := by decide +kernel
theorem dX0_differenceQ_42 : decode cX0_differenceQ 42 = .ok (.ireturn, 1) := by decide +kernel
set_option maxRecDepth 20000 in
theorem ggX0_offAt_X0_differenceP : GoodIn wsX0_offAt wsX0_differenceP := goodIn_r _ [6, 1, 7, 8, 9, 5, 10, 11, 12, 13, 14, 15, 27, 28, 29] (by decide +kernel) (by decide +kernel)
set_option maxRecDepth 20000 in
theorem gX0_offAt_X0_differenceP : GoodIn wsX0_offAt (wsV RX0 111 RX0 yX0_differenceP wsX0_differenceP) := goodIn_app (goodIn_of _ (by decide +kernel)) ggX0_offAt_X0_differenceP
set_option maxRecDepth 20000 in
theorem ggX0_offAt_X0_differenceQ : GoodIn wsX0_offAt wsX0_differenceQ := goodIn_r _ [19, 1, 20, 21, 5, 22, 11, 12, 13, 14, 15, 23, 24, 25, 26, 27, 28, 29] (by decide +kernel) (by decide +kernel)
set_option maxRecDepth 20000 in
theorem gX0_offAt_X0_differenceQ : GoodIn wsX0_offAt (wsV RX0 114 RX0 yX0_differenceQ wsX0_differenceQ) := goodIn_app (goodIn_of _ (by decide +kernel)) ggX0_offAt_X0_differenceQ
set_option maxRecDepth 20000 in
theorem ggX0_offAt_X0_unitP : GoodIn wsX0_offAt wsX0_unitP := goodIn_r _ [10, 1, 27, 28, 29] (by decide +kernel) (by decide +kernel)
set_option maxRecDepth 20000 in
theorem gX0_offAt_X0_unitP : GoodIn wsX0_offAt (wsV RX0 50 RX0 yX0_unitP wsX0_unitP) := goodIn_app (goodIn_of _ (by decide +kernel)) ggX0_offAt_X0_unitP
set_option maxRecDepth 20000 in
theorem ggX0_offAt_X0_unitQ : GoodIn wsX0_offAt wsX0_unitQ := goodIn_r _ [26, 1, 27, 28, 29] (by decide +kernel) (by decide +kernel)
set_option maxRecDepth 20000 in
theorem gX0_offAt_X0_unitQ : GoodIn wsX0_offAt (wsV RX0 57 RX0 yX0_unitQ wsX0_unitQ) := goodIn_app (goodIn_of _ (by decide +kernel)) ggX0_offAt_X0_unitQ
set_option maxRecDepth 20000 in
theorem ggX0_offAt_X0_doubled : GoodIn wsX0_offAt wsX0_doubled := goodIn_r _ [22] (by decide +kernel) (by decide +kernel)
set_option maxRecDepth 20000 in
theorem gX0_offAt_X0_doubled : GoodIn wsX0_offAt (va_wsS RX0 108 yX0_doubled wsX0_doubled) := goodIn_app (goodIn_of _ (by decide +kernel)) ggX0_offAt_X0_doubled
theorem dX0_offAt_0 : decode cX0_offAt 0 = .ok (.aload_n 0, 1) := by decide +kernel
theorem dX0_offAt_1 : decode cX0_offAt 1 = .ok (.iload_n 1, 1) := by decide +kernel
theorem dX0_offAt_2 : decode cX0_offAt 2 = .ok (.invokevirtual 111, 3) := by decide +kernel
theorem dX0_offAt_5 : decode cX0_offAt 5 = .ok (.istore_n 2, 1) := by decide +kernel
theorem dX0_offAt_6 : decode cX0_offAt 6 = .ok (.aload_n 0, 1) := by decide +kernel
theorem dX0_offAt_7 : decode cX0_offAt 7 = .ok (.iload_n 1, 1) := by decide +kernel
theorem dX0_offAt_8 : decode cX0_offAt 8 = .ok (.invokevirtual 114, 3) := by decide +kernel
theorem dX0_offAt_11 : decode cX0_offAt 11 = .ok (.istore_n 3, 1) := by decide +kernel
theorem dX0_offAt_12 : decode cX0_offAt 12 = .ok (.iload_n 3, 1) := by decide +kernel
theorem dX0_offAt_13 : decode cX0_offAt 13 = .ok (.ifCond .ne 17, 3) := by decide +kernel
theorem dX0_offAt_16 : decode cX0_offAt 16 = .ok (.iload_n 2, 1) := by decide +kernel
theorem dX0_offAt_17 : decode cX0_offAt 17 = .ok (.ifCond .ne 8, 3) := by decide +kernel
theorem dX0_offAt_20 : decode cX0_offAt 20 = .ok (.bipush (-2), 2) := by decide +kernel
theorem dX0_offAt_22 : decode cX0_offAt 22 = .ok (.goto 7, 3) := by decide +kernel
theorem dX0_offAt_25 : decode cX0_offAt 25 = .ok (.aload_n 0, 1) := by decide +kernel
theorem dX0_offAt_26 : decode cX0_offAt 26 = .ok (.invokevirtual 50, 3) := by decide +kernel
theorem dX0_offAt_29 : decode cX0_offAt 29 = .ok (.ireturn, 1) := by decide +kernel
theorem dX0_offAt_30 : decode cX0_offAt 30 = .ok (.iload_n 2, 1) := by decide +kernel
theorem dX0_offAt_31 : decode cX0_offAt 31 = .ok (.ifCond .ne 8, 3) := by decide +kernel
theorem dX0_offAt_34 : decode cX0_offAt 34 = .ok (.aload_n 0, 1) := by decide +kernel
theorem dX0_offAt_35 : decode cX0_offAt 35 = .ok (.invokevirtual 57, 3) := by decide +kernel
theorem dX0_offAt_38 : decode cX0_offAt 38 = .ok (.ireturn, 1) := by decide +kernel
theorem dX0_offAt_39 : decode cX0_offAt 39 = .ok (.iload_n 2, 1) := by decide +kernel
theorem dX0_offAt_40 : decode cX0_offAt 40 = .ok (.istore 4, 2) := by decide +kernel
theorem dX0_offAt_42 : decode cX0_offAt 42 = .ok (.iconst 0, 1) := by decide +kernel
theorem dX0_offAt_43 : decode cX0_offAt 43 = .ok (.istore 5, 2) := by decide +kernel
theorem dX0_offAt_45 : decode cX0_offAt 45 = .ok (.iload 5, 2) := by decide +kernel
theorem dX0_offAt_47 : decode cX0_offAt 47 = .ok (.aload_n 0, 1) := by decide +kernel
theorem dX0_offAt_48 : decode cX0_offAt 48 = .ok (.getfield 13, 3) := by decide +kernel
theorem dX0_offAt_51 : decode cX0_offAt 51 = .ok (.if_icmp .ge 25, 3) := by decide +kernel
theorem dX0_offAt_54 : decode cX0_offAt 54 = .ok (.iload 4, 2) := by decide +kernel
theorem dX0_offAt_56 : decode cX0_offAt 56 = .ok (.iload_n 3, 1) := by decide +kernel
theorem dX0_offAt_57 : decode cX0_offAt 57 = .ok (.if_icmp .ne 6, 3) := by decide +kernel
theorem dX0_offAt_60 : decode cX0_offAt 60 = .ok (.iload 5, 2) := by decide +kernel
theorem dX0_offAt_62 : decode cX0_offAt 62 = .ok (.ireturn, 1) := by decide +kernel
theorem dX0_offAt_63 : decode cX0_offAt 63 = .ok (.iload 4, 2) := by decide +kernel
theorem dX0_offAt_65 : decode cX0_offAt 65 = .ok (.invokestatic 108, 3) := by decide +kernel
theorem dX0_offAt_68 : decode cX0_offAt 68 = .ok (.istore 4, 2) := by decide +kernel
theorem dX0_offAt_70 : decode cX0_offAt 70 = .ok (.iinc 5 1, 3) := by decide +kernel
theorem dX0_offAt_73 : decode cX0_offAt 73 = .ok (.goto (-28), 3) := by decide +kernel
theorem dX0_offAt_76 : decode cX0_offAt 76 = .ok (.bipush (-3), 2) := by decide +kernel
theorem dX0_offAt_78 : decode cX0_offAt 78 = .ok (.ireturn, 1) := by decide +kernel
set_option maxRecDepth 20000 in
theorem ggX0_restoreOne_X0_unitQ : GoodIn wsX0_restoreOne wsX0_unitQ := goodIn_r _ [5, 6, 48, 49, 50] (by decide +kernel) (by decide +kernel)
set_option maxRecDepth 20000 in
theorem gX0_restoreOne_X0_unitQ : GoodIn wsX0_restoreOne (wsV RX0 57 RX0 yX0_unitQ wsX0_unitQ) := goodIn_app (goodIn_of _ (by decide +kernel)) ggX0_restoreOne_X0_unitQ
set_option maxRecDepth 20000 in
theorem ggX0_restoreOne_X0_restoreByQ : GoodIn wsX0_restoreOne wsX0_restoreByQ := goodIn_r _ [10, 1, 2, 3, 4, 5, 6, 11, 12, 13, 14, 15, 16, 17, 18, 19, 20, 21, 22, 23, 24, 25, 26, 27, 28, 29, 30, 31, 32, 33, 34, 35, 48, 49, 50] (by decide +kernel) (by decide +kernel)
set_option maxRecDepth 20000 in
theorem gX0_restoreOne_X0_restoreByQ : GoodIn wsX0_restoreOne (wsV RX0 60 RX0 yX0_restoreByQ wsX0_restoreByQ) := goodIn_app (goodIn_of _ (by decide +kernel)) ggX0_restoreOne_X0_restoreByQ
set_option maxRecDepth 20000 in
theorem ggX0_restoreOne_X0_restoreByP : GoodIn wsX0_restoreOne wsX0_restoreByP := goodIn_r _ [39, 40, 41, 42, 4, 43, 6, 44, 45, 46, 47, 27, 28, 29, 30, 31, 32, 33, 34, 35, 48, 49, 50] (by decide +kernel) (by decide +kernel)
set_option maxRecDepth 20000 in
theorem gX0_restoreOne_X0_restoreByP : GoodIn wsX0_restoreOne (wsV RX0 53 RX0 yX0_restoreByP wsX0_restoreByP) := goodIn_app (goodIn_of _ (by decide +kernel)) ggX0_restoreOne_X0_restoreByP
theorem dX0_restoreOne_0 : decode cX0_restoreOne 0 = .ok (.iload_n 1, 1) := by decide +kernel
theorem dX0_restoreOne_1 : decode cX0_restoreOne 1 = .ok (.aload_n 0, 1) := by decide +kernel
theorem dX0_restoreOne_2 : decode cX0_restoreOne 2 = .ok (.invokevirtual 57, 3) := by decide +kernel
theorem dX0_restoreOne_5 : decode cX0_restoreOne 5 = .ok (.if_icmp .ne 11, 3) := by decide +kernel
theorem dX0_restoreOne_8 : decode cX0_restoreOne 8 = .ok (.aload_n 0, 1) := by decide +kernel
theorem dX0_restoreOne_9 : decode cX0_restoreOne 9 = .ok (.iload_n 1, 1) := by decide +kernel
theorem dX0_restoreOne_10 : decode cX0_restoreOne 10 = .ok (.invokevirtual 60, 3) := by decide +kernel
theorem dX0_restoreOne_13 : decode cX0_restoreOne 13 = .ok (.goto 8, 3) := by decide +kernel
theorem dX0_restoreOne_16 : decode cX0_restoreOne 16 = .ok (.aload_n 0, 1) := by decide +kernel
theorem dX0_restoreOne_17 : decode cX0_restoreOne 17 = .ok (.iload_n 1, 1) := by decide +kernel
theorem dX0_restoreOne_18 : decode cX0_restoreOne 18 = .ok (.invokevirtual 53, 3) := by decide +kernel
theorem dX0_restoreOne_21 : decode cX0_restoreOne 21 = .ok (.return_, 1) := by decide +kernel
set_option maxRecDepth 20000 in
theorem ggX0_restoreTwo_X0_unitQ : GoodIn wsX0_restoreTwo wsX0_unitQ := goodIn_r _ [5, 6, 52, 53, 54] (by decide +kernel) (by decide +kernel)
set_option maxRecDepth 20000 in
theorem gX0_restoreTwo_X0_unitQ : GoodIn wsX0_restoreTwo (wsV RX0 57 RX0 yX0_unitQ wsX0_unitQ) := goodIn_app (goodIn_of _ (by decide +kernel)) ggX0_restoreTwo_X0_unitQ
set_option maxRecDepth 20000 in
theorem ggX0_restoreTwo_X0_restoreByP : GoodIn wsX0_restoreTwo wsX0_restoreByP := goodIn_r _ [10, 11, 12, 13, 4, 14, 6, 15, 16, 17, 18, 19, 20, 21, 22, 23, 24, 25, 26, 27, 52, 53, 54] (by decide +kernel) (by decide +kernel)
set_option maxRecDepth 20000 in
theorem gX0_restoreTwo_X0_restoreByP : GoodIn wsX0_restoreTwo (wsV RX0 53 RX0 yX0_restoreByP wsX0_restoreByP) := goodIn_app (goodIn_of _ (by decide +kernel)) ggX0_restoreTwo_X0_restoreByP
set_option maxRecDepth 20000 in
theorem ggX0_restoreTwo_X0_restoreByQ : GoodIn wsX0_restoreTwo wsX0_restoreByQ := goodIn_r _ [31, 1, 2, 3, 4, 5, 6, 32, 33, 34, 35, 36, 37, 38, 39, 40, 41, 42, 43, 44, 45, 46, 47, 19, 20, 21, 22, 23, 24, 25, 26, 27, 52, 53, 54] (by decide +kernel) (by decide +kernel)
set_option maxRecDepth 20000 in
theorem gX0_restoreTwo_X0_restoreByQ : GoodIn wsX0_restoreTwo (wsV RX0 60 RX0 yX0_restoreByQ wsX0_restoreByQ) := goodIn_app (goodIn_of _ (by decide +kernel)) ggX0_restoreTwo_X0_restoreByQ
set_option maxRecDepth 20000 in
theorem ggX0_restoreTwo_X0_unitP : GoodIn wsX0_restoreTwo wsX0_unitP := goodIn_r _ [18, 6, 52, 53, 54] (by decide +kernel) (by decide +kernel)
set_option maxRecDepth 20000 in
theorem gX0_restoreTwo_X0_unitP : GoodIn wsX0_restoreTwo (wsV RX0 50 RX0 yX0_unitP wsX0_unitP) := goodIn_app (goodIn_of _ (by decide +kernel)) ggX0_restoreTwo_X0_unitP
set_option maxRecDepth 20000 in
theorem ggX0_restoreTwo_X0_restoreDataPair : GoodIn wsX0_restoreTwo wsX0_restoreDataPair := goodIn_r _ [51, 32, 33, 4, 34, 35, 36, 37, 38, 39, 40, 41, 42, 43, 11, 12, 13, 14, 6, 15, 16, 17, 18, 19, 20, 21, 22, 23, 44, 45, 46, 47, 1, 2, 3, 5, 24, 25, 26, 27, 52, 53, 54] (by decide +kernel) (by decide +kernel)
set_option maxRecDepth 20000 in
theorem gX0_restoreTwo_X0_restoreDataPair : GoodIn wsX0_restoreTwo (wsV RX0 117 RX0 yX0_restoreDataPair wsX0_restoreDataPair) := goodIn_app (goodIn_of _ (by decide +kernel)) ggX0_restoreTwo_X0_restoreDataPair
theorem dX0_restoreTwo_0 : decode cX0_restoreTwo 0 = .ok (.iload_n 2, 1) := by decide +kernel
theorem dX0_restoreTwo_1 : decode cX0_restoreTwo 1 = .ok (.aload_n 0, 1) := by decide +kernel
theorem dX0_restoreTwo_2 : decode cX0_restoreTwo 2 = .ok (.invokevirtual 57, 3) := by decide +kernel
theorem dX0_restoreTwo_5 : decode cX0_restoreTwo 5 = .ok (.if_icmp .ne 16, 3) := by decide +kernel
theorem dX0_restoreTwo_8 : decode cX0_restoreTwo 8 = .ok (.aload_n 0, 1) := by decide +kernel
theorem dX0_restoreTwo_9 : decode cX0_restoreTwo 9 = .ok (.iload_n 1, 1) := by decide +kernel
theorem dX0_restoreTwo_10 : decode cX0_restoreTwo 10 = .ok (.invokevirtual 53, 3) := by decide +kernel
theorem dX0_restoreTwo_13 : decode cX0_restoreTwo 13 = .ok (.aload_n 0, 1) := by decide +kernel
theorem dX0_restoreTwo_14 : decode cX0_restoreTwo 14 = .ok (.iload_n 2, 1) := by decide +kernel
theorem dX0_restoreTwo_15 : decode cX0_restoreTwo 15 = .ok (.invokevirtual 60, 3) := by decide +kernel
theorem dX0_restoreTwo_18 : decode cX0_restoreTwo 18 = .ok (.goto 30, 3) := by decide +kernel
theorem dX0_restoreTwo_21 : decode cX0_restoreTwo 21 = .ok (.iload_n 2, 1) := by decide +kernel
theorem dX0_restoreTwo_22 : decode cX0_restoreTwo 22 = .ok (.aload_n 0, 1) := by decide +kernel
theorem dX0_restoreTwo_23 : decode cX0_restoreTwo 23 = .ok (.invokevirtual 50, 3) := by decide +kernel
theorem dX0_restoreTwo_26 : decode cX0_restoreTwo 26 = .ok (.if_icmp .ne 16, 3) := by decide +kernel
theorem dX0_restoreTwo_29 : decode cX0_restoreTwo 29 = .ok (.aload_n 0, 1) := by decide +kernel
theorem dX0_restoreTwo_30 : decode cX0_restoreTwo 30 = .ok (.iload_n 1, 1) := by decide +kernel
theorem dX0_restoreTwo_31 : decode cX0_restoreTwo 31 = .ok (.invokevirtual 60, 3) := by decide +kernel
theorem dX0_restoreTwo_34 : decode cX0_restoreTwo 34 = .ok (.aload_n 0, 1) := by decide +kernel
theorem dX0_restoreTwo_35 : decode cX0_restoreTwo 35 = .ok (.iload_n 2, 1) := by decide +kernel
theorem dX0_restoreTwo_36 : decode cX0_restoreTwo 36 = .ok (.invokevirtual 53, 3) := by decide +kernel
theorem dX0_restoreTwo_39 : decode cX0_restoreTwo 39 = .ok (.goto 9, 3) := by decide +kernel
theorem dX0_restoreTwo_42 : decode cX0_restoreTwo 42 = .ok (.aload_n 0, 1) := by decide +kernel
theorem dX0_restoreTwo_43 : decode cX0_restoreTwo 43 = .ok (.iload_n 1, 1) := by decide +kernel
theorem dX0_restoreTwo_44 : decode cX0_restoreTwo 44 = .ok (.iload_n 2, 1) := by decide +kernel
theorem dX0_restoreTwo_45 : decode cX0_restoreTwo 45 = .ok (.invokevirtual 117, 3) := by decide +kernel
theorem dX0_restoreTwo_48 : decode cX0_restoreTwo 48 = .ok (.return_, 1) := by decide +kernel
set_option maxRecDepth 20000 in
theorem ggX0_restoreByP_X0_differenceP : GoodIn wsX0_restoreByP wsX0_differenceP := goodIn_r _ [5, 6, 7, 8, 9, 4, 10, 11, 12, 13, 14, 15, 20, 21, 22] (by decide +kernel) (by decide +kernel)
set_option maxRecDepth 20000 in
theorem gX0_restoreByP_X0_differenceP : GoodIn wsX0_restoreByP (wsV RX0 111 RX0 yX0_differenceP wsX0_differenceP) := goodIn_app (goodIn_of _ (by decide +kernel)) ggX0_restoreByP_X0_differenceP
set_option maxRecDepth 20000 in
theorem ggX0_restoreByP_X0_change : GoodIn wsX0_restoreByP wsX0_change := goodIn_r _ [19, 15, 20, 21, 22] (by decide +kernel) (by decide +kernel)
set_option maxRecDepth 20000 in
theorem gX0_restoreByP_X0_change : GoodIn wsX0_restoreByP (wsV RX0 47 RX0 yX0_change wsX0_change) := goodIn_app (goodIn_of _ (by decide +kernel)) ggX0_restoreByP_X0_change
theorem dX0_restoreByP_0 : decode cX0_restoreByP 0 = .ok (.iconst 0, 1) := by decide +kernel
theorem dX0_restoreByP_1 : decode cX0_restoreByP 1 = .ok (.istore_n 2, 1) := by decide +kernel
theorem dX0_restoreByP_2 : decode cX0_restoreByP 2 = .ok (.iload_n 2, 1) := by decide +kernel
theorem dX0_restoreByP_3 : decode cX0_restoreByP 3 = .ok (.bipush 64, 2) := by decide +kernel
theorem dX0_restoreByP_5 : decode cX0_restoreByP 5 = .ok (.if_icmp .ge 20, 3) := by decide +kernel
theorem dX0_restoreByP_8 : decode cX0_restoreByP 8 = .ok (.aload_n 0, 1) := by decide +kernel
theorem dX0_restoreByP_9 : decode cX0_restoreByP 9 = .ok (.iload_n 1, 1) := by decide +kernel
theorem dX0_restoreByP_10 : decode cX0_restoreByP 10 = .ok (.iload_n 2, 1) := by decide +kernel
theorem dX0_restoreByP_11 : decode cX0_restoreByP 11 = .ok (.aload_n 0, 1) := by decide +kernel
theorem dX0_restoreByP_12 : decode cX0_restoreByP 12 = .ok (.iload_n 2, 1) := by decide +kernel
theorem dX0_restoreByP_13 : decode cX0_restoreByP 13 = .ok (.invokevirtual 111, 3) := by decide +kernel
theorem dX0_restoreByP_16 : decode cX0_restoreByP 16 = .ok (.invokevirtual 47, 3) := by decide +kernel
theorem dX0_restoreByP_19 : decode cX0_restoreByP 19 = .ok (.iinc 2 1, 3) := by decide +kernel
theorem dX0_restoreByP_22 : decode cX0_restoreByP 22 = .ok (.goto (-20), 3) := by decide +kernel
theorem dX0_restoreByP_25 : decode cX0_restoreByP 25 = .ok (.return_, 1) := by decide +kernel
set_option maxRecDepth 20000 in
theorem ggX0_restoreByQ_X0_unitQ : GoodIn wsX0_restoreByQ wsX0_unitQ := goodIn_r _ [5, 6, 32, 33, 34] (by decide +kernel) (by decide +kernel)
set_option maxRecDepth 20000 in
theorem gX0_restoreByQ_X0_unitQ : GoodIn wsX0_restoreByQ (wsV RX0 57 RX0 yX0_unitQ wsX0_unitQ) := goodIn_app (goodIn_of _ (by decide +kernel)) ggX0_restoreByQ_X0_unitQ
set_option maxRecDepth 20000 in
theorem ggX0_restoreByQ_X0_timesPower : GoodIn wsX0_restoreByQ wsX0_timesPower := goodIn_r _ [9, 10, 11, 4, 12] (by decide +kernel) (by decide +kernel)
set_option maxRecDepth 20000 in
theorem gX0_restoreByQ_X0_timesPower : GoodIn wsX0_restoreByQ (va_wsS RX0 97 yX0_timesPower wsX0_timesPower) := goodIn_app (goodIn_of _ (by decide +kernel)) ggX0_restoreByQ_X0_timesPower
set_option maxRecDepth 20000 in
theorem ggX0_restoreByQ_X0_inverse : GoodIn wsX0_restoreByQ wsX0_inverse := goodIn_r _ [15, 16, 17, 4, 18, 10, 11, 12] (by decide +kernel) (by decide +kernel)
set_option maxRecDepth 20000 in
theorem gX0_restoreByQ_X0_inverse : GoodIn wsX0_restoreByQ (va_wsS RX0 86 yX0_inverse wsX0_inverse) := goodIn_app (goodIn_of _ (by decide +kernel)) ggX0_restoreByQ_X0_inverse
set_option maxRecDepth 20000 in
theorem ggX0_restoreByQ_X0_differenceQ : GoodIn wsX0_restoreByQ wsX0_differenceQ := goodIn_r _ [22, 6, 10, 11, 4, 12, 23, 24, 25, 26, 27, 1, 2, 3, 5, 32, 33, 34] (by decide +kernel) (by decide +kernel)
set_option maxRecDepth 20000 in
theorem gX0_restoreByQ_X0_differenceQ : GoodIn wsX0_restoreByQ (wsV RX0 114 RX0 yX0_differenceQ wsX0_differenceQ) := goodIn_app (goodIn_of _ (by decide +kernel)) ggX0_restoreByQ_X0_differenceQ
set_option maxRecDepth 20000 in
theorem ggX0_restoreByQ_X0_multiplied : GoodIn wsX0_restoreByQ wsX0_multiplied := goodIn_r _ [18, 10, 11, 4, 12] (by decide +kernel) (by decide +kernel)
set_option maxRecDepth 20000 in
theorem gX0_restoreByQ_X0_multiplied : GoodIn wsX0_restoreByQ (va_wsS RX0 89 yX0_multiplied wsX0_multiplied) := goodIn_app (goodIn_of _ (by decide +kernel)) ggX0_restoreByQ_X0_multiplied
set_option maxRecDepth 20000 in
theorem ggX0_restoreByQ_X0_change : GoodIn wsX0_restoreByQ wsX0_change := goodIn_r _ [31, 27, 32, 33, 34] (by decide +kernel) (by decide +kernel)
set_option maxRecDepth 20000 in
theorem gX0_restoreByQ_X0_change : GoodIn wsX0_restoreByQ (wsV RX0 47 RX0 yX0_change wsX0_change) := goodIn_app (goodIn_of _ (by decide +kernel)) ggX0_restoreByQ_X0_change
theorem dX0_restoreByQ_0 : decode cX0_restoreByQ 0 = .ok (.iload_n 1, 1) := by decide +kernel
theorem dX0_restoreByQ_1 : decode cX0_restoreByQ 1 = .ok (.aload_n 0, 1) := by decide +kernel
theorem dX0_restoreByQ_2 : decode cX0_restoreByQ 2 = .ok (.invokevirtual 57, 3) := by decide +kernel
theorem dX0_restoreByQ_5 : decode cX0_restoreByQ 5 = .ok (.if_icmp .ne 7, 3) := by decide +kernel
theorem dX0_restoreByQ_8 : decode cX0_restoreByQ 8 = .ok (.iconst 1, 1) := by decide +kernel
theorem dX0_restoreByQ_9 : decode cX0_restoreByQ 9 = .ok (.goto 11, 3) := by decide +kernel
theorem dX0_restoreByQ_12 : decode cX0_restoreByQ 12 = .ok (.iconst 1, 1) := by decide +kernel
theorem dX0_restoreByQ_13 : decode cX0_restoreByQ 13 = .ok (.iload_n 1, 1) := by decide +kernel
theorem dX0_restoreByQ_14 : decode cX0_restoreByQ 14 = .ok (.invokestatic 97, 3) := by decide +kernel
theorem dX0_restoreByQ_17 : decode cX0_restoreByQ 17 = .ok (.invokestatic 86, 3) := by decide +kernel
theorem dX0_restoreByQ_20 : decode cX0_restoreByQ 20 = .ok (.istore_n 2, 1) := by decide +kernel
theorem dX0_restoreByQ_21 : decode cX0_restoreByQ 21 = .ok (.iconst 0, 1) := by decide +kernel
theorem dX0_restoreByQ_22 : decode cX0_restoreByQ 22 = .ok (.istore_n 3, 1) := by decide +kernel
theorem dX0_restoreByQ_23 : decode cX0_restoreByQ 23 = .ok (.iload_n 3, 1) := by decide +kernel
theorem dX0_restoreByQ_24 : decode cX0_restoreByQ 24 = .ok (.bipush 64, 2) := by decide +kernel
theorem dX0_restoreByQ_26 : decode cX0_restoreByQ 26 = .ok (.if_icmp .ge 24, 3) := by decide +kernel
theorem dX0_restoreByQ_29 : decode cX0_restoreByQ 29 = .ok (.aload_n 0, 1) := by decide +kernel
theorem dX0_restoreByQ_30 : decode cX0_restoreByQ 30 = .ok (.iload_n 1, 1) := by decide +kernel
theorem dX0_restoreByQ_31 : decode cX0_restoreByQ 31 = .ok (.iload_n 3, 1) := by decide +kernel
theorem dX0_restoreByQ_32 : decode cX0_restoreByQ 32 = .ok (.aload_n 0, 1) := by decide +kernel
theorem dX0_restoreByQ_33 : decode cX0_restoreByQ 33 = .ok (.iload_n 3, 1) := by decide +kernel
theorem dX0_restoreByQ_34 : decode cX0_restoreByQ 34 = .ok (.invokevirtual 114, 3) := by decide +kernel
theorem dX0_restoreByQ_37 : decode cX0_restoreByQ 37 = .ok (.iload_n 2, 1) := by decide +kernel
theorem dX0_restoreByQ_38 : decode cX0_restoreByQ 38 = .ok (.invokestatic 89, 3) := by decide +kernel
theorem dX0_restoreByQ_41 : decode cX0_restoreByQ 41 = .ok (.invokevirtual 47, 3) := by decide +kernel
theorem dX0_restoreByQ_44 : decode cX0_restoreByQ 44 = .ok (.iinc 3 1, 3) := by decide +kernel
theorem dX0_restoreByQ_47 : decode cX0_restoreByQ 47 = .ok (.goto (-24), 3) := by decide +kernel
theorem dX0_restoreByQ_50 : decode cX0_restoreByQ 50 = .ok (.return_, 1) := by decide +kernel
set_option maxRecDepth 20000 in
theorem ggX0_restoreDataPair_X0_timesPower : GoodIn wsX0_restoreDataPair wsX0_timesPower := goodIn_r _ [4, 5, 6, 3, 7] (by decide +kernel) (by decide +kernel)
set_option maxRecDepth 20000 in
theorem gX0_restoreDataPair_X0_timesPower : GoodIn wsX0_restoreDataPair (va_wsS RX0 97 yX0_timesPower wsX0_timesPower) := goodIn_app (goodIn_of _ (by decide +kernel)) ggX0_restoreDataPair_X0_timesPower
set_option maxRecDepth 20000 in
theorem ggX0_restoreDataPair_X0_inverse : GoodIn wsX0_restoreDataPair wsX0_inverse := goodIn_r _ [10, 11, 12, 3, 13, 5, 6, 7] (by decide +kernel) (by decide +kernel)
set_option maxRecDepth 20000 in
theorem gX0_restoreDataPair_X0_inverse : GoodIn wsX0_restoreDataPair (va_wsS RX0 86 yX0_inverse wsX0_inverse) := goodIn_app (goodIn_of _ (by decide +kernel)) ggX0_restoreDataPair_X0_inverse
set_option maxRecDepth 20000 in
theorem ggX0_restoreDataPair_X0_differenceP : GoodIn wsX0_restoreDataPair wsX0_differenceP := goodIn_r _ [17, 18, 19, 20, 21, 3, 22, 23, 24, 25, 26, 27, 40, 41, 42] (by decide +kernel) (by decide +kernel)
set_option maxRecDepth 20000 in
theorem gX0_restoreDataPair_X0_differenceP : GoodIn wsX0_restoreDataPair (wsV RX0 111 RX0 yX0_differenceP wsX0_differenceP) := goodIn_app (goodIn_of _ (by decide +kernel)) ggX0_restoreDataPair_X0_differenceP
set_option maxRecDepth 20000 in
theorem ggX0_restoreDataPair_X0_differenceQ : GoodIn wsX0_restoreDataPair wsX0_differenceQ := goodIn_r _ [31, 18, 5, 6, 3, 7, 23, 24, 25, 26, 27, 32, 33, 34, 35, 40, 41, 42] (by decide +kernel) (by decide +kernel)
set_option maxRecDepth 20000 in
theorem gX0_restoreDataPair_X0_differenceQ : GoodIn wsX0_restoreDataPair (wsV RX0 114 RX0 yX0_differenceQ wsX0_differenceQ) := goodIn_app (goodIn_of _ (by decide +kernel)) ggX0_restoreDataPair_X0_differenceQ
set_option maxRecDepth 20000 in
theorem ggX0_restoreDataPair_X0_multiplied : GoodIn wsX0_restoreDataPair wsX0_multiplied := goodIn_r _ [13, 5, 6, 3, 7] (by decide +kernel) (by decide +kernel)
set_option maxRecDepth 20000 in
theorem gX0_restoreDataPair_X0_multiplied : GoodIn wsX0_restoreDataPair (va_wsS RX0 89 yX0_multiplied wsX0_multiplied) := goodIn_app (goodIn_of _ (by decide +kernel)) ggX0_restoreDataPair_X0_multiplied
set_option maxRecDepth 20000 in
theorem ggX0_restoreDataPair_X0_change : GoodIn wsX0_restoreDataPair wsX0_change := goodIn_r _ [39, 27, 40, 41, 42] (by decide +kernel) (by decide +kernel)
set_option maxRecDepth 20000 in
theorem gX0_restoreDataPair_X0_change : GoodIn wsX0_restoreDataPair (wsV RX0 47 RX0 yX0_change wsX0_change) := goodIn_app (goodIn_of _ (by decide +kernel)) ggX0_restoreDataPair_X0_change
theorem dX0_restoreDataPair_0 : decode cX0_restoreDataPair 0 = .ok (.iconst 1, 1) := by decide +kernel
theorem dX0_restoreDataPair_1 : decode cX0_restoreDataPair 1 = .ok (.iload_n 1, 1) := by decide +kernel
theorem dX0_restoreDataPair_2 : decode cX0_restoreDataPair 2 = .ok (.invokestatic 97, 3) := by decide +kernel
theorem dX0_restoreDataPair_5 : decode cX0_restoreDataPair 5 = .ok (.iconst 1, 1) := by decide +kernel
theorem dX0_restoreDataPair_6 : decode cX0_restoreDataPair 6 = .ok (.iload_n 2, 1) := by decide +kernel
theorem dX0_restoreDataPair_7 : decode cX0_restoreDataPair 7 = .ok (.invokestatic 97, 3) := by decide +kernel
theorem dX0_restoreDataPair_10 : decode cX0_restoreDataPair 10 = .ok (.ixor, 1) := by decide +kernel
theorem dX0_restoreDataPair_11 : decode cX0_restoreDataPair 11 = .ok (.invokestatic 86, 3) := by decide +kernel
theorem dX0_restoreDataPair_14 : decode cX0_restoreDataPair 14 = .ok (.istore_n 3, 1) := by decide +kernel
theorem dX0_restoreDataPair_15 : decode cX0_restoreDataPair 15 = .ok (.iconst 0, 1) := by decide +kernel
theorem dX0_restoreDataPair_16 : decode cX0_restoreDataPair 16 = .ok (.istore 4, 2) := by decide +kernel
theorem dX0_restoreDataPair_18 : decode cX0_restoreDataPair 18 = .ok (.iload 4, 2) := by decide +kernel
theorem dX0_restoreDataPair_20 : decode cX0_restoreDataPair 20 = .ok (.bipush 64, 2) := by decide +kernel
theorem dX0_restoreDataPair_22 : decode cX0_restoreDataPair 22 = .ok (.if_icmp .ge 57, 3) := by decide +kernel
theorem dX0_restoreDataPair_25 : decode cX0_restoreDataPair 25 = .ok (.aload_n 0, 1) := by decide +kernel
theorem dX0_restoreDataPair_26 : decode cX0_restoreDataPair 26 = .ok (.iload 4, 2) := by decide +kernel
theorem dX0_restoreDataPair_28 : decode cX0_restoreDataPair 28 = .ok (.invokevirtual 111, 3) := by decide +kernel
theorem dX0_restoreDataPair_31 : decode cX0_restoreDataPair 31 = .ok (.istore 5, 2) := by decide +kernel
theorem dX0_restoreDataPair_33 : decode cX0_restoreDataPair 33 = .ok (.aload_n 0, 1) := by decide +kernel
theorem dX0_restoreDataPair_34 : decode cX0_restoreDataPair 34 = .ok (.iload 4, 2) := by decide +kernel
theorem dX0_restoreDataPair_36 : decode cX0_restoreDataPair 36 = .ok (.invokevirtual 114, 3) := by decide +kernel
theorem dX0_restoreDataPair_39 : decode cX0_restoreDataPair 39 = .ok (.iload 5, 2) := by decide +kernel
theorem dX0_restoreDataPair_41 : decode cX0_restoreDataPair 41 = .ok (.iload_n 1, 1) := by decide +kernel
theorem dX0_restoreDataPair_42 : decode cX0_restoreDataPair 42 = .ok (.invokestatic 97, 3) := by decide +kernel
theorem dX0_restoreDataPair_45 : decode cX0_restoreDataPair 45 = .ok (.ixor, 1) := by decide +kernel
theorem dX0_restoreDataPair_46 : decode cX0_restoreDataPair 46 = .ok (.iload_n 3, 1) := by decide +kernel
theorem dX0_restoreDataPair_47 : decode cX0_restoreDataPair 47 = .ok (.invokestatic 89, 3) := by decide +kernel
theorem dX0_restoreDataPair_50 : decode cX0_restoreDataPair 50 = .ok (.istore 6, 2) := by decide +kernel
theorem dX0_restoreDataPair_52 : decode cX0_restoreDataPair 52 = .ok (.aload_n 0, 1) := by decide +kernel
theorem dX0_restoreDataPair_53 : decode cX0_restoreDataPair 53 = .ok (.iload_n 1, 1) := by decide +kernel
theorem dX0_restoreDataPair_54 : decode cX0_restoreDataPair 54 = .ok (.iload 4, 2) := by decide +kernel
theorem dX0_restoreDataPair_56 : decode cX0_restoreDataPair 56 = .ok (.iload 5, 2) := by decide +kernel
theorem dX0_restoreDataPair_58 : decode cX0_restoreDataPair 58 = .ok (.iload 6, 2) := by decide +kernel
theorem dX0_restoreDataPair_60 : decode cX0_restoreDataPair 60 = .ok (.ixor, 1) := by decide +kernel
theorem dX0_restoreDataPair_61 : decode cX0_restoreDataPair 61 = .ok (.invokevirtual 47, 3) := by decide +kernel
theorem dX0_restoreDataPair_64 : decode cX0_restoreDataPair 64 = .ok (.aload_n 0, 1) := by decide +kernel
theorem dX0_restoreDataPair_65 : decode cX0_restoreDataPair 65 = .ok (.iload_n 2, 1) := by decide +kernel
theorem dX0_restoreDataPair_66 : decode cX0_restoreDataPair 66 = .ok (.iload 4, 2) := by decide +kernel
theorem dX0_restoreDataPair_68 : decode cX0_restoreDataPair 68 = .ok (.iload 6, 2) := by decide +kernel
theorem dX0_restoreDataPair_70 : decode cX0_restoreDataPair 70 = .ok (.invokevirtual 47, 3) := by decide +kernel
theorem dX0_restoreDataPair_73 : decode cX0_restoreDataPair 73 = .ok (.iinc 4 1, 3) := by decide +kernel
theorem dX0_restoreDataPair_76 : decode cX0_restoreDataPair 76 = .ok (.goto (-58), 3) := by decide +kernel
theorem dX0_restoreDataPair_79 : decode cX0_restoreDataPair 79 = .ok (.return_, 1) := by decide +kernel
theorem dX0_isElement_0 : decode cX0_isElement 0 = .ok (.iload_n 0, 1) := by decide +kernel
theorem dX0_isElement_1 : decode cX0_isElement 1 = .ok (.ifCond .lt 14, 3) := by decide +kernel
theorem dX0_isElement_4 : decode cX0_isElement 4 = .ok (.iload_n 0, 1) := by decide +kernel
theorem dX0_isElement_5 : decode cX0_isElement 5 = .ok (.sipush 256, 3) := by decide +kernel
theorem dX0_isElement_8 : decode cX0_isElement 8 = .ok (.if_icmp .ge 7, 3) := by decide +kernel
theorem dX0_isElement_11 : decode cX0_isElement 11 = .ok (.iconst 1, 1) := by decide +kernel
theorem dX0_isElement_12 : decode cX0_isElement 12 = .ok (.goto 4, 3) := by decide +kernel
theorem dX0_isElement_15 : decode cX0_isElement 15 = .ok (.iconst 0, 1) := by decide +kernel
theorem dX0_isElement_16 : decode cX0_isElement 16 = .ok (.ireturn, 1) := by decide +kernel
theorem dX0_doubled_0 : decode cX0_doubled 0 = .ok (.iload_n 0, 1) := by decide +kernel
theorem dX0_doubled_1 : decode cX0_doubled 1 = .ok (.iconst 1, 1) := by decide +kernel
theorem dX0_doubled_2 : decode cX0_doubled 2 = .ok (.ishl, 1) := by decide +kernel
theorem dX0_doubled_3 : decode cX0_doubled 3 = .ok (.istore_n 1, 1) := by decide +kernel
theorem dX0_doubled_4 : decode cX0_doubled 4 = .ok (.iload_n 1, 1) := by decide +kernel
theorem dX0_doubled_5 : decode cX0_doubled 5 = .ok (.sipush 256, 3) := by decide +kernel
theorem dX0_doubled_8 : decode cX0_doubled 8 = .ok (.if_icmp .ge 7, 3) := by decide +kernel
theorem dX0_doubled_11 : decode cX0_doubled 11 = .ok (.iload_n 1, 1) := by decide +kernel
theorem dX0_doubled_12 : decode cX0_doubled 12 = .ok (.goto 8, 3) := by decide +kernel
theorem dX0_doubled_15 : decode cX0_doubled 15 = .ok (.iload_n 1, 1) := by decide +kernel
theorem dX0_doubled_16 : decode cX0_doubled 16 = .ok (.sipush 285, 3) := by decide +kernel
theorem dX0_doubled_19 : decode cX0_doubled 19 = .ok (.ixor, 1) := by decide +kernel
theorem dX0_doubled_20 : decode cX0_doubled 20 = .ok (.ireturn, 1) := by decide +kernel
set_option maxRecDepth 20000 in
theorem ggX0_timesPower_X0_doubled : GoodIn wsX0_timesPower wsX0_doubled := goodIn_r _ [4] (by decide +kernel) (by decide +kernel)
set_option maxRecDepth 20000 in
theorem gX0_timesPower_X0_doubled : GoodIn wsX0_timesPower (va_wsS RX0 108 yX0_doubled wsX0_doubled) := goodIn_app (goodIn_of _ (by decide +kernel)) ggX0_timesPower_X0_doubled
theorem dX0_timesPower_0 : decode cX0_timesPower 0 = .ok (.iload_n 0, 1) := by decide +kernel
theorem dX0_timesPower_1 : decode cX0_timesPower 1 = .ok (.istore_n 2, 1) := by decide +kernel
theorem dX0_timesPower_2 : decode cX0_timesPower 2 = .ok (.iconst 0, 1) := by decide +kernel
theorem dX0_timesPower_3 : decode cX0_timesPower 3 = .ok (.istore_n 3, 1) := by decide +kernel
theorem dX0_timesPower_4 : decode cX0_timesPower 4 = .ok (.iload_n 3, 1) := by decide +kernel
theorem dX0_timesPower_5 : decode cX0_timesPower 5 = .ok (.iload_n 1, 1) := by decide +kernel
theorem dX0_timesPower_6 : decode cX0_timesPower 6 = .ok (.if_icmp .ge 14, 3) := by decide +kernel
theorem dX0_timesPower_9 : decode cX0_timesPower 9 = .ok (.iload_n 2, 1) := by decide +kernel
theorem dX0_timesPower_10 : decode cX0_timesPower 10 = .ok (.invokestatic 108, 3) := by decide +kernel
theorem dX0_timesPower_13 : decode cX0_timesPower 13 = .ok (.istore_n 2, 1) := by decide +kernel
theorem dX0_timesPower_14 : decode cX0_timesPower 14 = .ok (.iinc 3 1, 3) := by decide +kernel
theorem dX0_timesPower_17 : decode cX0_timesPower 17 = .ok (.goto (-13), 3) := by decide +kernel
theorem dX0_timesPower_20 : decode cX0_timesPower 20 = .ok (.iload_n 2, 1) := by decide +kernel
theorem dX0_timesPower_21 : decode cX0_timesPower 21 = .ok (.ireturn, 1) := by decide +kernel
set_option maxRecDepth 20000 in
theorem ggX0_multiplied_X0_doubled : GoodIn wsX0_multiplied wsX0_doubled := goodIn_r _ [4] (by decide +kernel) (by decide +kernel)
set_option maxRecDepth 20000 in
theorem gX0_multiplied_X0_doubled : GoodIn wsX0_multiplied (va_wsS RX0 108 yX0_doubled wsX0_doubled) := goodIn_app (goodIn_of _ (by decide +kernel)) ggX0_multiplied_X0_doubled
theorem dX0_multiplied_0 : decode cX0_multiplied 0 = .ok (.iconst 0, 1) := by decide +kernel
theorem dX0_multiplied_1 : decode cX0_multiplied 1 = .ok (.istore_n 2, 1) := by decide +kernel
theorem dX0_multiplied_2 : decode cX0_multiplied 2 = .ok (.iload_n 0, 1) := by decide +kernel
theorem dX0_multiplied_3 : decode cX0_multiplied 3 = .ok (.istore_n 3, 1) := by decide +kernel
theorem dX0_multiplied_4 : decode cX0_multiplied 4 = .ok (.iconst 0, 1) := by decide +kernel
theorem dX0_multiplied_5 : decode cX0_multiplied 5 = .ok (.istore 4, 2) := by decide +kernel
theorem dX0_multiplied_7 : decode cX0_multiplied 7 = .ok (.iload 4, 2) := by decide +kernel
theorem dX0_multiplied_9 : decode cX0_multiplied 9 = .ok (.bipush 8, 2) := by decide +kernel
theorem dX0_multiplied_11 : decode cX0_multiplied 11 = .ok (.if_icmp .ge 27, 3) := by decide +kernel
theorem dX0_multiplied_14 : decode cX0_multiplied 14 = .ok (.iload_n 1, 1) := by decide +kernel
theorem dX0_multiplied_15 : decode cX0_multiplied 15 = .ok (.iload 4, 2) := by decide +kernel
theorem dX0_multiplied_17 : decode cX0_multiplied 17 = .ok (.ishr, 1) := by decide +kernel
theorem dX0_multiplied_18 : decode cX0_multiplied 18 = .ok (.iconst 1, 1) := by decide +kernel
theorem dX0_multiplied_19 : decode cX0_multiplied 19 = .ok (.iand, 1) := by decide +kernel
theorem dX0_multiplied_20 : decode cX0_multiplied 20 = .ok (.ifCond .eq 7, 3) := by decide +kernel
theorem dX0_multiplied_23 : decode cX0_multiplied 23 = .ok (.iload_n 2, 1) := by decide +kernel
theorem dX0_multiplied_24 : decode cX0_multiplied 24 = .ok (.iload_n 3, 1) := by decide +kernel
theorem dX0_multiplied_25 : decode cX0_multiplied 25 = .ok (.ixor, 1) := by decide +kernel
theorem dX0_multiplied_26 : decode cX0_multiplied 26 = .ok (.istore_n 2, 1) := by decide +kernel
theorem dX0_multiplied_27 : decode cX0_multiplied 27 = .ok (.iload_n 3, 1) := by decide +kernel
theorem dX0_multiplied_28 : decode cX0_multiplied 28 = .ok (.invokestatic 108, 3) := by decide +kernel
theorem dX0_multiplied_31 : decode cX0_multiplied 31 = .ok (.istore_n 3, 1) := by decide +kernel
theorem dX0_multiplied_32 : decode cX0_multiplied 32 = .ok (.iinc 4 1, 3) := by decide +kernel
theorem dX0_multiplied_35 : decode cX0_multiplied 35 = .ok (.goto (-28), 3) := by decide +kernel
theorem dX0_multiplied_38 : decode cX0_multiplied 38 = .ok (.iload_n 2, 1) := by decide +kernel
theorem dX0_multiplied_39 : decode cX0_multiplied 39 = .ok (.ireturn, 1) := by decide +kernel
set_option maxRecDepth 20000 in
theorem ggX0_inverse_X0_multiplied : GoodIn wsX0_inverse wsX0_multiplied := goodIn_r _ [4, 5, 6, 3, 7] (by decide +kernel) (by decide +kernel)
set_option maxRecDepth 20000 in
theorem gX0_inverse_X0_multiplied : GoodIn wsX0_inverse (va_wsS RX0 89 yX0_multiplied wsX0_multiplied) := goodIn_app (goodIn_of _ (by decide +kernel)) ggX0_inverse_X0_multiplied
theorem dX0_inverse_0 : decode cX0_inverse 0 = .ok (.iload_n 0, 1) := by decide +kernel
theorem dX0_inverse_1 : decode cX0_inverse 1 = .ok (.istore_n 1, 1) := by decide +kernel
theorem dX0_inverse_2 : decode cX0_inverse 2 = .ok (.iconst 1, 1) := by decide +kernel
theorem dX0_inverse_3 : decode cX0_inverse 3 = .ok (.istore_n 2, 1) := by decide +kernel
theorem dX0_inverse_4 : decode cX0_inverse 4 = .ok (.iconst 1, 1) := by decide +kernel
theorem dX0_inverse_5 : decode cX0_inverse 5 = .ok (.istore_n 3, 1) := by decide +kernel
theorem dX0_inverse_6 : decode cX0_inverse 6 = .ok (.iload_n 3, 1) := by decide +kernel
theorem dX0_inverse_7 : decode cX0_inverse 7 = .ok (.bipush 8, 2) := by decide +kernel
theorem dX0_inverse_9 : decode cX0_inverse 9 = .ok (.if_icmp .ge 21, 3) := by decide +kernel
theorem dX0_inverse_12 : decode cX0_inverse 12 = .ok (.iload_n 1, 1) := by decide +kernel
theorem dX0_inverse_13 : decode cX0_inverse 13 = .ok (.iload_n 1, 1) := by decide +kernel
theorem dX0_inverse_14 : decode cX0_inverse 14 = .ok (.invokestatic 89, 3) := by decide +kernel
theorem dX0_inverse_17 : decode cX0_inverse 17 = .ok (.istore_n 1, 1) := by decide +kernel
theorem dX0_inverse_18 : decode cX0_inverse 18 = .ok (.iload_n 2, 1) := by decide +kernel
theorem dX0_inverse_19 : decode cX0_inverse 19 = .ok (.iload_n 1, 1) := by decide +kernel
theorem dX0_inverse_20 : decode cX0_inverse 20 = .ok (.invokestatic 89, 3) := by decide +kernel
theorem dX0_inverse_23 : decode cX0_inverse 23 = .ok (.istore_n 2, 1) := by decide +kernel
theorem dX0_inverse_24 : decode cX0_inverse 24 = .ok (.iinc 3 1, 3) := by decide +kernel
theorem dX0_inverse_27 : decode cX0_inverse 27 = .ok (.goto (-21), 3) := by decide +kernel
theorem dX0_inverse_30 : decode cX0_inverse 30 = .ok (.iload_n 2, 1) := by decide +kernel
theorem dX0_inverse_31 : decode cX0_inverse 31 = .ok (.ireturn, 1) := by decide +kernel
set_option maxRecDepth 20000 in
theorem ggX1_init_X1_begin : GoodIn wsX1_init wsX1_begin := goodIn_r _ [12, 13, 14, 5, 7, 15, 16, 17, 18] (by decide +kernel) (by decide +kernel)
set_option maxRecDepth 20000 in
theorem gX1_init_X1_begin : GoodIn wsX1_init (wsV RX1 17 RX1 yX1_begin wsX1_begin) := goodIn_app (goodIn_of _ (by decide +kernel)) ggX1_init_X1_begin
theorem dX1_init_0 : decode cX1_init 0 = .ok (.aload_n 0, 1) := by decide +kernel
theorem dX1_init_1 : decode cX1_init 1 = .ok (.invokespecial 1, 3) := by decide +kernel
theorem dX1_init_4 : decode cX1_init 4 = .ok (.aload_n 0, 1) := by decide +kernel
theorem dX1_init_5 : decode cX1_init 5 = .ok (.sipush 1024, 3) := by decide +kernel
theorem dX1_init_8 : decode cX1_init 8 = .ok (.newarray .int, 2) := by decide +kernel
theorem dX1_init_10 : decode cX1_init 10 = .ok (.putfield 7, 3) := by decide +kernel
theorem dX1_init_13 : decode cX1_init 13 = .ok (.aload_n 0, 1) := by decide +kernel
theorem dX1_init_14 : decode cX1_init 14 = .ok (.bipush 16, 2) := by decide +kernel
theorem dX1_init_16 : decode cX1_init 16 = .ok (.newarray .boolean, 2) := by decide +kernel
theorem dX1_init_18 : decode cX1_init 18 = .ok (.putfield 13, 3) := by decide +kernel
theorem dX1_init_21 : decode cX1_init 21 = .ok (.aload_n 0, 1) := by decide +kernel
theorem dX1_init_22 : decode cX1_init 22 = .ok (.iconst 4, 1) := by decide +kernel
theorem dX1_init_23 : decode cX1_init 23 = .ok (.invokevirtual 17, 3) := by decide +kernel
theorem dX1_init_26 : decode cX1_init 26 = .ok (.istore_n 1, 1) := by decide +kernel
theorem dX1_init_27 : decode cX1_init 27 = .ok (.return_, 1) := by decide +kernel
theorem dX1_begin_0 : decode cX1_begin 0 = .ok (.aload_n 0, 1) := by decide +kernel
theorem dX1_begin_1 : decode cX1_begin 1 = .ok (.iconst 0, 1) := by decide +kernel
theorem dX1_begin_2 : decode cX1_begin 2 = .ok (.putfield 21, 3) := by decide +kernel
theorem dX1_begin_5 : decode cX1_begin 5 = .ok (.iload_n 1, 1) := by decide +kernel
theorem dX1_begin_6 : decode cX1_begin 6 = .ok (.iconst 2, 1) := by decide +kernel
theorem dX1_begin_7 : decode cX1_begin 7 = .ok (.if_icmp .lt 9, 3) := by decide +kernel
theorem dX1_begin_10 : decode cX1_begin 10 = .ok (.iload_n 1, 1) := by decide +kernel
theorem dX1_begin_11 : decode cX1_begin 11 = .ok (.bipush 14, 2) := by decide +kernel
theorem dX1_begin_13 : decode cX1_begin 13 = .ok (.if_icmp .le 5, 3) := by decide +kernel
theorem dX1_begin_16 : decode cX1_begin 16 = .ok (.iconst (-1), 1) := by decide +kernel
theorem dX1_begin_17 : decode cX1_begin 17 = .ok (.ireturn, 1) := by decide +kernel
theorem dX1_begin_18 : decode cX1_begin 18 = .ok (.aload_n 0, 1) := by decide +kernel
theorem dX1_begin_19 : decode cX1_begin 19 = .ok (.iload_n 1, 1) := by decide +kernel
theorem dX1_begin_20 : decode cX1_begin 20 = .ok (.iconst 2, 1) := by decide +kernel
theorem dX1_begin_21 : decode cX1_begin 21 = .ok (.iadd, 1) := by decide +kernel
theorem dX1_begin_22 : decode cX1_begin 22 = .ok (.putfield 25, 3) := by decide +kernel
theorem dX1_begin_25 : decode cX1_begin 25 = .ok (.iconst 0, 1) := by decide +kernel
theorem dX1_begin_26 : decode cX1_begin 26 = .ok (.istore_n 2, 1) := by decide +kernel
theorem dX1_begin_27 : decode cX1_begin 27 = .ok (.iload_n 2, 1) := by decide +kernel
theorem dX1_begin_28 : decode cX1_begin 28 = .ok (.sipush 1024, 3) := by decide +kernel
theorem dX1_begin_31 : decode cX1_begin 31 = .ok (.if_icmp .ge 16, 3) := by decide +kernel
theorem dX1_begin_34 : decode cX1_begin 34 = .ok (.aload_n 0, 1) := by decide +kernel
theorem dX1_begin_35 : decode cX1_begin 35 = .ok (.getfield 7, 3) := by decide +kernel
theorem dX1_begin_38 : decode cX1_begin 38 = .ok (.iload_n 2, 1) := by decide +kernel
theorem dX1_begin_39 : decode cX1_begin 39 = .ok (.iconst 0, 1) := by decide +kernel
theorem dX1_begin_40 : decode cX1_begin 40 = .ok (.iastore, 1) := by decide +kernel
theorem dX1_begin_41 : decode cX1_begin 41 = .ok (.iinc 2 1, 3) := by decide +kernel
theorem dX1_begin_44 : decode cX1_begin 44 = .ok (.goto (-17), 3) := by decide +kernel
theorem dX1_begin_47 : decode cX1_begin 47 = .ok (.iconst 0, 1) := by decide +kernel
theorem dX1_begin_48 : decode cX1_begin 48 = .ok (.istore_n 2, 1) := by decide +kernel
theorem dX1_begin_49 : decode cX1_begin 49 = .ok (.iload_n 2, 1) := by decide +kernel
theorem dX1_begin_50 : decode cX1_begin 50 = .ok (.bipush 16, 2) := by decide +kernel
theorem dX1_begin_52 : decode cX1_begin 52 = .ok (.if_icmp .ge 16, 3) := by decide +kernel
theorem dX1_begin_55 : decode cX1_begin 55 = .ok (.aload_n 0, 1) := by decide +kernel
theorem dX1_begin_56 : decode cX1_begin 56 = .ok (.getfield 13, 3) := by decide +kernel
theorem dX1_begin_59 : decode cX1_begin 59 = .ok (.iload_n 2, 1) := by decide +kernel
theorem dX1_begin_60 : decode cX1_begin 60 = .ok (.iconst 0, 1) := by decide +kernel
theorem dX1_begin_61 : decode cX1_begin 61 = .ok (.bastore, 1) := by decide +kernel
theorem dX1_begin_62 : decode cX1_begin 62 = .ok (.iinc 2 1, 3) := by decide +kernel
theorem dX1_begin_65 : decode cX1_begin 65 = .ok (.goto (-16), 3) := by decide +kernel
theorem dX1_begin_68 : decode cX1_begin 68 = .ok (.aload_n 0, 1) := by decide +kernel
theorem dX1_begin_69 : decode cX1_begin 69 = .ok (.getfield 25, 3) := by decide +kernel
theorem dX1_begin_72 : decode cX1_begin 72 = .ok (.ireturn, 1) := by decide +kernel
theorem dX1_times_0 : decode cX1_times 0 = .ok (.iconst 0, 1) := by decide +kernel
theorem dX1_times_1 : decode cX1_times 1 = .ok (.istore_n 3, 1) := by decide +kernel
theorem dX1_times_2 : decode cX1_times 2 = .ok (.iload_n 1, 1) := by decide +kernel
theorem dX1_times_3 : decode cX1_times 3 = .ok (.istore 4, 2) := by decide +kernel
theorem dX1_times_5 : decode cX1_times 5 = .ok (.iconst 0, 1) := by decide +kernel
theorem dX1_times_6 : decode cX1_times 6 = .ok (.istore 5, 2) := by decide +kernel
theorem dX1_times_8 : decode cX1_times 8 = .ok (.iload 5, 2) := by decide +kernel
theorem dX1_times_10 : decode cX1_times 10 = .ok (.bipush 8, 2) := by decide +kernel
theorem dX1_times_12 : decode cX1_times 12 = .ok (.if_icmp .ge 53, 3) := by decide +kernel
theorem dX1_times_15 : decode cX1_times 15 = .ok (.iload_n 2, 1) := by decide +kernel
theorem dX1_times_16 : decode cX1_times 16 = .ok (.iload 5, 2) := by decide +kernel
theorem dX1_times_18 : decode cX1_times 18 = .ok (.ishr, 1) := by decide +kernel
theorem dX1_times_19 : decode cX1_times 19 = .ok (.iconst 1, 1) := by decide +kernel
theorem dX1_times_20 : decode cX1_times 20 = .ok (.iand, 1) := by decide +kernel
theorem dX1_times_21 : decode cX1_times 21 = .ok (.iconst 1, 1) := by decide +kernel
theorem dX1_times_22 : decode cX1_times 22 = .ok (.if_icmp .ne 10, 3) := by decide +kernel
theorem dX1_times_25 : decode cX1_times 25 = .ok (.iload_n 3, 1) := by decide +kernel
theorem dX1_times_26 : decode cX1_times 26 = .ok (.iload 4, 2) := by decide +kernel
theorem dX1_times_28 : decode cX1_times 28 = .ok (.ixor, 1) := by decide +kernel
theorem dX1_times_29 : decode cX1_times 29 = .ok (.goto 4, 3) := by decide +kernel
theorem dX1_times_32 : decode cX1_times 32 = .ok (.iload_n 3, 1) := by decide +kernel
theorem dX1_times_33 : decode cX1_times 33 = .ok (.istore_n 3, 1) := by decide +kernel
theorem dX1_times_34 : decode cX1_times 34 = .ok (.iload 4, 2) := by decide +kernel
theorem dX1_times_36 : decode cX1_times 36 = .ok (.sipush 128, 3) := by decide +kernel
theorem dX1_times_39 : decode cX1_times 39 = .ok (.if_icmp .ge 10, 3) := by decide +kernel
theorem dX1_times_42 : decode cX1_times 42 = .ok (.iconst 2, 1) := by decide +kernel
theorem dX1_times_43 : decode cX1_times 43 = .ok (.iload 4, 2) := by decide +kernel
theorem dX1_times_45 : decode cX1_times 45 = .ok (.imul, 1) := by decide +kernel
theorem dX1_times_46 : decode cX1_times 46 = .ok (.goto 11, 3) := by decide +kernel
theorem dX1_times_49 : decode cX1_times 49 = .ok (.iconst 2, 1) := by decide +kernel
theorem dX1_times_50 : decode cX1_times 50 = .ok (.iload 4, 2) := by decide +kernel
theorem dX1_times_52 : decode cX1_times 52 = .ok (.imul, 1) := by decide +kernel
theorem dX1_times_53 : decode cX1_times 53 = .ok (.sipush 285, 3) := by decide +kernel
theorem dX1_times_56 : decode cX1_times 56 = .ok (.ixor, 1) := by decide +kernel
theorem dX1_times_57 : decode cX1_times 57 = .ok (.istore 4, 2) := by decide +kernel
theorem dX1_times_59 : decode cX1_times 59 = .ok (.iinc 5 1, 3) := by decide +kernel
theorem dX1_times_62 : decode cX1_times 62 = .ok (.goto (-54), 3) := by decide +kernel
theorem dX1_times_65 : decode cX1_times 65 = .ok (.iload_n 3, 1) := by decide +kernel
theorem dX1_times_66 : decode cX1_times 66 = .ok (.ireturn, 1) := by decide +kernel
set_option maxRecDepth 20000 in
theorem ggX1_twos_X1_times : GoodIn wsX1_twos wsX1_times := goodIn_r _ [5] (by decide +kernel) (by decide +kernel)
set_option maxRecDepth 20000 in
theorem gX1_twos_X1_times : GoodIn wsX1_twos (wsV RX1 28 RX1 yX1_times wsX1_times) := goodIn_app (goodIn_of _ (by decide +kernel)) ggX1_twos_X1_times
theorem dX1_twos_0 : decode cX1_twos 0 = .ok (.iconst 1, 1) := by decide +kernel
theorem dX1_twos_1 : decode cX1_twos 1 = .ok (.istore_n 2, 1) := by decide +kernel
theorem dX1_twos_2 : decode cX1_twos 2 = .ok (.iconst 0, 1) := by decide +kernel
theorem dX1_twos_3 : decode cX1_twos 3 = .ok (.istore_n 3, 1) := by decide +kernel
theorem dX1_twos_4 : decode cX1_twos 4 = .ok (.iload_n 3, 1) := by decide +kernel
theorem dX1_twos_5 : decode cX1_twos 5 = .ok (.iload_n 1, 1) := by decide +kernel
theorem dX1_twos_6 : decode cX1_twos 6 = .ok (.if_icmp .ge 16, 3) := by decide +kernel
theorem dX1_twos_9 : decode cX1_twos 9 = .ok (.aload_n 0, 1) := by decide +kernel
theorem dX1_twos_10 : decode cX1_twos 10 = .ok (.iload_n 2, 1) := by decide +kernel
theorem dX1_twos_11 : decode cX1_twos 11 = .ok (.iconst 2, 1) := by decide +kernel
theorem dX1_twos_12 : decode cX1_twos 12 = .ok (.invokevirtual 28, 3) := by decide +kernel
theorem dX1_twos_15 : decode cX1_twos 15 = .ok (.istore_n 2, 1) := by decide +kernel
theorem dX1_twos_16 : decode cX1_twos 16 = .ok (.iinc 3 1, 3) := by decide +kernel
theorem dX1_twos_19 : decode cX1_twos 19 = .ok (.goto (-15), 3) := by decide +kernel
theorem dX1_twos_22 : decode cX1_twos 22 = .ok (.iload_n 2, 1) := by decide +kernel
theorem dX1_twos_23 : decode cX1_twos 23 = .ok (.ireturn, 1) := by decide +kernel
set_option maxRecDepth 20000 in
theorem ggX1_part_X1_times : GoodIn wsX1_part wsX1_times := goodIn_r _ [5] (by decide +kernel) (by decide +kernel)
set_option maxRecDepth 20000 in
theorem gX1_part_X1_times : GoodIn wsX1_part (wsV RX1 28 RX1 yX1_times wsX1_times) := goodIn_app (goodIn_of _ (by decide +kernel)) ggX1_part_X1_times
theorem dX1_part_0 : decode cX1_part 0 = .ok (.iconst 0, 1) := by decide +kernel
theorem dX1_part_1 : decode cX1_part 1 = .ok (.istore_n 3, 1) := by decide +kernel
theorem dX1_part_2 : decode cX1_part 2 = .ok (.iload_n 3, 1) := by decide +kernel
theorem dX1_part_3 : decode cX1_part 3 = .ok (.sipush 256, 3) := by decide +kernel
theorem dX1_part_6 : decode cX1_part 6 = .ok (.if_icmp .ge 25, 3) := by decide +kernel
theorem dX1_part_9 : decode cX1_part 9 = .ok (.iload_n 2, 1) := by decide +kernel
theorem dX1_part_10 : decode cX1_part 10 = .ok (.ifCond .eq 21, 3) := by decide +kernel
theorem dX1_part_13 : decode cX1_part 13 = .ok (.aload_n 0, 1) := by decide +kernel
theorem dX1_part_14 : decode cX1_part 14 = .ok (.iload_n 3, 1) := by decide +kernel
theorem dX1_part_15 : decode cX1_part 15 = .ok (.iload_n 2, 1) := by decide +kernel
theorem dX1_part_16 : decode cX1_part 16 = .ok (.invokevirtual 28, 3) := by decide +kernel
theorem dX1_part_19 : decode cX1_part 19 = .ok (.iload_n 1, 1) := by decide +kernel
theorem dX1_part_20 : decode cX1_part 20 = .ok (.if_icmp .ne 5, 3) := by decide +kernel
theorem dX1_part_23 : decode cX1_part 23 = .ok (.iload_n 3, 1) := by decide +kernel
theorem dX1_part_24 : decode cX1_part 24 = .ok (.ireturn, 1) := by decide +kernel
end
section
theorem dX1_part_25 : decode cX1_part 25 = .ok (.iinc 3 1, 3) := by decide +kernel
theorem dX1_part_28 : decode cX1_part 28 = .ok (.goto (-26), 3) := by decide +kernel
theorem dX1_part_31 : decode cX1_part 31 = .ok (.iconst (-1), 1) := by decide +kernel
theorem dX1_part_32 : decode cX1_part 32 = .ok (.ireturn, 1) := by decide +kernel
set_option maxRecDepth 20000 in
theorem ggX1_product_X1_part : GoodIn wsX1_product wsX1_part := goodIn_r _ [6, 7, 8, 9, 5, 10] (by decide +kernel) (by decide +kernel)
set_option maxRecDepth 20000 in
theorem gX1_product_X1_part : GoodIn wsX1_product (wsV RX1 32 RX1 yX1_part wsX1_part) := goodIn_app (goodIn_of _ (by decide +kernel)) ggX1_product_X1_part
set_option maxRecDepth 20000 in
theorem ggX1_product_X1_times : GoodIn wsX1_product wsX1_times := goodIn_r _ [10] (by decide +kernel) (by decide +kernel)
set_option maxRecDepth 20000 in
theorem gX1_product_X1_times : GoodIn wsX1_product (wsV RX1 28 RX1 yX1_times wsX1_times) := goodIn_app (goodIn_of _ (by decide +kernel)) ggX1_product_X1_times
theorem dX1_product_0 : decode cX1_product 0 = .ok (.aload_n 0, 1) := by decide +kernel
theorem dX1_product_1 : decode cX1_product 1 = .ok (.iconst 0, 1) := by decide +kernel
theorem dX1_product_2 : decode cX1_product 2 = .ok (.putfield 21, 3) := by decide +kernel
theorem dX1_product_5 : decode cX1_product 5 = .ok (.iload_n 1, 1) := by decide +kernel
theorem dX1_product_6 : decode cX1_product 6 = .ok (.ifCond .lt 29, 3) := by decide +kernel
theorem dX1_product_9 : decode cX1_product 9 = .ok (.iload_n 1, 1) := by decide +kernel
theorem dX1_product_10 : decode cX1_product 10 = .ok (.sipush 255, 3) := by decide +kernel
theorem dX1_product_13 : decode cX1_product 13 = .ok (.if_icmp .gt 22, 3) := by decide +kernel
theorem dX1_product_16 : decode cX1_product 16 = .ok (.iload_n 2, 1) := by decide +kernel
theorem dX1_product_17 : decode cX1_product 17 = .ok (.ifCond .lt 18, 3) := by decide +kernel
theorem dX1_product_20 : decode cX1_product 20 = .ok (.iload_n 2, 1) := by decide +kernel
theorem dX1_product_21 : decode cX1_product 21 = .ok (.sipush 255, 3) := by decide +kernel
theorem dX1_product_24 : decode cX1_product 24 = .ok (.if_icmp .gt 11, 3) := by decide +kernel
theorem dX1_product_27 : decode cX1_product 27 = .ok (.iload_n 3, 1) := by decide +kernel
theorem dX1_product_28 : decode cX1_product 28 = .ok (.ifCond .eq 9, 3) := by decide +kernel
theorem dX1_product_31 : decode cX1_product 31 = .ok (.iload_n 2, 1) := by decide +kernel
theorem dX1_product_32 : decode cX1_product 32 = .ok (.ifCond .ne 5, 3) := by decide +kernel
theorem dX1_product_35 : decode cX1_product 35 = .ok (.iconst (-1), 1) := by decide +kernel
theorem dX1_product_36 : decode cX1_product 36 = .ok (.ireturn, 1) := by decide +kernel
theorem dX1_product_37 : decode cX1_product 37 = .ok (.iload_n 3, 1) := by decide +kernel
theorem dX1_product_38 : decode cX1_product 38 = .ok (.ifCond .eq 12, 3) := by decide +kernel
theorem dX1_product_41 : decode cX1_product 41 = .ok (.aload_n 0, 1) := by decide +kernel
theorem dX1_product_42 : decode cX1_product 42 = .ok (.iload_n 1, 1) := by decide +kernel
theorem dX1_product_43 : decode cX1_product 43 = .ok (.iload_n 2, 1) := by decide +kernel
theorem dX1_product_44 : decode cX1_product 44 = .ok (.invokevirtual 32, 3) := by decide +kernel
theorem dX1_product_47 : decode cX1_product 47 = .ok (.goto 9, 3) := by decide +kernel
theorem dX1_product_50 : decode cX1_product 50 = .ok (.aload_n 0, 1) := by decide +kernel
theorem dX1_product_51 : decode cX1_product 51 = .ok (.iload_n 1, 1) := by decide +kernel
theorem dX1_product_52 : decode cX1_product 52 = .ok (.iload_n 2, 1) := by decide +kernel
theorem dX1_product_53 : decode cX1_product 53 = .ok (.invokevirtual 28, 3) := by decide +kernel
theorem dX1_product_56 : decode cX1_product 56 = .ok (.ireturn, 1) := by decide +kernel
set_option maxRecDepth 20000 in
theorem ggX1_power_X1_twos : GoodIn wsX1_power wsX1_twos := goodIn_r _ [6, 7, 8, 9, 5, 10] (by decide +kernel) (by decide +kernel)
set_option maxRecDepth 20000 in
theorem gX1_power_X1_twos : GoodIn wsX1_power (wsV RX1 35 RX1 yX1_twos wsX1_twos) := goodIn_app (goodIn_of _ (by decide +kernel)) ggX1_power_X1_twos
theorem dX1_power_0 : decode cX1_power 0 = .ok (.aload_n 0, 1) := by decide +kernel
theorem dX1_power_1 : decode cX1_power 1 = .ok (.iconst 0, 1) := by decide +kernel
theorem dX1_power_2 : decode cX1_power 2 = .ok (.putfield 21, 3) := by decide +kernel
theorem dX1_power_5 : decode cX1_power 5 = .ok (.iload_n 1, 1) := by decide +kernel
theorem dX1_power_6 : decode cX1_power 6 = .ok (.sipush 255, 3) := by decide +kernel
theorem dX1_power_9 : decode cX1_power 9 = .ok (.irem, 1) := by decide +kernel
theorem dX1_power_10 : decode cX1_power 10 = .ok (.istore_n 2, 1) := by decide +kernel
theorem dX1_power_11 : decode cX1_power 11 = .ok (.aload_n 0, 1) := by decide +kernel
theorem dX1_power_12 : decode cX1_power 12 = .ok (.iload_n 2, 1) := by decide +kernel
theorem dX1_power_13 : decode cX1_power 13 = .ok (.ifCond .ge 11, 3) := by decide +kernel
theorem dX1_power_16 : decode cX1_power 16 = .ok (.iload_n 2, 1) := by decide +kernel
theorem dX1_power_17 : decode cX1_power 17 = .ok (.sipush 255, 3) := by decide +kernel
theorem dX1_power_20 : decode cX1_power 20 = .ok (.iadd, 1) := by decide +kernel
theorem dX1_power_21 : decode cX1_power 21 = .ok (.goto 4, 3) := by decide +kernel
theorem dX1_power_24 : decode cX1_power 24 = .ok (.iload_n 2, 1) := by decide +kernel
theorem dX1_power_25 : decode cX1_power 25 = .ok (.invokevirtual 35, 3) := by decide +kernel
theorem dX1_power_28 : decode cX1_power 28 = .ok (.ireturn, 1) := by decide +kernel
theorem dX1_p_0 : decode cX1_p 0 = .ok (.aload_n 0, 1) := by decide +kernel
theorem dX1_p_1 : decode cX1_p 1 = .ok (.getfield 25, 3) := by decide +kernel
theorem dX1_p_4 : decode cX1_p 4 = .ok (.iconst 2, 1) := by decide +kernel
theorem dX1_p_5 : decode cX1_p 5 = .ok (.isub, 1) := by decide +kernel
theorem dX1_p_6 : decode cX1_p 6 = .ok (.ireturn, 1) := by decide +kernel
theorem dX1_q_0 : decode cX1_q 0 = .ok (.aload_n 0, 1) := by decide +kernel
theorem dX1_q_1 : decode cX1_q 1 = .ok (.getfield 25, 3) := by decide +kernel
theorem dX1_q_4 : decode cX1_q 4 = .ok (.iconst 1, 1) := by decide +kernel
theorem dX1_q_5 : decode cX1_q 5 = .ok (.isub, 1) := by decide +kernel
theorem dX1_q_6 : decode cX1_q 6 = .ok (.ireturn, 1) := by decide +kernel
theorem dX1_noUnit_0 : decode cX1_noUnit 0 = .ok (.iload_n 1, 1) := by decide +kernel
theorem dX1_noUnit_1 : decode cX1_noUnit 1 = .ok (.ifCond .lt 11, 3) := by decide +kernel
theorem dX1_noUnit_4 : decode cX1_noUnit 4 = .ok (.iload_n 1, 1) := by decide +kernel
theorem dX1_noUnit_5 : decode cX1_noUnit 5 = .ok (.aload_n 0, 1) := by decide +kernel
theorem dX1_noUnit_6 : decode cX1_noUnit 6 = .ok (.getfield 25, 3) := by decide +kernel
theorem dX1_noUnit_9 : decode cX1_noUnit 9 = .ok (.if_icmp .lt 7, 3) := by decide +kernel
theorem dX1_noUnit_12 : decode cX1_noUnit 12 = .ok (.iconst 1, 1) := by decide +kernel
theorem dX1_noUnit_13 : decode cX1_noUnit 13 = .ok (.goto 4, 3) := by decide +kernel
theorem dX1_noUnit_16 : decode cX1_noUnit 16 = .ok (.iconst 0, 1) := by decide +kernel
theorem dX1_noUnit_17 : decode cX1_noUnit 17 = .ok (.ireturn, 1) := by decide +kernel
theorem dX1_manyLost_0 : decode cX1_manyLost 0 = .ok (.iconst 0, 1) := by decide +kernel
theorem dX1_manyLost_1 : decode cX1_manyLost 1 = .ok (.istore_n 1, 1) := by decide +kernel
theorem dX1_manyLost_2 : decode cX1_manyLost 2 = .ok (.iconst 0, 1) := by decide +kernel
theorem dX1_manyLost_3 : decode cX1_manyLost 3 = .ok (.istore_n 2, 1) := by decide +kernel
theorem dX1_manyLost_4 : decode cX1_manyLost 4 = .ok (.iload_n 2, 1) := by decide +kernel
theorem dX1_manyLost_5 : decode cX1_manyLost 5 = .ok (.aload_n 0, 1) := by decide +kernel
theorem dX1_manyLost_6 : decode cX1_manyLost 6 = .ok (.getfield 25, 3) := by decide +kernel
theorem dX1_manyLost_9 : decode cX1_manyLost 9 = .ok (.if_icmp .ge 26, 3) := by decide +kernel
theorem dX1_manyLost_12 : decode cX1_manyLost 12 = .ok (.iload_n 1, 1) := by decide +kernel
theorem dX1_manyLost_13 : decode cX1_manyLost 13 = .ok (.aload_n 0, 1) := by decide +kernel
theorem dX1_manyLost_14 : decode cX1_manyLost 14 = .ok (.getfield 13, 3) := by decide +kernel
theorem dX1_manyLost_17 : decode cX1_manyLost 17 = .ok (.iload_n 2, 1) := by decide +kernel
theorem dX1_manyLost_18 : decode cX1_manyLost 18 = .ok (.baload, 1) := by decide +kernel
theorem dX1_manyLost_19 : decode cX1_manyLost 19 = .ok (.ifCond .eq 7, 3) := by decide +kernel
theorem dX1_manyLost_22 : decode cX1_manyLost 22 = .ok (.iconst 1, 1) := by decide +kernel
theorem dX1_manyLost_23 : decode cX1_manyLost 23 = .ok (.goto 4, 3) := by decide +kernel
theorem dX1_manyLost_26 : decode cX1_manyLost 26 = .ok (.iconst 0, 1) := by decide +kernel
theorem dX1_manyLost_27 : decode cX1_manyLost 27 = .ok (.iadd, 1) := by decide +kernel
theorem dX1_manyLost_28 : decode cX1_manyLost 28 = .ok (.istore_n 1, 1) := by decide +kernel
theorem dX1_manyLost_29 : decode cX1_manyLost 29 = .ok (.iinc 2 1, 3) := by decide +kernel
theorem dX1_manyLost_32 : decode cX1_manyLost 32 = .ok (.goto (-28), 3) := by decide +kernel
theorem dX1_manyLost_35 : decode cX1_manyLost 35 = .ok (.iload_n 1, 1) := by decide +kernel
theorem dX1_manyLost_36 : decode cX1_manyLost 36 = .ok (.ireturn, 1) := by decide +kernel
set_option maxRecDepth 20000 in
theorem ggX1_put_X1_p : GoodIn wsX1_put wsX1_p := goodIn_r _ [9, 10, 23, 24, 25, 26] (by decide +kernel) (by decide +kernel)
set_option maxRecDepth 20000 in
theorem gX1_put_X1_p : GoodIn wsX1_put (wsV RX1 38 RX1 yX1_p wsX1_p) := goodIn_app (goodIn_of _ (by decide +kernel)) ggX1_put_X1_p
set_option maxRecDepth 20000 in
theorem ggX1_put_X1_q : GoodIn wsX1_put wsX1_q := goodIn_r _ [14, 10, 23, 24, 25, 26] (by decide +kernel) (by decide +kernel)
set_option maxRecDepth 20000 in
theorem gX1_put_X1_q : GoodIn wsX1_put (wsV RX1 44 RX1 yX1_q wsX1_q) := goodIn_app (goodIn_of _ (by decide +kernel)) ggX1_put_X1_q
set_option maxRecDepth 20000 in
theorem ggX1_put_X1_twos : GoodIn wsX1_put wsX1_twos := goodIn_r _ [18, 19, 20, 21, 8, 22] (by decide +kernel) (by decide +kernel)
set_option maxRecDepth 20000 in
theorem gX1_put_X1_twos : GoodIn wsX1_put (wsV RX1 35 RX1 yX1_twos wsX1_twos) := goodIn_app (goodIn_of _ (by decide +kernel)) ggX1_put_X1_twos
set_option maxRecDepth 20000 in
theorem ggX1_put_X1_times : GoodIn wsX1_put wsX1_times := goodIn_r _ [22] (by decide +kernel) (by decide +kernel)
set_option maxRecDepth 20000 in
theorem gX1_put_X1_times : GoodIn wsX1_put (wsV RX1 28 RX1 yX1_times wsX1_times) := goodIn_app (goodIn_of _ (by decide +kernel)) ggX1_put_X1_times
theorem dX1_put_0 : decode cX1_put 0 = .ok (.aload_n 0, 1) := by decide +kernel
theorem dX1_put_1 : decode cX1_put 1 = .ok (.iconst 0, 1) := by decide +kernel
theorem dX1_put_2 : decode cX1_put 2 = .ok (.putfield 21, 3) := by decide +kernel
theorem dX1_put_5 : decode cX1_put 5 = .ok (.iload_n 1, 1) := by decide +kernel
theorem dX1_put_6 : decode cX1_put 6 = .ok (.ifCond .lt 43, 3) := by decide +kernel
theorem dX1_put_9 : decode cX1_put 9 = .ok (.iload_n 1, 1) := by decide +kernel
theorem dX1_put_10 : decode cX1_put 10 = .ok (.aload_n 0, 1) := by decide +kernel
theorem dX1_put_11 : decode cX1_put 11 = .ok (.invokevirtual 38, 3) := by decide +kernel
theorem dX1_put_14 : decode cX1_put 14 = .ok (.if_icmp .ge 35, 3) := by decide +kernel
theorem dX1_put_17 : decode cX1_put 17 = .ok (.aload_n 0, 1) := by decide +kernel
theorem dX1_put_18 : decode cX1_put 18 = .ok (.getfield 13, 3) := by decide +kernel
theorem dX1_put_21 : decode cX1_put 21 = .ok (.iload_n 1, 1) := by decide +kernel
theorem dX1_put_22 : decode cX1_put 22 = .ok (.baload, 1) := by decide +kernel
theorem dX1_put_23 : decode cX1_put 23 = .ok (.ifCond .ne 26, 3) := by decide +kernel
theorem dX1_put_26 : decode cX1_put 26 = .ok (.iload_n 3, 1) := by decide +kernel
theorem dX1_put_27 : decode cX1_put 27 = .ok (.iconst 1, 1) := by decide +kernel
theorem dX1_put_28 : decode cX1_put 28 = .ok (.if_icmp .lt 21, 3) := by decide +kernel
theorem dX1_put_31 : decode cX1_put 31 = .ok (.iload_n 3, 1) := by decide +kernel
theorem dX1_put_32 : decode cX1_put 32 = .ok (.bipush 8, 2) := by decide +kernel
theorem dX1_put_34 : decode cX1_put 34 = .ok (.if_icmp .gt 15, 3) := by decide +kernel
theorem dX1_put_37 : decode cX1_put 37 = .ok (.iload_n 2, 1) := by decide +kernel
theorem dX1_put_38 : decode cX1_put 38 = .ok (.ifCond .lt 11, 3) := by decide +kernel
theorem dX1_put_41 : decode cX1_put 41 = .ok (.iload_n 2, 1) := by decide +kernel
theorem dX1_put_42 : decode cX1_put 42 = .ok (.bipush 64, 2) := by decide +kernel
theorem dX1_put_44 : decode cX1_put 44 = .ok (.iload_n 3, 1) := by decide +kernel
theorem dX1_put_45 : decode cX1_put 45 = .ok (.isub, 1) := by decide +kernel
theorem dX1_put_46 : decode cX1_put 46 = .ok (.if_icmp .le 5, 3) := by decide +kernel
theorem dX1_put_49 : decode cX1_put 49 = .ok (.iconst (-1), 1) := by decide +kernel
theorem dX1_put_50 : decode cX1_put 50 = .ok (.ireturn, 1) := by decide +kernel
theorem dX1_put_51 : decode cX1_put 51 = .ok (.iconst 0, 1) := by decide +kernel
theorem dX1_put_52 : decode cX1_put 52 = .ok (.istore 6, 2) := by decide +kernel
theorem dX1_put_54 : decode cX1_put 54 = .ok (.iload 6, 2) := by decide +kernel
theorem dX1_put_56 : decode cX1_put 56 = .ok (.iload_n 3, 1) := by decide +kernel
theorem dX1_put_57 : decode cX1_put 57 = .ok (.if_icmp .ge 110, 3) := by decide +kernel
theorem dX1_put_60 : decode cX1_put 60 = .ok (.iload_n 2, 1) := by decide +kernel
theorem dX1_put_61 : decode cX1_put 61 = .ok (.iload 6, 2) := by decide +kernel
theorem dX1_put_63 : decode cX1_put 63 = .ok (.iadd, 1) := by decide +kernel
theorem dX1_put_64 : decode cX1_put 64 = .ok (.istore 7, 2) := by decide +kernel
theorem dX1_put_66 : decode cX1_put 66 = .ok (.lload 4, 2) := by decide +kernel
theorem dX1_put_68 : decode cX1_put 68 = .ok (.bipush 8, 2) := by decide +kernel
theorem dX1_put_70 : decode cX1_put 70 = .ok (.iload 6, 2) := by decide +kernel
theorem dX1_put_72 : decode cX1_put 72 = .ok (.imul, 1) := by decide +kernel
theorem dX1_put_73 : decode cX1_put 73 = .ok (.lshr, 1) := by decide +kernel
theorem dX1_put_74 : decode cX1_put 74 = .ok (.ldc2_w 42, 3) := by decide +kernel
theorem dX1_put_77 : decode cX1_put 77 = .ok (.land, 1) := by decide +kernel
theorem dX1_put_78 : decode cX1_put 78 = .ok (.l2i, 1) := by decide +kernel
theorem dX1_put_79 : decode cX1_put 79 = .ok (.istore 8, 2) := by decide +kernel
theorem dX1_put_81 : decode cX1_put 81 = .ok (.aload_n 0, 1) := by decide +kernel
theorem dX1_put_82 : decode cX1_put 82 = .ok (.getfield 7, 3) := by decide +kernel
theorem dX1_put_85 : decode cX1_put 85 = .ok (.bipush 64, 2) := by decide +kernel
theorem dX1_put_87 : decode cX1_put 87 = .ok (.iload_n 1, 1) := by decide +kernel
theorem dX1_put_88 : decode cX1_put 88 = .ok (.imul, 1) := by decide +kernel
theorem dX1_put_89 : decode cX1_put 89 = .ok (.iload 7, 2) := by decide +kernel
theorem dX1_put_91 : decode cX1_put 91 = .ok (.iadd, 1) := by decide +kernel
theorem dX1_put_92 : decode cX1_put 92 = .ok (.iaload, 1) := by decide +kernel
theorem dX1_put_93 : decode cX1_put 93 = .ok (.iload 8, 2) := by decide +kernel
theorem dX1_put_95 : decode cX1_put 95 = .ok (.ixor, 1) := by decide +kernel
theorem dX1_put_96 : decode cX1_put 96 = .ok (.istore 9, 2) := by decide +kernel
theorem dX1_put_98 : decode cX1_put 98 = .ok (.aload_n 0, 1) := by decide +kernel
theorem dX1_put_99 : decode cX1_put 99 = .ok (.getfield 7, 3) := by decide +kernel
theorem dX1_put_102 : decode cX1_put 102 = .ok (.bipush 64, 2) := by decide +kernel
theorem dX1_put_104 : decode cX1_put 104 = .ok (.iload_n 1, 1) := by decide +kernel
theorem dX1_put_105 : decode cX1_put 105 = .ok (.imul, 1) := by decide +kernel
theorem dX1_put_106 : decode cX1_put 106 = .ok (.iload 7, 2) := by decide +kernel
theorem dX1_put_108 : decode cX1_put 108 = .ok (.iadd, 1) := by decide +kernel
theorem dX1_put_109 : decode cX1_put 109 = .ok (.iload 8, 2) := by decide +kernel
theorem dX1_put_111 : decode cX1_put 111 = .ok (.iastore, 1) := by decide +kernel
theorem dX1_put_112 : decode cX1_put 112 = .ok (.aload_n 0, 1) := by decide +kernel
theorem dX1_put_113 : decode cX1_put 113 = .ok (.getfield 7, 3) := by decide +kernel
theorem dX1_put_116 : decode cX1_put 116 = .ok (.bipush 64, 2) := by decide +kernel
theorem dX1_put_118 : decode cX1_put 118 = .ok (.aload_n 0, 1) := by decide +kernel
theorem dX1_put_119 : decode cX1_put 119 = .ok (.invokevirtual 38, 3) := by decide +kernel
theorem dX1_put_122 : decode cX1_put 122 = .ok (.imul, 1) := by decide +kernel
theorem dX1_put_123 : decode cX1_put 123 = .ok (.iload 7, 2) := by decide +kernel
theorem dX1_put_125 : decode cX1_put 125 = .ok (.iadd, 1) := by decide +kernel
theorem dX1_put_126 : decode cX1_put 126 = .ok (.dup2, 1) := by decide +kernel
theorem dX1_put_127 : decode cX1_put 127 = .ok (.iaload, 1) := by decide +kernel
theorem dX1_put_128 : decode cX1_put 128 = .ok (.iload 9, 2) := by decide +kernel
theorem dX1_put_130 : decode cX1_put 130 = .ok (.ixor, 1) := by decide +kernel
theorem dX1_put_131 : decode cX1_put 131 = .ok (.iastore, 1) := by decide +kernel
theorem dX1_put_132 : decode cX1_put 132 = .ok (.aload_n 0, 1) := by decide +kernel
theorem dX1_put_133 : decode cX1_put 133 = .ok (.getfield 7, 3) := by decide +kernel
theorem dX1_put_136 : decode cX1_put 136 = .ok (.bipush 64, 2) := by decide +kernel
theorem dX1_put_138 : decode cX1_put 138 = .ok (.aload_n 0, 1) := by decide +kernel
theorem dX1_put_139 : decode cX1_put 139 = .ok (.invokevirtual 44, 3) := by decide +kernel
theorem dX1_put_142 : decode cX1_put 142 = .ok (.imul, 1) := by decide +kernel
theorem dX1_put_143 : decode cX1_put 143 = .ok (.iload 7, 2) := by decide +kernel
theorem dX1_put_145 : decode cX1_put 145 = .ok (.iadd, 1) := by decide +kernel
theorem dX1_put_146 : decode cX1_put 146 = .ok (.dup2, 1) := by decide +kernel
theorem dX1_put_147 : decode cX1_put 147 = .ok (.iaload, 1) := by decide +kernel
theorem dX1_put_148 : decode cX1_put 148 = .ok (.aload_n 0, 1) := by decide +kernel
theorem dX1_put_149 : decode cX1_put 149 = .ok (.iload 9, 2) := by decide +kernel
theorem dX1_put_151 : decode cX1_put 151 = .ok (.aload_n 0, 1) := by decide +kernel
theorem dX1_put_152 : decode cX1_put 152 = .ok (.iload_n 1, 1) := by decide +kernel
theorem dX1_put_153 : decode cX1_put 153 = .ok (.invokevirtual 35, 3) := by decide +kernel
theorem dX1_put_156 : decode cX1_put 156 = .ok (.invokevirtual 28, 3) := by decide +kernel
theorem dX1_put_159 : decode cX1_put 159 = .ok (.ixor, 1) := by decide +kernel
theorem dX1_put_160 : decode cX1_put 160 = .ok (.iastore, 1) := by decide +kernel
theorem dX1_put_161 : decode cX1_put 161 = .ok (.iinc 6 1, 3) := by decide +kernel
theorem dX1_put_164 : decode cX1_put 164 = .ok (.goto (-110), 3) := by decide +kernel
theorem dX1_put_167 : decode cX1_put 167 = .ok (.iload_n 3, 1) := by decide +kernel
theorem dX1_put_168 : decode cX1_put 168 = .ok (.ireturn, 1) := by decide +kernel
set_option maxRecDepth 20000 in
theorem ggX1_spoil_X1_noUnit : GoodIn wsX1_spoil wsX1_noUnit := goodIn_r _ [9, 10, 11, 12, 13, 14] (by decide +kernel) (by decide +kernel)
set_option maxRecDepth 20000 in
theorem gX1_spoil_X1_noUnit : GoodIn wsX1_spoil (wsV RX1 47 RX1 yX1_noUnit wsX1_noUnit) := goodIn_app (goodIn_of _ (by decide +kernel)) ggX1_spoil_X1_noUnit
theorem dX1_spoil_0 : decode cX1_spoil 0 = .ok (.aload_n 0, 1) := by decide +kernel
theorem dX1_spoil_1 : decode cX1_spoil 1 = .ok (.iconst 0, 1) := by decide +kernel
theorem dX1_spoil_2 : decode cX1_spoil 2 = .ok (.putfield 21, 3) := by decide +kernel
theorem dX1_spoil_5 : decode cX1_spoil 5 = .ok (.aload_n 0, 1) := by decide +kernel
theorem dX1_spoil_6 : decode cX1_spoil 6 = .ok (.iload_n 1, 1) := by decide +kernel
theorem dX1_spoil_7 : decode cX1_spoil 7 = .ok (.invokevirtual 47, 3) := by decide +kernel
theorem dX1_spoil_10 : decode cX1_spoil 10 = .ok (.ifCond .ne 35, 3) := by decide +kernel
theorem dX1_spoil_13 : decode cX1_spoil 13 = .ok (.aload_n 0, 1) := by decide +kernel
theorem dX1_spoil_14 : decode cX1_spoil 14 = .ok (.getfield 13, 3) := by decide +kernel
theorem dX1_spoil_17 : decode cX1_spoil 17 = .ok (.iload_n 1, 1) := by decide +kernel
theorem dX1_spoil_18 : decode cX1_spoil 18 = .ok (.baload, 1) := by decide +kernel
theorem dX1_spoil_19 : decode cX1_spoil 19 = .ok (.ifCond .ne 26, 3) := by decide +kernel
theorem dX1_spoil_22 : decode cX1_spoil 22 = .ok (.iload_n 3, 1) := by decide +kernel
theorem dX1_spoil_23 : decode cX1_spoil 23 = .ok (.iconst 1, 1) := by decide +kernel
theorem dX1_spoil_24 : decode cX1_spoil 24 = .ok (.if_icmp .lt 21, 3) := by decide +kernel
theorem dX1_spoil_27 : decode cX1_spoil 27 = .ok (.iload_n 3, 1) := by decide +kernel
theorem dX1_spoil_28 : decode cX1_spoil 28 = .ok (.bipush 64, 2) := by decide +kernel
theorem dX1_spoil_30 : decode cX1_spoil 30 = .ok (.if_icmp .gt 15, 3) := by decide +kernel
theorem dX1_spoil_33 : decode cX1_spoil 33 = .ok (.iload_n 2, 1) := by decide +kernel
theorem dX1_spoil_34 : decode cX1_spoil 34 = .ok (.ifCond .lt 11, 3) := by decide +kernel
theorem dX1_spoil_37 : decode cX1_spoil 37 = .ok (.iload_n 2, 1) := by decide +kernel
theorem dX1_spoil_38 : decode cX1_spoil 38 = .ok (.bipush 64, 2) := by decide +kernel
theorem dX1_spoil_40 : decode cX1_spoil 40 = .ok (.iload_n 3, 1) := by decide +kernel
theorem dX1_spoil_41 : decode cX1_spoil 41 = .ok (.isub, 1) := by decide +kernel
theorem dX1_spoil_42 : decode cX1_spoil 42 = .ok (.if_icmp .le 5, 3) := by decide +kernel
theorem dX1_spoil_45 : decode cX1_spoil 45 = .ok (.iconst (-1), 1) := by decide +kernel
theorem dX1_spoil_46 : decode cX1_spoil 46 = .ok (.ireturn, 1) := by decide +kernel
theorem dX1_spoil_47 : decode cX1_spoil 47 = .ok (.iload 4, 2) := by decide +kernel
theorem dX1_spoil_49 : decode cX1_spoil 49 = .ok (.istore 5, 2) := by decide +kernel
theorem dX1_spoil_51 : decode cX1_spoil 51 = .ok (.iconst 0, 1) := by decide +kernel
theorem dX1_spoil_52 : decode cX1_spoil 52 = .ok (.istore 6, 2) := by decide +kernel
theorem dX1_spoil_54 : decode cX1_spoil 54 = .ok (.iload 6, 2) := by decide +kernel
theorem dX1_spoil_56 : decode cX1_spoil 56 = .ok (.iload_n 3, 1) := by decide +kernel
theorem dX1_spoil_57 : decode cX1_spoil 57 = .ok (.if_icmp .ge 43, 3) := by decide +kernel
theorem dX1_spoil_60 : decode cX1_spoil 60 = .ok (.ldc 51, 2) := by decide +kernel
theorem dX1_spoil_62 : decode cX1_spoil 62 = .ok (.iload 5, 2) := by decide +kernel
theorem dX1_spoil_64 : decode cX1_spoil 64 = .ok (.imul, 1) := by decide +kernel
theorem dX1_spoil_65 : decode cX1_spoil 65 = .ok (.sipush 12345, 3) := by decide +kernel
theorem dX1_spoil_68 : decode cX1_spoil 68 = .ok (.iadd, 1) := by decide +kernel
theorem dX1_spoil_69 : decode cX1_spoil 69 = .ok (.istore 5, 2) := by decide +kernel
theorem dX1_spoil_71 : decode cX1_spoil 71 = .ok (.aload_n 0, 1) := by decide +kernel
theorem dX1_spoil_72 : decode cX1_spoil 72 = .ok (.getfield 7, 3) := by decide +kernel
theorem dX1_spoil_75 : decode cX1_spoil 75 = .ok (.bipush 64, 2) := by decide +kernel
theorem dX1_spoil_77 : decode cX1_spoil 77 = .ok (.iload_n 1, 1) := by decide +kernel
theorem dX1_spoil_78 : decode cX1_spoil 78 = .ok (.imul, 1) := by decide +kernel
theorem dX1_spoil_79 : decode cX1_spoil 79 = .ok (.iload_n 2, 1) := by decide +kernel
theorem dX1_spoil_80 : decode cX1_spoil 80 = .ok (.iadd, 1) := by decide +kernel
theorem dX1_spoil_81 : decode cX1_spoil 81 = .ok (.iload 6, 2) := by decide +kernel
theorem dX1_spoil_83 : decode cX1_spoil 83 = .ok (.iadd, 1) := by decide +kernel
theorem dX1_spoil_84 : decode cX1_spoil 84 = .ok (.iload 5, 2) := by decide +kernel
theorem dX1_spoil_86 : decode cX1_spoil 86 = .ok (.bipush 16, 2) := by decide +kernel
theorem dX1_spoil_88 : decode cX1_spoil 88 = .ok (.ishr, 1) := by decide +kernel
theorem dX1_spoil_89 : decode cX1_spoil 89 = .ok (.sipush 255, 3) := by decide +kernel
theorem dX1_spoil_92 : decode cX1_spoil 92 = .ok (.iand, 1) := by decide +kernel
theorem dX1_spoil_93 : decode cX1_spoil 93 = .ok (.iastore, 1) := by decide +kernel
theorem dX1_spoil_94 : decode cX1_spoil 94 = .ok (.iinc 6 1, 3) := by decide +kernel
theorem dX1_spoil_97 : decode cX1_spoil 97 = .ok (.goto (-43), 3) := by decide +kernel
theorem dX1_spoil_100 : decode cX1_spoil 100 = .ok (.iload_n 3, 1) := by decide +kernel
theorem dX1_spoil_101 : decode cX1_spoil 101 = .ok (.ireturn, 1) := by decide +kernel
set_option maxRecDepth 20000 in
theorem ggX1_sumAt_X1_p : GoodIn wsX1_sumAt wsX1_p := goodIn_r _ [7, 8, 17, 18, 19, 20] (by decide +kernel) (by decide +kernel)
set_option maxRecDepth 20000 in
theorem gX1_sumAt_X1_p : GoodIn wsX1_sumAt (wsV RX1 38 RX1 yX1_p wsX1_p) := goodIn_app (goodIn_of _ (by decide +kernel)) ggX1_sumAt_X1_p
set_option maxRecDepth 20000 in
theorem ggX1_sumAt_X1_twos : GoodIn wsX1_sumAt wsX1_twos := goodIn_r _ [12, 13, 14, 15, 6, 16] (by decide +kernel) (by decide +kernel)
set_option maxRecDepth 20000 in
theorem gX1_sumAt_X1_twos : GoodIn wsX1_sumAt (wsV RX1 35 RX1 yX1_twos wsX1_twos) := goodIn_app (goodIn_of _ (by decide +kernel)) ggX1_sumAt_X1_twos
set_option maxRecDepth 20000 in
theorem ggX1_sumAt_X1_times : GoodIn wsX1_sumAt wsX1_times := goodIn_r _ [16] (by decide +kernel) (by decide +kernel)
set_option maxRecDepth 20000 in
theorem gX1_sumAt_X1_times : GoodIn wsX1_sumAt (wsV RX1 28 RX1 yX1_times wsX1_times) := goodIn_app (goodIn_of _ (by decide +kernel)) ggX1_sumAt_X1_times
theorem dX1_sumAt_0 : decode cX1_sumAt 0 = .ok (.iconst 0, 1) := by decide +kernel
theorem dX1_sumAt_1 : decode cX1_sumAt 1 = .ok (.istore_n 3, 1) := by decide +kernel
theorem dX1_sumAt_2 : decode cX1_sumAt 2 = .ok (.iconst 0, 1) := by decide +kernel
theorem dX1_sumAt_3 : decode cX1_sumAt 3 = .ok (.istore 4, 2) := by decide +kernel
theorem dX1_sumAt_5 : decode cX1_sumAt 5 = .ok (.iload 4, 2) := by decide +kernel
theorem dX1_sumAt_7 : decode cX1_sumAt 7 = .ok (.aload_n 0, 1) := by decide +kernel
theorem dX1_sumAt_8 : decode cX1_sumAt 8 = .ok (.invokevirtual 38, 3) := by decide +kernel
theorem dX1_sumAt_11 : decode cX1_sumAt 11 = .ok (.if_icmp .ge 61, 3) := by decide +kernel
theorem dX1_sumAt_14 : decode cX1_sumAt 14 = .ok (.aload_n 0, 1) := by decide +kernel
theorem dX1_sumAt_15 : decode cX1_sumAt 15 = .ok (.getfield 13, 3) := by decide +kernel
theorem dX1_sumAt_18 : decode cX1_sumAt 18 = .ok (.iload 4, 2) := by decide +kernel
theorem dX1_sumAt_20 : decode cX1_sumAt 20 = .ok (.baload, 1) := by decide +kernel
theorem dX1_sumAt_21 : decode cX1_sumAt 21 = .ok (.ifCond .eq 7, 3) := by decide +kernel
theorem dX1_sumAt_24 : decode cX1_sumAt 24 = .ok (.iconst 0, 1) := by decide +kernel
theorem dX1_sumAt_25 : decode cX1_sumAt 25 = .ok (.goto 15, 3) := by decide +kernel
theorem dX1_sumAt_28 : decode cX1_sumAt 28 = .ok (.aload_n 0, 1) := by decide +kernel
theorem dX1_sumAt_29 : decode cX1_sumAt 29 = .ok (.getfield 7, 3) := by decide +kernel
theorem dX1_sumAt_32 : decode cX1_sumAt 32 = .ok (.bipush 64, 2) := by decide +kernel
theorem dX1_sumAt_34 : decode cX1_sumAt 34 = .ok (.iload 4, 2) := by decide +kernel
theorem dX1_sumAt_36 : decode cX1_sumAt 36 = .ok (.imul, 1) := by decide +kernel
theorem dX1_sumAt_37 : decode cX1_sumAt 37 = .ok (.iload_n 1, 1) := by decide +kernel
theorem dX1_sumAt_38 : decode cX1_sumAt 38 = .ok (.iadd, 1) := by decide +kernel
theorem dX1_sumAt_39 : decode cX1_sumAt 39 = .ok (.iaload, 1) := by decide +kernel
theorem dX1_sumAt_40 : decode cX1_sumAt 40 = .ok (.istore 5, 2) := by decide +kernel
theorem dX1_sumAt_42 : decode cX1_sumAt 42 = .ok (.iload_n 3, 1) := by decide +kernel
theorem dX1_sumAt_43 : decode cX1_sumAt 43 = .ok (.iload_n 2, 1) := by decide +kernel
theorem dX1_sumAt_44 : decode cX1_sumAt 44 = .ok (.ifCond .eq 18, 3) := by decide +kernel
theorem dX1_sumAt_47 : decode cX1_sumAt 47 = .ok (.aload_n 0, 1) := by decide +kernel
theorem dX1_sumAt_48 : decode cX1_sumAt 48 = .ok (.iload 5, 2) := by decide +kernel
theorem dX1_sumAt_50 : decode cX1_sumAt 50 = .ok (.aload_n 0, 1) := by decide +kernel
theorem dX1_sumAt_51 : decode cX1_sumAt 51 = .ok (.iload 4, 2) := by decide +kernel
theorem dX1_sumAt_53 : decode cX1_sumAt 53 = .ok (.invokevirtual 35, 3) := by decide +kernel
theorem dX1_sumAt_56 : decode cX1_sumAt 56 = .ok (.invokevirtual 28, 3) := by decide +kernel
theorem dX1_sumAt_59 : decode cX1_sumAt 59 = .ok (.goto 5, 3) := by decide +kernel
theorem dX1_sumAt_62 : decode cX1_sumAt 62 = .ok (.iload 5, 2) := by decide +kernel
theorem dX1_sumAt_64 : decode cX1_sumAt 64 = .ok (.ixor, 1) := by decide +kernel
theorem dX1_sumAt_65 : decode cX1_sumAt 65 = .ok (.istore_n 3, 1) := by decide +kernel
theorem dX1_sumAt_66 : decode cX1_sumAt 66 = .ok (.iinc 4 1, 3) := by decide +kernel
theorem dX1_sumAt_69 : decode cX1_sumAt 69 = .ok (.goto (-64), 3) := by decide +kernel
theorem dX1_sumAt_72 : decode cX1_sumAt 72 = .ok (.iload_n 3, 1) := by decide +kernel
theorem dX1_sumAt_73 : decode cX1_sumAt 73 = .ok (.ireturn, 1) := by decide +kernel
set_option maxRecDepth 20000 in
theorem ggX1_make_X1_manyLost : GoodIn wsX1_make wsX1_manyLost := goodIn_r _ [7, 8, 9, 30, 31, 32, 33] (by decide +kernel) (by decide +kernel)
set_option maxRecDepth 20000 in
theorem gX1_make_X1_manyLost : GoodIn wsX1_make (wsV RX1 52 RX1 yX1_manyLost wsX1_manyLost) := goodIn_app (goodIn_of _ (by decide +kernel)) ggX1_make_X1_manyLost
set_option maxRecDepth 20000 in
theorem ggX1_make_X1_p : GoodIn wsX1_make wsX1_p := goodIn_r _ [13, 8, 30, 31, 32, 33] (by decide +kernel) (by decide +kernel)
set_option maxRecDepth 20000 in
theorem gX1_make_X1_p : GoodIn wsX1_make (wsV RX1 38 RX1 yX1_p wsX1_p) := goodIn_app (goodIn_of _ (by decide +kernel)) ggX1_make_X1_p
set_option maxRecDepth 20000 in
theorem ggX1_make_X1_sumAt : GoodIn wsX1_make wsX1_sumAt := goodIn_r _ [17, 9, 2, 10, 11, 12, 6, 13, 8, 18, 19, 20, 21, 22, 23, 24, 25, 30, 31, 32, 33] (by decide +kernel) (by decide +kernel)
set_option maxRecDepth 20000 in
theorem gX1_make_X1_sumAt : GoodIn wsX1_make (wsV RX1 55 RX1 yX1_sumAt wsX1_sumAt) := goodIn_app (goodIn_of _ (by decide +kernel)) ggX1_make_X1_sumAt
set_option maxRecDepth 20000 in
theorem ggX1_make_X1_q : GoodIn wsX1_make wsX1_q := goodIn_r _ [29, 8, 30, 31, 32, 33] (by decide +kernel) (by decide +kernel)
set_option maxRecDepth 20000 in
theorem gX1_make_X1_q : GoodIn wsX1_make (wsV RX1 44 RX1 yX1_q wsX1_q) := goodIn_app (goodIn_of _ (by decide +kernel)) ggX1_make_X1_q
theorem dX1_make_0 : decode cX1_make 0 = .ok (.aload_n 0, 1) := by decide +kernel
theorem dX1_make_1 : decode cX1_make 1 = .ok (.iconst 0, 1) := by decide +kernel
theorem dX1_make_2 : decode cX1_make 2 = .ok (.putfield 21, 3) := by decide +kernel
theorem dX1_make_5 : decode cX1_make 5 = .ok (.aload_n 0, 1) := by decide +kernel
theorem dX1_make_6 : decode cX1_make 6 = .ok (.invokevirtual 52, 3) := by decide +kernel
theorem dX1_make_9 : decode cX1_make 9 = .ok (.ifCond .le 5, 3) := by decide +kernel
theorem dX1_make_12 : decode cX1_make 12 = .ok (.iconst (-1), 1) := by decide +kernel
theorem dX1_make_13 : decode cX1_make 13 = .ok (.ireturn, 1) := by decide +kernel
theorem dX1_make_14 : decode cX1_make 14 = .ok (.iconst 0, 1) := by decide +kernel
theorem dX1_make_15 : decode cX1_make 15 = .ok (.istore_n 1, 1) := by decide +kernel
theorem dX1_make_16 : decode cX1_make 16 = .ok (.iload_n 1, 1) := by decide +kernel
theorem dX1_make_17 : decode cX1_make 17 = .ok (.bipush 64, 2) := by decide +kernel
theorem dX1_make_19 : decode cX1_make 19 = .ok (.if_icmp .ge 49, 3) := by decide +kernel
theorem dX1_make_22 : decode cX1_make 22 = .ok (.aload_n 0, 1) := by decide +kernel
theorem dX1_make_23 : decode cX1_make 23 = .ok (.getfield 7, 3) := by decide +kernel
theorem dX1_make_26 : decode cX1_make 26 = .ok (.bipush 64, 2) := by decide +kernel
theorem dX1_make_28 : decode cX1_make 28 = .ok (.aload_n 0, 1) := by decide +kernel
theorem dX1_make_29 : decode cX1_make 29 = .ok (.invokevirtual 38, 3) := by decide +kernel
theorem dX1_make_32 : decode cX1_make 32 = .ok (.imul, 1) := by decide +kernel
theorem dX1_make_33 : decode cX1_make 33 = .ok (.iload_n 1, 1) := by decide +kernel
theorem dX1_make_34 : decode cX1_make 34 = .ok (.iadd, 1) := by decide +kernel
theorem dX1_make_35 : decode cX1_make 35 = .ok (.aload_n 0, 1) := by decide +kernel
theorem dX1_make_36 : decode cX1_make 36 = .ok (.iload_n 1, 1) := by decide +kernel
theorem dX1_make_37 : decode cX1_make 37 = .ok (.iconst 0, 1) := by decide +kernel
theorem dX1_make_38 : decode cX1_make 38 = .ok (.invokevirtual 55, 3) := by decide +kernel
theorem dX1_make_41 : decode cX1_make 41 = .ok (.iastore, 1) := by decide +kernel
theorem dX1_make_42 : decode cX1_make 42 = .ok (.aload_n 0, 1) := by decide +kernel
theorem dX1_make_43 : decode cX1_make 43 = .ok (.getfield 7, 3) := by decide +kernel
theorem dX1_make_46 : decode cX1_make 46 = .ok (.bipush 64, 2) := by decide +kernel
theorem dX1_make_48 : decode cX1_make 48 = .ok (.aload_n 0, 1) := by decide +kernel
theorem dX1_make_49 : decode cX1_make 49 = .ok (.invokevirtual 44, 3) := by decide +kernel
theorem dX1_make_52 : decode cX1_make 52 = .ok (.imul, 1) := by decide +kernel
theorem dX1_make_53 : decode cX1_make 53 = .ok (.iload_n 1, 1) := by decide +kernel
theorem dX1_make_54 : decode cX1_make 54 = .ok (.iadd, 1) := by decide +kernel
theorem dX1_make_55 : decode cX1_make 55 = .ok (.aload_n 0, 1) := by decide +kernel
theorem dX1_make_56 : decode cX1_make 56 = .ok (.iload_n 1, 1) := by decide +kernel
theorem dX1_make_57 : decode cX1_make 57 = .ok (.iconst 1, 1) := by decide +kernel
theorem dX1_make_58 : decode cX1_make 58 = .ok (.invokevirtual 55, 3) := by decide +kernel
theorem dX1_make_61 : decode cX1_make 61 = .ok (.iastore, 1) := by decide +kernel
theorem dX1_make_62 : decode cX1_make 62 = .ok (.iinc 1 1, 3) := by decide +kernel
theorem dX1_make_65 : decode cX1_make 65 = .ok (.goto (-49), 3) := by decide +kernel
theorem dX1_make_68 : decode cX1_make 68 = .ok (.iconst 0, 1) := by decide +kernel
theorem dX1_make_69 : decode cX1_make 69 = .ok (.ireturn, 1) := by decide +kernel
set_option maxRecDepth 20000 in
theorem ggX1_get_X1_noUnit : GoodIn wsX1_get wsX1_noUnit := goodIn_r _ [8, 9, 10, 11, 12, 13] (by decide +kernel) (by decide +kernel)
set_option maxRecDepth 20000 in
theorem gX1_get_X1_noUnit : GoodIn wsX1_get (wsV RX1 47 RX1 yX1_noUnit wsX1_noUnit) := goodIn_app (goodIn_of _ (by decide +kernel)) ggX1_get_X1_noUnit
theorem dX1_get_0 : decode cX1_get 0 = .ok (.aload_n 0, 1) := by decide +kernel
theorem dX1_get_1 : decode cX1_get 1 = .ok (.iconst 0, 1) := by decide +kernel
theorem dX1_get_2 : decode cX1_get 2 = .ok (.putfield 21, 3) := by decide +kernel
theorem dX1_get_5 : decode cX1_get 5 = .ok (.aload_n 0, 1) := by decide +kernel
theorem dX1_get_6 : decode cX1_get 6 = .ok (.iload_n 1, 1) := by decide +kernel
theorem dX1_get_7 : decode cX1_get 7 = .ok (.invokevirtual 47, 3) := by decide +kernel
theorem dX1_get_10 : decode cX1_get 10 = .ok (.ifCond .ne 22, 3) := by decide +kernel
theorem dX1_get_13 : decode cX1_get 13 = .ok (.aload_n 0, 1) := by decide +kernel
theorem dX1_get_14 : decode cX1_get 14 = .ok (.getfield 13, 3) := by decide +kernel
theorem dX1_get_17 : decode cX1_get 17 = .ok (.iload_n 1, 1) := by decide +kernel
theorem dX1_get_18 : decode cX1_get 18 = .ok (.baload, 1) := by decide +kernel
theorem dX1_get_19 : decode cX1_get 19 = .ok (.ifCond .ne 13, 3) := by decide +kernel
theorem dX1_get_22 : decode cX1_get 22 = .ok (.iload_n 2, 1) := by decide +kernel
theorem dX1_get_23 : decode cX1_get 23 = .ok (.ifCond .lt 9, 3) := by decide +kernel
theorem dX1_get_26 : decode cX1_get 26 = .ok (.iload_n 2, 1) := by decide +kernel
theorem dX1_get_27 : decode cX1_get 27 = .ok (.bipush 64, 2) := by decide +kernel
theorem dX1_get_29 : decode cX1_get 29 = .ok (.if_icmp .lt 7, 3) := by decide +kernel
theorem dX1_get_32 : decode cX1_get 32 = .ok (.iconst (-1), 1) := by decide +kernel
theorem dX1_get_33 : decode cX1_get 33 = .ok (.goto 14, 3) := by decide +kernel
theorem dX1_get_36 : decode cX1_get 36 = .ok (.aload_n 0, 1) := by decide +kernel
theorem dX1_get_37 : decode cX1_get 37 = .ok (.getfield 7, 3) := by decide +kernel
theorem dX1_get_40 : decode cX1_get 40 = .ok (.bipush 64, 2) := by decide +kernel
theorem dX1_get_42 : decode cX1_get 42 = .ok (.iload_n 1, 1) := by decide +kernel
theorem dX1_get_43 : decode cX1_get 43 = .ok (.imul, 1) := by decide +kernel
theorem dX1_get_44 : decode cX1_get 44 = .ok (.iload_n 2, 1) := by decide +kernel
theorem dX1_get_45 : decode cX1_get 45 = .ok (.iadd, 1) := by decide +kernel
theorem dX1_get_46 : decode cX1_get 46 = .ok (.iaload, 1) := by decide +kernel
theorem dX1_get_47 : decode cX1_get 47 = .ok (.ireturn, 1) := by decide +kernel
set_option maxRecDepth 20000 in
theorem ggX1_word_X1_noUnit : GoodIn wsX1_word wsX1_noUnit := goodIn_r _ [8, 9, 10, 11, 12, 13] (by decide +kernel) (by decide +kernel)
set_option maxRecDepth 20000 in
theorem gX1_word_X1_noUnit : GoodIn wsX1_word (wsV RX1 47 RX1 yX1_noUnit wsX1_noUnit) := goodIn_app (goodIn_of _ (by decide +kernel)) ggX1_word_X1_noUnit
theorem dX1_word_0 : decode cX1_word 0 = .ok (.aload_n 0, 1) := by decide +kernel
theorem dX1_word_1 : decode cX1_word 1 = .ok (.iconst 0, 1) := by decide +kernel
theorem dX1_word_2 : decode cX1_word 2 = .ok (.putfield 21, 3) := by decide +kernel
theorem dX1_word_5 : decode cX1_word 5 = .ok (.lconst 0, 1) := by decide +kernel
theorem dX1_word_6 : decode cX1_word 6 = .ok (.lstore_n 3, 1) := by decide +kernel
theorem dX1_word_7 : decode cX1_word 7 = .ok (.bipush 7, 2) := by decide +kernel
theorem dX1_word_9 : decode cX1_word 9 = .ok (.istore 5, 2) := by decide +kernel
theorem dX1_word_11 : decode cX1_word 11 = .ok (.iload 5, 2) := by decide +kernel
theorem dX1_word_13 : decode cX1_word 13 = .ok (.ifCond .lt 60, 3) := by decide +kernel
theorem dX1_word_16 : decode cX1_word 16 = .ok (.aload_n 0, 1) := by decide +kernel
theorem dX1_word_17 : decode cX1_word 17 = .ok (.iload_n 1, 1) := by decide +kernel
theorem dX1_word_18 : decode cX1_word 18 = .ok (.invokevirtual 47, 3) := by decide +kernel
theorem dX1_word_21 : decode cX1_word 21 = .ok (.ifCond .ne 52, 3) := by decide +kernel
theorem dX1_word_24 : decode cX1_word 24 = .ok (.aload_n 0, 1) := by decide +kernel
theorem dX1_word_25 : decode cX1_word 25 = .ok (.getfield 13, 3) := by decide +kernel
theorem dX1_word_28 : decode cX1_word 28 = .ok (.iload_n 1, 1) := by decide +kernel
theorem dX1_word_29 : decode cX1_word 29 = .ok (.baload, 1) := by decide +kernel
theorem dX1_word_30 : decode cX1_word 30 = .ok (.ifCond .ne 43, 3) := by decide +kernel
theorem dX1_word_33 : decode cX1_word 33 = .ok (.iload_n 2, 1) := by decide +kernel
theorem dX1_word_34 : decode cX1_word 34 = .ok (.ifCond .lt 39, 3) := by decide +kernel
theorem dX1_word_37 : decode cX1_word 37 = .ok (.iload_n 2, 1) := by decide +kernel
theorem dX1_word_38 : decode cX1_word 38 = .ok (.bipush 8, 2) := by decide +kernel
theorem dX1_word_40 : decode cX1_word 40 = .ok (.if_icmp .ge 33, 3) := by decide +kernel
theorem dX1_word_43 : decode cX1_word 43 = .ok (.lload_n 3, 1) := by decide +kernel
theorem dX1_word_44 : decode cX1_word 44 = .ok (.bipush 8, 2) := by decide +kernel
theorem dX1_word_46 : decode cX1_word 46 = .ok (.lshl, 1) := by decide +kernel
theorem dX1_word_47 : decode cX1_word 47 = .ok (.aload_n 0, 1) := by decide +kernel
theorem dX1_word_48 : decode cX1_word 48 = .ok (.getfield 7, 3) := by decide +kernel
theorem dX1_word_51 : decode cX1_word 51 = .ok (.bipush 64, 2) := by decide +kernel
theorem dX1_word_53 : decode cX1_word 53 = .ok (.iload_n 1, 1) := by decide +kernel
theorem dX1_word_54 : decode cX1_word 54 = .ok (.imul, 1) := by decide +kernel
theorem dX1_word_55 : decode cX1_word 55 = .ok (.bipush 8, 2) := by decide +kernel
theorem dX1_word_57 : decode cX1_word 57 = .ok (.iload_n 2, 1) := by decide +kernel
theorem dX1_word_58 : decode cX1_word 58 = .ok (.imul, 1) := by decide +kernel
theorem dX1_word_59 : decode cX1_word 59 = .ok (.iadd, 1) := by decide +kernel
theorem dX1_word_60 : decode cX1_word 60 = .ok (.iload 5, 2) := by decide +kernel
theorem dX1_word_62 : decode cX1_word 62 = .ok (.iadd, 1) := by decide +kernel
theorem dX1_word_63 : decode cX1_word 63 = .ok (.iaload, 1) := by decide +kernel
theorem dX1_word_64 : decode cX1_word 64 = .ok (.i2l, 1) := by decide +kernel
theorem dX1_word_65 : decode cX1_word 65 = .ok (.lor, 1) := by decide +kernel
theorem dX1_word_66 : decode cX1_word 66 = .ok (.lstore_n 3, 1) := by decide +kernel
theorem dX1_word_67 : decode cX1_word 67 = .ok (.iinc 5 (-1), 3) := by decide +kernel
theorem dX1_word_70 : decode cX1_word 70 = .ok (.goto (-59), 3) := by decide +kernel
theorem dX1_word_73 : decode cX1_word 73 = .ok (.lload_n 3, 1) := by decide +kernel
theorem dX1_word_74 : decode cX1_word 74 = .ok (.lreturn, 1) := by decide +kernel
set_option maxRecDepth 20000 in
theorem ggX1_lose_X1_noUnit : GoodIn wsX1_lose wsX1_noUnit := goodIn_r _ [7, 8, 13, 14, 15, 16] (by decide +kernel) (by decide +kernel)
set_option maxRecDepth 20000 in
theorem gX1_lose_X1_noUnit : GoodIn wsX1_lose (wsV RX1 47 RX1 yX1_noUnit wsX1_noUnit) := goodIn_app (goodIn_of _ (by decide +kernel)) ggX1_lose_X1_noUnit
set_option maxRecDepth 20000 in
theorem ggX1_lose_X1_manyLost : GoodIn wsX1_lose wsX1_manyLost := goodIn_r _ [12, 8, 2, 13, 14, 15, 16] (by decide +kernel) (by decide +kernel)
set_option maxRecDepth 20000 in
theorem gX1_lose_X1_manyLost : GoodIn wsX1_lose (wsV RX1 52 RX1 yX1_manyLost wsX1_manyLost) := goodIn_app (goodIn_of _ (by decide +kernel)) ggX1_lose_X1_manyLost
theorem dX1_lose_0 : decode cX1_lose 0 = .ok (.aload_n 0, 1) := by decide +kernel
theorem dX1_lose_1 : decode cX1_lose 1 = .ok (.iconst 0, 1) := by decide +kernel
theorem dX1_lose_2 : decode cX1_lose 2 = .ok (.putfield 21, 3) := by decide +kernel
theorem dX1_lose_5 : decode cX1_lose 5 = .ok (.aload_n 0, 1) := by decide +kernel
theorem dX1_lose_6 : decode cX1_lose 6 = .ok (.iload_n 1, 1) := by decide +kernel
theorem dX1_lose_7 : decode cX1_lose 7 = .ok (.invokevirtual 47, 3) := by decide +kernel
theorem dX1_lose_10 : decode cX1_lose 10 = .ok (.ifCond .ne 12, 3) := by decide +kernel
theorem dX1_lose_13 : decode cX1_lose 13 = .ok (.aload_n 0, 1) := by decide +kernel
theorem dX1_lose_14 : decode cX1_lose 14 = .ok (.getfield 13, 3) := by decide +kernel
theorem dX1_lose_17 : decode cX1_lose 17 = .ok (.iload_n 1, 1) := by decide +kernel
theorem dX1_lose_18 : decode cX1_lose 18 = .ok (.baload, 1) := by decide +kernel
theorem dX1_lose_19 : decode cX1_lose 19 = .ok (.ifCond .eq 5, 3) := by decide +kernel
theorem dX1_lose_22 : decode cX1_lose 22 = .ok (.iconst (-1), 1) := by decide +kernel
theorem dX1_lose_23 : decode cX1_lose 23 = .ok (.ireturn, 1) := by decide +kernel
theorem dX1_lose_24 : decode cX1_lose 24 = .ok (.aload_n 0, 1) := by decide +kernel
theorem dX1_lose_25 : decode cX1_lose 25 = .ok (.invokevirtual 52, 3) := by decide +kernel
theorem dX1_lose_28 : decode cX1_lose 28 = .ok (.iconst 2, 1) := by decide +kernel
theorem dX1_lose_29 : decode cX1_lose 29 = .ok (.if_icmp .ne 6, 3) := by decide +kernel
theorem dX1_lose_32 : decode cX1_lose 32 = .ok (.bipush (-3), 2) := by decide +kernel
theorem dX1_lose_34 : decode cX1_lose 34 = .ok (.ireturn, 1) := by decide +kernel
theorem dX1_lose_35 : decode cX1_lose 35 = .ok (.aload_n 0, 1) := by decide +kernel
theorem dX1_lose_36 : decode cX1_lose 36 = .ok (.getfield 13, 3) := by decide +kernel
theorem dX1_lose_39 : decode cX1_lose 39 = .ok (.iload_n 1, 1) := by decide +kernel
theorem dX1_lose_40 : decode cX1_lose 40 = .ok (.iconst 1, 1) := by decide +kernel
theorem dX1_lose_41 : decode cX1_lose 41 = .ok (.bastore, 1) := by decide +kernel
theorem dX1_lose_42 : decode cX1_lose 42 = .ok (.aload_n 0, 1) := by decide +kernel
theorem dX1_lose_43 : decode cX1_lose 43 = .ok (.invokevirtual 52, 3) := by decide +kernel
theorem dX1_lose_46 : decode cX1_lose 46 = .ok (.ireturn, 1) := by decide +kernel
theorem dX1_lowest_0 : decode cX1_lowest 0 = .ok (.iload_n 1, 1) := by decide +kernel
theorem dX1_lowest_1 : decode cX1_lowest 1 = .ok (.istore_n 2, 1) := by decide +kernel
theorem dX1_lowest_2 : decode cX1_lowest 2 = .ok (.iload_n 2, 1) := by decide +kernel
theorem dX1_lowest_3 : decode cX1_lowest 3 = .ok (.aload_n 0, 1) := by decide +kernel
theorem dX1_lowest_4 : decode cX1_lowest 4 = .ok (.getfield 25, 3) := by decide +kernel
theorem dX1_lowest_7 : decode cX1_lowest 7 = .ok (.if_icmp .ge 18, 3) := by decide +kernel
theorem dX1_lowest_10 : decode cX1_lowest 10 = .ok (.aload_n 0, 1) := by decide +kernel
theorem dX1_lowest_11 : decode cX1_lowest 11 = .ok (.getfield 13, 3) := by decide +kernel
theorem dX1_lowest_14 : decode cX1_lowest 14 = .ok (.iload_n 2, 1) := by decide +kernel
theorem dX1_lowest_15 : decode cX1_lowest 15 = .ok (.baload, 1) := by decide +kernel
theorem dX1_lowest_16 : decode cX1_lowest 16 = .ok (.ifCond .ne 9, 3) := by decide +kernel
theorem dX1_lowest_19 : decode cX1_lowest 19 = .ok (.iinc 2 1, 3) := by decide +kernel
theorem dX1_lowest_22 : decode cX1_lowest 22 = .ok (.goto (-20), 3) := by decide +kernel
theorem dX1_lowest_25 : decode cX1_lowest 25 = .ok (.iload_n 2, 1) := by decide +kernel
theorem dX1_lowest_26 : decode cX1_lowest 26 = .ok (.ireturn, 1) := by decide +kernel
set_option maxRecDepth 20000 in
theorem ggX1_wouldFit_X1_sumAt : GoodIn wsX1_wouldFit wsX1_sumAt := goodIn_r _ [7, 1, 2, 8, 9, 10, 6, 11, 12, 13, 14, 15, 16, 17, 18, 19, 20, 25, 26, 27, 28] (by decide +kernel) (by decide +kernel)
set_option maxRecDepth 20000 in
theorem gX1_wouldFit_X1_sumAt : GoodIn wsX1_wouldFit (wsV RX1 55 RX1 yX1_sumAt wsX1_sumAt) := goodIn_app (goodIn_of _ (by decide +kernel)) ggX1_wouldFit_X1_sumAt
set_option maxRecDepth 20000 in
theorem ggX1_wouldFit_X1_p : GoodIn wsX1_wouldFit wsX1_p := goodIn_r _ [11, 12, 25, 26, 27, 28] (by decide +kernel) (by decide +kernel)
set_option maxRecDepth 20000 in
theorem gX1_wouldFit_X1_p : GoodIn wsX1_wouldFit (wsV RX1 38 RX1 yX1_p wsX1_p) := goodIn_app (goodIn_of _ (by decide +kernel)) ggX1_wouldFit_X1_p
set_option maxRecDepth 20000 in
theorem ggX1_wouldFit_X1_twos : GoodIn wsX1_wouldFit wsX1_twos := goodIn_r _ [16, 17, 18, 19, 6, 20] (by decide +kernel) (by decide +kernel)
set_option maxRecDepth 20000 in
theorem gX1_wouldFit_X1_twos : GoodIn wsX1_wouldFit (wsV RX1 35 RX1 yX1_twos wsX1_twos) := goodIn_app (goodIn_of _ (by decide +kernel)) ggX1_wouldFit_X1_twos
set_option maxRecDepth 20000 in
theorem ggX1_wouldFit_X1_times : GoodIn wsX1_wouldFit wsX1_times := goodIn_r _ [20] (by decide +kernel) (by decide +kernel)
set_option maxRecDepth 20000 in
theorem gX1_wouldFit_X1_times : GoodIn wsX1_wouldFit (wsV RX1 28 RX1 yX1_times wsX1_times) := goodIn_app (goodIn_of _ (by decide +kernel)) ggX1_wouldFit_X1_times
set_option maxRecDepth 20000 in
theorem ggX1_wouldFit_X1_q : GoodIn wsX1_wouldFit wsX1_q := goodIn_r _ [24, 12, 25, 26, 27, 28] (by decide +kernel) (by decide +kernel)
set_option maxRecDepth 20000 in
theorem gX1_wouldFit_X1_q : GoodIn wsX1_wouldFit (wsV RX1 44 RX1 yX1_q wsX1_q) := goodIn_app (goodIn_of _ (by decide +kernel)) ggX1_wouldFit_X1_q
theorem dX1_wouldFit_0 : decode cX1_wouldFit 0 = .ok (.aload_n 0, 1) := by decide +kernel
theorem dX1_wouldFit_1 : decode cX1_wouldFit 1 = .ok (.iload_n 1, 1) := by decide +kernel
theorem dX1_wouldFit_2 : decode cX1_wouldFit 2 = .ok (.iconst 0, 1) := by decide +kernel
theorem dX1_wouldFit_3 : decode cX1_wouldFit 3 = .ok (.invokevirtual 55, 3) := by decide +kernel
theorem dX1_wouldFit_6 : decode cX1_wouldFit 6 = .ok (.iload_n 2, 1) := by decide +kernel
theorem dX1_wouldFit_7 : decode cX1_wouldFit 7 = .ok (.aload_n 0, 1) := by decide +kernel
theorem dX1_wouldFit_8 : decode cX1_wouldFit 8 = .ok (.invokevirtual 38, 3) := by decide +kernel
theorem dX1_wouldFit_11 : decode cX1_wouldFit 11 = .ok (.if_icmp .ge 7, 3) := by decide +kernel
theorem dX1_wouldFit_14 : decode cX1_wouldFit 14 = .ok (.iload_n 3, 1) := by decide +kernel
theorem dX1_wouldFit_15 : decode cX1_wouldFit 15 = .ok (.goto 4, 3) := by decide +kernel
theorem dX1_wouldFit_18 : decode cX1_wouldFit 18 = .ok (.iconst 0, 1) := by decide +kernel
theorem dX1_wouldFit_19 : decode cX1_wouldFit 19 = .ok (.ixor, 1) := by decide +kernel
theorem dX1_wouldFit_20 : decode cX1_wouldFit 20 = .ok (.iload 4, 2) := by decide +kernel
theorem dX1_wouldFit_22 : decode cX1_wouldFit 22 = .ok (.aload_n 0, 1) := by decide +kernel
theorem dX1_wouldFit_23 : decode cX1_wouldFit 23 = .ok (.invokevirtual 38, 3) := by decide +kernel
theorem dX1_wouldFit_26 : decode cX1_wouldFit 26 = .ok (.if_icmp .ge 8, 3) := by decide +kernel
theorem dX1_wouldFit_29 : decode cX1_wouldFit 29 = .ok (.iload 5, 2) := by decide +kernel
theorem dX1_wouldFit_31 : decode cX1_wouldFit 31 = .ok (.goto 4, 3) := by decide +kernel
theorem dX1_wouldFit_34 : decode cX1_wouldFit 34 = .ok (.iconst 0, 1) := by decide +kernel
theorem dX1_wouldFit_35 : decode cX1_wouldFit 35 = .ok (.ixor, 1) := by decide +kernel
theorem dX1_wouldFit_36 : decode cX1_wouldFit 36 = .ok (.istore 6, 2) := by decide +kernel
theorem dX1_wouldFit_38 : decode cX1_wouldFit 38 = .ok (.aload_n 0, 1) := by decide +kernel
theorem dX1_wouldFit_39 : decode cX1_wouldFit 39 = .ok (.iload_n 1, 1) := by decide +kernel
theorem dX1_wouldFit_40 : decode cX1_wouldFit 40 = .ok (.iconst 1, 1) := by decide +kernel
theorem dX1_wouldFit_41 : decode cX1_wouldFit 41 = .ok (.invokevirtual 55, 3) := by decide +kernel
end
section
theorem dX1_wouldFit_44 : decode cX1_wouldFit 44 = .ok (.iload_n 2, 1) := by decide +kernel
theorem dX1_wouldFit_45 : decode cX1_wouldFit 45 = .ok (.aload_n 0, 1) := by decide +kernel
theorem dX1_wouldFit_46 : decode cX1_wouldFit 46 = .ok (.invokevirtual 38, 3) := by decide +kernel
theorem dX1_wouldFit_49 : decode cX1_wouldFit 49 = .ok (.if_icmp .ge 16, 3) := by decide +kernel
theorem dX1_wouldFit_52 : decode cX1_wouldFit 52 = .ok (.aload_n 0, 1) := by decide +kernel
theorem dX1_wouldFit_53 : decode cX1_wouldFit 53 = .ok (.iload_n 3, 1) := by decide +kernel
theorem dX1_wouldFit_54 : decode cX1_wouldFit 54 = .ok (.aload_n 0, 1) := by decide +kernel
theorem dX1_wouldFit_55 : decode cX1_wouldFit 55 = .ok (.iload_n 2, 1) := by decide +kernel
theorem dX1_wouldFit_56 : decode cX1_wouldFit 56 = .ok (.invokevirtual 35, 3) := by decide +kernel
theorem dX1_wouldFit_59 : decode cX1_wouldFit 59 = .ok (.invokevirtual 28, 3) := by decide +kernel
theorem dX1_wouldFit_62 : decode cX1_wouldFit 62 = .ok (.goto 4, 3) := by decide +kernel
theorem dX1_wouldFit_65 : decode cX1_wouldFit 65 = .ok (.iconst 0, 1) := by decide +kernel
theorem dX1_wouldFit_66 : decode cX1_wouldFit 66 = .ok (.ixor, 1) := by decide +kernel
theorem dX1_wouldFit_67 : decode cX1_wouldFit 67 = .ok (.iload 4, 2) := by decide +kernel
theorem dX1_wouldFit_69 : decode cX1_wouldFit 69 = .ok (.aload_n 0, 1) := by decide +kernel
theorem dX1_wouldFit_70 : decode cX1_wouldFit 70 = .ok (.invokevirtual 38, 3) := by decide +kernel
theorem dX1_wouldFit_73 : decode cX1_wouldFit 73 = .ok (.if_icmp .ge 18, 3) := by decide +kernel
theorem dX1_wouldFit_76 : decode cX1_wouldFit 76 = .ok (.aload_n 0, 1) := by decide +kernel
theorem dX1_wouldFit_77 : decode cX1_wouldFit 77 = .ok (.iload 5, 2) := by decide +kernel
theorem dX1_wouldFit_79 : decode cX1_wouldFit 79 = .ok (.aload_n 0, 1) := by decide +kernel
theorem dX1_wouldFit_80 : decode cX1_wouldFit 80 = .ok (.iload 4, 2) := by decide +kernel
theorem dX1_wouldFit_82 : decode cX1_wouldFit 82 = .ok (.invokevirtual 35, 3) := by decide +kernel
theorem dX1_wouldFit_85 : decode cX1_wouldFit 85 = .ok (.invokevirtual 28, 3) := by decide +kernel
theorem dX1_wouldFit_88 : decode cX1_wouldFit 88 = .ok (.goto 4, 3) := by decide +kernel
theorem dX1_wouldFit_91 : decode cX1_wouldFit 91 = .ok (.iconst 0, 1) := by decide +kernel
theorem dX1_wouldFit_92 : decode cX1_wouldFit 92 = .ok (.ixor, 1) := by decide +kernel
theorem dX1_wouldFit_93 : decode cX1_wouldFit 93 = .ok (.istore 7, 2) := by decide +kernel
theorem dX1_wouldFit_95 : decode cX1_wouldFit 95 = .ok (.aload_n 0, 1) := by decide +kernel
theorem dX1_wouldFit_96 : decode cX1_wouldFit 96 = .ok (.getfield 13, 3) := by decide +kernel
theorem dX1_wouldFit_99 : decode cX1_wouldFit 99 = .ok (.aload_n 0, 1) := by decide +kernel
theorem dX1_wouldFit_100 : decode cX1_wouldFit 100 = .ok (.invokevirtual 38, 3) := by decide +kernel
theorem dX1_wouldFit_103 : decode cX1_wouldFit 103 = .ok (.baload, 1) := by decide +kernel
theorem dX1_wouldFit_104 : decode cX1_wouldFit 104 = .ok (.ifCond .ne 22, 3) := by decide +kernel
theorem dX1_wouldFit_107 : decode cX1_wouldFit 107 = .ok (.iload 6, 2) := by decide +kernel
theorem dX1_wouldFit_109 : decode cX1_wouldFit 109 = .ok (.aload_n 0, 1) := by decide +kernel
theorem dX1_wouldFit_110 : decode cX1_wouldFit 110 = .ok (.getfield 7, 3) := by decide +kernel
theorem dX1_wouldFit_113 : decode cX1_wouldFit 113 = .ok (.bipush 64, 2) := by decide +kernel
theorem dX1_wouldFit_115 : decode cX1_wouldFit 115 = .ok (.aload_n 0, 1) := by decide +kernel
theorem dX1_wouldFit_116 : decode cX1_wouldFit 116 = .ok (.invokevirtual 38, 3) := by decide +kernel
theorem dX1_wouldFit_119 : decode cX1_wouldFit 119 = .ok (.imul, 1) := by decide +kernel
theorem dX1_wouldFit_120 : decode cX1_wouldFit 120 = .ok (.iload_n 1, 1) := by decide +kernel
theorem dX1_wouldFit_121 : decode cX1_wouldFit 121 = .ok (.iadd, 1) := by decide +kernel
theorem dX1_wouldFit_122 : decode cX1_wouldFit 122 = .ok (.iaload, 1) := by decide +kernel
theorem dX1_wouldFit_123 : decode cX1_wouldFit 123 = .ok (.if_icmp .ne 7, 3) := by decide +kernel
theorem dX1_wouldFit_126 : decode cX1_wouldFit 126 = .ok (.iconst 1, 1) := by decide +kernel
theorem dX1_wouldFit_127 : decode cX1_wouldFit 127 = .ok (.goto 4, 3) := by decide +kernel
theorem dX1_wouldFit_130 : decode cX1_wouldFit 130 = .ok (.iconst 0, 1) := by decide +kernel
theorem dX1_wouldFit_131 : decode cX1_wouldFit 131 = .ok (.istore 8, 2) := by decide +kernel
theorem dX1_wouldFit_133 : decode cX1_wouldFit 133 = .ok (.aload_n 0, 1) := by decide +kernel
theorem dX1_wouldFit_134 : decode cX1_wouldFit 134 = .ok (.getfield 13, 3) := by decide +kernel
theorem dX1_wouldFit_137 : decode cX1_wouldFit 137 = .ok (.aload_n 0, 1) := by decide +kernel
theorem dX1_wouldFit_138 : decode cX1_wouldFit 138 = .ok (.invokevirtual 44, 3) := by decide +kernel
theorem dX1_wouldFit_141 : decode cX1_wouldFit 141 = .ok (.baload, 1) := by decide +kernel
theorem dX1_wouldFit_142 : decode cX1_wouldFit 142 = .ok (.ifCond .ne 22, 3) := by decide +kernel
theorem dX1_wouldFit_145 : decode cX1_wouldFit 145 = .ok (.iload 7, 2) := by decide +kernel
theorem dX1_wouldFit_147 : decode cX1_wouldFit 147 = .ok (.aload_n 0, 1) := by decide +kernel
theorem dX1_wouldFit_148 : decode cX1_wouldFit 148 = .ok (.getfield 7, 3) := by decide +kernel
theorem dX1_wouldFit_151 : decode cX1_wouldFit 151 = .ok (.bipush 64, 2) := by decide +kernel
theorem dX1_wouldFit_153 : decode cX1_wouldFit 153 = .ok (.aload_n 0, 1) := by decide +kernel
theorem dX1_wouldFit_154 : decode cX1_wouldFit 154 = .ok (.invokevirtual 44, 3) := by decide +kernel
theorem dX1_wouldFit_157 : decode cX1_wouldFit 157 = .ok (.imul, 1) := by decide +kernel
theorem dX1_wouldFit_158 : decode cX1_wouldFit 158 = .ok (.iload_n 1, 1) := by decide +kernel
theorem dX1_wouldFit_159 : decode cX1_wouldFit 159 = .ok (.iadd, 1) := by decide +kernel
theorem dX1_wouldFit_160 : decode cX1_wouldFit 160 = .ok (.iaload, 1) := by decide +kernel
theorem dX1_wouldFit_161 : decode cX1_wouldFit 161 = .ok (.if_icmp .ne 7, 3) := by decide +kernel
theorem dX1_wouldFit_164 : decode cX1_wouldFit 164 = .ok (.iconst 1, 1) := by decide +kernel
theorem dX1_wouldFit_165 : decode cX1_wouldFit 165 = .ok (.goto 4, 3) := by decide +kernel
theorem dX1_wouldFit_168 : decode cX1_wouldFit 168 = .ok (.iconst 0, 1) := by decide +kernel
theorem dX1_wouldFit_169 : decode cX1_wouldFit 169 = .ok (.istore 9, 2) := by decide +kernel
theorem dX1_wouldFit_171 : decode cX1_wouldFit 171 = .ok (.iload 8, 2) := by decide +kernel
theorem dX1_wouldFit_173 : decode cX1_wouldFit 173 = .ok (.ifCond .eq 33, 3) := by decide +kernel
theorem dX1_wouldFit_176 : decode cX1_wouldFit 176 = .ok (.iload 9, 2) := by decide +kernel
theorem dX1_wouldFit_178 : decode cX1_wouldFit 178 = .ok (.ifCond .ne 24, 3) := by decide +kernel
theorem dX1_wouldFit_181 : decode cX1_wouldFit 181 = .ok (.iload 4, 2) := by decide +kernel
theorem dX1_wouldFit_183 : decode cX1_wouldFit 183 = .ok (.aload_n 0, 1) := by decide +kernel
theorem dX1_wouldFit_184 : decode cX1_wouldFit 184 = .ok (.invokevirtual 38, 3) := by decide +kernel
theorem dX1_wouldFit_187 : decode cX1_wouldFit 187 = .ok (.if_icmp .lt 19, 3) := by decide +kernel
theorem dX1_wouldFit_190 : decode cX1_wouldFit 190 = .ok (.aload_n 0, 1) := by decide +kernel
theorem dX1_wouldFit_191 : decode cX1_wouldFit 191 = .ok (.getfield 13, 3) := by decide +kernel
theorem dX1_wouldFit_194 : decode cX1_wouldFit 194 = .ok (.aload_n 0, 1) := by decide +kernel
theorem dX1_wouldFit_195 : decode cX1_wouldFit 195 = .ok (.invokevirtual 38, 3) := by decide +kernel
theorem dX1_wouldFit_198 : decode cX1_wouldFit 198 = .ok (.baload, 1) := by decide +kernel
theorem dX1_wouldFit_199 : decode cX1_wouldFit 199 = .ok (.ifCond .ne 7, 3) := by decide +kernel
theorem dX1_wouldFit_202 : decode cX1_wouldFit 202 = .ok (.iconst 1, 1) := by decide +kernel
theorem dX1_wouldFit_203 : decode cX1_wouldFit 203 = .ok (.goto 4, 3) := by decide +kernel
theorem dX1_wouldFit_206 : decode cX1_wouldFit 206 = .ok (.iconst 0, 1) := by decide +kernel
theorem dX1_wouldFit_207 : decode cX1_wouldFit 207 = .ok (.ireturn, 1) := by decide +kernel
set_option maxRecDepth 20000 in
theorem ggX1_find_X1_p : GoodIn wsX1_find wsX1_p := goodIn_r _ [6, 7, 29, 30, 31, 32] (by decide +kernel) (by decide +kernel)
set_option maxRecDepth 20000 in
theorem gX1_find_X1_p : GoodIn wsX1_find (wsV RX1 38 RX1 yX1_p wsX1_p) := goodIn_app (goodIn_of _ (by decide +kernel)) ggX1_find_X1_p
set_option maxRecDepth 20000 in
theorem ggX1_find_X1_sumAt : GoodIn wsX1_find wsX1_sumAt := goodIn_r _ [11, 12, 1, 2, 3, 4, 5, 6, 7, 13, 14, 15, 16, 17, 18, 19, 20, 29, 30, 31, 32] (by decide +kernel) (by decide +kernel)
set_option maxRecDepth 20000 in
theorem gX1_find_X1_sumAt : GoodIn wsX1_find (wsV RX1 55 RX1 yX1_sumAt wsX1_sumAt) := goodIn_app (goodIn_of _ (by decide +kernel)) ggX1_find_X1_sumAt
set_option maxRecDepth 20000 in
theorem ggX1_find_X1_wouldFit : GoodIn wsX1_find wsX1_wouldFit := goodIn_r _ [24, 12, 1, 8, 9, 10, 5, 11, 2, 3, 4, 6, 7, 13, 14, 15, 16, 17, 18, 19, 20, 25, 26, 27, 28, 29, 30, 31, 32] (by decide +kernel) (by decide +kernel)
set_option maxRecDepth 20000 in
theorem gX1_find_X1_wouldFit : GoodIn wsX1_find (wsV RX1 59 RX1 yX1_wouldFit wsX1_wouldFit) := goodIn_app (goodIn_of _ (by decide +kernel)) ggX1_find_X1_wouldFit
theorem dX1_find_0 : decode cX1_find 0 = .ok (.iconst 0, 1) := by decide +kernel
theorem dX1_find_1 : decode cX1_find 1 = .ok (.istore 4, 2) := by decide +kernel
theorem dX1_find_3 : decode cX1_find 3 = .ok (.iload 4, 2) := by decide +kernel
theorem dX1_find_5 : decode cX1_find 5 = .ok (.iload_n 2, 1) := by decide +kernel
theorem dX1_find_6 : decode cX1_find 6 = .ok (.aload_n 0, 1) := by decide +kernel
theorem dX1_find_7 : decode cX1_find 7 = .ok (.invokevirtual 38, 3) := by decide +kernel
theorem dX1_find_10 : decode cX1_find 10 = .ok (.if_icmp .ge 9, 3) := by decide +kernel
theorem dX1_find_13 : decode cX1_find 13 = .ok (.sipush 256, 3) := by decide +kernel
theorem dX1_find_16 : decode cX1_find 16 = .ok (.goto 4, 3) := by decide +kernel
theorem dX1_find_19 : decode cX1_find 19 = .ok (.iconst 1, 1) := by decide +kernel
theorem dX1_find_20 : decode cX1_find 20 = .ok (.if_icmp .ge 185, 3) := by decide +kernel
theorem dX1_find_23 : decode cX1_find 23 = .ok (.iconst 0, 1) := by decide +kernel
theorem dX1_find_24 : decode cX1_find 24 = .ok (.istore 5, 2) := by decide +kernel
theorem dX1_find_26 : decode cX1_find 26 = .ok (.iload 5, 2) := by decide +kernel
theorem dX1_find_28 : decode cX1_find 28 = .ok (.iload_n 3, 1) := by decide +kernel
theorem dX1_find_29 : decode cX1_find 29 = .ok (.aload_n 0, 1) := by decide +kernel
theorem dX1_find_30 : decode cX1_find 30 = .ok (.invokevirtual 38, 3) := by decide +kernel
theorem dX1_find_33 : decode cX1_find 33 = .ok (.if_icmp .ge 9, 3) := by decide +kernel
theorem dX1_find_36 : decode cX1_find 36 = .ok (.sipush 256, 3) := by decide +kernel
theorem dX1_find_39 : decode cX1_find 39 = .ok (.goto 4, 3) := by decide +kernel
theorem dX1_find_42 : decode cX1_find 42 = .ok (.iconst 1, 1) := by decide +kernel
theorem dX1_find_43 : decode cX1_find 43 = .ok (.if_icmp .ge 156, 3) := by decide +kernel
theorem dX1_find_46 : decode cX1_find 46 = .ok (.iload_n 3, 1) := by decide +kernel
theorem dX1_find_47 : decode cX1_find 47 = .ok (.aload_n 0, 1) := by decide +kernel
theorem dX1_find_48 : decode cX1_find 48 = .ok (.invokevirtual 38, 3) := by decide +kernel
theorem dX1_find_51 : decode cX1_find 51 = .ok (.if_icmp .ge 30, 3) := by decide +kernel
theorem dX1_find_54 : decode cX1_find 54 = .ok (.aload_n 0, 1) := by decide +kernel
theorem dX1_find_55 : decode cX1_find 55 = .ok (.iload_n 1, 1) := by decide +kernel
theorem dX1_find_56 : decode cX1_find 56 = .ok (.iconst 0, 1) := by decide +kernel
theorem dX1_find_57 : decode cX1_find 57 = .ok (.invokevirtual 55, 3) := by decide +kernel
theorem dX1_find_60 : decode cX1_find 60 = .ok (.iload 4, 2) := by decide +kernel
theorem dX1_find_62 : decode cX1_find 62 = .ok (.ixor, 1) := by decide +kernel
theorem dX1_find_63 : decode cX1_find 63 = .ok (.aload_n 0, 1) := by decide +kernel
theorem dX1_find_64 : decode cX1_find 64 = .ok (.getfield 7, 3) := by decide +kernel
theorem dX1_find_67 : decode cX1_find 67 = .ok (.bipush 64, 2) := by decide +kernel
theorem dX1_find_69 : decode cX1_find 69 = .ok (.aload_n 0, 1) := by decide +kernel
theorem dX1_find_70 : decode cX1_find 70 = .ok (.invokevirtual 38, 3) := by decide +kernel
theorem dX1_find_73 : decode cX1_find 73 = .ok (.imul, 1) := by decide +kernel
theorem dX1_find_74 : decode cX1_find 74 = .ok (.iload_n 1, 1) := by decide +kernel
theorem dX1_find_75 : decode cX1_find 75 = .ok (.iadd, 1) := by decide +kernel
theorem dX1_find_76 : decode cX1_find 76 = .ok (.iaload, 1) := by decide +kernel
theorem dX1_find_77 : decode cX1_find 77 = .ok (.ixor, 1) := by decide +kernel
theorem dX1_find_78 : decode cX1_find 78 = .ok (.goto 4, 3) := by decide +kernel
theorem dX1_find_81 : decode cX1_find 81 = .ok (.iconst 0, 1) := by decide +kernel
theorem dX1_find_82 : decode cX1_find 82 = .ok (.istore 6, 2) := by decide +kernel
theorem dX1_find_84 : decode cX1_find 84 = .ok (.aload_n 0, 1) := by decide +kernel
theorem dX1_find_85 : decode cX1_find 85 = .ok (.iload_n 1, 1) := by decide +kernel
theorem dX1_find_86 : decode cX1_find 86 = .ok (.iload_n 2, 1) := by decide +kernel
theorem dX1_find_87 : decode cX1_find 87 = .ok (.iload 4, 2) := by decide +kernel
theorem dX1_find_89 : decode cX1_find 89 = .ok (.iload_n 3, 1) := by decide +kernel
theorem dX1_find_90 : decode cX1_find 90 = .ok (.iload_n 3, 1) := by decide +kernel
theorem dX1_find_91 : decode cX1_find 91 = .ok (.aload_n 0, 1) := by decide +kernel
theorem dX1_find_92 : decode cX1_find 92 = .ok (.invokevirtual 38, 3) := by decide +kernel
theorem dX1_find_95 : decode cX1_find 95 = .ok (.if_icmp .ge 8, 3) := by decide +kernel
theorem dX1_find_98 : decode cX1_find 98 = .ok (.iload 6, 2) := by decide +kernel
theorem dX1_find_100 : decode cX1_find 100 = .ok (.goto 5, 3) := by decide +kernel
theorem dX1_find_103 : decode cX1_find 103 = .ok (.iload 5, 2) := by decide +kernel
theorem dX1_find_105 : decode cX1_find 105 = .ok (.invokevirtual 59, 3) := by decide +kernel
theorem dX1_find_108 : decode cX1_find 108 = .ok (.ifCond .eq 74, 3) := by decide +kernel
theorem dX1_find_111 : decode cX1_find 111 = .ok (.aload_n 0, 1) := by decide +kernel
theorem dX1_find_112 : decode cX1_find 112 = .ok (.getfield 7, 3) := by decide +kernel
theorem dX1_find_115 : decode cX1_find 115 = .ok (.bipush 64, 2) := by decide +kernel
theorem dX1_find_117 : decode cX1_find 117 = .ok (.iload_n 2, 1) := by decide +kernel
theorem dX1_find_118 : decode cX1_find 118 = .ok (.imul, 1) := by decide +kernel
theorem dX1_find_119 : decode cX1_find 119 = .ok (.iload_n 1, 1) := by decide +kernel
theorem dX1_find_120 : decode cX1_find 120 = .ok (.iadd, 1) := by decide +kernel
theorem dX1_find_121 : decode cX1_find 121 = .ok (.iload_n 2, 1) := by decide +kernel
theorem dX1_find_122 : decode cX1_find 122 = .ok (.aload_n 0, 1) := by decide +kernel
theorem dX1_find_123 : decode cX1_find 123 = .ok (.invokevirtual 38, 3) := by decide +kernel
theorem dX1_find_126 : decode cX1_find 126 = .ok (.if_icmp .ge 8, 3) := by decide +kernel
theorem dX1_find_129 : decode cX1_find 129 = .ok (.iload 4, 2) := by decide +kernel
theorem dX1_find_131 : decode cX1_find 131 = .ok (.goto 14, 3) := by decide +kernel
theorem dX1_find_134 : decode cX1_find 134 = .ok (.aload_n 0, 1) := by decide +kernel
theorem dX1_find_135 : decode cX1_find 135 = .ok (.getfield 7, 3) := by decide +kernel
theorem dX1_find_138 : decode cX1_find 138 = .ok (.bipush 64, 2) := by decide +kernel
theorem dX1_find_140 : decode cX1_find 140 = .ok (.iload_n 2, 1) := by decide +kernel
theorem dX1_find_141 : decode cX1_find 141 = .ok (.imul, 1) := by decide +kernel
theorem dX1_find_142 : decode cX1_find 142 = .ok (.iload_n 1, 1) := by decide +kernel
theorem dX1_find_143 : decode cX1_find 143 = .ok (.iadd, 1) := by decide +kernel
theorem dX1_find_144 : decode cX1_find 144 = .ok (.iaload, 1) := by decide +kernel
theorem dX1_find_145 : decode cX1_find 145 = .ok (.iastore, 1) := by decide +kernel
theorem dX1_find_146 : decode cX1_find 146 = .ok (.aload_n 0, 1) := by decide +kernel
theorem dX1_find_147 : decode cX1_find 147 = .ok (.getfield 7, 3) := by decide +kernel
theorem dX1_find_150 : decode cX1_find 150 = .ok (.bipush 64, 2) := by decide +kernel
theorem dX1_find_152 : decode cX1_find 152 = .ok (.iload_n 3, 1) := by decide +kernel
theorem dX1_find_153 : decode cX1_find 153 = .ok (.imul, 1) := by decide +kernel
theorem dX1_find_154 : decode cX1_find 154 = .ok (.iload_n 1, 1) := by decide +kernel
theorem dX1_find_155 : decode cX1_find 155 = .ok (.iadd, 1) := by decide +kernel
theorem dX1_find_156 : decode cX1_find 156 = .ok (.iload_n 3, 1) := by decide +kernel
theorem dX1_find_157 : decode cX1_find 157 = .ok (.aload_n 0, 1) := by decide +kernel
theorem dX1_find_158 : decode cX1_find 158 = .ok (.invokevirtual 38, 3) := by decide +kernel
theorem dX1_find_161 : decode cX1_find 161 = .ok (.if_icmp .ge 8, 3) := by decide +kernel
theorem dX1_find_164 : decode cX1_find 164 = .ok (.iload 6, 2) := by decide +kernel
theorem dX1_find_166 : decode cX1_find 166 = .ok (.goto 14, 3) := by decide +kernel
theorem dX1_find_169 : decode cX1_find 169 = .ok (.aload_n 0, 1) := by decide +kernel
theorem dX1_find_170 : decode cX1_find 170 = .ok (.getfield 7, 3) := by decide +kernel
theorem dX1_find_173 : decode cX1_find 173 = .ok (.bipush 64, 2) := by decide +kernel
theorem dX1_find_175 : decode cX1_find 175 = .ok (.iload_n 3, 1) := by decide +kernel
theorem dX1_find_176 : decode cX1_find 176 = .ok (.imul, 1) := by decide +kernel
theorem dX1_find_177 : decode cX1_find 177 = .ok (.iload_n 1, 1) := by decide +kernel
theorem dX1_find_178 : decode cX1_find 178 = .ok (.iadd, 1) := by decide +kernel
theorem dX1_find_179 : decode cX1_find 179 = .ok (.iaload, 1) := by decide +kernel
theorem dX1_find_180 : decode cX1_find 180 = .ok (.iastore, 1) := by decide +kernel
theorem dX1_find_181 : decode cX1_find 181 = .ok (.return_, 1) := by decide +kernel
theorem dX1_find_182 : decode cX1_find 182 = .ok (.iload_n 3, 1) := by decide +kernel
theorem dX1_find_183 : decode cX1_find 183 = .ok (.aload_n 0, 1) := by decide +kernel
theorem dX1_find_184 : decode cX1_find 184 = .ok (.invokevirtual 38, 3) := by decide +kernel
theorem dX1_find_187 : decode cX1_find 187 = .ok (.if_icmp .ge 6, 3) := by decide +kernel
theorem dX1_find_190 : decode cX1_find 190 = .ok (.goto 9, 3) := by decide +kernel
theorem dX1_find_193 : decode cX1_find 193 = .ok (.iinc 5 1, 3) := by decide +kernel
theorem dX1_find_196 : decode cX1_find 196 = .ok (.goto (-170), 3) := by decide +kernel
theorem dX1_find_199 : decode cX1_find 199 = .ok (.iinc 4 1, 3) := by decide +kernel
theorem dX1_find_202 : decode cX1_find 202 = .ok (.goto (-199), 3) := by decide +kernel
theorem dX1_find_205 : decode cX1_find 205 = .ok (.return_, 1) := by decide +kernel
set_option maxRecDepth 20000 in
theorem ggX1_mend_X1_manyLost : GoodIn wsX1_mend wsX1_manyLost := goodIn_r _ [9, 2, 3, 42, 43, 44, 45] (by decide +kernel) (by decide +kernel)
set_option maxRecDepth 20000 in
theorem gX1_mend_X1_manyLost : GoodIn wsX1_mend (wsV RX1 52 RX1 yX1_manyLost wsX1_manyLost) := goodIn_app (goodIn_of _ (by decide +kernel)) ggX1_mend_X1_manyLost
set_option maxRecDepth 20000 in
theorem ggX1_mend_X1_lowest : GoodIn wsX1_mend wsX1_lowest := goodIn_r _ [13, 2, 3, 42, 43, 44, 45] (by decide +kernel) (by decide +kernel)
set_option maxRecDepth 20000 in
theorem gX1_mend_X1_lowest : GoodIn wsX1_mend (wsV RX1 63 RX1 yX1_lowest wsX1_lowest) := goodIn_app (goodIn_of _ (by decide +kernel)) ggX1_mend_X1_lowest
set_option maxRecDepth 20000 in
theorem ggX1_mend_X1_p : GoodIn wsX1_mend wsX1_p := goodIn_r _ [17, 2, 42, 43, 44, 45] (by decide +kernel) (by decide +kernel)
set_option maxRecDepth 20000 in
theorem gX1_mend_X1_p : GoodIn wsX1_mend (wsV RX1 38 RX1 yX1_p wsX1_p) := goodIn_app (goodIn_of _ (by decide +kernel)) ggX1_mend_X1_p
set_option maxRecDepth 20000 in
theorem ggX1_mend_X1_find : GoodIn wsX1_mend wsX1_find := goodIn_r _ [21, 4, 14, 15, 16, 8, 17, 2, 22, 23, 24, 25, 3, 26, 27, 28, 29, 30, 31, 32, 33, 34, 35, 36, 37, 38, 39, 40, 41, 42, 43, 44, 45] (by decide +kernel) (by decide +kernel)
set_option maxRecDepth 20000 in
theorem gX1_mend_X1_find : GoodIn wsX1_mend (wsV RX1 66 RX1 yX1_find wsX1_find) := goodIn_app (goodIn_of _ (by decide +kernel)) ggX1_mend_X1_find
set_option maxRecDepth 20000 in
theorem ggX1_mend_X1_sumAt : GoodIn wsX1_mend wsX1_sumAt := goodIn_r _ [25, 3, 4, 14, 15, 16, 8, 17, 2, 26, 27, 28, 29, 30, 31, 32, 33, 42, 43, 44, 45] (by decide +kernel) (by decide +kernel)
set_option maxRecDepth 20000 in
theorem gX1_mend_X1_sumAt : GoodIn wsX1_mend (wsV RX1 55 RX1 yX1_sumAt wsX1_sumAt) := goodIn_app (goodIn_of _ (by decide +kernel)) ggX1_mend_X1_sumAt
set_option maxRecDepth 20000 in
theorem ggX1_mend_X1_q : GoodIn wsX1_mend wsX1_q := goodIn_r _ [41, 2, 42, 43, 44, 45] (by decide +kernel) (by decide +kernel)
set_option maxRecDepth 20000 in
theorem gX1_mend_X1_q : GoodIn wsX1_mend (wsV RX1 44 RX1 yX1_q wsX1_q) := goodIn_app (goodIn_of _ (by decide +kernel)) ggX1_mend_X1_q
theorem dX1_mend_0 : decode cX1_mend 0 = .ok (.aload_n 0, 1) := by decide +kernel
theorem dX1_mend_1 : decode cX1_mend 1 = .ok (.iconst 0, 1) := by decide +kernel
theorem dX1_mend_2 : decode cX1_mend 2 = .ok (.putfield 21, 3) := by decide +kernel
theorem dX1_mend_5 : decode cX1_mend 5 = .ok (.aload_n 0, 1) := by decide +kernel
theorem dX1_mend_6 : decode cX1_mend 6 = .ok (.invokevirtual 52, 3) := by decide +kernel
theorem dX1_mend_9 : decode cX1_mend 9 = .ok (.istore_n 1, 1) := by decide +kernel
theorem dX1_mend_10 : decode cX1_mend 10 = .ok (.aload_n 0, 1) := by decide +kernel
theorem dX1_mend_11 : decode cX1_mend 11 = .ok (.iconst 0, 1) := by decide +kernel
theorem dX1_mend_12 : decode cX1_mend 12 = .ok (.invokevirtual 63, 3) := by decide +kernel
theorem dX1_mend_15 : decode cX1_mend 15 = .ok (.istore_n 2, 1) := by decide +kernel
theorem dX1_mend_16 : decode cX1_mend 16 = .ok (.iload_n 2, 1) := by decide +kernel
theorem dX1_mend_17 : decode cX1_mend 17 = .ok (.aload_n 0, 1) := by decide +kernel
theorem dX1_mend_18 : decode cX1_mend 18 = .ok (.getfield 25, 3) := by decide +kernel
theorem dX1_mend_21 : decode cX1_mend 21 = .ok (.if_icmp .ge 13, 3) := by decide +kernel
theorem dX1_mend_24 : decode cX1_mend 24 = .ok (.aload_n 0, 1) := by decide +kernel
theorem dX1_mend_25 : decode cX1_mend 25 = .ok (.iload_n 2, 1) := by decide +kernel
theorem dX1_mend_26 : decode cX1_mend 26 = .ok (.iconst 1, 1) := by decide +kernel
theorem dX1_mend_27 : decode cX1_mend 27 = .ok (.iadd, 1) := by decide +kernel
theorem dX1_mend_28 : decode cX1_mend 28 = .ok (.invokevirtual 63, 3) := by decide +kernel
theorem dX1_mend_31 : decode cX1_mend 31 = .ok (.goto 7, 3) := by decide +kernel
theorem dX1_mend_34 : decode cX1_mend 34 = .ok (.aload_n 0, 1) := by decide +kernel
theorem dX1_mend_35 : decode cX1_mend 35 = .ok (.getfield 25, 3) := by decide +kernel
theorem dX1_mend_38 : decode cX1_mend 38 = .ok (.istore_n 3, 1) := by decide +kernel
theorem dX1_mend_39 : decode cX1_mend 39 = .ok (.iload_n 2, 1) := by decide +kernel
theorem dX1_mend_40 : decode cX1_mend 40 = .ok (.aload_n 0, 1) := by decide +kernel
theorem dX1_mend_41 : decode cX1_mend 41 = .ok (.invokevirtual 38, 3) := by decide +kernel
theorem dX1_mend_44 : decode cX1_mend 44 = .ok (.if_icmp .ge 7, 3) := by decide +kernel
theorem dX1_mend_47 : decode cX1_mend 47 = .ok (.iload_n 2, 1) := by decide +kernel
theorem dX1_mend_48 : decode cX1_mend 48 = .ok (.goto 7, 3) := by decide +kernel
theorem dX1_mend_51 : decode cX1_mend 51 = .ok (.aload_n 0, 1) := by decide +kernel
theorem dX1_mend_52 : decode cX1_mend 52 = .ok (.invokevirtual 38, 3) := by decide +kernel
theorem dX1_mend_55 : decode cX1_mend 55 = .ok (.istore 4, 2) := by decide +kernel
theorem dX1_mend_57 : decode cX1_mend 57 = .ok (.iload_n 3, 1) := by decide +kernel
theorem dX1_mend_58 : decode cX1_mend 58 = .ok (.aload_n 0, 1) := by decide +kernel
theorem dX1_mend_59 : decode cX1_mend 59 = .ok (.invokevirtual 38, 3) := by decide +kernel
theorem dX1_mend_62 : decode cX1_mend 62 = .ok (.if_icmp .ge 7, 3) := by decide +kernel
theorem dX1_mend_65 : decode cX1_mend 65 = .ok (.iload_n 3, 1) := by decide +kernel
theorem dX1_mend_66 : decode cX1_mend 66 = .ok (.goto 7, 3) := by decide +kernel
theorem dX1_mend_69 : decode cX1_mend 69 = .ok (.aload_n 0, 1) := by decide +kernel
theorem dX1_mend_70 : decode cX1_mend 70 = .ok (.invokevirtual 38, 3) := by decide +kernel
theorem dX1_mend_73 : decode cX1_mend 73 = .ok (.istore 5, 2) := by decide +kernel
theorem dX1_mend_75 : decode cX1_mend 75 = .ok (.iconst 0, 1) := by decide +kernel
theorem dX1_mend_76 : decode cX1_mend 76 = .ok (.istore 6, 2) := by decide +kernel
theorem dX1_mend_78 : decode cX1_mend 78 = .ok (.iload 6, 2) := by decide +kernel
theorem dX1_mend_80 : decode cX1_mend 80 = .ok (.bipush 64, 2) := by decide +kernel
theorem dX1_mend_82 : decode cX1_mend 82 = .ok (.if_icmp .ge 28, 3) := by decide +kernel
theorem dX1_mend_85 : decode cX1_mend 85 = .ok (.iload 4, 2) := by decide +kernel
theorem dX1_mend_87 : decode cX1_mend 87 = .ok (.aload_n 0, 1) := by decide +kernel
theorem dX1_mend_88 : decode cX1_mend 88 = .ok (.invokevirtual 38, 3) := by decide +kernel
theorem dX1_mend_91 : decode cX1_mend 91 = .ok (.if_icmp .ge 19, 3) := by decide +kernel
theorem dX1_mend_94 : decode cX1_mend 94 = .ok (.aload_n 0, 1) := by decide +kernel
theorem dX1_mend_95 : decode cX1_mend 95 = .ok (.iload 6, 2) := by decide +kernel
theorem dX1_mend_97 : decode cX1_mend 97 = .ok (.iload 4, 2) := by decide +kernel
theorem dX1_mend_99 : decode cX1_mend 99 = .ok (.iload 5, 2) := by decide +kernel
theorem dX1_mend_101 : decode cX1_mend 101 = .ok (.invokevirtual 66, 3) := by decide +kernel
theorem dX1_mend_104 : decode cX1_mend 104 = .ok (.iinc 6 1, 3) := by decide +kernel
theorem dX1_mend_107 : decode cX1_mend 107 = .ok (.goto (-29), 3) := by decide +kernel
theorem dX1_mend_110 : decode cX1_mend 110 = .ok (.iconst 0, 1) := by decide +kernel
theorem dX1_mend_111 : decode cX1_mend 111 = .ok (.istore 6, 2) := by decide +kernel
theorem dX1_mend_113 : decode cX1_mend 113 = .ok (.iload 6, 2) := by decide +kernel
theorem dX1_mend_115 : decode cX1_mend 115 = .ok (.aload_n 0, 1) := by decide +kernel
theorem dX1_mend_116 : decode cX1_mend 116 = .ok (.invokevirtual 38, 3) := by decide +kernel
theorem dX1_mend_119 : decode cX1_mend 119 = .ok (.if_icmp .ge 17, 3) := by decide +kernel
theorem dX1_mend_122 : decode cX1_mend 122 = .ok (.aload_n 0, 1) := by decide +kernel
theorem dX1_mend_123 : decode cX1_mend 123 = .ok (.getfield 13, 3) := by decide +kernel
theorem dX1_mend_126 : decode cX1_mend 126 = .ok (.iload 6, 2) := by decide +kernel
theorem dX1_mend_128 : decode cX1_mend 128 = .ok (.iconst 0, 1) := by decide +kernel
theorem dX1_mend_129 : decode cX1_mend 129 = .ok (.bastore, 1) := by decide +kernel
theorem dX1_mend_130 : decode cX1_mend 130 = .ok (.iinc 6 1, 3) := by decide +kernel
theorem dX1_mend_133 : decode cX1_mend 133 = .ok (.goto (-20), 3) := by decide +kernel
theorem dX1_mend_136 : decode cX1_mend 136 = .ok (.iconst 0, 1) := by decide +kernel
theorem dX1_mend_137 : decode cX1_mend 137 = .ok (.istore 6, 2) := by decide +kernel
theorem dX1_mend_139 : decode cX1_mend 139 = .ok (.iload 6, 2) := by decide +kernel
theorem dX1_mend_141 : decode cX1_mend 141 = .ok (.bipush 64, 2) := by decide +kernel
theorem dX1_mend_143 : decode cX1_mend 143 = .ok (.if_icmp .ge 113, 3) := by decide +kernel
theorem dX1_mend_146 : decode cX1_mend 146 = .ok (.aload_n 0, 1) := by decide +kernel
theorem dX1_mend_147 : decode cX1_mend 147 = .ok (.getfield 7, 3) := by decide +kernel
theorem dX1_mend_150 : decode cX1_mend 150 = .ok (.bipush 64, 2) := by decide +kernel
theorem dX1_mend_152 : decode cX1_mend 152 = .ok (.aload_n 0, 1) := by decide +kernel
theorem dX1_mend_153 : decode cX1_mend 153 = .ok (.invokevirtual 38, 3) := by decide +kernel
theorem dX1_mend_156 : decode cX1_mend 156 = .ok (.imul, 1) := by decide +kernel
theorem dX1_mend_157 : decode cX1_mend 157 = .ok (.iload 6, 2) := by decide +kernel
theorem dX1_mend_159 : decode cX1_mend 159 = .ok (.iadd, 1) := by decide +kernel
theorem dX1_mend_160 : decode cX1_mend 160 = .ok (.aload_n 0, 1) := by decide +kernel
theorem dX1_mend_161 : decode cX1_mend 161 = .ok (.getfield 13, 3) := by decide +kernel
theorem dX1_mend_164 : decode cX1_mend 164 = .ok (.aload_n 0, 1) := by decide +kernel
theorem dX1_mend_165 : decode cX1_mend 165 = .ok (.invokevirtual 38, 3) := by decide +kernel
theorem dX1_mend_168 : decode cX1_mend 168 = .ok (.baload, 1) := by decide +kernel
theorem dX1_mend_169 : decode cX1_mend 169 = .ok (.ifCond .eq 13, 3) := by decide +kernel
theorem dX1_mend_172 : decode cX1_mend 172 = .ok (.aload_n 0, 1) := by decide +kernel
theorem dX1_mend_173 : decode cX1_mend 173 = .ok (.iload 6, 2) := by decide +kernel
theorem dX1_mend_175 : decode cX1_mend 175 = .ok (.iconst 0, 1) := by decide +kernel
theorem dX1_mend_176 : decode cX1_mend 176 = .ok (.invokevirtual 55, 3) := by decide +kernel
theorem dX1_mend_179 : decode cX1_mend 179 = .ok (.goto 18, 3) := by decide +kernel
theorem dX1_mend_182 : decode cX1_mend 182 = .ok (.aload_n 0, 1) := by decide +kernel
theorem dX1_mend_183 : decode cX1_mend 183 = .ok (.getfield 7, 3) := by decide +kernel
theorem dX1_mend_186 : decode cX1_mend 186 = .ok (.bipush 64, 2) := by decide +kernel
theorem dX1_mend_188 : decode cX1_mend 188 = .ok (.aload_n 0, 1) := by decide +kernel
theorem dX1_mend_189 : decode cX1_mend 189 = .ok (.invokevirtual 38, 3) := by decide +kernel
theorem dX1_mend_192 : decode cX1_mend 192 = .ok (.imul, 1) := by decide +kernel
theorem dX1_mend_193 : decode cX1_mend 193 = .ok (.iload 6, 2) := by decide +kernel
theorem dX1_mend_195 : decode cX1_mend 195 = .ok (.iadd, 1) := by decide +kernel
theorem dX1_mend_196 : decode cX1_mend 196 = .ok (.iaload, 1) := by decide +kernel
theorem dX1_mend_197 : decode cX1_mend 197 = .ok (.iastore, 1) := by decide +kernel
theorem dX1_mend_198 : decode cX1_mend 198 = .ok (.aload_n 0, 1) := by decide +kernel
theorem dX1_mend_199 : decode cX1_mend 199 = .ok (.getfield 7, 3) := by decide +kernel
theorem dX1_mend_202 : decode cX1_mend 202 = .ok (.bipush 64, 2) := by decide +kernel
theorem dX1_mend_204 : decode cX1_mend 204 = .ok (.aload_n 0, 1) := by decide +kernel
theorem dX1_mend_205 : decode cX1_mend 205 = .ok (.invokevirtual 44, 3) := by decide +kernel
theorem dX1_mend_208 : decode cX1_mend 208 = .ok (.imul, 1) := by decide +kernel
theorem dX1_mend_209 : decode cX1_mend 209 = .ok (.iload 6, 2) := by decide +kernel
theorem dX1_mend_211 : decode cX1_mend 211 = .ok (.iadd, 1) := by decide +kernel
theorem dX1_mend_212 : decode cX1_mend 212 = .ok (.aload_n 0, 1) := by decide +kernel
theorem dX1_mend_213 : decode cX1_mend 213 = .ok (.getfield 13, 3) := by decide +kernel
theorem dX1_mend_216 : decode cX1_mend 216 = .ok (.aload_n 0, 1) := by decide +kernel
theorem dX1_mend_217 : decode cX1_mend 217 = .ok (.invokevirtual 44, 3) := by decide +kernel
theorem dX1_mend_220 : decode cX1_mend 220 = .ok (.baload, 1) := by decide +kernel
theorem dX1_mend_221 : decode cX1_mend 221 = .ok (.ifCond .eq 13, 3) := by decide +kernel
theorem dX1_mend_224 : decode cX1_mend 224 = .ok (.aload_n 0, 1) := by decide +kernel
theorem dX1_mend_225 : decode cX1_mend 225 = .ok (.iload 6, 2) := by decide +kernel
theorem dX1_mend_227 : decode cX1_mend 227 = .ok (.iconst 1, 1) := by decide +kernel
theorem dX1_mend_228 : decode cX1_mend 228 = .ok (.invokevirtual 55, 3) := by decide +kernel
theorem dX1_mend_231 : decode cX1_mend 231 = .ok (.goto 18, 3) := by decide +kernel
theorem dX1_mend_234 : decode cX1_mend 234 = .ok (.aload_n 0, 1) := by decide +kernel
theorem dX1_mend_235 : decode cX1_mend 235 = .ok (.getfield 7, 3) := by decide +kernel
theorem dX1_mend_238 : decode cX1_mend 238 = .ok (.bipush 64, 2) := by decide +kernel
theorem dX1_mend_240 : decode cX1_mend 240 = .ok (.aload_n 0, 1) := by decide +kernel
theorem dX1_mend_241 : decode cX1_mend 241 = .ok (.invokevirtual 44, 3) := by decide +kernel
theorem dX1_mend_244 : decode cX1_mend 244 = .ok (.imul, 1) := by decide +kernel
theorem dX1_mend_245 : decode cX1_mend 245 = .ok (.iload 6, 2) := by decide +kernel
theorem dX1_mend_247 : decode cX1_mend 247 = .ok (.iadd, 1) := by decide +kernel
theorem dX1_mend_248 : decode cX1_mend 248 = .ok (.iaload, 1) := by decide +kernel
theorem dX1_mend_249 : decode cX1_mend 249 = .ok (.iastore, 1) := by decide +kernel
theorem dX1_mend_250 : decode cX1_mend 250 = .ok (.iinc 6 1, 3) := by decide +kernel
theorem dX1_mend_253 : decode cX1_mend 253 = .ok (.goto (-114), 3) := by decide +kernel
theorem dX1_mend_256 : decode cX1_mend 256 = .ok (.aload_n 0, 1) := by decide +kernel
theorem dX1_mend_257 : decode cX1_mend 257 = .ok (.getfield 13, 3) := by decide +kernel
theorem dX1_mend_260 : decode cX1_mend 260 = .ok (.aload_n 0, 1) := by decide +kernel
theorem dX1_mend_261 : decode cX1_mend 261 = .ok (.invokevirtual 38, 3) := by decide +kernel
theorem dX1_mend_264 : decode cX1_mend 264 = .ok (.iconst 0, 1) := by decide +kernel
theorem dX1_mend_265 : decode cX1_mend 265 = .ok (.bastore, 1) := by decide +kernel
theorem dX1_mend_266 : decode cX1_mend 266 = .ok (.aload_n 0, 1) := by decide +kernel
theorem dX1_mend_267 : decode cX1_mend 267 = .ok (.getfield 13, 3) := by decide +kernel
theorem dX1_mend_270 : decode cX1_mend 270 = .ok (.aload_n 0, 1) := by decide +kernel
theorem dX1_mend_271 : decode cX1_mend 271 = .ok (.invokevirtual 44, 3) := by decide +kernel
theorem dX1_mend_274 : decode cX1_mend 274 = .ok (.iconst 0, 1) := by decide +kernel
theorem dX1_mend_275 : decode cX1_mend 275 = .ok (.bastore, 1) := by decide +kernel
theorem dX1_mend_276 : decode cX1_mend 276 = .ok (.iload_n 1, 1) := by decide +kernel
theorem dX1_mend_277 : decode cX1_mend 277 = .ok (.ireturn, 1) := by decide +kernel
set_option maxRecDepth 20000 in
theorem ggX1_off_X1_sumAt : GoodIn wsX1_off wsX1_sumAt := goodIn_r _ [6, 7, 1, 8, 9, 10, 5, 11, 12, 13, 14, 15, 16, 17, 18, 19, 20, 25, 26, 27, 28] (by decide +kernel) (by decide +kernel)
set_option maxRecDepth 20000 in
theorem gX1_off_X1_sumAt : GoodIn wsX1_off (wsV RX1 55 RX1 yX1_sumAt wsX1_sumAt) := goodIn_app (goodIn_of _ (by decide +kernel)) ggX1_off_X1_sumAt
set_option maxRecDepth 20000 in
theorem ggX1_off_X1_p : GoodIn wsX1_off wsX1_p := goodIn_r _ [11, 12, 25, 26, 27, 28] (by decide +kernel) (by decide +kernel)
set_option maxRecDepth 20000 in
theorem gX1_off_X1_p : GoodIn wsX1_off (wsV RX1 38 RX1 yX1_p wsX1_p) := goodIn_app (goodIn_of _ (by decide +kernel)) ggX1_off_X1_p
set_option maxRecDepth 20000 in
theorem ggX1_off_X1_q : GoodIn wsX1_off wsX1_q := goodIn_r _ [24, 12, 25, 26, 27, 28] (by decide +kernel) (by decide +kernel)
set_option maxRecDepth 20000 in
theorem gX1_off_X1_q : GoodIn wsX1_off (wsV RX1 44 RX1 yX1_q wsX1_q) := goodIn_app (goodIn_of _ (by decide +kernel)) ggX1_off_X1_q
set_option maxRecDepth 20000 in
theorem ggX1_off_X1_twos : GoodIn wsX1_off wsX1_twos := goodIn_r _ [16, 17, 18, 19, 5, 20] (by decide +kernel) (by decide +kernel)
set_option maxRecDepth 20000 in
theorem gX1_off_X1_twos : GoodIn wsX1_off (wsV RX1 35 RX1 yX1_twos wsX1_twos) := goodIn_app (goodIn_of _ (by decide +kernel)) ggX1_off_X1_twos
set_option maxRecDepth 20000 in
theorem ggX1_off_X1_times : GoodIn wsX1_off wsX1_times := goodIn_r _ [20] (by decide +kernel) (by decide +kernel)
set_option maxRecDepth 20000 in
theorem gX1_off_X1_times : GoodIn wsX1_off (wsV RX1 28 RX1 yX1_times wsX1_times) := goodIn_app (goodIn_of _ (by decide +kernel)) ggX1_off_X1_times
theorem dX1_off_0 : decode cX1_off 0 = .ok (.iconst 1, 1) := by decide +kernel
theorem dX1_off_1 : decode cX1_off 1 = .ok (.istore_n 1, 1) := by decide +kernel
theorem dX1_off_2 : decode cX1_off 2 = .ok (.iconst 1, 1) := by decide +kernel
theorem dX1_off_3 : decode cX1_off 3 = .ok (.istore_n 2, 1) := by decide +kernel
theorem dX1_off_4 : decode cX1_off 4 = .ok (.iconst 0, 1) := by decide +kernel
theorem dX1_off_5 : decode cX1_off 5 = .ok (.istore_n 3, 1) := by decide +kernel
theorem dX1_off_6 : decode cX1_off 6 = .ok (.iload_n 3, 1) := by decide +kernel
theorem dX1_off_7 : decode cX1_off 7 = .ok (.bipush 64, 2) := by decide +kernel
theorem dX1_off_9 : decode cX1_off 9 = .ok (.if_icmp .ge 75, 3) := by decide +kernel
theorem dX1_off_12 : decode cX1_off 12 = .ok (.iload_n 1, 1) := by decide +kernel
theorem dX1_off_13 : decode cX1_off 13 = .ok (.ifCond .eq 30, 3) := by decide +kernel
theorem dX1_off_16 : decode cX1_off 16 = .ok (.aload_n 0, 1) := by decide +kernel
theorem dX1_off_17 : decode cX1_off 17 = .ok (.iload_n 3, 1) := by decide +kernel
theorem dX1_off_18 : decode cX1_off 18 = .ok (.iconst 0, 1) := by decide +kernel
theorem dX1_off_19 : decode cX1_off 19 = .ok (.invokevirtual 55, 3) := by decide +kernel
theorem dX1_off_22 : decode cX1_off 22 = .ok (.aload_n 0, 1) := by decide +kernel
theorem dX1_off_23 : decode cX1_off 23 = .ok (.getfield 7, 3) := by decide +kernel
theorem dX1_off_26 : decode cX1_off 26 = .ok (.bipush 64, 2) := by decide +kernel
theorem dX1_off_28 : decode cX1_off 28 = .ok (.aload_n 0, 1) := by decide +kernel
theorem dX1_off_29 : decode cX1_off 29 = .ok (.invokevirtual 38, 3) := by decide +kernel
theorem dX1_off_32 : decode cX1_off 32 = .ok (.imul, 1) := by decide +kernel
theorem dX1_off_33 : decode cX1_off 33 = .ok (.iload_n 3, 1) := by decide +kernel
theorem dX1_off_34 : decode cX1_off 34 = .ok (.iadd, 1) := by decide +kernel
theorem dX1_off_35 : decode cX1_off 35 = .ok (.iaload, 1) := by decide +kernel
theorem dX1_off_36 : decode cX1_off 36 = .ok (.if_icmp .ne 7, 3) := by decide +kernel
theorem dX1_off_39 : decode cX1_off 39 = .ok (.iconst 1, 1) := by decide +kernel
theorem dX1_off_40 : decode cX1_off 40 = .ok (.goto 4, 3) := by decide +kernel
theorem dX1_off_43 : decode cX1_off 43 = .ok (.iconst 0, 1) := by decide +kernel
theorem dX1_off_44 : decode cX1_off 44 = .ok (.istore_n 1, 1) := by decide +kernel
theorem dX1_off_45 : decode cX1_off 45 = .ok (.iload_n 2, 1) := by decide +kernel
theorem dX1_off_46 : decode cX1_off 46 = .ok (.ifCond .eq 30, 3) := by decide +kernel
theorem dX1_off_49 : decode cX1_off 49 = .ok (.aload_n 0, 1) := by decide +kernel
theorem dX1_off_50 : decode cX1_off 50 = .ok (.iload_n 3, 1) := by decide +kernel
theorem dX1_off_51 : decode cX1_off 51 = .ok (.iconst 1, 1) := by decide +kernel
theorem dX1_off_52 : decode cX1_off 52 = .ok (.invokevirtual 55, 3) := by decide +kernel
theorem dX1_off_55 : decode cX1_off 55 = .ok (.aload_n 0, 1) := by decide +kernel
theorem dX1_off_56 : decode cX1_off 56 = .ok (.getfield 7, 3) := by decide +kernel
theorem dX1_off_59 : decode cX1_off 59 = .ok (.bipush 64, 2) := by decide +kernel
theorem dX1_off_61 : decode cX1_off 61 = .ok (.aload_n 0, 1) := by decide +kernel
theorem dX1_off_62 : decode cX1_off 62 = .ok (.invokevirtual 44, 3) := by decide +kernel
theorem dX1_off_65 : decode cX1_off 65 = .ok (.imul, 1) := by decide +kernel
theorem dX1_off_66 : decode cX1_off 66 = .ok (.iload_n 3, 1) := by decide +kernel
theorem dX1_off_67 : decode cX1_off 67 = .ok (.iadd, 1) := by decide +kernel
theorem dX1_off_68 : decode cX1_off 68 = .ok (.iaload, 1) := by decide +kernel
theorem dX1_off_69 : decode cX1_off 69 = .ok (.if_icmp .ne 7, 3) := by decide +kernel
theorem dX1_off_72 : decode cX1_off 72 = .ok (.iconst 1, 1) := by decide +kernel
theorem dX1_off_73 : decode cX1_off 73 = .ok (.goto 4, 3) := by decide +kernel
theorem dX1_off_76 : decode cX1_off 76 = .ok (.iconst 0, 1) := by decide +kernel
theorem dX1_off_77 : decode cX1_off 77 = .ok (.istore_n 2, 1) := by decide +kernel
theorem dX1_off_78 : decode cX1_off 78 = .ok (.iinc 3 1, 3) := by decide +kernel
theorem dX1_off_81 : decode cX1_off 81 = .ok (.goto (-75), 3) := by decide +kernel
theorem dX1_off_84 : decode cX1_off 84 = .ok (.iload_n 1, 1) := by decide +kernel
theorem dX1_off_85 : decode cX1_off 85 = .ok (.ifCond .ne 7, 3) := by decide +kernel
theorem dX1_off_88 : decode cX1_off 88 = .ok (.iload_n 2, 1) := by decide +kernel
theorem dX1_off_89 : decode cX1_off 89 = .ok (.ifCond .eq 32, 3) := by decide +kernel
theorem dX1_off_92 : decode cX1_off 92 = .ok (.iload_n 1, 1) := by decide +kernel
theorem dX1_off_93 : decode cX1_off 93 = .ok (.ifCond .eq 12, 3) := by decide +kernel
theorem dX1_off_96 : decode cX1_off 96 = .ok (.iload_n 2, 1) := by decide +kernel
theorem dX1_off_97 : decode cX1_off 97 = .ok (.ifCond .eq 8, 3) := by decide +kernel
theorem dX1_off_100 : decode cX1_off 100 = .ok (.bipush (-2), 2) := by decide +kernel
theorem dX1_off_102 : decode cX1_off 102 = .ok (.goto 18, 3) := by decide +kernel
theorem dX1_off_105 : decode cX1_off 105 = .ok (.iload_n 1, 1) := by decide +kernel
theorem dX1_off_106 : decode cX1_off 106 = .ok (.ifCond .eq 10, 3) := by decide +kernel
theorem dX1_off_109 : decode cX1_off 109 = .ok (.aload_n 0, 1) := by decide +kernel
theorem dX1_off_110 : decode cX1_off 110 = .ok (.invokevirtual 44, 3) := by decide +kernel
theorem dX1_off_113 : decode cX1_off 113 = .ok (.goto 7, 3) := by decide +kernel
theorem dX1_off_116 : decode cX1_off 116 = .ok (.aload_n 0, 1) := by decide +kernel
theorem dX1_off_117 : decode cX1_off 117 = .ok (.invokevirtual 38, 3) := by decide +kernel
theorem dX1_off_120 : decode cX1_off 120 = .ok (.ireturn, 1) := by decide +kernel
theorem dX1_off_121 : decode cX1_off 121 = .ok (.iconst 0, 1) := by decide +kernel
theorem dX1_off_122 : decode cX1_off 122 = .ok (.istore_n 3, 1) := by decide +kernel
theorem dX1_off_123 : decode cX1_off 123 = .ok (.iload_n 3, 1) := by decide +kernel
theorem dX1_off_124 : decode cX1_off 124 = .ok (.aload_n 0, 1) := by decide +kernel
theorem dX1_off_125 : decode cX1_off 125 = .ok (.invokevirtual 38, 3) := by decide +kernel
theorem dX1_off_128 : decode cX1_off 128 = .ok (.if_icmp .ge 109, 3) := by decide +kernel
theorem dX1_off_131 : decode cX1_off 131 = .ok (.iconst 1, 1) := by decide +kernel
theorem dX1_off_132 : decode cX1_off 132 = .ok (.istore 4, 2) := by decide +kernel
theorem dX1_off_134 : decode cX1_off 134 = .ok (.iconst 0, 1) := by decide +kernel
theorem dX1_off_135 : decode cX1_off 135 = .ok (.istore 5, 2) := by decide +kernel
theorem dX1_off_137 : decode cX1_off 137 = .ok (.iload 5, 2) := by decide +kernel
theorem dX1_off_139 : decode cX1_off 139 = .ok (.bipush 64, 2) := by decide +kernel
theorem dX1_off_141 : decode cX1_off 141 = .ok (.if_icmp .ge 83, 3) := by decide +kernel
theorem dX1_off_144 : decode cX1_off 144 = .ok (.iload 4, 2) := by decide +kernel
theorem dX1_off_146 : decode cX1_off 146 = .ok (.ifCond .eq 78, 3) := by decide +kernel
theorem dX1_off_149 : decode cX1_off 149 = .ok (.aload_n 0, 1) := by decide +kernel
theorem dX1_off_150 : decode cX1_off 150 = .ok (.iload 5, 2) := by decide +kernel
theorem dX1_off_152 : decode cX1_off 152 = .ok (.iconst 0, 1) := by decide +kernel
theorem dX1_off_153 : decode cX1_off 153 = .ok (.invokevirtual 55, 3) := by decide +kernel
theorem dX1_off_156 : decode cX1_off 156 = .ok (.aload_n 0, 1) := by decide +kernel
theorem dX1_off_157 : decode cX1_off 157 = .ok (.getfield 7, 3) := by decide +kernel
theorem dX1_off_160 : decode cX1_off 160 = .ok (.bipush 64, 2) := by decide +kernel
theorem dX1_off_162 : decode cX1_off 162 = .ok (.aload_n 0, 1) := by decide +kernel
theorem dX1_off_163 : decode cX1_off 163 = .ok (.invokevirtual 38, 3) := by decide +kernel
theorem dX1_off_166 : decode cX1_off 166 = .ok (.imul, 1) := by decide +kernel
theorem dX1_off_167 : decode cX1_off 167 = .ok (.iload 5, 2) := by decide +kernel
theorem dX1_off_169 : decode cX1_off 169 = .ok (.iadd, 1) := by decide +kernel
theorem dX1_off_170 : decode cX1_off 170 = .ok (.iaload, 1) := by decide +kernel
theorem dX1_off_171 : decode cX1_off 171 = .ok (.ixor, 1) := by decide +kernel
theorem dX1_off_172 : decode cX1_off 172 = .ok (.istore 6, 2) := by decide +kernel
theorem dX1_off_174 : decode cX1_off 174 = .ok (.aload_n 0, 1) := by decide +kernel
theorem dX1_off_175 : decode cX1_off 175 = .ok (.iload 5, 2) := by decide +kernel
theorem dX1_off_177 : decode cX1_off 177 = .ok (.iconst 1, 1) := by decide +kernel
theorem dX1_off_178 : decode cX1_off 178 = .ok (.invokevirtual 55, 3) := by decide +kernel
theorem dX1_off_181 : decode cX1_off 181 = .ok (.aload_n 0, 1) := by decide +kernel
theorem dX1_off_182 : decode cX1_off 182 = .ok (.getfield 7, 3) := by decide +kernel
theorem dX1_off_185 : decode cX1_off 185 = .ok (.bipush 64, 2) := by decide +kernel
theorem dX1_off_187 : decode cX1_off 187 = .ok (.aload_n 0, 1) := by decide +kernel
theorem dX1_off_188 : decode cX1_off 188 = .ok (.invokevirtual 44, 3) := by decide +kernel
theorem dX1_off_191 : decode cX1_off 191 = .ok (.imul, 1) := by decide +kernel
theorem dX1_off_192 : decode cX1_off 192 = .ok (.iload 5, 2) := by decide +kernel
theorem dX1_off_194 : decode cX1_off 194 = .ok (.iadd, 1) := by decide +kernel
theorem dX1_off_195 : decode cX1_off 195 = .ok (.iaload, 1) := by decide +kernel
theorem dX1_off_196 : decode cX1_off 196 = .ok (.ixor, 1) := by decide +kernel
theorem dX1_off_197 : decode cX1_off 197 = .ok (.aload_n 0, 1) := by decide +kernel
theorem dX1_off_198 : decode cX1_off 198 = .ok (.iload 6, 2) := by decide +kernel
theorem dX1_off_200 : decode cX1_off 200 = .ok (.aload_n 0, 1) := by decide +kernel
theorem dX1_off_201 : decode cX1_off 201 = .ok (.iload_n 3, 1) := by decide +kernel
theorem dX1_off_202 : decode cX1_off 202 = .ok (.invokevirtual 35, 3) := by decide +kernel
theorem dX1_off_205 : decode cX1_off 205 = .ok (.invokevirtual 28, 3) := by decide +kernel
theorem dX1_off_208 : decode cX1_off 208 = .ok (.if_icmp .ne 7, 3) := by decide +kernel
theorem dX1_off_211 : decode cX1_off 211 = .ok (.iconst 1, 1) := by decide +kernel
theorem dX1_off_212 : decode cX1_off 212 = .ok (.goto 4, 3) := by decide +kernel
theorem dX1_off_215 : decode cX1_off 215 = .ok (.iconst 0, 1) := by decide +kernel
theorem dX1_off_216 : decode cX1_off 216 = .ok (.istore 4, 2) := by decide +kernel
theorem dX1_off_218 : decode cX1_off 218 = .ok (.iinc 5 1, 3) := by decide +kernel
theorem dX1_off_221 : decode cX1_off 221 = .ok (.goto (-84), 3) := by decide +kernel
theorem dX1_off_224 : decode cX1_off 224 = .ok (.iload 4, 2) := by decide +kernel
theorem dX1_off_226 : decode cX1_off 226 = .ok (.ifCond .eq 5, 3) := by decide +kernel
theorem dX1_off_229 : decode cX1_off 229 = .ok (.iload_n 3, 1) := by decide +kernel
theorem dX1_off_230 : decode cX1_off 230 = .ok (.ireturn, 1) := by decide +kernel
theorem dX1_off_231 : decode cX1_off 231 = .ok (.iinc 3 1, 3) := by decide +kernel
theorem dX1_off_234 : decode cX1_off 234 = .ok (.goto (-111), 3) := by decide +kernel
theorem dX1_off_237 : decode cX1_off 237 = .ok (.bipush (-3), 2) := by decide +kernel
theorem dX1_off_239 : decode cX1_off 239 = .ok (.ireturn, 1) := by decide +kernel
set_option maxRecDepth 20000 in
theorem ggX1_check_X1_manyLost : GoodIn wsX1_check wsX1_manyLost := goodIn_r _ [6, 7, 8, 34, 35, 36, 37] (by decide +kernel) (by decide +kernel)
set_option maxRecDepth 20000 in
theorem gX1_check_X1_manyLost : GoodIn wsX1_check (wsV RX1 52 RX1 yX1_manyLost wsX1_manyLost) := goodIn_app (goodIn_of _ (by decide +kernel)) ggX1_check_X1_manyLost
set_option maxRecDepth 20000 in
theorem ggX1_check_X1_off : GoodIn wsX1_check wsX1_off := goodIn_r _ [12, 13, 14, 15, 16, 5, 17, 8, 18, 19, 20, 21, 7, 22, 23, 24, 25, 26, 27, 28, 29, 30, 31, 32, 33, 34, 35, 36, 37] (by decide +kernel) (by decide +kernel)
set_option maxRecDepth 20000 in
theorem gX1_check_X1_off : GoodIn wsX1_check (wsV RX1 70 RX1 yX1_off wsX1_off) := goodIn_app (goodIn_of _ (by decide +kernel)) ggX1_check_X1_off
theorem dX1_check_0 : decode cX1_check 0 = .ok (.aload_n 0, 1) := by decide +kernel
theorem dX1_check_1 : decode cX1_check 1 = .ok (.iconst 0, 1) := by decide +kernel
theorem dX1_check_2 : decode cX1_check 2 = .ok (.putfield 21, 3) := by decide +kernel
theorem dX1_check_5 : decode cX1_check 5 = .ok (.aload_n 0, 1) := by decide +kernel
theorem dX1_check_6 : decode cX1_check 6 = .ok (.invokevirtual 52, 3) := by decide +kernel
theorem dX1_check_9 : decode cX1_check 9 = .ok (.ifCond .le 7, 3) := by decide +kernel
theorem dX1_check_12 : decode cX1_check 12 = .ok (.iconst (-1), 1) := by decide +kernel
theorem dX1_check_13 : decode cX1_check 13 = .ok (.goto 7, 3) := by decide +kernel
theorem dX1_check_16 : decode cX1_check 16 = .ok (.aload_n 0, 1) := by decide +kernel
theorem dX1_check_17 : decode cX1_check 17 = .ok (.invokevirtual 70, 3) := by decide +kernel
theorem dX1_check_20 : decode cX1_check 20 = .ok (.ireturn, 1) := by decide +kernel
set_option maxRecDepth 20000 in
theorem ggX1_fix_X1_manyLost : GoodIn wsX1_fix wsX1_manyLost := goodIn_r _ [7, 8, 2, 50, 51, 52, 53] (by decide +kernel) (by decide +kernel)
set_option maxRecDepth 20000 in
theorem gX1_fix_X1_manyLost : GoodIn wsX1_fix (wsV RX1 52 RX1 yX1_manyLost wsX1_manyLost) := goodIn_app (goodIn_of _ (by decide +kernel)) ggX1_fix_X1_manyLost
end
section
set_option maxRecDepth 20000 in
theorem ggX1_fix_X1_off : GoodIn wsX1_fix wsX1_off := goodIn_r _ [12, 13, 14, 15, 16, 6, 17, 2, 18, 19, 20, 21, 8, 22, 23, 24, 25, 26, 27, 28, 29, 30, 31, 32, 33, 50, 51, 52, 53] (by decide +kernel) (by decide +kernel)
set_option maxRecDepth 20000 in
theorem gX1_fix_X1_off : GoodIn wsX1_fix (wsV RX1 70 RX1 yX1_off wsX1_off) := goodIn_app (goodIn_of _ (by decide +kernel)) ggX1_fix_X1_off
set_option maxRecDepth 20000 in
theorem ggX1_fix_X1_mend : GoodIn wsX1_fix wsX1_mend := goodIn_r _ [37, 1, 8, 2, 13, 3, 4, 5, 6, 7, 38, 39, 40, 41, 18, 19, 20, 21, 42, 43, 44, 45, 14, 15, 16, 17, 22, 23, 24, 25, 26, 27, 28, 29, 46, 47, 48, 49, 30, 31, 32, 33, 50, 51, 52, 53] (by decide +kernel) (by decide +kernel)
set_option maxRecDepth 20000 in
theorem gX1_fix_X1_mend : GoodIn wsX1_fix (wsV RX1 73 RX1 yX1_mend wsX1_mend) := goodIn_app (goodIn_of _ (by decide +kernel)) ggX1_fix_X1_mend
theorem dX1_fix_0 : decode cX1_fix 0 = .ok (.aload_n 0, 1) := by decide +kernel
theorem dX1_fix_1 : decode cX1_fix 1 = .ok (.iconst 0, 1) := by decide +kernel
theorem dX1_fix_2 : decode cX1_fix 2 = .ok (.putfield 21, 3) := by decide +kernel
theorem dX1_fix_5 : decode cX1_fix 5 = .ok (.aload_n 0, 1) := by decide +kernel
theorem dX1_fix_6 : decode cX1_fix 6 = .ok (.invokevirtual 52, 3) := by decide +kernel
theorem dX1_fix_9 : decode cX1_fix 9 = .ok (.ifCond .le 5, 3) := by decide +kernel
theorem dX1_fix_12 : decode cX1_fix 12 = .ok (.iconst (-1), 1) := by decide +kernel
theorem dX1_fix_13 : decode cX1_fix 13 = .ok (.ireturn, 1) := by decide +kernel
theorem dX1_fix_14 : decode cX1_fix 14 = .ok (.aload_n 0, 1) := by decide +kernel
theorem dX1_fix_15 : decode cX1_fix 15 = .ok (.invokevirtual 70, 3) := by decide +kernel
theorem dX1_fix_18 : decode cX1_fix 18 = .ok (.istore_n 1, 1) := by decide +kernel
theorem dX1_fix_19 : decode cX1_fix 19 = .ok (.iload_n 1, 1) := by decide +kernel
theorem dX1_fix_20 : decode cX1_fix 20 = .ok (.ifCond .lt 15, 3) := by decide +kernel
theorem dX1_fix_23 : decode cX1_fix 23 = .ok (.aload_n 0, 1) := by decide +kernel
theorem dX1_fix_24 : decode cX1_fix 24 = .ok (.getfield 13, 3) := by decide +kernel
theorem dX1_fix_27 : decode cX1_fix 27 = .ok (.iload_n 1, 1) := by decide +kernel
theorem dX1_fix_28 : decode cX1_fix 28 = .ok (.iconst 1, 1) := by decide +kernel
theorem dX1_fix_29 : decode cX1_fix 29 = .ok (.bastore, 1) := by decide +kernel
theorem dX1_fix_30 : decode cX1_fix 30 = .ok (.aload_n 0, 1) := by decide +kernel
theorem dX1_fix_31 : decode cX1_fix 31 = .ok (.invokevirtual 73, 3) := by decide +kernel
theorem dX1_fix_34 : decode cX1_fix 34 = .ok (.istore_n 2, 1) := by decide +kernel
theorem dX1_fix_35 : decode cX1_fix 35 = .ok (.iload_n 1, 1) := by decide +kernel
theorem dX1_fix_36 : decode cX1_fix 36 = .ok (.ireturn, 1) := by decide +kernel
set_option maxRecDepth 20000 in
theorem ggX1_count_X1_lowest : GoodIn wsX1_count wsX1_lowest := goodIn_r _ [7, 2, 8, 13, 14, 15, 16] (by decide +kernel) (by decide +kernel)
set_option maxRecDepth 20000 in
theorem gX1_count_X1_lowest : GoodIn wsX1_count (wsV RX1 63 RX1 yX1_lowest wsX1_lowest) := goodIn_app (goodIn_of _ (by decide +kernel)) ggX1_count_X1_lowest
set_option maxRecDepth 20000 in
theorem ggX1_count_X1_manyLost : GoodIn wsX1_count wsX1_manyLost := goodIn_r _ [12, 2, 8, 13, 14, 15, 16] (by decide +kernel) (by decide +kernel)
set_option maxRecDepth 20000 in
theorem gX1_count_X1_manyLost : GoodIn wsX1_count (wsV RX1 52 RX1 yX1_manyLost wsX1_manyLost) := goodIn_app (goodIn_of _ (by decide +kernel)) ggX1_count_X1_manyLost
theorem dX1_count_0 : decode cX1_count 0 = .ok (.aload_n 0, 1) := by decide +kernel
theorem dX1_count_1 : decode cX1_count 1 = .ok (.iconst 0, 1) := by decide +kernel
theorem dX1_count_2 : decode cX1_count 2 = .ok (.putfield 21, 3) := by decide +kernel
theorem dX1_count_5 : decode cX1_count 5 = .ok (.aload_n 0, 1) := by decide +kernel
theorem dX1_count_6 : decode cX1_count 6 = .ok (.iconst 0, 1) := by decide +kernel
theorem dX1_count_7 : decode cX1_count 7 = .ok (.invokevirtual 63, 3) := by decide +kernel
theorem dX1_count_10 : decode cX1_count 10 = .ok (.istore_n 2, 1) := by decide +kernel
theorem dX1_count_11 : decode cX1_count 11 = .ok (.iload_n 1, 1) := by decide +kernel
theorem dX1_count_12 : decode cX1_count 12 = .ok (.ifCond .ne 10, 3) := by decide +kernel
theorem dX1_count_15 : decode cX1_count 15 = .ok (.aload_n 0, 1) := by decide +kernel
theorem dX1_count_16 : decode cX1_count 16 = .ok (.getfield 25, 3) := by decide +kernel
theorem dX1_count_19 : decode cX1_count 19 = .ok (.goto 33, 3) := by decide +kernel
theorem dX1_count_22 : decode cX1_count 22 = .ok (.iload_n 1, 1) := by decide +kernel
theorem dX1_count_23 : decode cX1_count 23 = .ok (.iconst 1, 1) := by decide +kernel
theorem dX1_count_24 : decode cX1_count 24 = .ok (.if_icmp .ne 10, 3) := by decide +kernel
theorem dX1_count_27 : decode cX1_count 27 = .ok (.aload_n 0, 1) := by decide +kernel
theorem dX1_count_28 : decode cX1_count 28 = .ok (.invokevirtual 52, 3) := by decide +kernel
theorem dX1_count_31 : decode cX1_count 31 = .ok (.goto 21, 3) := by decide +kernel
theorem dX1_count_34 : decode cX1_count 34 = .ok (.iload_n 1, 1) := by decide +kernel
theorem dX1_count_35 : decode cX1_count 35 = .ok (.iconst 2, 1) := by decide +kernel
theorem dX1_count_36 : decode cX1_count 36 = .ok (.if_icmp .ne 15, 3) := by decide +kernel
theorem dX1_count_39 : decode cX1_count 39 = .ok (.iload_n 2, 1) := by decide +kernel
theorem dX1_count_40 : decode cX1_count 40 = .ok (.aload_n 0, 1) := by decide +kernel
theorem dX1_count_41 : decode cX1_count 41 = .ok (.getfield 25, 3) := by decide +kernel
theorem dX1_count_44 : decode cX1_count 44 = .ok (.if_icmp .ge 7, 3) := by decide +kernel
theorem dX1_count_47 : decode cX1_count 47 = .ok (.iload_n 2, 1) := by decide +kernel
theorem dX1_count_48 : decode cX1_count 48 = .ok (.goto 4, 3) := by decide +kernel
theorem dX1_count_51 : decode cX1_count 51 = .ok (.iconst (-1), 1) := by decide +kernel
theorem dX1_count_52 : decode cX1_count 52 = .ok (.ireturn, 1) := by decide +kernel
theorem dJ6_bitCount_0f7a4_0 : decode cJ6_bitCount_0f7a4 0 = .ok (.iload_n 0, 1) := by decide +kernel
theorem dJ6_bitCount_0f7a4_1 : decode cJ6_bitCount_0f7a4 1 = .ok (.iload_n 0, 1) := by decide +kernel
theorem dJ6_bitCount_0f7a4_2 : decode cJ6_bitCount_0f7a4 2 = .ok (.iconst 1, 1) := by decide +kernel
theorem dJ6_bitCount_0f7a4_3 : decode cJ6_bitCount_0f7a4 3 = .ok (.iushr, 1) := by decide +kernel
theorem dJ6_bitCount_0f7a4_4 : decode cJ6_bitCount_0f7a4 4 = .ok (.ldc_w 265, 3) := by decide +kernel
theorem dJ6_bitCount_0f7a4_7 : decode cJ6_bitCount_0f7a4 7 = .ok (.iand, 1) := by decide +kernel
theorem dJ6_bitCount_0f7a4_8 : decode cJ6_bitCount_0f7a4 8 = .ok (.isub, 1) := by decide +kernel
theorem dJ6_bitCount_0f7a4_9 : decode cJ6_bitCount_0f7a4 9 = .ok (.istore_n 0, 1) := by decide +kernel
theorem dJ6_bitCount_0f7a4_10 : decode cJ6_bitCount_0f7a4 10 = .ok (.iload_n 0, 1) := by decide +kernel
theorem dJ6_bitCount_0f7a4_11 : decode cJ6_bitCount_0f7a4 11 = .ok (.ldc_w 266, 3) := by decide +kernel
theorem dJ6_bitCount_0f7a4_14 : decode cJ6_bitCount_0f7a4 14 = .ok (.iand, 1) := by decide +kernel
theorem dJ6_bitCount_0f7a4_15 : decode cJ6_bitCount_0f7a4 15 = .ok (.iload_n 0, 1) := by decide +kernel
theorem dJ6_bitCount_0f7a4_16 : decode cJ6_bitCount_0f7a4 16 = .ok (.iconst 2, 1) := by decide +kernel
theorem dJ6_bitCount_0f7a4_17 : decode cJ6_bitCount_0f7a4 17 = .ok (.iushr, 1) := by decide +kernel
theorem dJ6_bitCount_0f7a4_18 : decode cJ6_bitCount_0f7a4 18 = .ok (.ldc_w 266, 3) := by decide +kernel
theorem dJ6_bitCount_0f7a4_21 : decode cJ6_bitCount_0f7a4 21 = .ok (.iand, 1) := by decide +kernel
theorem dJ6_bitCount_0f7a4_22 : decode cJ6_bitCount_0f7a4 22 = .ok (.iadd, 1) := by decide +kernel
theorem dJ6_bitCount_0f7a4_23 : decode cJ6_bitCount_0f7a4 23 = .ok (.istore_n 0, 1) := by decide +kernel
theorem dJ6_bitCount_0f7a4_24 : decode cJ6_bitCount_0f7a4 24 = .ok (.iload_n 0, 1) := by decide +kernel
theorem dJ6_bitCount_0f7a4_25 : decode cJ6_bitCount_0f7a4 25 = .ok (.iload_n 0, 1) := by decide +kernel
theorem dJ6_bitCount_0f7a4_26 : decode cJ6_bitCount_0f7a4 26 = .ok (.iconst 4, 1) := by decide +kernel
theorem dJ6_bitCount_0f7a4_27 : decode cJ6_bitCount_0f7a4 27 = .ok (.iushr, 1) := by decide +kernel
theorem dJ6_bitCount_0f7a4_28 : decode cJ6_bitCount_0f7a4 28 = .ok (.iadd, 1) := by decide +kernel
theorem dJ6_bitCount_0f7a4_29 : decode cJ6_bitCount_0f7a4 29 = .ok (.ldc_w 267, 3) := by decide +kernel
theorem dJ6_bitCount_0f7a4_32 : decode cJ6_bitCount_0f7a4 32 = .ok (.iand, 1) := by decide +kernel
theorem dJ6_bitCount_0f7a4_33 : decode cJ6_bitCount_0f7a4 33 = .ok (.istore_n 0, 1) := by decide +kernel
theorem dJ6_bitCount_0f7a4_34 : decode cJ6_bitCount_0f7a4 34 = .ok (.iload_n 0, 1) := by decide +kernel
theorem dJ6_bitCount_0f7a4_35 : decode cJ6_bitCount_0f7a4 35 = .ok (.iload_n 0, 1) := by decide +kernel
theorem dJ6_bitCount_0f7a4_36 : decode cJ6_bitCount_0f7a4 36 = .ok (.bipush 8, 2) := by decide +kernel
theorem dJ6_bitCount_0f7a4_38 : decode cJ6_bitCount_0f7a4 38 = .ok (.iushr, 1) := by decide +kernel
theorem dJ6_bitCount_0f7a4_39 : decode cJ6_bitCount_0f7a4 39 = .ok (.iadd, 1) := by decide +kernel
theorem dJ6_bitCount_0f7a4_40 : decode cJ6_bitCount_0f7a4 40 = .ok (.istore_n 0, 1) := by decide +kernel
theorem dJ6_bitCount_0f7a4_41 : decode cJ6_bitCount_0f7a4 41 = .ok (.iload_n 0, 1) := by decide +kernel
theorem dJ6_bitCount_0f7a4_42 : decode cJ6_bitCount_0f7a4 42 = .ok (.iload_n 0, 1) := by decide +kernel
theorem dJ6_bitCount_0f7a4_43 : decode cJ6_bitCount_0f7a4 43 = .ok (.bipush 16, 2) := by decide +kernel
theorem dJ6_bitCount_0f7a4_45 : decode cJ6_bitCount_0f7a4 45 = .ok (.iushr, 1) := by decide +kernel
theorem dJ6_bitCount_0f7a4_46 : decode cJ6_bitCount_0f7a4 46 = .ok (.iadd, 1) := by decide +kernel
theorem dJ6_bitCount_0f7a4_47 : decode cJ6_bitCount_0f7a4 47 = .ok (.istore_n 0, 1) := by decide +kernel
theorem dJ6_bitCount_0f7a4_48 : decode cJ6_bitCount_0f7a4 48 = .ok (.iload_n 0, 1) := by decide +kernel
theorem dJ6_bitCount_0f7a4_49 : decode cJ6_bitCount_0f7a4 49 = .ok (.bipush 63, 2) := by decide +kernel
theorem dJ6_bitCount_0f7a4_51 : decode cJ6_bitCount_0f7a4 51 = .ok (.iand, 1) := by decide +kernel
theorem dJ6_bitCount_0f7a4_52 : decode cJ6_bitCount_0f7a4 52 = .ok (.ireturn, 1) := by decide +kernel
theorem dJ9_floorMod_7cf53_0 : decode cJ9_floorMod_7cf53 0 = .ok (.iload_n 0, 1) := by decide +kernel
theorem dJ9_floorMod_7cf53_1 : decode cJ9_floorMod_7cf53 1 = .ok (.iload_n 1, 1) := by decide +kernel
theorem dJ9_floorMod_7cf53_2 : decode cJ9_floorMod_7cf53 2 = .ok (.irem, 1) := by decide +kernel
theorem dJ9_floorMod_7cf53_3 : decode cJ9_floorMod_7cf53 3 = .ok (.istore_n 2, 1) := by decide +kernel
theorem dJ9_floorMod_7cf53_4 : decode cJ9_floorMod_7cf53 4 = .ok (.iload_n 0, 1) := by decide +kernel
theorem dJ9_floorMod_7cf53_5 : decode cJ9_floorMod_7cf53 5 = .ok (.iload_n 1, 1) := by decide +kernel
theorem dJ9_floorMod_7cf53_6 : decode cJ9_floorMod_7cf53 6 = .ok (.ixor, 1) := by decide +kernel
theorem dJ9_floorMod_7cf53_7 : decode cJ9_floorMod_7cf53 7 = .ok (.ifCond .ge 11, 3) := by decide +kernel
theorem dJ9_floorMod_7cf53_10 : decode cJ9_floorMod_7cf53 10 = .ok (.iload_n 2, 1) := by decide +kernel
theorem dJ9_floorMod_7cf53_11 : decode cJ9_floorMod_7cf53 11 = .ok (.ifCond .eq 7, 3) := by decide +kernel
theorem dJ9_floorMod_7cf53_14 : decode cJ9_floorMod_7cf53 14 = .ok (.iload_n 2, 1) := by decide +kernel
theorem dJ9_floorMod_7cf53_15 : decode cJ9_floorMod_7cf53 15 = .ok (.iload_n 1, 1) := by decide +kernel
theorem dJ9_floorMod_7cf53_16 : decode cJ9_floorMod_7cf53 16 = .ok (.iadd, 1) := by decide +kernel
theorem dJ9_floorMod_7cf53_17 : decode cJ9_floorMod_7cf53 17 = .ok (.ireturn, 1) := by decide +kernel
theorem dJ9_floorMod_7cf53_18 : decode cJ9_floorMod_7cf53 18 = .ok (.iload_n 2, 1) := by decide +kernel
theorem dJ9_floorMod_7cf53_19 : decode cJ9_floorMod_7cf53 19 = .ok (.ireturn, 1) := by decide +kernel
theorem dJ7_fill_53178_0 : decode cJ7_fill_53178 0 = .ok (.iconst 0, 1) := by decide +kernel
theorem dJ7_fill_53178_1 : decode cJ7_fill_53178 1 = .ok (.istore_n 2, 1) := by decide +kernel
theorem dJ7_fill_53178_2 : decode cJ7_fill_53178 2 = .ok (.aload_n 0, 1) := by decide +kernel
theorem dJ7_fill_53178_3 : decode cJ7_fill_53178 3 = .ok (.arraylength, 1) := by decide +kernel
theorem dJ7_fill_53178_4 : decode cJ7_fill_53178 4 = .ok (.istore_n 3, 1) := by decide +kernel
theorem dJ7_fill_53178_5 : decode cJ7_fill_53178 5 = .ok (.iload_n 2, 1) := by decide +kernel
theorem dJ7_fill_53178_6 : decode cJ7_fill_53178 6 = .ok (.iload_n 3, 1) := by decide +kernel
theorem dJ7_fill_53178_7 : decode cJ7_fill_53178 7 = .ok (.if_icmp .ge 13, 3) := by decide +kernel
theorem dJ7_fill_53178_10 : decode cJ7_fill_53178 10 = .ok (.aload_n 0, 1) := by decide +kernel
theorem dJ7_fill_53178_11 : decode cJ7_fill_53178 11 = .ok (.iload_n 2, 1) := by decide +kernel
theorem dJ7_fill_53178_12 : decode cJ7_fill_53178 12 = .ok (.iload_n 1, 1) := by decide +kernel
theorem dJ7_fill_53178_13 : decode cJ7_fill_53178 13 = .ok (.iastore, 1) := by decide +kernel
theorem dJ7_fill_53178_14 : decode cJ7_fill_53178 14 = .ok (.iinc 2 1, 3) := by decide +kernel
theorem dJ7_fill_53178_17 : decode cJ7_fill_53178 17 = .ok (.goto (-12), 3) := by decide +kernel
theorem dJ7_fill_53178_20 : decode cJ7_fill_53178 20 = .ok (.return_, 1) := by decide +kernel
set_option maxRecDepth 20000 in
theorem ggL_law_X0_init : GoodIn wsL_law wsX0_init := goodIn_r _ [9, 10, 11, 12, 13, 14, 15, 16, 289, 290, 291] (by decide +kernel) (by decide +kernel)
set_option maxRecDepth 20000 in
theorem gL_law_X0_init : GoodIn wsL_law (wsX0_init) := ggL_law_X0_init
set_option maxRecDepth 20000 in
theorem ggL_law_X1_init : GoodIn wsL_law wsX1_init := goodIn_r _ [19, 20, 11, 12, 13, 21, 22, 23, 24, 25, 26, 5, 27, 28, 29, 292, 293, 294, 295] (by decide +kernel) (by decide +kernel)
set_option maxRecDepth 20000 in
theorem gL_law_X1_init : GoodIn wsL_law (wsX1_init) := ggL_law_X1_init
set_option maxRecDepth 20000 in
theorem ggL_law_X0_begin : GoodIn wsL_law wsX0_begin := goodIn_r _ [33, 15, 16, 14, 34, 35, 36, 37, 38, 39, 40, 2, 41, 289, 290, 291] (by decide +kernel) (by decide +kernel)
set_option maxRecDepth 20000 in
theorem gL_law_X0_begin : GoodIn wsL_law (wsV RL 13 RX0 yX0_begin wsX0_begin) := goodIn_app (goodIn_of _ (by decide +kernel)) ggL_law_X0_begin
set_option maxRecDepth 20000 in
theorem ggL_law_X1_begin : GoodIn wsL_law wsX1_begin := goodIn_r _ [27, 28, 29, 21, 23, 292, 293, 294, 295] (by decide +kernel) (by decide +kernel)
set_option maxRecDepth 20000 in
theorem gL_law_X1_begin : GoodIn wsL_law (wsV RL 17 RX1 yX1_begin wsX1_begin) := goodIn_app (goodIn_of _ (by decide +kernel)) ggL_law_X1_begin
set_option maxRecDepth 20000 in
theorem ggL_law_X0_put : GoodIn wsL_law wsX0_put := goodIn_r _ [46, 15, 47, 48, 49, 2, 50, 38, 39, 40, 41, 51, 52, 53, 54, 16, 55, 56, 57, 58, 59, 60, 61, 14, 62, 63, 64, 65, 66, 67, 68, 69, 70, 71, 72, 73, 74, 75, 76, 77, 78, 79, 80, 81, 82, 83, 289, 290, 291] (by decide +kernel) (by decide +kernel)
set_option maxRecDepth 20000 in
theorem gL_law_X0_put : GoodIn wsL_law (wsV RL 20 RX0 yX0_put wsX0_put) := goodIn_app (goodIn_of _ (by decide +kernel)) ggL_law_X0_put
set_option maxRecDepth 20000 in
theorem ggL_law_X1_put : GoodIn wsL_law wsX1_put := goodIn_r _ [87, 28, 23, 88, 21, 89, 90, 91, 5, 92, 29, 93, 94, 95, 96, 97, 98, 99, 100, 101, 102, 103, 104, 292, 293, 294, 295] (by decide +kernel) (by decide +kernel)
set_option maxRecDepth 20000 in
theorem gL_law_X1_put : GoodIn wsL_law (wsV RL 24 RX1 yX1_put wsX1_put) := goodIn_app (goodIn_of _ (by decide +kernel)) ggL_law_X1_put
set_option maxRecDepth 20000 in
theorem ggL_law_X0_spoil : GoodIn wsL_law wsX0_spoil := goodIn_r _ [108, 109, 47, 48, 49, 2, 50, 38, 39, 40, 41, 15, 51, 52, 53, 54, 16, 55, 56, 57, 58, 59, 60, 61, 14, 66, 67, 68, 69, 289, 290, 291] (by decide +kernel) (by decide +kernel)
set_option maxRecDepth 20000 in
theorem gL_law_X0_spoil : GoodIn wsL_law (wsV RL 25 RX0 yX0_spoil wsX0_spoil) := goodIn_app (goodIn_of _ (by decide +kernel)) ggL_law_X0_spoil
set_option maxRecDepth 20000 in
theorem ggL_law_X1_spoil : GoodIn wsL_law wsX1_spoil := goodIn_r _ [113, 28, 23, 114, 21, 115, 116, 117, 5, 118, 29, 292, 293, 294, 295] (by decide +kernel) (by decide +kernel)
set_option maxRecDepth 20000 in
theorem gL_law_X1_spoil : GoodIn wsL_law (wsV RL 29 RX1 yX1_spoil wsX1_spoil) := goodIn_app (goodIn_of _ (by decide +kernel)) ggL_law_X1_spoil
set_option maxRecDepth 20000 in
theorem ggL_law_X0_make : GoodIn wsL_law wsX0_make := goodIn_r _ [122, 16, 70, 71, 72, 2, 73, 15, 123, 124, 125, 126, 127, 128, 129, 130, 58, 59, 60, 61, 14, 66, 67, 68, 69, 74, 75, 76, 77, 131, 132, 133, 134, 78, 79, 80, 81, 82, 83, 135, 136, 137, 138, 139, 140, 141, 142, 143, 144, 289, 290, 291] (by decide +kernel) (by decide +kernel)
set_option maxRecDepth 20000 in
theorem gL_law_X0_make : GoodIn wsL_law (wsV RL 30 RX0 yX0_make wsX0_make) := goodIn_app (goodIn_of _ (by decide +kernel)) ggL_law_X0_make
set_option maxRecDepth 20000 in
theorem ggL_law_X1_make : GoodIn wsL_law wsX1_make := goodIn_r _ [148, 28, 21, 149, 150, 151, 5, 152, 29, 23, 89, 90, 91, 92, 153, 154, 155, 156, 97, 98, 99, 100, 101, 102, 103, 104, 93, 94, 95, 96, 292, 293, 294, 295] (by decide +kernel) (by decide +kernel)
set_option maxRecDepth 20000 in
theorem gL_law_X1_make : GoodIn wsL_law (wsV RL 34 RX1 yX1_make wsX1_make) := goodIn_app (goodIn_of _ (by decide +kernel)) ggL_law_X1_make
set_option maxRecDepth 20000 in
theorem ggL_law_X0_get : GoodIn wsL_law wsX0_get := goodIn_r _ [160, 47, 48, 49, 2, 50, 38, 39, 40, 41, 15, 51, 52, 53, 54, 16, 55, 56, 57, 58, 59, 60, 61, 14, 289, 290, 291] (by decide +kernel) (by decide +kernel)
set_option maxRecDepth 20000 in
theorem gL_law_X0_get : GoodIn wsL_law (wsV RL 35 RX0 yX0_get wsX0_get) := goodIn_app (goodIn_of _ (by decide +kernel)) ggL_law_X0_get
set_option maxRecDepth 20000 in
theorem ggL_law_X1_get : GoodIn wsL_law wsX1_get := goodIn_r _ [164, 28, 23, 21, 115, 116, 117, 5, 118, 29, 292, 293, 294, 295] (by decide +kernel) (by decide +kernel)
set_option maxRecDepth 20000 in
theorem gL_law_X1_get : GoodIn wsL_law (wsV RL 39 RX1 yX1_get wsX1_get) := goodIn_app (goodIn_of _ (by decide +kernel)) ggL_law_X1_get
set_option maxRecDepth 20000 in
theorem ggL_law_X0_word : GoodIn wsL_law wsX0_word := goodIn_r _ [168, 47, 48, 49, 2, 50, 38, 39, 40, 41, 15, 51, 52, 53, 54, 16, 58, 59, 60, 61, 14, 289, 290, 291] (by decide +kernel) (by decide +kernel)
set_option maxRecDepth 20000 in
theorem gL_law_X0_word : GoodIn wsL_law (wsV RL 40 RX0 yX0_word wsX0_word) := goodIn_app (goodIn_of _ (by decide +kernel)) ggL_law_X0_word
set_option maxRecDepth 20000 in
theorem ggL_law_X1_word : GoodIn wsL_law wsX1_word := goodIn_r _ [172, 28, 23, 21, 115, 116, 117, 5, 118, 29, 292, 293, 294, 295] (by decide +kernel) (by decide +kernel)
set_option maxRecDepth 20000 in
theorem gL_law_X1_word : GoodIn wsL_law (wsV RL 44 RX1 yX1_word wsX1_word) := goodIn_app (goodIn_of _ (by decide +kernel)) ggL_law_X1_word
set_option maxRecDepth 20000 in
theorem ggL_law_X0_lose : GoodIn wsL_law wsX0_lose := goodIn_r _ [176, 16, 47, 48, 49, 2, 50, 38, 39, 40, 41, 15, 51, 52, 53, 54, 177, 178, 179, 180, 181, 182, 183, 184, 185, 186, 187, 289, 290, 291] (by decide +kernel) (by decide +kernel)
set_option maxRecDepth 20000 in
theorem gL_law_X0_lose : GoodIn wsL_law (wsV RL 45 RX0 yX0_lose wsX0_lose) := goodIn_app (goodIn_of _ (by decide +kernel)) ggL_law_X0_lose
set_option maxRecDepth 20000 in
theorem ggL_law_X1_lose : GoodIn wsL_law wsX1_lose := goodIn_r _ [191, 28, 23, 115, 116, 117, 5, 118, 29, 149, 150, 151, 152, 292, 293, 294, 295] (by decide +kernel) (by decide +kernel)
set_option maxRecDepth 20000 in
theorem gL_law_X1_lose : GoodIn wsL_law (wsV RL 48 RX1 yX1_lose wsX1_lose) := goodIn_app (goodIn_of _ (by decide +kernel)) ggL_law_X1_lose
set_option maxRecDepth 20000 in
theorem ggL_law_X0_mend : GoodIn wsL_law wsX0_mend := goodIn_r _ [195, 16, 196, 197, 198, 2, 199, 38, 39, 40, 41, 15, 51, 52, 53, 54, 200, 201, 202, 203, 74, 75, 76, 77, 131, 132, 133, 134, 78, 79, 80, 81, 82, 83, 135, 136, 137, 138, 139, 140, 141, 142, 143, 144, 58, 59, 60, 61, 14, 66, 67, 68, 69, 123, 124, 125, 126, 127, 128, 129, 130, 70, 71, 72, 73, 204, 205, 206, 207, 208, 209, 210, 211, 289, 290, 291] (by decide +kernel) (by decide +kernel)
set_option maxRecDepth 20000 in
theorem gL_law_X0_mend : GoodIn wsL_law (wsV RL 49 RX0 yX0_mend wsX0_mend) := goodIn_app (goodIn_of _ (by decide +kernel)) ggL_law_X0_mend
set_option maxRecDepth 20000 in
theorem ggL_law_X1_mend : GoodIn wsL_law wsX1_mend := goodIn_r _ [215, 28, 29, 23, 21, 149, 150, 151, 5, 152, 216, 217, 218, 219, 89, 90, 91, 92, 220, 221, 222, 223, 153, 154, 155, 156, 97, 98, 99, 100, 101, 102, 103, 104, 224, 225, 226, 227, 93, 94, 95, 96, 292, 293, 294, 295] (by decide +kernel) (by decide +kernel)
set_option maxRecDepth 20000 in
theorem gL_law_X1_mend : GoodIn wsL_law (wsV RL 52 RX1 yX1_mend wsX1_mend) := goodIn_app (goodIn_of _ (by decide +kernel)) ggL_law_X1_mend
set_option maxRecDepth 20000 in
theorem ggL_law_X0_check : GoodIn wsL_law wsX0_check := goodIn_r _ [231, 16, 232, 233, 234, 2, 235, 15, 127, 128, 129, 130, 70, 71, 72, 73, 58, 59, 60, 61, 14, 141, 142, 143, 144, 81, 82, 83, 74, 75, 76, 77, 289, 290, 291] (by decide +kernel) (by decide +kernel)
set_option maxRecDepth 20000 in
theorem gL_law_X0_check : GoodIn wsL_law (wsV RL 53 RX0 yX0_check wsX0_check) := goodIn_app (goodIn_of _ (by decide +kernel)) ggL_law_X0_check
set_option maxRecDepth 20000 in
theorem ggL_law_X1_check : GoodIn wsL_law wsX1_check := goodIn_r _ [239, 28, 149, 150, 151, 5, 152, 29, 23, 240, 241, 242, 243, 21, 153, 154, 155, 156, 89, 90, 91, 92, 97, 98, 99, 100, 101, 102, 103, 104, 93, 94, 95, 96, 292, 293, 294, 295] (by decide +kernel) (by decide +kernel)
set_option maxRecDepth 20000 in
theorem gL_law_X1_check : GoodIn wsL_law (wsV RL 56 RX1 yX1_check wsX1_check) := goodIn_app (goodIn_of _ (by decide +kernel)) ggL_law_X1_check
set_option maxRecDepth 20000 in
theorem ggL_law_X0_fix : GoodIn wsL_law wsX0_fix := goodIn_r _ [247, 248, 229, 230, 2, 231, 16, 232, 233, 234, 235, 15, 127, 128, 129, 130, 70, 71, 72, 73, 58, 59, 60, 61, 14, 141, 142, 143, 144, 81, 82, 83, 74, 75, 76, 77, 200, 201, 202, 203, 131, 132, 133, 134, 78, 79, 80, 135, 136, 137, 138, 139, 140, 66, 67, 68, 69, 123, 124, 125, 126, 289, 290, 291] (by decide +kernel) (by decide +kernel)
set_option maxRecDepth 20000 in
theorem gL_law_X0_fix : GoodIn wsL_law (wsV RL 57 RX0 yX0_fix wsX0_fix) := goodIn_app (goodIn_of _ (by decide +kernel)) ggL_law_X0_fix
set_option maxRecDepth 20000 in
theorem ggL_law_X1_fix : GoodIn wsL_law wsX1_fix := goodIn_r _ [252, 28, 23, 149, 150, 151, 5, 152, 29, 240, 241, 242, 243, 21, 153, 154, 155, 156, 89, 90, 91, 92, 97, 98, 99, 100, 101, 102, 103, 104, 93, 94, 95, 96, 253, 213, 214, 215, 216, 217, 218, 219, 220, 221, 222, 223, 224, 225, 226, 227, 292, 293, 294, 295] (by decide +kernel) (by decide +kernel)
set_option maxRecDepth 20000 in
theorem gL_law_X1_fix : GoodIn wsL_law (wsV RL 60 RX1 yX1_fix wsX1_fix) := goodIn_app (goodIn_of _ (by decide +kernel)) ggL_law_X1_fix
set_option maxRecDepth 20000 in
theorem ggL_law_X0_count : GoodIn wsL_law wsX0_count := goodIn_r _ [257, 38, 39, 40, 2, 41, 15, 177, 178, 179, 180, 16, 181, 182, 183, 184, 185, 186, 187, 196, 197, 198, 199, 51, 52, 53, 54, 289, 290, 291] (by decide +kernel) (by decide +kernel)
set_option maxRecDepth 20000 in
theorem gL_law_X0_count : GoodIn wsL_law (wsV RL 61 RX0 yX0_count wsX0_count) := goodIn_app (goodIn_of _ (by decide +kernel)) ggL_law_X0_count
set_option maxRecDepth 20000 in
theorem ggL_law_X1_count : GoodIn wsL_law wsX1_count := goodIn_r _ [261, 28, 29, 216, 217, 218, 5, 219, 23, 149, 150, 151, 152, 292, 293, 294, 295] (by decide +kernel) (by decide +kernel)
set_option maxRecDepth 20000 in
theorem gL_law_X1_count : GoodIn wsL_law (wsV RL 64 RX1 yX1_count wsX1_count) := goodIn_app (goodIn_of _ (by decide +kernel)) ggL_law_X1_count
set_option maxRecDepth 20000 in
theorem ggL_law_X0_product : GoodIn wsL_law wsX0_product := goodIn_r _ [265, 266, 267, 2, 268, 135, 136, 137, 138, 139, 140, 81, 82, 83] (by decide +kernel) (by decide +kernel)
set_option maxRecDepth 20000 in
theorem gL_law_X0_product : GoodIn wsL_law (wsV RL 65 RX0 yX0_product wsX0_product) := goodIn_app (goodIn_of _ (by decide +kernel)) ggL_law_X0_product
set_option maxRecDepth 20000 in
theorem ggL_law_X1_product : GoodIn wsL_law wsX1_product := goodIn_r _ [272, 28, 273, 274, 275, 5, 276, 101, 102, 103, 104, 292, 293, 294, 295] (by decide +kernel) (by decide +kernel)
set_option maxRecDepth 20000 in
theorem gL_law_X1_product : GoodIn wsL_law (wsV RL 69 RX1 yX1_product wsX1_product) := goodIn_app (goodIn_of _ (by decide +kernel)) ggL_law_X1_product
set_option maxRecDepth 20000 in
theorem ggL_law_X0_power : GoodIn wsL_law wsX0_power := goodIn_r _ [280, 281, 282, 283, 284, 78, 79, 2, 80, 81, 82, 83] (by decide +kernel) (by decide +kernel)
set_option maxRecDepth 20000 in
theorem gL_law_X0_power : GoodIn wsL_law (wsV RL 70 RX0 yX0_power wsX0_power) := goodIn_app (goodIn_of _ (by decide +kernel)) ggL_law_X0_power
set_option maxRecDepth 20000 in
theorem ggL_law_X1_power : GoodIn wsL_law wsX1_power := goodIn_r _ [288, 28, 97, 98, 99, 5, 100, 101, 102, 103, 104, 292, 293, 294, 295] (by decide +kernel) (by decide +kernel)
set_option maxRecDepth 20000 in
theorem gL_law_X1_power : GoodIn wsL_law (wsV RL 73 RX1 yX1_power wsX1_power) := goodIn_app (goodIn_of _ (by decide +kernel)) ggL_law_X1_power
theorem dL_law_0 : decode cL_law 0 = .ok (.new 7, 3) := by decide +kernel
theorem dL_law_3 : decode cL_law 3 = .ok (.dup, 1) := by decide +kernel
theorem dL_law_4 : decode cL_law 4 = .ok (.invokespecial 9, 3) := by decide +kernel
theorem dL_law_7 : decode cL_law 7 = .ok (.astore_n 1, 1) := by decide +kernel
theorem dL_law_8 : decode cL_law 8 = .ok (.new 10, 3) := by decide +kernel
theorem dL_law_11 : decode cL_law 11 = .ok (.dup, 1) := by decide +kernel
theorem dL_law_12 : decode cL_law 12 = .ok (.invokespecial 12, 3) := by decide +kernel
theorem dL_law_15 : decode cL_law 15 = .ok (.astore_n 2, 1) := by decide +kernel
theorem dL_law_16 : decode cL_law 16 = .ok (.iconst 0, 1) := by decide +kernel
theorem dL_law_17 : decode cL_law 17 = .ok (.istore_n 3, 1) := by decide +kernel
theorem dL_law_18 : decode cL_law 18 = .ok (.iload_n 3, 1) := by decide +kernel
theorem dL_law_19 : decode cL_law 19 = .ok (.aload_n 0, 1) := by decide +kernel
theorem dL_law_20 : decode cL_law 20 = .ok (.arraylength, 1) := by decide +kernel
theorem dL_law_21 : decode cL_law 21 = .ok (.bipush 6, 2) := by decide +kernel
theorem dL_law_23 : decode cL_law 23 = .ok (.isub, 1) := by decide +kernel
theorem dL_law_24 : decode cL_law 24 = .ok (.if_icmp .gt 488, 3) := by decide +kernel
theorem dL_law_27 : decode cL_law 27 = .ok (.aload_n 0, 1) := by decide +kernel
theorem dL_law_28 : decode cL_law 28 = .ok (.iload_n 3, 1) := by decide +kernel
theorem dL_law_29 : decode cL_law 29 = .ok (.iaload, 1) := by decide +kernel
theorem dL_law_30 : decode cL_law 30 = .ok (.bipush 15, 2) := by decide +kernel
theorem dL_law_32 : decode cL_law 32 = .ok (.iand, 1) := by decide +kernel
theorem dL_law_33 : decode cL_law 33 = .ok (.tableswitch 473 0 12 #[67, 90, 173, 226, 239, 272, 306, 329, 342, 355, 368, 391, 450], 67) := by decide +kernel
theorem dL_law_100 : decode cL_law 100 = .ok (.aload_n 1, 1) := by decide +kernel
theorem dL_law_101 : decode cL_law 101 = .ok (.aload_n 0, 1) := by decide +kernel
theorem dL_law_102 : decode cL_law 102 = .ok (.iload_n 3, 1) := by decide +kernel
theorem dL_law_103 : decode cL_law 103 = .ok (.iconst 1, 1) := by decide +kernel
theorem dL_law_104 : decode cL_law 104 = .ok (.iadd, 1) := by decide +kernel
theorem dL_law_105 : decode cL_law 105 = .ok (.iaload, 1) := by decide +kernel
theorem dL_law_106 : decode cL_law 106 = .ok (.invokevirtual 13, 3) := by decide +kernel
theorem dL_law_109 : decode cL_law 109 = .ok (.aload_n 2, 1) := by decide +kernel
theorem dL_law_110 : decode cL_law 110 = .ok (.aload_n 0, 1) := by decide +kernel
theorem dL_law_111 : decode cL_law 111 = .ok (.iload_n 3, 1) := by decide +kernel
theorem dL_law_112 : decode cL_law 112 = .ok (.iconst 1, 1) := by decide +kernel
theorem dL_law_113 : decode cL_law 113 = .ok (.iadd, 1) := by decide +kernel
theorem dL_law_114 : decode cL_law 114 = .ok (.iaload, 1) := by decide +kernel
theorem dL_law_115 : decode cL_law 115 = .ok (.invokevirtual 17, 3) := by decide +kernel
theorem dL_law_118 : decode cL_law 118 = .ok (.if_icmp .eq 388, 3) := by decide +kernel
theorem dL_law_121 : decode cL_law 121 = .ok (.iconst 0, 1) := by decide +kernel
theorem dL_law_122 : decode cL_law 122 = .ok (.ireturn, 1) := by decide +kernel
theorem dL_law_123 : decode cL_law 123 = .ok (.aload_n 1, 1) := by decide +kernel
theorem dL_law_124 : decode cL_law 124 = .ok (.aload_n 0, 1) := by decide +kernel
theorem dL_law_125 : decode cL_law 125 = .ok (.iload_n 3, 1) := by decide +kernel
theorem dL_law_126 : decode cL_law 126 = .ok (.iconst 1, 1) := by decide +kernel
theorem dL_law_127 : decode cL_law 127 = .ok (.iadd, 1) := by decide +kernel
theorem dL_law_128 : decode cL_law 128 = .ok (.iaload, 1) := by decide +kernel
theorem dL_law_129 : decode cL_law 129 = .ok (.aload_n 0, 1) := by decide +kernel
theorem dL_law_130 : decode cL_law 130 = .ok (.iload_n 3, 1) := by decide +kernel
theorem dL_law_131 : decode cL_law 131 = .ok (.iconst 2, 1) := by decide +kernel
theorem dL_law_132 : decode cL_law 132 = .ok (.iadd, 1) := by decide +kernel
theorem dL_law_133 : decode cL_law 133 = .ok (.iaload, 1) := by decide +kernel
theorem dL_law_134 : decode cL_law 134 = .ok (.aload_n 0, 1) := by decide +kernel
theorem dL_law_135 : decode cL_law 135 = .ok (.iload_n 3, 1) := by decide +kernel
theorem dL_law_136 : decode cL_law 136 = .ok (.iconst 3, 1) := by decide +kernel
theorem dL_law_137 : decode cL_law 137 = .ok (.iadd, 1) := by decide +kernel
theorem dL_law_138 : decode cL_law 138 = .ok (.iaload, 1) := by decide +kernel
theorem dL_law_139 : decode cL_law 139 = .ok (.aload_n 0, 1) := by decide +kernel
theorem dL_law_140 : decode cL_law 140 = .ok (.iload_n 3, 1) := by decide +kernel
theorem dL_law_141 : decode cL_law 141 = .ok (.iconst 4, 1) := by decide +kernel
theorem dL_law_142 : decode cL_law 142 = .ok (.iadd, 1) := by decide +kernel
theorem dL_law_143 : decode cL_law 143 = .ok (.iaload, 1) := by decide +kernel
theorem dL_law_144 : decode cL_law 144 = .ok (.i2l, 1) := by decide +kernel
theorem dL_law_145 : decode cL_law 145 = .ok (.bipush 32, 2) := by decide +kernel
theorem dL_law_147 : decode cL_law 147 = .ok (.lshl, 1) := by decide +kernel
theorem dL_law_148 : decode cL_law 148 = .ok (.aload_n 0, 1) := by decide +kernel
theorem dL_law_149 : decode cL_law 149 = .ok (.iload_n 3, 1) := by decide +kernel
theorem dL_law_150 : decode cL_law 150 = .ok (.iconst 5, 1) := by decide +kernel
theorem dL_law_151 : decode cL_law 151 = .ok (.iadd, 1) := by decide +kernel
theorem dL_law_152 : decode cL_law 152 = .ok (.iaload, 1) := by decide +kernel
theorem dL_law_153 : decode cL_law 153 = .ok (.i2l, 1) := by decide +kernel
theorem dL_law_154 : decode cL_law 154 = .ok (.ldc2_w 18, 3) := by decide +kernel
theorem dL_law_157 : decode cL_law 157 = .ok (.land, 1) := by decide +kernel
theorem dL_law_158 : decode cL_law 158 = .ok (.lor, 1) := by decide +kernel
theorem dL_law_159 : decode cL_law 159 = .ok (.invokevirtual 20, 3) := by decide +kernel
theorem dL_law_162 : decode cL_law 162 = .ok (.aload_n 2, 1) := by decide +kernel
theorem dL_law_163 : decode cL_law 163 = .ok (.aload_n 0, 1) := by decide +kernel
theorem dL_law_164 : decode cL_law 164 = .ok (.iload_n 3, 1) := by decide +kernel
theorem dL_law_165 : decode cL_law 165 = .ok (.iconst 1, 1) := by decide +kernel
theorem dL_law_166 : decode cL_law 166 = .ok (.iadd, 1) := by decide +kernel
theorem dL_law_167 : decode cL_law 167 = .ok (.iaload, 1) := by decide +kernel
theorem dL_law_168 : decode cL_law 168 = .ok (.aload_n 0, 1) := by decide +kernel
theorem dL_law_169 : decode cL_law 169 = .ok (.iload_n 3, 1) := by decide +kernel
theorem dL_law_170 : decode cL_law 170 = .ok (.iconst 2, 1) := by decide +kernel
theorem dL_law_171 : decode cL_law 171 = .ok (.iadd, 1) := by decide +kernel
theorem dL_law_172 : decode cL_law 172 = .ok (.iaload, 1) := by decide +kernel
theorem dL_law_173 : decode cL_law 173 = .ok (.aload_n 0, 1) := by decide +kernel
theorem dL_law_174 : decode cL_law 174 = .ok (.iload_n 3, 1) := by decide +kernel
theorem dL_law_175 : decode cL_law 175 = .ok (.iconst 3, 1) := by decide +kernel
theorem dL_law_176 : decode cL_law 176 = .ok (.iadd, 1) := by decide +kernel
theorem dL_law_177 : decode cL_law 177 = .ok (.iaload, 1) := by decide +kernel
theorem dL_law_178 : decode cL_law 178 = .ok (.aload_n 0, 1) := by decide +kernel
theorem dL_law_179 : decode cL_law 179 = .ok (.iload_n 3, 1) := by decide +kernel
theorem dL_law_180 : decode cL_law 180 = .ok (.iconst 4, 1) := by decide +kernel
theorem dL_law_181 : decode cL_law 181 = .ok (.iadd, 1) := by decide +kernel
theorem dL_law_182 : decode cL_law 182 = .ok (.iaload, 1) := by decide +kernel
theorem dL_law_183 : decode cL_law 183 = .ok (.i2l, 1) := by decide +kernel
theorem dL_law_184 : decode cL_law 184 = .ok (.bipush 32, 2) := by decide +kernel
theorem dL_law_186 : decode cL_law 186 = .ok (.lshl, 1) := by decide +kernel
theorem dL_law_187 : decode cL_law 187 = .ok (.aload_n 0, 1) := by decide +kernel
theorem dL_law_188 : decode cL_law 188 = .ok (.iload_n 3, 1) := by decide +kernel
theorem dL_law_189 : decode cL_law 189 = .ok (.iconst 5, 1) := by decide +kernel
theorem dL_law_190 : decode cL_law 190 = .ok (.iadd, 1) := by decide +kernel
theorem dL_law_191 : decode cL_law 191 = .ok (.iaload, 1) := by decide +kernel
theorem dL_law_192 : decode cL_law 192 = .ok (.i2l, 1) := by decide +kernel
theorem dL_law_193 : decode cL_law 193 = .ok (.ldc2_w 18, 3) := by decide +kernel
theorem dL_law_196 : decode cL_law 196 = .ok (.land, 1) := by decide +kernel
theorem dL_law_197 : decode cL_law 197 = .ok (.lor, 1) := by decide +kernel
theorem dL_law_198 : decode cL_law 198 = .ok (.invokevirtual 24, 3) := by decide +kernel
theorem dL_law_201 : decode cL_law 201 = .ok (.if_icmp .eq 305, 3) := by decide +kernel
theorem dL_law_204 : decode cL_law 204 = .ok (.iconst 0, 1) := by decide +kernel
theorem dL_law_205 : decode cL_law 205 = .ok (.ireturn, 1) := by decide +kernel
theorem dL_law_206 : decode cL_law 206 = .ok (.aload_n 1, 1) := by decide +kernel
theorem dL_law_207 : decode cL_law 207 = .ok (.aload_n 0, 1) := by decide +kernel
theorem dL_law_208 : decode cL_law 208 = .ok (.iload_n 3, 1) := by decide +kernel
theorem dL_law_209 : decode cL_law 209 = .ok (.iconst 1, 1) := by decide +kernel
theorem dL_law_210 : decode cL_law 210 = .ok (.iadd, 1) := by decide +kernel
theorem dL_law_211 : decode cL_law 211 = .ok (.iaload, 1) := by decide +kernel
theorem dL_law_212 : decode cL_law 212 = .ok (.aload_n 0, 1) := by decide +kernel
theorem dL_law_213 : decode cL_law 213 = .ok (.iload_n 3, 1) := by decide +kernel
theorem dL_law_214 : decode cL_law 214 = .ok (.iconst 2, 1) := by decide +kernel
theorem dL_law_215 : decode cL_law 215 = .ok (.iadd, 1) := by decide +kernel
theorem dL_law_216 : decode cL_law 216 = .ok (.iaload, 1) := by decide +kernel
theorem dL_law_217 : decode cL_law 217 = .ok (.aload_n 0, 1) := by decide +kernel
theorem dL_law_218 : decode cL_law 218 = .ok (.iload_n 3, 1) := by decide +kernel
theorem dL_law_219 : decode cL_law 219 = .ok (.iconst 3, 1) := by decide +kernel
theorem dL_law_220 : decode cL_law 220 = .ok (.iadd, 1) := by decide +kernel
theorem dL_law_221 : decode cL_law 221 = .ok (.iaload, 1) := by decide +kernel
theorem dL_law_222 : decode cL_law 222 = .ok (.aload_n 0, 1) := by decide +kernel
theorem dL_law_223 : decode cL_law 223 = .ok (.iload_n 3, 1) := by decide +kernel
theorem dL_law_224 : decode cL_law 224 = .ok (.iconst 4, 1) := by decide +kernel
theorem dL_law_225 : decode cL_law 225 = .ok (.iadd, 1) := by decide +kernel
theorem dL_law_226 : decode cL_law 226 = .ok (.iaload, 1) := by decide +kernel
theorem dL_law_227 : decode cL_law 227 = .ok (.invokevirtual 25, 3) := by decide +kernel
theorem dL_law_230 : decode cL_law 230 = .ok (.aload_n 2, 1) := by decide +kernel
theorem dL_law_231 : decode cL_law 231 = .ok (.aload_n 0, 1) := by decide +kernel
theorem dL_law_232 : decode cL_law 232 = .ok (.iload_n 3, 1) := by decide +kernel
theorem dL_law_233 : decode cL_law 233 = .ok (.iconst 1, 1) := by decide +kernel
theorem dL_law_234 : decode cL_law 234 = .ok (.iadd, 1) := by decide +kernel
theorem dL_law_235 : decode cL_law 235 = .ok (.iaload, 1) := by decide +kernel
theorem dL_law_236 : decode cL_law 236 = .ok (.aload_n 0, 1) := by decide +kernel
theorem dL_law_237 : decode cL_law 237 = .ok (.iload_n 3, 1) := by decide +kernel
theorem dL_law_238 : decode cL_law 238 = .ok (.iconst 2, 1) := by decide +kernel
theorem dL_law_239 : decode cL_law 239 = .ok (.iadd, 1) := by decide +kernel
theorem dL_law_240 : decode cL_law 240 = .ok (.iaload, 1) := by decide +kernel
theorem dL_law_241 : decode cL_law 241 = .ok (.aload_n 0, 1) := by decide +kernel
theorem dL_law_242 : decode cL_law 242 = .ok (.iload_n 3, 1) := by decide +kernel
theorem dL_law_243 : decode cL_law 243 = .ok (.iconst 3, 1) := by decide +kernel
theorem dL_law_244 : decode cL_law 244 = .ok (.iadd, 1) := by decide +kernel
theorem dL_law_245 : decode cL_law 245 = .ok (.iaload, 1) := by decide +kernel
theorem dL_law_246 : decode cL_law 246 = .ok (.aload_n 0, 1) := by decide +kernel
theorem dL_law_247 : decode cL_law 247 = .ok (.iload_n 3, 1) := by decide +kernel
theorem dL_law_248 : decode cL_law 248 = .ok (.iconst 4, 1) := by decide +kernel
theorem dL_law_249 : decode cL_law 249 = .ok (.iadd, 1) := by decide +kernel
theorem dL_law_250 : decode cL_law 250 = .ok (.iaload, 1) := by decide +kernel
theorem dL_law_251 : decode cL_law 251 = .ok (.invokevirtual 29, 3) := by decide +kernel
theorem dL_law_254 : decode cL_law 254 = .ok (.if_icmp .eq 252, 3) := by decide +kernel
theorem dL_law_257 : decode cL_law 257 = .ok (.iconst 0, 1) := by decide +kernel
theorem dL_law_258 : decode cL_law 258 = .ok (.ireturn, 1) := by decide +kernel
theorem dL_law_259 : decode cL_law 259 = .ok (.aload_n 1, 1) := by decide +kernel
theorem dL_law_260 : decode cL_law 260 = .ok (.invokevirtual 30, 3) := by decide +kernel
theorem dL_law_263 : decode cL_law 263 = .ok (.aload_n 2, 1) := by decide +kernel
theorem dL_law_264 : decode cL_law 264 = .ok (.invokevirtual 34, 3) := by decide +kernel
theorem dL_law_267 : decode cL_law 267 = .ok (.if_icmp .eq 239, 3) := by decide +kernel
theorem dL_law_270 : decode cL_law 270 = .ok (.iconst 0, 1) := by decide +kernel
theorem dL_law_271 : decode cL_law 271 = .ok (.ireturn, 1) := by decide +kernel
theorem dL_law_272 : decode cL_law 272 = .ok (.aload_n 1, 1) := by decide +kernel
theorem dL_law_273 : decode cL_law 273 = .ok (.aload_n 0, 1) := by decide +kernel
theorem dL_law_274 : decode cL_law 274 = .ok (.iload_n 3, 1) := by decide +kernel
theorem dL_law_275 : decode cL_law 275 = .ok (.iconst 1, 1) := by decide +kernel
theorem dL_law_276 : decode cL_law 276 = .ok (.iadd, 1) := by decide +kernel
theorem dL_law_277 : decode cL_law 277 = .ok (.iaload, 1) := by decide +kernel
theorem dL_law_278 : decode cL_law 278 = .ok (.aload_n 0, 1) := by decide +kernel
theorem dL_law_279 : decode cL_law 279 = .ok (.iload_n 3, 1) := by decide +kernel
theorem dL_law_280 : decode cL_law 280 = .ok (.iconst 2, 1) := by decide +kernel
theorem dL_law_281 : decode cL_law 281 = .ok (.iadd, 1) := by decide +kernel
theorem dL_law_282 : decode cL_law 282 = .ok (.iaload, 1) := by decide +kernel
theorem dL_law_283 : decode cL_law 283 = .ok (.invokevirtual 35, 3) := by decide +kernel
theorem dL_law_286 : decode cL_law 286 = .ok (.aload_n 2, 1) := by decide +kernel
theorem dL_law_287 : decode cL_law 287 = .ok (.aload_n 0, 1) := by decide +kernel
theorem dL_law_288 : decode cL_law 288 = .ok (.iload_n 3, 1) := by decide +kernel
theorem dL_law_289 : decode cL_law 289 = .ok (.iconst 1, 1) := by decide +kernel
theorem dL_law_290 : decode cL_law 290 = .ok (.iadd, 1) := by decide +kernel
theorem dL_law_291 : decode cL_law 291 = .ok (.iaload, 1) := by decide +kernel
theorem dL_law_292 : decode cL_law 292 = .ok (.aload_n 0, 1) := by decide +kernel
theorem dL_law_293 : decode cL_law 293 = .ok (.iload_n 3, 1) := by decide +kernel
theorem dL_law_294 : decode cL_law 294 = .ok (.iconst 2, 1) := by decide +kernel
theorem dL_law_295 : decode cL_law 295 = .ok (.iadd, 1) := by decide +kernel
theorem dL_law_296 : decode cL_law 296 = .ok (.iaload, 1) := by decide +kernel
theorem dL_law_297 : decode cL_law 297 = .ok (.invokevirtual 39, 3) := by decide +kernel
theorem dL_law_300 : decode cL_law 300 = .ok (.if_icmp .eq 206, 3) := by decide +kernel
theorem dL_law_303 : decode cL_law 303 = .ok (.iconst 0, 1) := by decide +kernel
theorem dL_law_304 : decode cL_law 304 = .ok (.ireturn, 1) := by decide +kernel
theorem dL_law_305 : decode cL_law 305 = .ok (.aload_n 1, 1) := by decide +kernel
theorem dL_law_306 : decode cL_law 306 = .ok (.aload_n 0, 1) := by decide +kernel
theorem dL_law_307 : decode cL_law 307 = .ok (.iload_n 3, 1) := by decide +kernel
theorem dL_law_308 : decode cL_law 308 = .ok (.iconst 1, 1) := by decide +kernel
theorem dL_law_309 : decode cL_law 309 = .ok (.iadd, 1) := by decide +kernel
theorem dL_law_310 : decode cL_law 310 = .ok (.iaload, 1) := by decide +kernel
theorem dL_law_311 : decode cL_law 311 = .ok (.aload_n 0, 1) := by decide +kernel
theorem dL_law_312 : decode cL_law 312 = .ok (.iload_n 3, 1) := by decide +kernel
theorem dL_law_313 : decode cL_law 313 = .ok (.iconst 2, 1) := by decide +kernel
theorem dL_law_314 : decode cL_law 314 = .ok (.iadd, 1) := by decide +kernel
theorem dL_law_315 : decode cL_law 315 = .ok (.iaload, 1) := by decide +kernel
theorem dL_law_316 : decode cL_law 316 = .ok (.invokevirtual 40, 3) := by decide +kernel
theorem dL_law_319 : decode cL_law 319 = .ok (.aload_n 2, 1) := by decide +kernel
theorem dL_law_320 : decode cL_law 320 = .ok (.aload_n 0, 1) := by decide +kernel
theorem dL_law_321 : decode cL_law 321 = .ok (.iload_n 3, 1) := by decide +kernel
theorem dL_law_322 : decode cL_law 322 = .ok (.iconst 1, 1) := by decide +kernel
theorem dL_law_323 : decode cL_law 323 = .ok (.iadd, 1) := by decide +kernel
theorem dL_law_324 : decode cL_law 324 = .ok (.iaload, 1) := by decide +kernel
theorem dL_law_325 : decode cL_law 325 = .ok (.aload_n 0, 1) := by decide +kernel
theorem dL_law_326 : decode cL_law 326 = .ok (.iload_n 3, 1) := by decide +kernel
theorem dL_law_327 : decode cL_law 327 = .ok (.iconst 2, 1) := by decide +kernel
theorem dL_law_328 : decode cL_law 328 = .ok (.iadd, 1) := by decide +kernel
theorem dL_law_329 : decode cL_law 329 = .ok (.iaload, 1) := by decide +kernel
theorem dL_law_330 : decode cL_law 330 = .ok (.invokevirtual 44, 3) := by decide +kernel
theorem dL_law_333 : decode cL_law 333 = .ok (.lcmp, 1) := by decide +kernel
theorem dL_law_334 : decode cL_law 334 = .ok (.ifCond .eq 172, 3) := by decide +kernel
theorem dL_law_337 : decode cL_law 337 = .ok (.iconst 0, 1) := by decide +kernel
theorem dL_law_338 : decode cL_law 338 = .ok (.ireturn, 1) := by decide +kernel
theorem dL_law_339 : decode cL_law 339 = .ok (.aload_n 1, 1) := by decide +kernel
theorem dL_law_340 : decode cL_law 340 = .ok (.aload_n 0, 1) := by decide +kernel
theorem dL_law_341 : decode cL_law 341 = .ok (.iload_n 3, 1) := by decide +kernel
theorem dL_law_342 : decode cL_law 342 = .ok (.iconst 1, 1) := by decide +kernel
theorem dL_law_343 : decode cL_law 343 = .ok (.iadd, 1) := by decide +kernel
theorem dL_law_344 : decode cL_law 344 = .ok (.iaload, 1) := by decide +kernel
theorem dL_law_345 : decode cL_law 345 = .ok (.invokevirtual 45, 3) := by decide +kernel
theorem dL_law_348 : decode cL_law 348 = .ok (.aload_n 2, 1) := by decide +kernel
theorem dL_law_349 : decode cL_law 349 = .ok (.aload_n 0, 1) := by decide +kernel
theorem dL_law_350 : decode cL_law 350 = .ok (.iload_n 3, 1) := by decide +kernel
theorem dL_law_351 : decode cL_law 351 = .ok (.iconst 1, 1) := by decide +kernel
theorem dL_law_352 : decode cL_law 352 = .ok (.iadd, 1) := by decide +kernel
theorem dL_law_353 : decode cL_law 353 = .ok (.iaload, 1) := by decide +kernel
theorem dL_law_354 : decode cL_law 354 = .ok (.invokevirtual 48, 3) := by decide +kernel
theorem dL_law_357 : decode cL_law 357 = .ok (.if_icmp .eq 149, 3) := by decide +kernel
theorem dL_law_360 : decode cL_law 360 = .ok (.iconst 0, 1) := by decide +kernel
theorem dL_law_361 : decode cL_law 361 = .ok (.ireturn, 1) := by decide +kernel
theorem dL_law_362 : decode cL_law 362 = .ok (.aload_n 1, 1) := by decide +kernel
theorem dL_law_363 : decode cL_law 363 = .ok (.invokevirtual 49, 3) := by decide +kernel
theorem dL_law_366 : decode cL_law 366 = .ok (.aload_n 2, 1) := by decide +kernel
theorem dL_law_367 : decode cL_law 367 = .ok (.invokevirtual 52, 3) := by decide +kernel
theorem dL_law_370 : decode cL_law 370 = .ok (.if_icmp .eq 136, 3) := by decide +kernel
theorem dL_law_373 : decode cL_law 373 = .ok (.iconst 0, 1) := by decide +kernel
theorem dL_law_374 : decode cL_law 374 = .ok (.ireturn, 1) := by decide +kernel
theorem dL_law_375 : decode cL_law 375 = .ok (.aload_n 1, 1) := by decide +kernel
theorem dL_law_376 : decode cL_law 376 = .ok (.invokevirtual 53, 3) := by decide +kernel
theorem dL_law_379 : decode cL_law 379 = .ok (.aload_n 2, 1) := by decide +kernel
theorem dL_law_380 : decode cL_law 380 = .ok (.invokevirtual 56, 3) := by decide +kernel
theorem dL_law_383 : decode cL_law 383 = .ok (.if_icmp .eq 123, 3) := by decide +kernel
theorem dL_law_386 : decode cL_law 386 = .ok (.iconst 0, 1) := by decide +kernel
theorem dL_law_387 : decode cL_law 387 = .ok (.ireturn, 1) := by decide +kernel
theorem dL_law_388 : decode cL_law 388 = .ok (.aload_n 1, 1) := by decide +kernel
theorem dL_law_389 : decode cL_law 389 = .ok (.invokevirtual 57, 3) := by decide +kernel
theorem dL_law_392 : decode cL_law 392 = .ok (.aload_n 2, 1) := by decide +kernel
theorem dL_law_393 : decode cL_law 393 = .ok (.invokevirtual 60, 3) := by decide +kernel
theorem dL_law_396 : decode cL_law 396 = .ok (.if_icmp .eq 110, 3) := by decide +kernel
theorem dL_law_399 : decode cL_law 399 = .ok (.iconst 0, 1) := by decide +kernel
theorem dL_law_400 : decode cL_law 400 = .ok (.ireturn, 1) := by decide +kernel
theorem dL_law_401 : decode cL_law 401 = .ok (.aload_n 1, 1) := by decide +kernel
theorem dL_law_402 : decode cL_law 402 = .ok (.aload_n 0, 1) := by decide +kernel
theorem dL_law_403 : decode cL_law 403 = .ok (.iload_n 3, 1) := by decide +kernel
theorem dL_law_404 : decode cL_law 404 = .ok (.iconst 1, 1) := by decide +kernel
theorem dL_law_405 : decode cL_law 405 = .ok (.iadd, 1) := by decide +kernel
theorem dL_law_406 : decode cL_law 406 = .ok (.iaload, 1) := by decide +kernel
theorem dL_law_407 : decode cL_law 407 = .ok (.invokevirtual 61, 3) := by decide +kernel
theorem dL_law_410 : decode cL_law 410 = .ok (.aload_n 2, 1) := by decide +kernel
theorem dL_law_411 : decode cL_law 411 = .ok (.aload_n 0, 1) := by decide +kernel
theorem dL_law_412 : decode cL_law 412 = .ok (.iload_n 3, 1) := by decide +kernel
theorem dL_law_413 : decode cL_law 413 = .ok (.iconst 1, 1) := by decide +kernel
theorem dL_law_414 : decode cL_law 414 = .ok (.iadd, 1) := by decide +kernel
theorem dL_law_415 : decode cL_law 415 = .ok (.iaload, 1) := by decide +kernel
theorem dL_law_416 : decode cL_law 416 = .ok (.invokevirtual 64, 3) := by decide +kernel
theorem dL_law_419 : decode cL_law 419 = .ok (.if_icmp .eq 87, 3) := by decide +kernel
theorem dL_law_422 : decode cL_law 422 = .ok (.iconst 0, 1) := by decide +kernel
theorem dL_law_423 : decode cL_law 423 = .ok (.ireturn, 1) := by decide +kernel
theorem dL_law_424 : decode cL_law 424 = .ok (.aload_n 1, 1) := by decide +kernel
theorem dL_law_425 : decode cL_law 425 = .ok (.aload_n 0, 1) := by decide +kernel
theorem dL_law_426 : decode cL_law 426 = .ok (.iload_n 3, 1) := by decide +kernel
theorem dL_law_427 : decode cL_law 427 = .ok (.iconst 1, 1) := by decide +kernel
theorem dL_law_428 : decode cL_law 428 = .ok (.iadd, 1) := by decide +kernel
theorem dL_law_429 : decode cL_law 429 = .ok (.iaload, 1) := by decide +kernel
theorem dL_law_430 : decode cL_law 430 = .ok (.aload_n 0, 1) := by decide +kernel
theorem dL_law_431 : decode cL_law 431 = .ok (.iload_n 3, 1) := by decide +kernel
theorem dL_law_432 : decode cL_law 432 = .ok (.iconst 2, 1) := by decide +kernel
theorem dL_law_433 : decode cL_law 433 = .ok (.iadd, 1) := by decide +kernel
theorem dL_law_434 : decode cL_law 434 = .ok (.iaload, 1) := by decide +kernel
theorem dL_law_435 : decode cL_law 435 = .ok (.aload_n 0, 1) := by decide +kernel
theorem dL_law_436 : decode cL_law 436 = .ok (.iload_n 3, 1) := by decide +kernel
theorem dL_law_437 : decode cL_law 437 = .ok (.iconst 3, 1) := by decide +kernel
theorem dL_law_438 : decode cL_law 438 = .ok (.iadd, 1) := by decide +kernel
theorem dL_law_439 : decode cL_law 439 = .ok (.iaload, 1) := by decide +kernel
theorem dL_law_440 : decode cL_law 440 = .ok (.ifCond .eq 7, 3) := by decide +kernel
theorem dL_law_443 : decode cL_law 443 = .ok (.iconst 1, 1) := by decide +kernel
theorem dL_law_444 : decode cL_law 444 = .ok (.goto 4, 3) := by decide +kernel
theorem dL_law_447 : decode cL_law 447 = .ok (.iconst 0, 1) := by decide +kernel
theorem dL_law_448 : decode cL_law 448 = .ok (.invokevirtual 65, 3) := by decide +kernel
theorem dL_law_451 : decode cL_law 451 = .ok (.aload_n 2, 1) := by decide +kernel
theorem dL_law_452 : decode cL_law 452 = .ok (.aload_n 0, 1) := by decide +kernel
theorem dL_law_453 : decode cL_law 453 = .ok (.iload_n 3, 1) := by decide +kernel
theorem dL_law_454 : decode cL_law 454 = .ok (.iconst 1, 1) := by decide +kernel
theorem dL_law_455 : decode cL_law 455 = .ok (.iadd, 1) := by decide +kernel
theorem dL_law_456 : decode cL_law 456 = .ok (.iaload, 1) := by decide +kernel
theorem dL_law_457 : decode cL_law 457 = .ok (.aload_n 0, 1) := by decide +kernel
theorem dL_law_458 : decode cL_law 458 = .ok (.iload_n 3, 1) := by decide +kernel
theorem dL_law_459 : decode cL_law 459 = .ok (.iconst 2, 1) := by decide +kernel
theorem dL_law_460 : decode cL_law 460 = .ok (.iadd, 1) := by decide +kernel
theorem dL_law_461 : decode cL_law 461 = .ok (.iaload, 1) := by decide +kernel
theorem dL_law_462 : decode cL_law 462 = .ok (.aload_n 0, 1) := by decide +kernel
theorem dL_law_463 : decode cL_law 463 = .ok (.iload_n 3, 1) := by decide +kernel
theorem dL_law_464 : decode cL_law 464 = .ok (.iconst 3, 1) := by decide +kernel
theorem dL_law_465 : decode cL_law 465 = .ok (.iadd, 1) := by decide +kernel
theorem dL_law_466 : decode cL_law 466 = .ok (.iaload, 1) := by decide +kernel
theorem dL_law_467 : decode cL_law 467 = .ok (.ifCond .eq 7, 3) := by decide +kernel
theorem dL_law_470 : decode cL_law 470 = .ok (.iconst 1, 1) := by decide +kernel
theorem dL_law_471 : decode cL_law 471 = .ok (.goto 4, 3) := by decide +kernel
theorem dL_law_474 : decode cL_law 474 = .ok (.iconst 0, 1) := by decide +kernel
theorem dL_law_475 : decode cL_law 475 = .ok (.invokevirtual 69, 3) := by decide +kernel
theorem dL_law_478 : decode cL_law 478 = .ok (.if_icmp .eq 28, 3) := by decide +kernel
theorem dL_law_481 : decode cL_law 481 = .ok (.iconst 0, 1) := by decide +kernel
theorem dL_law_482 : decode cL_law 482 = .ok (.ireturn, 1) := by decide +kernel
theorem dL_law_483 : decode cL_law 483 = .ok (.aload_n 1, 1) := by decide +kernel
theorem dL_law_484 : decode cL_law 484 = .ok (.aload_n 0, 1) := by decide +kernel
theorem dL_law_485 : decode cL_law 485 = .ok (.iload_n 3, 1) := by decide +kernel
theorem dL_law_486 : decode cL_law 486 = .ok (.iconst 1, 1) := by decide +kernel
theorem dL_law_487 : decode cL_law 487 = .ok (.iadd, 1) := by decide +kernel
theorem dL_law_488 : decode cL_law 488 = .ok (.iaload, 1) := by decide +kernel
theorem dL_law_489 : decode cL_law 489 = .ok (.invokevirtual 70, 3) := by decide +kernel
theorem dL_law_492 : decode cL_law 492 = .ok (.aload_n 2, 1) := by decide +kernel
theorem dL_law_493 : decode cL_law 493 = .ok (.aload_n 0, 1) := by decide +kernel
theorem dL_law_494 : decode cL_law 494 = .ok (.iload_n 3, 1) := by decide +kernel
theorem dL_law_495 : decode cL_law 495 = .ok (.iconst 1, 1) := by decide +kernel
theorem dL_law_496 : decode cL_law 496 = .ok (.iadd, 1) := by decide +kernel
theorem dL_law_497 : decode cL_law 497 = .ok (.iaload, 1) := by decide +kernel
theorem dL_law_498 : decode cL_law 498 = .ok (.invokevirtual 73, 3) := by decide +kernel
theorem dL_law_501 : decode cL_law 501 = .ok (.if_icmp .eq 5, 3) := by decide +kernel
theorem dL_law_504 : decode cL_law 504 = .ok (.iconst 0, 1) := by decide +kernel
theorem dL_law_505 : decode cL_law 505 = .ok (.ireturn, 1) := by decide +kernel
theorem dL_law_506 : decode cL_law 506 = .ok (.iinc 3 6, 3) := by decide +kernel
theorem dL_law_509 : decode cL_law 509 = .ok (.goto (-491), 3) := by decide +kernel
theorem dL_law_512 : decode cL_law 512 = .ok (.iconst 1, 1) := by decide +kernel
theorem dL_law_513 : decode cL_law 513 = .ok (.ireturn, 1) := by decide +kernel
end
section
/-! ===== the field: bytes, doubling, powers, products, the inverse ===== -/
def tq_eb (x : BitVec 8) : Int32 := nI x.toNat
def tq_d (x : BitVec 8) : BitVec 8 := if x.getLsbD 7 then (x <<< 1) ^^^ 29#8 else x <<< 1
def tq_p : Nat → BitVec 8 → BitVec 8
  | 0, x => x
  | n + 1, x => tq_d (tq_p n x)
def tq_ms (a b : BitVec 8) : Nat → BitVec 8
  | 0 => 0#8
  | n + 1 => if b.getLsbD n then tq_ms a b n ^^^ tq_p n a else tq_ms a b n
def tq_m (a b : BitVec 8) : BitVec 8 := tq_ms a b 8
def tq_is (a : BitVec 8) : Nat → BitVec 8 × BitVec 8
  | 0 => (a, 1#8)
  | n + 1 => (tq_m (tq_is a n).1 (tq_is a n).1, tq_m (tq_is a n).2 (tq_m (tq_is a n).1 (tq_is a n).1))
def tq_i (a : BitVec 8) : BitVec 8 := (tq_is a 7).2
theorem tq_lc (a b c : BitVec 8) : a ^^^ (b ^^^ c) = b ^^^ (a ^^^ c) := by rw [← BitVec.xor_assoc, BitVec.xor_comm a b, BitVec.xor_assoc]
theorem tq_cl (a b : BitVec 8) : a ^^^ (a ^^^ b) = b := by rw [← BitVec.xor_assoc, BitVec.xor_self, BitVec.zero_xor]
theorem tq_z0 {a b : BitVec 8} (h : a ^^^ b = 0#8) : a = b := by
  have := congrArg (fun z => z ^^^ b) h
  simpa [BitVec.xor_assoc] using this
theorem tq_d_add (x y : BitVec 8) : tq_d (x ^^^ y) = tq_d x ^^^ tq_d y := by
  unfold tq_d
  rw [BitVec.getLsbD_xor, BitVec.shiftLeft_xor_distrib]
  cases x.getLsbD 7 <;> cases y.getLsbD 7 <;> simp [BitVec.xor_assoc, BitVec.xor_comm, tq_lc, tq_cl]
theorem tq_p_add (n : Nat) (x y : BitVec 8) : tq_p n (x ^^^ y) = tq_p n x ^^^ tq_p n y := by
  induction n with
  | zero => rfl
  | succ n ih => simp only [tq_p]; rw [ih, tq_d_add]
theorem tq_ms_add (x y b : BitVec 8) (n : Nat) : tq_ms (x ^^^ y) b n = tq_ms x b n ^^^ tq_ms y b n := by
  induction n with
  | zero => simp [tq_ms]
  | succ n ih =>
    simp only [tq_ms]
    rw [ih, tq_p_add]
    cases b.getLsbD n <;> simp [BitVec.xor_assoc, BitVec.xor_comm, tq_lc]
theorem tq_m_add (x y b : BitVec 8) : tq_m (x ^^^ y) b = tq_m x b ^^^ tq_m y b := tq_ms_add x y b 8
theorem tq_ms_add2 (x a b : BitVec 8) (n : Nat) : tq_ms x (a ^^^ b) n = tq_ms x a n ^^^ tq_ms x b n := by
  induction n with
  | zero => simp [tq_ms]
  | succ n ih =>
    simp only [tq_ms]
    rw [ih, BitVec.getLsbD_xor]
    cases a.getLsbD n <;> cases b.getLsbD n <;> simp [BitVec.xor_assoc, BitVec.xor_comm, tq_lc, tq_cl]
theorem tq_m_add2 (x a b : BitVec 8) : tq_m x (a ^^^ b) = tq_m x a ^^^ tq_m x b := tq_ms_add2 x a b 8
def tq_c (j : Nat) (x : BitVec 8) : BitVec 8 := if x.getLsbD j then 1#8 <<< j else 0#8
theorem tq_dec : ∀ x : BitVec 8, x = tq_c 0 x ^^^ (tq_c 1 x ^^^ (tq_c 2 x ^^^ (tq_c 3 x ^^^ (tq_c 4 x ^^^ (tq_c 5 x ^^^ (tq_c 6 x ^^^ tq_c 7 x)))))) := by decide +kernel
theorem tq_lin0 {f : BitVec 8 → BitVec 8} (hf : ∀ x y, f (x ^^^ y) = f x ^^^ f y) : f 0#8 = 0#8 := by
  have h := hf 0#8 0#8
  rw [BitVec.xor_self] at h
  rw [h, BitVec.xor_self]
theorem tq_lin {f g : BitVec 8 → BitVec 8} (hf : ∀ x y, f (x ^^^ y) = f x ^^^ f y) (hg : ∀ x y, g (x ^^^ y) = g x ^^^ g y) (h : ∀ j, j < 8 → f (1#8 <<< j) = g (1#8 <<< j)) (x : BitVec 8) : f x = g x := by
  have hc : ∀ j, j < 8 → f (tq_c j x) = g (tq_c j x) := by
    intro j hj
    unfold tq_c
    split
    · exact h j hj
    · rw [tq_lin0 hf, tq_lin0 hg]
  rw [tq_dec x]
  simp only [hf, hg]
  rw [hc 0 (by decide), hc 1 (by decide), hc 2 (by decide), hc 3 (by decide), hc 4 (by decide), hc 5 (by decide), hc 6 (by decide), hc 7 (by decide)]
theorem tq_p0 (n : Nat) : tq_p n 0#8 = 0#8 := tq_lin0 (tq_p_add n)
theorem tq_m0 (b : BitVec 8) : tq_m 0#8 b = 0#8 := tq_lin0 (f := fun x => tq_m x b) (fun x y => tq_m_add x y b)
theorem tq_ib1 : ∀ b : BitVec 8, b ≠ 0#8 → ∀ j, j < 8 → tq_m (tq_m (1#8 <<< j) b) (tq_i b) = 1#8 <<< j := by decide +kernel
theorem tq_ib2 : ∀ b : BitVec 8, b ≠ 0#8 → ∀ j, j < 8 → tq_m (tq_m (1#8 <<< j) (tq_i b)) b = 1#8 <<< j := by decide +kernel
theorem tq_pb : ∀ u, u < 16 → ∀ j, j < 8 → tq_m (1#8 <<< j) (tq_p u 1#8) = tq_p u (1#8 <<< j) := by decide +kernel
theorem tq_i1 {b : BitVec 8} (hb : b ≠ 0#8) (x : BitVec 8) : tq_m (tq_m x b) (tq_i b) = x :=
  tq_lin (f := fun x => tq_m (tq_m x b) (tq_i b)) (g := fun x => x) (fun x y => by simp only [tq_m_add]) (fun _ _ => rfl) (fun j hj => tq_ib1 b hb j hj) x
theorem tq_i2 {b : BitVec 8} (hb : b ≠ 0#8) (x : BitVec 8) : tq_m (tq_m x (tq_i b)) b = x :=
  tq_lin (f := fun x => tq_m (tq_m x (tq_i b)) b) (g := fun x => x) (fun x y => by simp only [tq_m_add]) (fun _ _ => rfl) (fun j hj => tq_ib2 b hb j hj) x
theorem tq_mp {u : Nat} (hu : u < 16) (x : BitVec 8) : tq_m x (tq_p u 1#8) = tq_p u x :=
  tq_lin (f := fun x => tq_m x (tq_p u 1#8)) (g := fun x => tq_p u x) (fun x y => tq_m_add x y _) (fun x y => tq_p_add u x y) (fun j hj => tq_pb u hu j hj) x
theorem tq_m1 (x : BitVec 8) : tq_m x 1#8 = x := tq_mp (u := 0) (by decide) x
theorem tq_m2 (x : BitVec 8) : tq_m x 2#8 = tq_d x := tq_mp (u := 1) (by decide) x
theorem tq_pn : ∀ u, u < 16 → tq_p u 1#8 ≠ 0#8 := by decide +kernel
theorem tq_pnn : ∀ u, u < 16 → ∀ v, v < 16 → u ≠ v → tq_p u 1#8 ^^^ tq_p v 1#8 ≠ 0#8 := by decide +kernel
/-- equal products have equal factors -/
theorem tq_inj {b x y : BitVec 8} (hb : b ≠ 0#8) (h : tq_m x b = tq_m y b) : x = y := by
  rw [← tq_i1 hb x, h, tq_i1 hb y]
theorem tq_puv {u v : Nat} {x : BitVec 8} (hu : u < 16) (hv : v < 16) (hx : x ≠ 0#8) (h : tq_p u x = tq_p v x) : u = v := by
  by_cases e : u = v
  · exact e
  · refine absurd ?_ hx
    refine tq_inj (tq_pnn u hu v hv e) ?_
    rw [tq_m_add2, tq_mp hu, tq_mp hv, h, BitVec.xor_self, tq_m0]
/-! ===== the machine's numbers of bytes ===== -/
theorem tq_eb_inj {x y : BitVec 8} (h : tq_eb x = tq_eb y) : x = y := by
  have hx : x.toNat < 2 ^ 8 := x.isLt
  have hy : y.toNat < 2 ^ 8 := y.isLt
  exact BitVec.eq_of_toNat_eq ((nI_eq (by omega) (by omega)).mp h)
theorem tq_eb_eq {x y : BitVec 8} : tq_eb x = tq_eb y ↔ x = y := ⟨tq_eb_inj, fun h => by rw [h]⟩
theorem tq_nx (a b : Nat) : nI a ^^^ nI b = nI (a ^^^ b) := by
  apply Int32.toBitVec_inj.mp
  rw [Int32.toBitVec_xor]
  show BitVec.ofNat 32 a ^^^ BitVec.ofNat 32 b = BitVec.ofNat 32 (a ^^^ b)
  exact BitVec.ofNat_xor.symm
theorem tq_eb_xor (x y : BitVec 8) : tq_eb x ^^^ tq_eb y = tq_eb (x ^^^ y) := by
  unfold tq_eb
  rw [tq_nx, BitVec.toNat_xor]
theorem tq_eb0 : tq_eb 0#8 = 0 := rfl
theorem tq_eb_z {x : BitVec 8} : tq_eb x = 0 ↔ x = 0#8 := ⟨fun h => tq_eb_inj (h.trans tq_eb0.symm), fun h => by rw [h]; rfl⟩
theorem tq_dbl_i : ∀ x : BitVec 8, (if (256 : Int32) ≤ tq_eb x <<< ((1 : Int32) &&& 31) then (tq_eb x <<< ((1 : Int32) &&& 31)) ^^^ 285 else tq_eb x <<< ((1 : Int32) &&& 31)) = tq_eb (tq_d x) := by decide +kernel
theorem tq_dbl_m : ∀ x : BitVec 8, (if (128 : Int32) ≤ tq_eb x then ((2 : Int32) * tq_eb x) ^^^ 285 else (2 : Int32) * tq_eb x) = tq_eb (tq_d x) := by decide +kernel
theorem tq_bit_i : ∀ x : BitVec 8, ∀ n, n < 8 → ((tq_eb x >>> (nI n &&& 31)) &&& 1) = if x.getLsbD n then 1 else 0 := by decide +kernel
theorem tq_eb_of {x : Int32} (h0 : ¬ x < 0) (h1 : ¬ (256 : Int32) ≤ x) : ∃ b : BitVec 8, x = tq_eb b := by
  obtain ⟨n, hn, rfl⟩ := nI_of h0
  have h2 : n < 256 := by
    rcases Nat.lt_or_ge n 256 with q | q
    · exact q
    · exact absurd (nI_le q hn) h1
  exact ⟨BitVec.ofNat 8 n, by unfold tq_eb; rw [BitVec.toNat_ofNat, Nat.mod_eq_of_lt h2]⟩
theorem tq_eb_rng (x : BitVec 8) : ¬ tq_eb x < 0 ∧ ¬ (256 : Int32) ≤ tq_eb x ∧ ¬ (255 : Int32) < tq_eb x := by
  have h : x.toNat < 2 ^ 8 := x.isLt
  refine ⟨nI_pos (by omega), ?_, ?_⟩
  · exact nI_ge (a := x.toNat) (b := 256) (by omega) (by decide)
  · exact nI_nlt (a := 255) (b := x.toNat) (by omega) (by decide)
end
section
/-! ===== worlds of the class and of the reference ===== -/
def tw_bI (b : Bool) : Int32 := if b then 1 else 0
abbrev tw_X (cA : ClassId) (h0 a0 k : Nat) (lo : Int32) (F : Nat → BitVec 8) : va_W := [(h0, .inr (0, [.ref a0, .int (nI k), .int lo])), (a0, .inl (cA, 1024, .inl (fun j => tq_eb (F j))))]
abbrev tw_tX (cA : ClassId) : List (ClassId × FieldType) := [(cA, .int)]
abbrev tw_M (cA cB : ClassId) (h0 a0 b0 k : Nat) (F : Nat → BitVec 8) (g : Nat → Bool) : va_W := [(h0, .inr (1, [.int 0, .int (nI (k + 2)), .ref a0, .ref b0])), (a0, .inl (cA, 1024, .inl (fun j => tq_eb (F j)))), (b0, .inl (cB, 16, .inl (fun j => tw_bI (g j))))]
abbrev tw_tM (cA cB : ClassId) : List (ClassId × FieldType) := [(cA, .int), (cB, .boolean)]
def tw_B (D : va_G) (ws : va_W) (tys : List (ClassId × FieldType)) (U : State) : Prop := va_P D vwCl ws U.heap ∧ va_K D vwCl tys U
def tw_Pw (D : va_G) (w0 : va_W) (tys : List (ClassId × FieldType)) (sz : Nat) (U : State) : Prop := U.heap.size = sz ∧ tw_B D w0 tys U ∧ va_D (fun _ => True) w0
def tw_Qw {σ : Type} (D : va_G) (w1 : σ → va_W) (tys : List (ClassId × FieldType)) (A : Nat → Prop) (u : σ) (t : State) : Prop := tw_B D (w1 u) tys t ∧ va_D A (w1 u)
theorem tw_upF (F : Nat → BitVec 8) (n : Nat) (v : BitVec 8) : upd (fun j => tq_eb (F j)) n (tq_eb v) = fun j => tq_eb (va_up F n v j) := by
  funext j
  unfold upd va_up
  split <;> rfl
theorem tw_upG (g : Nat → Bool) (n : Nat) (v : Bool) : upd (fun j => tw_bI (g j)) n (tw_bI v) = fun j => tw_bI (va_up g n v j) := by
  funext j
  unfold upd va_up
  split <;> rfl
section TWC
variable {p : Program} {l : Launch} {e : Env} {R : Room} {s : State} {m : MethodId} {args : Array Value} {below : List Frame} {meth : Method} {c : Code} {H H0 : Heap} {locs : List Loc} {cells slots : Nat} {Q : State → Prop}
variable {pc : Nat} {ls : Array Slot} {rest st0 : List Value} {A : Nat → Prop}
variable {y : MethodName} {bytes cc : ByteArray} {maxL nL n index : Nat} {ret : Option FieldType} {ws : List Cond} {rm : Room} {Ts : List Cond} {own : String} {As : List Value} {D : va_G} {w0 wsA : va_W} {tys tysA : List (ClassId × FieldType)} {h0 : Nat}
theorem tw_topr {x x' : Int32} (h : x = x') (k : W p l e R s m args below meth c H locs cells slots Q (F0 m pc ls (.int x' :: rest))) : W p l e R s m args below meth c H locs cells slots Q (F0 m pc ls (.int x :: rest)) := by rw [h]; exact k
theorem tw_toprl {x x' : Int64} (h : x = x') (k : W p l e R s m args below meth c H locs cells slots Q (F0 m pc ls (.long x' :: rest))) : W p l e R s m args below meth c H locs cells slots Q (F0 m pc ls (.long x :: rest)) := by rw [h]; exact k
theorem tw_ld (hexec : p.tables.exec = Jvm.exec) (hb : c.code = cc) (hK : va_K D vwCl tysA s) (hP : va_P D vwCl wsA H) (q0 t0 : Nat) {cA : ClassId} {N a : Nat} {F : Nat → BitVec 8} (ha : wsA[q0]? = some (a, .inl (cA, N, .inl (fun j => tq_eb (F j))))) (ht : tysA[t0]? = some (cA, .int)) {i : Int32} {n : Nat} (hi : i = nI n) (hn : n < N) (hN : N < 2 ^ 31) (hdg : decode cc pc = .ok (.iaload, 1))
    (kk : W p l e R s m args below meth c H locs cells slots Q (F0 m (pc + 1) ls (.int (tq_eb (F n)) :: rest))) : W p l e R s m args below meth c H locs cells slots Q (F0 m pc ls (.int i :: .ref a :: rest)) := by
  subst hi
  refine va_iald hexec hb hK hP q0 t0 ha ht (vp_in_nI hn hN) hdg ?_
  rw [nI_clamp (by omega)]
  exact kk
theorem tw_lz (hexec : p.tables.exec = Jvm.exec) (hb : c.code = cc) (hK : va_K D vwCl tysA s) (hP : va_P D vwCl wsA H) (q0 t0 : Nat) {cA : ClassId} {N a : Nat} {g : Nat → Bool} (ha : wsA[q0]? = some (a, .inl (cA, N, .inl (fun j => tw_bI (g j))))) (ht : tysA[t0]? = some (cA, .boolean)) {i : Int32} {n : Nat} (hi : i = nI n) (hn : n < N) (hN : N < 2 ^ 31) (hdg : decode cc pc = .ok (.baload, 1))
    (kk : W p l e R s m args below meth c H locs cells slots Q (F0 m (pc + 1) ls (.int (tw_bI (g n)) :: rest))) : W p l e R s m args below meth c H locs cells slots Q (F0 m pc ls (.int i :: .ref a :: rest)) := by
  subst hi
  refine va_zald hexec hb hK hP q0 t0 ha ht (vp_in_nI hn hN) hdg ?_
  rw [nI_clamp (by omega)]
  exact kk
theorem tw_st (hexec : p.tables.exec = Jvm.exec) (hb : c.code = cc) (hK : va_K D vwCl tysA s) (hP : va_P D vwCl wsA H) (hD : va_D A wsA) (hS : va_S A H0 H locs) (q0 t0 : Nat) {cA : ClassId} {N a : Nat} {F : Nat → BitVec 8} (ha : wsA[q0]? = some (a, .inl (cA, N, .inl (fun j => tq_eb (F j))))) (ht : tysA[t0]? = some (cA, .int)) {i x : Int32} {n : Nat} {v : BitVec 8} (hi : i = nI n) (hx : x = tq_eb v) (hn : n < N) (hN : N < 2 ^ 31) (hdg : decode cc pc = .ok (.iastore, 1))
    (kk : ∀ (H1 : Heap) (locs1 : List Loc), va_P D vwCl (wsA.set q0 (a, .inl (cA, N, .inl (fun j => tq_eb (va_up F n v j))))) H1 → va_D A (wsA.set q0 (a, .inl (cA, N, .inl (fun j => tq_eb (va_up F n v j))))) → va_S A H0 H1 locs1 → W p l e R s m args below meth c H1 locs1 cells slots Q (F0 m (pc + 1) ls rest)) : W p l e R s m args below meth c H locs cells slots Q (F0 m pc ls (.int x :: .int i :: .ref a :: rest)) := by
  subst hi
  subst hx
  refine va_iast hexec hb hK hP hD hS q0 t0 ha ht (vp_in_nI hn hN) hdg (fun H1 locs1 q1 q2 q3 => ?_)
  rw [nI_clamp (by omega), tw_upF] at q1 q2
  exact kk H1 locs1 q1 q2 q3
theorem tw_sz (hexec : p.tables.exec = Jvm.exec) (hb : c.code = cc) (hK : va_K D vwCl tysA s) (hP : va_P D vwCl wsA H) (hD : va_D A wsA) (hS : va_S A H0 H locs) (q0 t0 : Nat) {cA : ClassId} {N a : Nat} {g : Nat → Bool} (ha : wsA[q0]? = some (a, .inl (cA, N, .inl (fun j => tw_bI (g j))))) (ht : tysA[t0]? = some (cA, .boolean)) {i x : Int32} {n : Nat} {v : Bool} (hi : i = nI n) (hx : x = tw_bI v) (hn : n < N) (hN : N < 2 ^ 31) (hdg : decode cc pc = .ok (.bastore, 1))
    (kk : ∀ (H1 : Heap) (locs1 : List Loc), va_P D vwCl (wsA.set q0 (a, .inl (cA, N, .inl (fun j => tw_bI (va_up g n v j))))) H1 → va_D A (wsA.set q0 (a, .inl (cA, N, .inl (fun j => tw_bI (va_up g n v j))))) → va_S A H0 H1 locs1 → W p l e R s m args below meth c H1 locs1 cells slots Q (F0 m (pc + 1) ls rest)) : W p l e R s m args below meth c H locs cells slots Q (F0 m pc ls (.int x :: .int i :: .ref a :: rest)) := by
  subst hi
  subst hx
  refine va_zast hexec hb hK hP hD hS q0 t0 ha ht (vp_in_nI hn hN) hdg (fun H1 locs1 q1 q2 q3 => ?_)
  have hv : vp_nar .boolean (tw_bI v) = tw_bI v := by cases v <;> rfl
  rw [nI_clamp (by omega), hv, tw_upG] at q1 q2
  exact kk H1 locs1 q1 q2 q3
theorem tw_blind {av : List Value} : FrameBlind (va_Pc av (tw_B D w0 tys)) := fun a U g mk q => ⟨q.1, q.2.1, va_K.moved (u := U) (U := U.calling g mk a) (Vm.Alike.refl U.vm) q.2.2⟩
theorem tw_blindw {av : List Value} {sz : Nat} : FrameBlind (va_Pc av (tw_Pw D w0 tys sz)) := fun a U g mk q => ⟨q.1, q.2.1, ⟨q.2.2.1.1, va_K.moved (u := U) (U := U.calling g mk a) (Vm.Alike.refl U.vm) q.2.2.1.2⟩, q.2.2.2⟩
/-- a call of a method that only reads -/
theorem tw_rp {post : Int32 → Prop} (S : CallFix p m c cc nL s args Ts own) (hK : va_K D vwCl tys s) (hP : va_P D vwCl w0 H) {ci : Nat} {q : vw_C} {fs : List Value} (hc : vwCl[ci]? = some q) (he : w0[0]? = some (h0, .inr (ci, fs)))
    (hM : Met l y ws rm (va_Pc (.ref h0 :: As) (tw_B D w0 tys)) (vp_Si post) 0 0 (fun _ => False)) (cw : CallW R s args own q.1 index y bytes maxL ret ws rm 0 0 n)
    (hn : As.length = n) (hsize : ls.size = nL) (hst : st0 = As.reverse ++ .ref h0 :: rest) (hW : (rest.map fun v => v.category).sum ≤ 8) (hdg : decode cc pc = .ok (.invokevirtual index, 3)) (hf : cells ≤ R.cells ∧ slots ≤ R.slots)
    (kk : ∀ r : Int32, post r → W p l e R s m args below meth c H locs cells slots Q (F0 m (pc + 3) ls (.int r :: rest))) : W p l e R s m args below meth c H locs cells slots Q (F0 m pc ls st0) :=
  vp_callSi (va_Run.run (va_runV S hM cw ⟨tw_blind, va_recv hK hP hc he, fun U hU hW => ⟨rfl, by rw [hU]; exact hP, va_K.moved hW.alike hK⟩⟩ rfl hn hsize hst (lv_room hW) hdg hf)) kk
theorem tw_rX {cA : ClassId} {a0 k : Nat} {lo : Int32} {F : Nat → BitVec 8} {E : Int32} (S : CallFix p m c cc nL s args Ts own) (hK : va_K D vwCl (tw_tX cA) s) (hP : va_P D vwCl (tw_X cA h0 a0 k lo F) H)
    (hM : Met l y ws rm (va_Pc (.ref h0 :: As) (tw_B D (tw_X cA h0 a0 k lo F) (tw_tX cA))) (vp_Si (fun r => r = E)) 0 0 (fun _ => False)) (cw : CallW R s args own RX0 index y bytes maxL ret ws rm 0 0 n)
    (hn : As.length = n) (hsize : ls.size = nL) (hst : st0 = As.reverse ++ .ref h0 :: rest) (hW : (rest.map fun v => v.category).sum ≤ 8) (hdg : decode cc pc = .ok (.invokevirtual index, 3)) (hf : cells ≤ R.cells ∧ slots ≤ R.slots)
    (kk : W p l e R s m args below meth c H locs cells slots Q (F0 m (pc + 3) ls (.int E :: rest))) : W p l e R s m args below meth c H locs cells slots Q (F0 m pc ls st0) :=
  tw_rp (ci := 0) (q := (RX0, TX0, 3)) S hK hP rfl rfl hM cw hn hsize hst hW hdg hf (fun r hr => by subst hr; exact kk)
theorem tw_rM {cA cB : ClassId} {a0 b0 k : Nat} {F : Nat → BitVec 8} {g : Nat → Bool} {E : Int32} (S : CallFix p m c cc nL s args Ts own) (hK : va_K D vwCl (tw_tM cA cB) s) (hP : va_P D vwCl (tw_M cA cB h0 a0 b0 k F g) H)
    (hM : Met l y ws rm (va_Pc (.ref h0 :: As) (tw_B D (tw_M cA cB h0 a0 b0 k F g) (tw_tM cA cB))) (vp_Si (fun r => r = E)) 0 0 (fun _ => False)) (cw : CallW R s args own RX1 index y bytes maxL ret ws rm 0 0 n)
    (hn : As.length = n) (hsize : ls.size = nL) (hst : st0 = As.reverse ++ .ref h0 :: rest) (hW : (rest.map fun v => v.category).sum ≤ 8) (hdg : decode cc pc = .ok (.invokevirtual index, 3)) (hf : cells ≤ R.cells ∧ slots ≤ R.slots)
    (kk : W p l e R s m args below meth c H locs cells slots Q (F0 m (pc + 3) ls (.int E :: rest))) : W p l e R s m args below meth c H locs cells slots Q (F0 m pc ls st0) :=
  tw_rp (ci := 1) (q := (RX1, TX1, 4)) S hK hP rfl rfl hM cw hn hsize hst hW hdg hf (fun r hr => by subst hr; exact kk)
theorem tw_rXl {cA : ClassId} {a0 k : Nat} {lo : Int32} {F : Nat → BitVec 8} {E : Int64} (S : CallFix p m c cc nL s args Ts own) (hK : va_K D vwCl (tw_tX cA) s) (hP : va_P D vwCl (tw_X cA h0 a0 k lo F) H)
    (hM : Met l y ws rm (va_Pc (.ref h0 :: As) (tw_B D (tw_X cA h0 a0 k lo F) (tw_tX cA))) (vp_Sl (fun r => r = E)) 0 0 (fun _ => False)) (cw : CallW R s args own RX0 index y bytes maxL ret ws rm 0 0 n)
    (hn : As.length = n) (hsize : ls.size = nL) (hst : st0 = As.reverse ++ .ref h0 :: rest) (hW : (rest.map fun v => v.category).sum ≤ 8) (hdg : decode cc pc = .ok (.invokevirtual index, 3)) (hf : cells ≤ R.cells ∧ slots ≤ R.slots)
    (kk : W p l e R s m args below meth c H locs cells slots Q (F0 m (pc + 3) ls (.long E :: rest))) : W p l e R s m args below meth c H locs cells slots Q (F0 m pc ls st0) :=
  vp_callSl (va_Run.run (va_runV S hM cw ⟨tw_blind, va_recv hK hP (ci := 0) (q := (RX0, TX0, 3)) (q0 := 0) rfl rfl, fun U hU hW => ⟨rfl, by rw [hU]; exact hP, va_K.moved hW.alike hK⟩⟩ rfl hn hsize hst (lv_room hW) hdg hf)) (fun r hr => by subst hr; exact kk)
/-- a call of a static method of numbers alone -/
theorem tw_s {E : Int32} (S : CallFix p m c cc nL s args Ts own)
    (hM : Met l y ws rm (va_Pc As (fun _ => True)) (vp_Si (fun r => r = E)) 0 0 (fun _ => False)) (cw : CallB R s args own index y bytes maxL ret ws rm 0 0 n ∧ (Cond.static y).before args s = true)
    (hn : As.length = n) (hsize : ls.size = nL) (hst : st0 = As.reverse ++ rest) (hW : (rest.map fun v => v.category).sum ≤ 8) (hdg : decode cc pc = .ok (.invokestatic index, 3)) (hf : cells ≤ R.cells ∧ slots ≤ R.slots)
    (kk : W p l e R s m args below meth c H locs cells slots Q (F0 m (pc + 3) ls (.int E :: rest))) : W p l e R s m args below meth c H locs cells slots Q (F0 m pc ls st0) :=
  vp_callSi (va_Run.run (va_runS S hM cw ⟨fun a U g mk q => ⟨q.1, trivial⟩, fun U hU hW => ⟨rfl, trivial⟩⟩ rfl hn hsize hst (lv_room hW) hdg hf)) (fun r hr => by subst hr; exact kk)
/-- a call of a method that writes: the callee's cells are some of the caller's -/
theorem tw_wi {σ : Type} {post : Int32 → σ → Prop} {w1 : σ → va_W} {wr : va_W} (S : CallFix p m c cc nL s args Ts own) (hK : va_K D vwCl tys s) (hP : va_P D vwCl wsA H) (hD : va_D A wsA) (hS : va_S A H0 H locs) (hA : ∀ q, H0.size ≤ q → A q)
    (isC isR : List Nat) (hC : isC.map (fun i => wsA[i]?) = w0.map some) (hR : isR.map (fun i => wsA[i]?) = wr.map some) (hnC : va_nd isC = true) (hnR : va_nd isR = true) (hdis : ∀ i ∈ isR, i ∉ isC) (hPc : va_P D vwCl w0 H)
    {ci : Nat} {q : vw_C} {fs : List Value} (hc : vwCl[ci]? = some q) (he : w0[0]? = some (h0, .inr (ci, fs)))
    (hM : Met l y ws rm (va_Pc (.ref h0 :: As) (tw_Pw D w0 tys H.size)) (va_Qi post (tw_Qw D w1 tys (va_A w0 H.size)) (va_A w0 H.size)) 0 0 (va_A w0 H.size)) (cw : CallW R s args own q.1 index y bytes maxL ret ws rm 0 0 n)
    (hn : As.length = n) (hsize : ls.size = nL) (hst : st0 = As.reverse ++ .ref h0 :: rest) (hW : (rest.map fun v => v.category).sum ≤ 8) (hdg : decode cc pc = .ok (.invokevirtual index, 3)) (hf : cells ≤ R.cells ∧ slots ≤ R.slots)
    (kk : ∀ (r : Int32) (u : σ) (H1 : Heap) (locs1 : List Loc), post r u → va_P D vwCl (wr ++ w1 u) H1 → va_D A (wr ++ w1 u) → va_S A H0 H1 locs1 → W p l e R s m args below meth c H1 locs1 cells slots Q (F0 m (pc + 3) ls (.int r :: rest))) : W p l e R s m args below meth c H locs cells slots Q (F0 m pc ls st0) := by
  have hDc : va_D A w0 := hD.sub isC hnC hC
  have hFc := va_free (wc := w0) hD hS hA isC hC
  refine va_calli (va_runV S hM cw ⟨tw_blindw, va_recv hK hPc hc he, fun U hU hW => ⟨rfl, by rw [hU], ⟨by rw [hU]; exact hPc, va_K.moved hW.alike hK⟩, hDc.weaken (fun _ _ _ _ => trivial)⟩⟩ rfl hn hsize hst (lv_room hW) hdg hf) hS (fun q _ h => hFc q h) hFc (fun r u t H1 locs1 ht hvm hw hB hz1 hk1 hS => ?_)
  obtain ⟨⟨hP1, hK1⟩, hD1⟩ := hB
  rw [ht] at hP1
  obtain ⟨hP, hD⟩ := va_join (wr := wr) (w1 := w1 u) hP hD isC isR hC hR hnR hdis hk1 hFc hP1 hD1
  exact kk r u H1 locs1 hw hP hD hS
theorem tw_wl {σ : Type} {post : Int64 → σ → Prop} {w1 : σ → va_W} {wr : va_W} (S : CallFix p m c cc nL s args Ts own) (hK : va_K D vwCl tys s) (hP : va_P D vwCl wsA H) (hD : va_D A wsA) (hS : va_S A H0 H locs) (hA : ∀ q, H0.size ≤ q → A q)
    (isC isR : List Nat) (hC : isC.map (fun i => wsA[i]?) = w0.map some) (hR : isR.map (fun i => wsA[i]?) = wr.map some) (hnC : va_nd isC = true) (hnR : va_nd isR = true) (hdis : ∀ i ∈ isR, i ∉ isC) (hPc : va_P D vwCl w0 H)
    {ci : Nat} {q : vw_C} {fs : List Value} (hc : vwCl[ci]? = some q) (he : w0[0]? = some (h0, .inr (ci, fs)))
    (hM : Met l y ws rm (va_Pc (.ref h0 :: As) (tw_Pw D w0 tys H.size)) (va_Ql post (tw_Qw D w1 tys (va_A w0 H.size)) (va_A w0 H.size)) 0 0 (va_A w0 H.size)) (cw : CallW R s args own q.1 index y bytes maxL ret ws rm 0 0 n)
    (hn : As.length = n) (hsize : ls.size = nL) (hst : st0 = As.reverse ++ .ref h0 :: rest) (hW : (rest.map fun v => v.category).sum ≤ 8) (hdg : decode cc pc = .ok (.invokevirtual index, 3)) (hf : cells ≤ R.cells ∧ slots ≤ R.slots)
    (kk : ∀ (r : Int64) (u : σ) (H1 : Heap) (locs1 : List Loc), post r u → va_P D vwCl (wr ++ w1 u) H1 → va_D A (wr ++ w1 u) → va_S A H0 H1 locs1 → W p l e R s m args below meth c H1 locs1 cells slots Q (F0 m (pc + 3) ls (.long r :: rest))) : W p l e R s m args below meth c H locs cells slots Q (F0 m pc ls st0) := by
  have hDc : va_D A w0 := hD.sub isC hnC hC
  have hFc := va_free (wc := w0) hD hS hA isC hC
  refine va_calll (va_runV S hM cw ⟨tw_blindw, va_recv hK hPc hc he, fun U hU hW => ⟨rfl, by rw [hU], ⟨by rw [hU]; exact hPc, va_K.moved hW.alike hK⟩, hDc.weaken (fun _ _ _ _ => trivial)⟩⟩ rfl hn hsize hst (lv_room hW) hdg hf) hS (fun q _ h => hFc q h) hFc (fun r u t H1 locs1 ht hvm hw hB hz1 hk1 hS => ?_)
  obtain ⟨⟨hP1, hK1⟩, hD1⟩ := hB
  rw [ht] at hP1
  obtain ⟨hP, hD⟩ := va_join (wr := wr) (w1 := w1 u) hP hD isC isR hC hR hnR hdis hk1 hFc hP1 hD1
  exact kk r u H1 locs1 hw hP hD hS
theorem tw_wv {w1 : va_W} {wr : va_W} (S : CallFix p m c cc nL s args Ts own) (hK : va_K D vwCl tys s) (hP : va_P D vwCl wsA H) (hD : va_D A wsA) (hS : va_S A H0 H locs) (hA : ∀ q, H0.size ≤ q → A q)
    (isC isR : List Nat) (hC : isC.map (fun i => wsA[i]?) = w0.map some) (hR : isR.map (fun i => wsA[i]?) = wr.map some) (hnC : va_nd isC = true) (hnR : va_nd isR = true) (hdis : ∀ i ∈ isR, i ∉ isC) (hPc : va_P D vwCl w0 H)
    {ci : Nat} {q : vw_C} {fs : List Value} (hc : vwCl[ci]? = some q) (he : w0[0]? = some (h0, .inr (ci, fs)))
    (hM : Met l y ws rm (va_Pc (.ref h0 :: As) (tw_Pw D w0 tys H.size)) (va_Qv (fun _ : Unit => True) (tw_Qw D (fun _ : Unit => w1) tys (va_A w0 H.size)) (va_A w0 H.size)) 0 0 (va_A w0 H.size)) (cw : CallW R s args own q.1 index y bytes maxL ret ws rm 0 0 n)
    (hn : As.length = n) (hsize : ls.size = nL) (hst : st0 = As.reverse ++ .ref h0 :: rest) (hW : (rest.map fun v => v.category).sum ≤ 8) (hdg : decode cc pc = .ok (.invokevirtual index, 3)) (hf : cells ≤ R.cells ∧ slots ≤ R.slots)
    (kk : ∀ (H1 : Heap) (locs1 : List Loc), va_P D vwCl (wr ++ w1) H1 → va_D A (wr ++ w1) → va_S A H0 H1 locs1 → W p l e R s m args below meth c H1 locs1 cells slots Q (F0 m (pc + 3) ls rest)) : W p l e R s m args below meth c H locs cells slots Q (F0 m pc ls st0) := by
  have hDc : va_D A w0 := hD.sub isC hnC hC
  have hFc := va_free (wc := w0) hD hS hA isC hC
  refine va_callv (va_runV S hM cw ⟨tw_blindw, va_recv hK hPc hc he, fun U hU hW => ⟨rfl, by rw [hU], ⟨by rw [hU]; exact hPc, va_K.moved hW.alike hK⟩, hDc.weaken (fun _ _ _ _ => trivial)⟩⟩ rfl hn hsize hst (lv_room hW) hdg hf) hS (fun q _ h => hFc q h) hFc (fun u t H1 locs1 ht hvm hw hB hz1 hk1 hS => ?_)
  obtain ⟨⟨hP1, hK1⟩, hD1⟩ := hB
  rw [ht] at hP1
  obtain ⟨hP, hD⟩ := va_join (wr := wr) (w1 := w1) hP hD isC isR hC hR hnR hdis hk1 hFc hP1 hD1
  exact kk H1 locs1 hP hD hS
/-- the same, within the class -/
theorem tw_wXv {cA : ClassId} {a0 k k' : Nat} {lo lo' : Int32} {F F' : Nat → BitVec 8} (S : CallFix p m c cc nL s args Ts own) (hK : va_K D vwCl (tw_tX cA) s) (hP : va_P D vwCl (tw_X cA h0 a0 k lo F) H) (hD : va_D A (tw_X cA h0 a0 k lo F)) (hS : va_S A H0 H locs) (hA : ∀ q, H0.size ≤ q → A q)
    (hM : Met l y ws rm (va_Pc (.ref h0 :: As) (tw_Pw D (tw_X cA h0 a0 k lo F) (tw_tX cA) H.size)) (va_Qv (fun _ : Unit => True) (tw_Qw D (fun _ : Unit => tw_X cA h0 a0 k' lo' F') (tw_tX cA) (va_A (tw_X cA h0 a0 k lo F) H.size)) (va_A (tw_X cA h0 a0 k lo F) H.size)) 0 0 (va_A (tw_X cA h0 a0 k lo F) H.size)) (cw : CallW R s args own RX0 index y bytes maxL ret ws rm 0 0 n)
    (hn : As.length = n) (hsize : ls.size = nL) (hst : st0 = As.reverse ++ .ref h0 :: rest) (hW : (rest.map fun v => v.category).sum ≤ 8) (hdg : decode cc pc = .ok (.invokevirtual index, 3)) (hf : cells ≤ R.cells ∧ slots ≤ R.slots)
    (kk : ∀ (H1 : Heap) (locs1 : List Loc), va_P D vwCl (tw_X cA h0 a0 k' lo' F') H1 → va_D A (tw_X cA h0 a0 k' lo' F') → va_S A H0 H1 locs1 → W p l e R s m args below meth c H1 locs1 cells slots Q (F0 m (pc + 3) ls rest)) : W p l e R s m args below meth c H locs cells slots Q (F0 m pc ls st0) :=
  tw_wv (wr := []) (ci := 0) (q := (RX0, TX0, 3)) S hK hP hD hS hA [0, 1] [] rfl rfl rfl rfl (fun _ h => by cases h) hP rfl rfl hM cw hn hsize hst hW hdg hf kk
theorem tw_wMv {cA cB : ClassId} {a0 b0 k k' : Nat} {F F' : Nat → BitVec 8} {g g' : Nat → Bool} (S : CallFix p m c cc nL s args Ts own) (hK : va_K D vwCl (tw_tM cA cB) s) (hP : va_P D vwCl (tw_M cA cB h0 a0 b0 k F g) H) (hD : va_D A (tw_M cA cB h0 a0 b0 k F g)) (hS : va_S A H0 H locs) (hA : ∀ q, H0.size ≤ q → A q)
    (hM : Met l y ws rm (va_Pc (.ref h0 :: As) (tw_Pw D (tw_M cA cB h0 a0 b0 k F g) (tw_tM cA cB) H.size)) (va_Qv (fun _ : Unit => True) (tw_Qw D (fun _ : Unit => tw_M cA cB h0 a0 b0 k' F' g') (tw_tM cA cB) (va_A (tw_M cA cB h0 a0 b0 k F g) H.size)) (va_A (tw_M cA cB h0 a0 b0 k F g) H.size)) 0 0 (va_A (tw_M cA cB h0 a0 b0 k F g) H.size)) (cw : CallW R s args own RX1 index y bytes maxL ret ws rm 0 0 n)
    (hn : As.length = n) (hsize : ls.size = nL) (hst : st0 = As.reverse ++ .ref h0 :: rest) (hW : (rest.map fun v => v.category).sum ≤ 8) (hdg : decode cc pc = .ok (.invokevirtual index, 3)) (hf : cells ≤ R.cells ∧ slots ≤ R.slots)
    (kk : ∀ (H1 : Heap) (locs1 : List Loc), va_P D vwCl (tw_M cA cB h0 a0 b0 k' F' g') H1 → va_D A (tw_M cA cB h0 a0 b0 k' F' g') → va_S A H0 H1 locs1 → W p l e R s m args below meth c H1 locs1 cells slots Q (F0 m (pc + 3) ls rest)) : W p l e R s m args below meth c H locs cells slots Q (F0 m pc ls st0) :=
  tw_wv (wr := []) (ci := 1) (q := (RX1, TX1, 4)) S hK hP hD hS hA [0, 1, 2] [] rfl rfl rfl rfl (fun _ h => by cases h) hP rfl rfl hM cw hn hsize hst hW hdg hf kk
/-- a method's end -/
theorem tw_ri {E v : Int32} (hexec : p.tables.exec = Jvm.exec) (hb : c.code = cc) (hr : meth.sig.returnType = some .int) (hlocks : meth.locks = false) (hE : v = E) (hdg : decode cc pc = .ok (.ireturn, 1)) :
    W p l e R s m args below meth c s.heap [] 0 0 (MQ below (vp_Si (fun r => r = E)) args s 0 0 (fun _ => False)) (F0 m pc ls [.int v]) :=
  W.iret hexec hb hr (fun t ht hW => ⟨_, rfl, hE, ht⟩) (fun _ h => by cases h) hdg hlocks
theorem tw_rl {E v : Int64} (hexec : p.tables.exec = Jvm.exec) (hb : c.code = cc) (hr : meth.sig.returnType = some .long) (hlocks : meth.locks = false) (hE : v = E) (hdg : decode cc pc = .ok (.lreturn, 1)) :
    W p l e R s m args below meth c s.heap [] 0 0 (MQ below (vp_Sl (fun r => r = E)) args s 0 0 (fun _ => False)) (F0 m pc ls [.long v]) :=
  W.lret hexec hb hr (fun t ht hW => ⟨_, rfl, hE, ht⟩) (fun _ h => by cases h) hdg hlocks
theorem tw_nb : ∀ b : Bool, narrow .boolean (.int (tw_bI b)) = .int (tw_bI b) := by intro b; cases b <;> rfl
theorem tw_rz {b : Bool} {v : Int32} (hexec : p.tables.exec = Jvm.exec) (hb : c.code = cc) (hr : meth.sig.returnType = some .boolean) (hlocks : meth.locks = false) (hE : v = tw_bI b) (hdg : decode cc pc = .ok (.ireturn, 1)) :
    W p l e R s m args below meth c s.heap [] 0 0 (MQ below (vp_Si (fun r => r = tw_bI b)) args s 0 0 (fun _ => False)) (F0 m pc ls [.int v]) :=
  W.zret hexec hb hr (by rw [hE]; exact tw_nb b) (fun t ht hW => ⟨_, rfl, hE, ht⟩) (fun _ h => by cases h) hdg hlocks
theorem tw_rwi {σ : Type} {post : Int32 → σ → Prop} {w1 : σ → va_W} {v : Int32} (hexec : p.tables.exec = Jvm.exec) (hb : c.code = cc) (hr : meth.sig.returnType = some .int) (hlocks : meth.locks = false) (hK : va_K D vwCl tys s) (u : σ) (hp : post v u) (hP : va_P D vwCl (w1 u) H) (hD : va_D A (w1 u)) (hS : va_S A s.heap H locs) (hdg : decode cc pc = .ok (.ireturn, 1)) :
    W p l e R s m args below meth c H locs 0 0 (MQ below (va_Qi post (tw_Qw D w1 tys A) A) args s 0 0 A) (F0 m pc ls [.int v]) :=
  W.iret hexec hb hr (fun t ht hW => ⟨⟨v, u, rfl, hp, ⟨by rw [ht]; exact hP, va_K.moved hW.alike hK⟩, hD⟩, hS.F ht⟩) hS.2.2 hdg hlocks
theorem tw_rwl {σ : Type} {post : Int64 → σ → Prop} {w1 : σ → va_W} {v : Int64} (hexec : p.tables.exec = Jvm.exec) (hb : c.code = cc) (hr : meth.sig.returnType = some .long) (hlocks : meth.locks = false) (hK : va_K D vwCl tys s) (u : σ) (hp : post v u) (hP : va_P D vwCl (w1 u) H) (hD : va_D A (w1 u)) (hS : va_S A s.heap H locs) (hdg : decode cc pc = .ok (.lreturn, 1)) :
    W p l e R s m args below meth c H locs 0 0 (MQ below (va_Ql post (tw_Qw D w1 tys A) A) args s 0 0 A) (F0 m pc ls [.long v]) :=
  W.lret hexec hb hr (fun t ht hW => ⟨⟨v, u, rfl, hp, ⟨by rw [ht]; exact hP, va_K.moved hW.alike hK⟩, hD⟩, hS.F ht⟩) hS.2.2 hdg hlocks
theorem tw_rwv {w1 : va_W} (hexec : p.tables.exec = Jvm.exec) (hb : c.code = cc) (hr : meth.sig.returnType = none) (hlocks : meth.locks = false) (hK : va_K D vwCl tys s) (hP : va_P D vwCl w1 H) (hD : va_D A w1) (hS : va_S A s.heap H locs) (hdg : decode cc pc = .ok (.return_, 1)) :
    W p l e R s m args below meth c H locs 0 0 (MQ below (va_Qv (fun _ : Unit => True) (tw_Qw D (fun _ : Unit => w1) tys A) A) args s 0 0 A) (F0 m pc ls []) :=
  W.vret hexec hb hr (fun t ht hW => ⟨⟨(), rfl, trivial, ⟨by rw [ht]; exact hP, va_K.moved hW.alike hK⟩, hD⟩, hS.F ht⟩) hS.2.2 hdg hlocks
end TWC
end
section
/-! ===== contracts: what a walk of a method's body must show ===== -/
section TWM
variable {l : Launch} {y : MethodName} {ws ws' : List Cond} {rm : Room} {cc : ByteArray} {maxL : Nat} {ret : Option FieldType} {D : va_G} {w0 : va_W} {tys : List (ClassId × FieldType)} {av : List Value}
/-- a reading method with an int -/
theorem tw_metR {E : Int32} (hy : plainName y.cls = true) (hw : ws = Cond.code y cc maxL ret :: ws') (hret : ret = some .int) (hlen : (lg_sl av).length ≤ maxL)
    (body : ∀ (p : Program) (e : Env) (s : State) (m : MethodId) (args : Array Value) (below : List Frame) (meth : Method) (c : Code) (Q : State → Prop) (ls : Array Slot), p.tables.exec = Jvm.exec → c.code = cc → c.maxLocals = maxL → s.vm.findClass y.cls = some m.cls → (∀ w ∈ ws, w.before args s = true) → va_P D vwCl w0 s.heap → va_K D vwCl tys s →
      (∀ (pc : Nat) (ls : Array Slot), decode cc pc = .ok (.ireturn, 1) → W p l e rm s m args below meth c s.heap [] 0 0 Q (F0 m pc ls [.int E])) → lv_has ls maxL (lv_args 0 av) → W p l e rm s m args below meth c s.heap [] 0 0 Q (F0 m 0 ls [])) :
    Met l y ws rm (va_Pc av (tw_B D w0 tys)) (vp_Si (fun r => r = E)) 0 0 (fun _ => False) := by
  refine Met.ofW (cc := cc) (maxL := maxL) (ret := ret) hy hw ?_
  intro p e s m args below meth c s₁ B hml hv
  obtain ⟨rfl, hP, hK⟩ := hv
  rw [lg_entry_eq]
  subst hret
  exact body p e s m _ below meth c _ _ B.exec B.bytes hml (findClass_of_methodNamed B.named) (atoms_spec (ws := ws) B.pre) hP hK (fun pc ls hd => tw_ri B.exec B.bytes B.returns B.notSynchronized rfl hd) (lv_entry av hlen)
/-- a reading method with a truth value -/
theorem tw_metZ {b : Bool} (hy : plainName y.cls = true) (hw : ws = Cond.code y cc maxL ret :: ws') (hret : ret = some .boolean) (hlen : (lg_sl av).length ≤ maxL)
    (body : ∀ (p : Program) (e : Env) (s : State) (m : MethodId) (args : Array Value) (below : List Frame) (meth : Method) (c : Code) (Q : State → Prop) (ls : Array Slot), p.tables.exec = Jvm.exec → c.code = cc → c.maxLocals = maxL → s.vm.findClass y.cls = some m.cls → (∀ w ∈ ws, w.before args s = true) → va_P D vwCl w0 s.heap → va_K D vwCl tys s →
      (∀ (pc : Nat) (ls : Array Slot), decode cc pc = .ok (.ireturn, 1) → W p l e rm s m args below meth c s.heap [] 0 0 Q (F0 m pc ls [.int (tw_bI b)])) → lv_has ls maxL (lv_args 0 av) → W p l e rm s m args below meth c s.heap [] 0 0 Q (F0 m 0 ls [])) :
    Met l y ws rm (va_Pc av (tw_B D w0 tys)) (vp_Si (fun r => r = tw_bI b)) 0 0 (fun _ => False) := by
  refine Met.ofW (cc := cc) (maxL := maxL) (ret := ret) hy hw ?_
  intro p e s m args below meth c s₁ B hml hv
  obtain ⟨rfl, hP, hK⟩ := hv
  rw [lg_entry_eq]
  subst hret
  exact body p e s m _ below meth c _ _ B.exec B.bytes hml (findClass_of_methodNamed B.named) (atoms_spec (ws := ws) B.pre) hP hK (fun pc ls hd => tw_rz B.exec B.bytes B.returns B.notSynchronized rfl hd) (lv_entry av hlen)
/-- a reading method with a long -/
theorem tw_metL {E : Int64} (hy : plainName y.cls = true) (hw : ws = Cond.code y cc maxL ret :: ws') (hret : ret = some .long) (hlen : (lg_sl av).length ≤ maxL)
    (body : ∀ (p : Program) (e : Env) (s : State) (m : MethodId) (args : Array Value) (below : List Frame) (meth : Method) (c : Code) (Q : State → Prop) (ls : Array Slot), p.tables.exec = Jvm.exec → c.code = cc → c.maxLocals = maxL → s.vm.findClass y.cls = some m.cls → (∀ w ∈ ws, w.before args s = true) → va_P D vwCl w0 s.heap → va_K D vwCl tys s →
      (∀ (pc : Nat) (ls : Array Slot), decode cc pc = .ok (.lreturn, 1) → W p l e rm s m args below meth c s.heap [] 0 0 Q (F0 m pc ls [.long E])) → lv_has ls maxL (lv_args 0 av) → W p l e rm s m args below meth c s.heap [] 0 0 Q (F0 m 0 ls [])) :
    Met l y ws rm (va_Pc av (tw_B D w0 tys)) (vp_Sl (fun r => r = E)) 0 0 (fun _ => False) := by
  refine Met.ofW (cc := cc) (maxL := maxL) (ret := ret) hy hw ?_
  intro p e s m args below meth c s₁ B hml hv
  obtain ⟨rfl, hP, hK⟩ := hv
  rw [lg_entry_eq]
  subst hret
  exact body p e s m _ below meth c _ _ B.exec B.bytes hml (findClass_of_methodNamed B.named) (atoms_spec (ws := ws) B.pre) hP hK (fun pc ls hd => tw_rl B.exec B.bytes B.returns B.notSynchronized rfl hd) (lv_entry av hlen)
/-- a static method of numbers -/
theorem tw_metS {E : Int32} (hy : plainName y.cls = true) (hw : ws = Cond.code y cc maxL ret :: ws') (hret : ret = some .int) (hlen : (lg_sl av).length ≤ maxL)
    (body : ∀ (p : Program) (e : Env) (s : State) (m : MethodId) (args : Array Value) (below : List Frame) (meth : Method) (c : Code) (Q : State → Prop) (ls : Array Slot), p.tables.exec = Jvm.exec → c.code = cc → c.maxLocals = maxL → s.vm.findClass y.cls = some m.cls → (∀ w ∈ ws, w.before args s = true) →
      (∀ (pc : Nat) (ls : Array Slot), decode cc pc = .ok (.ireturn, 1) → W p l e rm s m args below meth c s.heap [] 0 0 Q (F0 m pc ls [.int E])) → lv_has ls maxL (lv_args 0 av) → W p l e rm s m args below meth c s.heap [] 0 0 Q (F0 m 0 ls [])) :
    Met l y ws rm (va_Pc av (fun _ => True)) (vp_Si (fun r => r = E)) 0 0 (fun _ => False) := by
  refine Met.ofW (cc := cc) (maxL := maxL) (ret := ret) hy hw ?_
  intro p e s m args below meth c s₁ B hml hv
  obtain ⟨rfl, -⟩ := hv
  rw [lg_entry_eq]
  subst hret
  exact body p e s m _ below meth c _ _ B.exec B.bytes hml (findClass_of_methodNamed B.named) (atoms_spec (ws := ws) B.pre) (fun pc ls hd => tw_ri B.exec B.bytes B.returns B.notSynchronized rfl hd) (lv_entry av hlen)
theorem tw_metT {b : Bool} (hy : plainName y.cls = true) (hw : ws = Cond.code y cc maxL ret :: ws') (hret : ret = some .boolean) (hlen : (lg_sl av).length ≤ maxL)
    (body : ∀ (p : Program) (e : Env) (s : State) (m : MethodId) (args : Array Value) (below : List Frame) (meth : Method) (c : Code) (Q : State → Prop) (ls : Array Slot), p.tables.exec = Jvm.exec → c.code = cc → c.maxLocals = maxL → s.vm.findClass y.cls = some m.cls → (∀ w ∈ ws, w.before args s = true) →
      (∀ (pc : Nat) (ls : Array Slot), decode cc pc = .ok (.ireturn, 1) → W p l e rm s m args below meth c s.heap [] 0 0 Q (F0 m pc ls [.int (tw_bI b)])) → lv_has ls maxL (lv_args 0 av) → W p l e rm s m args below meth c s.heap [] 0 0 Q (F0 m 0 ls [])) :
    Met l y ws rm (va_Pc av (fun _ => True)) (vp_Si (fun r => r = tw_bI b)) 0 0 (fun _ => False) := by
  refine Met.ofW (cc := cc) (maxL := maxL) (ret := ret) hy hw ?_
  intro p e s m args below meth c s₁ B hml hv
  obtain ⟨rfl, -⟩ := hv
  rw [lg_entry_eq]
  subst hret
  exact body p e s m _ below meth c _ _ B.exec B.bytes hml (findClass_of_methodNamed B.named) (atoms_spec (ws := ws) B.pre) (fun pc ls hd => tw_rz B.exec B.bytes B.returns B.notSynchronized rfl hd) (lv_entry av hlen)
/-- a writing method with an int -/
theorem tw_metW {σ : Type} {post : Int32 → σ → Prop} {w1 : σ → va_W} {sz : Nat} (hy : plainName y.cls = true) (hw : ws = Cond.code y cc maxL ret :: ws') (hret : ret = some .int) (hlen : (lg_sl av).length ≤ maxL)
    (body : ∀ (p : Program) (e : Env) (s : State) (m : MethodId) (args : Array Value) (below : List Frame) (meth : Method) (c : Code) (Q : State → Prop) (ls : Array Slot) (A : Nat → Prop), p.tables.exec = Jvm.exec → c.code = cc → c.maxLocals = maxL → s.vm.findClass y.cls = some m.cls → (∀ w ∈ ws, w.before args s = true) → va_P D vwCl w0 s.heap → va_K D vwCl tys s → va_D A w0 → va_S A s.heap s.heap [] → (∀ q : Nat, s.heap.size ≤ q → A q) →
      (∀ (pc : Nat) (ls : Array Slot) (v : Int32) (u : σ) (H : Heap) (locs : List Loc), decode cc pc = .ok (.ireturn, 1) → post v u → va_P D vwCl (w1 u) H → va_D A (w1 u) → va_S A s.heap H locs → W p l e rm s m args below meth c H locs 0 0 Q (F0 m pc ls [.int v])) → lv_has ls maxL (lv_args 0 av) → W p l e rm s m args below meth c s.heap [] 0 0 Q (F0 m 0 ls [])) :
    Met l y ws rm (va_Pc av (tw_Pw D w0 tys sz)) (va_Qi post (tw_Qw D w1 tys (va_A w0 sz)) (va_A w0 sz)) 0 0 (va_A w0 sz) := by
  refine Met.ofW (cc := cc) (maxL := maxL) (ret := ret) hy hw ?_
  intro p e s m args below meth c s₁ B hml hv
  obtain ⟨rfl, hsz, ⟨hP, hK⟩, hD0⟩ := hv
  subst hsz
  rw [lg_entry_eq]
  subst hret
  exact body p e s m _ below meth c _ _ (va_A w0 s.heap.size) B.exec B.bytes hml (findClass_of_methodNamed B.named) (atoms_spec (ws := ws) B.pre) hP hK (hD0.self (sz := s.heap.size)) va_S.rf (fun q h => Or.inr h) (fun pc ls v u H locs hd hp h1 h2 h3 => tw_rwi B.exec B.bytes B.returns B.notSynchronized hK u hp h1 h2 h3 hd) (lv_entry av hlen)
theorem tw_metWl {σ : Type} {post : Int64 → σ → Prop} {w1 : σ → va_W} {sz : Nat} (hy : plainName y.cls = true) (hw : ws = Cond.code y cc maxL ret :: ws') (hret : ret = some .long) (hlen : (lg_sl av).length ≤ maxL)
    (body : ∀ (p : Program) (e : Env) (s : State) (m : MethodId) (args : Array Value) (below : List Frame) (meth : Method) (c : Code) (Q : State → Prop) (ls : Array Slot) (A : Nat → Prop), p.tables.exec = Jvm.exec → c.code = cc → c.maxLocals = maxL → s.vm.findClass y.cls = some m.cls → (∀ w ∈ ws, w.before args s = true) → va_P D vwCl w0 s.heap → va_K D vwCl tys s → va_D A w0 → va_S A s.heap s.heap [] → (∀ q : Nat, s.heap.size ≤ q → A q) →
      (∀ (pc : Nat) (ls : Array Slot) (v : Int64) (u : σ) (H : Heap) (locs : List Loc), decode cc pc = .ok (.lreturn, 1) → post v u → va_P D vwCl (w1 u) H → va_D A (w1 u) → va_S A s.heap H locs → W p l e rm s m args below meth c H locs 0 0 Q (F0 m pc ls [.long v])) → lv_has ls maxL (lv_args 0 av) → W p l e rm s m args below meth c s.heap [] 0 0 Q (F0 m 0 ls [])) :
    Met l y ws rm (va_Pc av (tw_Pw D w0 tys sz)) (va_Ql post (tw_Qw D w1 tys (va_A w0 sz)) (va_A w0 sz)) 0 0 (va_A w0 sz) := by
  refine Met.ofW (cc := cc) (maxL := maxL) (ret := ret) hy hw ?_
  intro p e s m args below meth c s₁ B hml hv
  obtain ⟨rfl, hsz, ⟨hP, hK⟩, hD0⟩ := hv
  subst hsz
  rw [lg_entry_eq]
  subst hret
  exact body p e s m _ below meth c _ _ (va_A w0 s.heap.size) B.exec B.bytes hml (findClass_of_methodNamed B.named) (atoms_spec (ws := ws) B.pre) hP hK (hD0.self (sz := s.heap.size)) va_S.rf (fun q h => Or.inr h) (fun pc ls v u H locs hd hp h1 h2 h3 => tw_rwl B.exec B.bytes B.returns B.notSynchronized hK u hp h1 h2 h3 hd) (lv_entry av hlen)
/-- a writing method without an answer; what its world is behind it -/
theorem tw_metV {w1 : va_W} {sz : Nat} (hy : plainName y.cls = true) (hw : ws = Cond.code y cc maxL ret :: ws') (hret : ret = none) (hlen : (lg_sl av).length ≤ maxL)
    (body : ∀ (p : Program) (e : Env) (s : State) (m : MethodId) (args : Array Value) (below : List Frame) (meth : Method) (c : Code) (Q : State → Prop) (ls : Array Slot) (A : Nat → Prop), p.tables.exec = Jvm.exec → c.code = cc → c.maxLocals = maxL → s.vm.findClass y.cls = some m.cls → (∀ w ∈ ws, w.before args s = true) → va_P D vwCl w0 s.heap → va_K D vwCl tys s → va_D A w0 → va_S A s.heap s.heap [] → (∀ q : Nat, s.heap.size ≤ q → A q) →
      (∀ (pc : Nat) (ls : Array Slot) (H : Heap) (locs : List Loc), decode cc pc = .ok (.return_, 1) → va_P D vwCl w1 H → va_D A w1 → va_S A s.heap H locs → W p l e rm s m args below meth c H locs 0 0 Q (F0 m pc ls [])) → lv_has ls maxL (lv_args 0 av) → W p l e rm s m args below meth c s.heap [] 0 0 Q (F0 m 0 ls [])) :
    Met l y ws rm (va_Pc av (tw_Pw D w0 tys sz)) (va_Qv (fun _ : Unit => True) (tw_Qw D (fun _ : Unit => w1) tys (va_A w0 sz)) (va_A w0 sz)) 0 0 (va_A w0 sz) := by
  refine Met.ofW (cc := cc) (maxL := maxL) (ret := ret) hy hw ?_
  intro p e s m args below meth c s₁ B hml hv
  obtain ⟨rfl, hsz, ⟨hP, hK⟩, hD0⟩ := hv
  subst hsz
  rw [lg_entry_eq]
  subst hret
  exact body p e s m _ below meth c _ _ (va_A w0 s.heap.size) B.exec B.bytes hml (findClass_of_methodNamed B.named) (atoms_spec (ws := ws) B.pre) hP hK (hD0.self (sz := s.heap.size)) va_S.rf (fun q h => Or.inr h) (fun pc ls H locs hd h1 h2 h3 => tw_rwv B.exec B.bytes B.returns B.notSynchronized hK h1 h2 h3 hd) (lv_entry av hlen)
end TWM
end
section
/-! ===== words for what the methods answer ===== -/
def tw_lb (lo : Int32) (u : Nat) : Bool := !decide (((lo >>> (nI u &&& 31)) &&& 1) = 0)
def tw_sp (z n most : Int32) : Bool := !decide (n < 1) && (!decide (most < n) && (!decide (z < 0) && !decide (64 - n < z)))
def tw_el (x : Int32) : Bool := !decide (x < 0) && !decide (256 ≤ x)
def tw_th (k : Nat) (lo x : Int32) : Bool := !decide (x < 0) && (!decide (nI (k + 2) ≤ x) && !tw_lb lo x.toNatClampNeg)
/-- the lowest place from u on, within n places, of which g holds; u + n if there is none -/
def tw_low (g : Nat → Bool) : Nat → Nat → Nat
  | u, 0 => u
  | u, n + 1 => if g u then u else tw_low g (u + 1) n
def tw_bc (x : Int32) : Int32 :=
  let a := x - ((x.toUInt32 >>> (Int32.toUInt32 1 &&& Int32.toUInt32 31)).toInt32 &&& 1431655765)
  let b := (a &&& 858993459) + ((a.toUInt32 >>> (Int32.toUInt32 2 &&& Int32.toUInt32 31)).toInt32 &&& 858993459)
  let c := (b + (b.toUInt32 >>> (Int32.toUInt32 4 &&& Int32.toUInt32 31)).toInt32) &&& 252645135
  let d := c + (c.toUInt32 >>> (Int32.toUInt32 8 &&& Int32.toUInt32 31)).toInt32
  let e := d + (d.toUInt32 >>> (Int32.toUInt32 16 &&& Int32.toUInt32 31)).toInt32
  e &&& 63
/-- a column: the bytes of all units at a place -/
def tq_col (F : Nat → BitVec 8) (i : Nat) (u : Nat) : BitVec 8 := F (64 * u + i)
def tq_xs (c : Nat → BitVec 8) : Nat → BitVec 8
  | 0 => 0#8
  | n + 1 => tq_xs c n ^^^ c n
def tq_qs (c : Nat → BitVec 8) : Nat → BitVec 8
  | 0 => 0#8
  | n + 1 => tq_qs c n ^^^ tq_p n (c n)
/-- Horner's way from the unit u on, n units -/
def tq_hs (c : Nat → BitVec 8) : Nat → Nat → BitVec 8
  | _, 0 => 0#8
  | u, n + 1 => tq_d (tq_hs c (u + 1) n) ^^^ c u
def tq_dP (k : Nat) (c : Nat → BitVec 8) : BitVec 8 := c k ^^^ tq_xs c k
def tq_dQ (k : Nat) (c : Nat → BitVec 8) : BitVec 8 := tq_hs c 0 k ^^^ c (k + 1)
def tq_fu (p q : BitVec 8) : Nat → Nat → Int32
  | _, 0 => -3
  | u, n + 1 => if tq_p u p = q then nI u else tq_fu p q (u + 1) n
def tq_off (k : Nat) (c : Nat → BitVec 8) : Int32 := if tq_dQ k c = 0#8 then (if tq_dP k c = 0#8 then -2 else nI k) else if tq_dP k c = 0#8 then nI (k + 1) else tq_fu (tq_dP k c) (tq_dQ k c) 0 k
def tq_ck (f : Nat → Int32) : Int32 → Nat → Nat → Int32
  | o, _, 0 => o
  | o, i, n + 1 => if f i ≠ -2 ∧ o ≠ -2 ∧ f i ≠ o then -3 else tq_ck f (if f i = -2 then o else f i) (i + 1) n
def tw_fm (x : Int32) : Nat := (x.toInt % 255).toNat
/-- eight bytes, from b 0 on, the lowest first; n of them, from the highest down -/
def tq_wd (b : Nat → BitVec 8) : Nat → Int64
  | 0 => 0
  | n + 1 => (tq_wd b n <<< (Int32.toInt64 8 &&& 63)) ||| Int32.toInt64 (tq_eb (b (7 - n)))
def tw_ch (F : Nat → BitVec 8) (u i : Nat) (d : BitVec 8) : Nat → BitVec 8 := va_up F (64 * u + i) (F (64 * u + i) ^^^ d)
def tw_cw (k : Nat) (lo : Int32) (F : Nat → BitVec 8) (u i : Nat) (d : BitVec 8) : Nat → BitVec 8 :=
  let F1 := tw_ch F u i d
  let F2 := if tw_lb lo k then F1 else tw_ch F1 k i d
  if tw_lb lo (k + 1) then F2 else tw_ch F2 (k + 1) i (tq_p u d)
theorem tw_ix (u i : Nat) : nI u * 64 + nI i = nI (64 * u + i) := by
  rw [show (64 : Int32) = nI 64 from rfl, pk_mul, nI_add, Nat.mul_comm]
theorem tw_ix' (u i : Nat) : 64 * nI u + nI i = nI (64 * u + i) := by
  rw [show (64 : Int32) = nI 64 from rfl, pk_mul, nI_add]
theorem tw_bI0 {b : Bool} : tw_bI b = 0 ↔ b = false := by cases b <;> decide
theorem tw_bI1 {b : Bool} : ¬ tw_bI b = 0 ↔ b = true := by cases b <;> decide
end
section
/-! ===== numbers that the walks need ===== -/
theorem tw_dec (n : Nat) : nI n + Int32.ofInt (-1) = nI n - 1 := by
  rw [Int32.sub_eq_add_neg]; rfl
theorem tw_rem (x : Int32) : (x - x / 255 * 255).toInt = x.toInt.tmod 255 := by
  have h1 : (x / 255).toInt = x.toInt.tdiv 255 := Int32.toInt_div_of_ne_right x 255 (by decide)
  have h2 : (255 : Int32).toInt = 255 := by decide
  have h3 : x.toInt.tdiv 255 * 255 + x.toInt.tmod 255 = x.toInt := Int.tdiv_mul_add_tmod x.toInt 255
  have hlo : -2147483648 ≤ x.toInt := Int32.le_toInt x
  have hhi : x.toInt < 2147483648 := Int32.toInt_lt x
  have h4 : -255 < x.toInt.tmod 255 := Int.lt_tmod_of_pos x.toInt (by decide)
  have h5 : x.toInt.tmod 255 < 255 := Int.tmod_lt_of_pos x.toInt (by decide)
  rw [Int32.toInt_sub, Int32.toInt_mul, h1, h2]
  have e : x.toInt.tdiv 255 * 255 = x.toInt - x.toInt.tmod 255 := by omega
  rw [e]
  have hsg : (0 ≤ x.toInt → 0 ≤ x.toInt.tmod 255) ∧ (x.toInt ≤ 0 → x.toInt.tmod 255 ≤ 0) := by
    refine ⟨fun h => Int.tmod_nonneg 255 h, fun h => ?_⟩
    have := Int.tmod_nonneg (a := -x.toInt) 255 (by omega)
    rw [Int.neg_tmod] at this
    omega
  rw [Int.bmod_eq_of_le (n := x.toInt - x.toInt.tmod 255) (by omega) (by omega), Int.bmod_eq_of_le (by omega) (by omega)]
  omega
theorem tw_remE (x : Int32) : (0 ≤ x.toInt.tmod 255 → x.toInt % 255 = x.toInt.tmod 255) ∧ (x.toInt.tmod 255 < 0 → x.toInt % 255 = x.toInt.tmod 255 + 255) ∧ (0 ≤ x.toInt → 0 ≤ x.toInt.tmod 255) ∧ (x.toInt < 0 → x.toInt.tmod 255 ≤ 0) := by
  have h3 : x.toInt.tdiv 255 * 255 + x.toInt.tmod 255 = x.toInt := Int.tdiv_mul_add_tmod x.toInt 255
  have h4 : -255 < x.toInt.tmod 255 := Int.lt_tmod_of_pos x.toInt (by decide)
  have h5 : x.toInt.tmod 255 < 255 := Int.tmod_lt_of_pos x.toInt (by decide)
  refine ⟨fun h => by omega, fun h => by omega, fun h => Int.tmod_nonneg 255 h, fun h => ?_⟩
  have := Int.tmod_nonneg (a := -x.toInt) 255 (by omega)
  rw [Int.neg_tmod] at this
  omega
theorem tw_fm_lt (x : Int32) : tw_fm x < 255 := by
  unfold tw_fm
  omega
theorem tw_fmA {x : Int32} (h : ¬ x - x / 255 * 255 < 0) : x - x / 255 * 255 = nI (tw_fm x) := by
  have e := tw_rem x
  have hE := tw_remE x
  rw [Int32.lt_iff_toInt_lt, e] at h
  have h0 : (0 : Int32).toInt = 0 := by decide
  rw [h0] at h
  apply Int32.toInt_inj.mp
  have hl := tw_fm_lt x
  rw [e, nI_toInt (by omega), ← hE.1 (by omega)]
  unfold tw_fm
  omega
theorem tw_fmB {x : Int32} (h : x - x / 255 * 255 < 0) : x - x / 255 * 255 + 255 = nI (tw_fm x) := by
  have e := tw_rem x
  have hE := tw_remE x
  rw [Int32.lt_iff_toInt_lt, e] at h
  have h0 : (0 : Int32).toInt = 0 := by decide
  have h2 : (255 : Int32).toInt = 255 := by decide
  rw [h0] at h
  have h4 : -255 < x.toInt.tmod 255 := Int.lt_tmod_of_pos x.toInt (by decide)
  apply Int32.toInt_inj.mp
  have hl := tw_fm_lt x
  rw [Int32.toInt_add, e, h2, Int.bmod_eq_of_le (by omega) (by omega), nI_toInt (by omega), ← hE.2.1 (by omega)]
  unfold tw_fm
  omega
theorem tw_x255 (x : Int32) : (0 ≤ x ^^^ 255) ↔ 0 ≤ x := by
  rw [Int32.le_iff_toInt_le, Int32.le_iff_toInt_le]
  have h0 : (0 : Int32).toInt = 0 := by decide
  rw [h0, ← Int32.toInt_toBitVec (x ^^^ 255), ← Int32.toInt_toBitVec x, Int32.toBitVec_xor]
  have hm : (x.toBitVec ^^^ (255 : Int32).toBitVec).msb = x.toBitVec.msb := by
    rw [BitVec.msb_xor, show (255 : Int32).toBitVec.msb = false from by decide, Bool.xor_false]
  rw [BitVec.msb_eq_toInt, BitVec.msb_eq_toInt] at hm
  have hm2 := decide_eq_decide.mp hm
  omega
theorem tw_fmC {x : Int32} (h : 0 ≤ x ^^^ 255) : x - x / 255 * 255 = nI (tw_fm x) := by
  apply tw_fmA
  have e := tw_rem x
  have hE := tw_remE x
  have h1 := (tw_x255 x).mp h
  rw [Int32.le_iff_toInt_le] at h1
  have h0 : (0 : Int32).toInt = 0 := by decide
  rw [Int32.lt_iff_toInt_lt, e, h0]
  have := hE.2.2.1 (by omega)
  omega
theorem tw_fmD {x : Int32} (h : ¬ 0 ≤ x ^^^ 255) (hz : ¬ x - x / 255 * 255 = 0) : x - x / 255 * 255 + 255 = nI (tw_fm x) := by
  apply tw_fmB
  have e := tw_rem x
  have hE := tw_remE x
  rw [tw_x255, Int32.le_iff_toInt_le] at h
  have h0 : (0 : Int32).toInt = 0 := by decide
  have hz2 : ¬ x.toInt.tmod 255 = 0 := fun q => hz (Int32.toInt_inj.mp (by rw [e, h0, q]))
  rw [Int32.lt_iff_toInt_lt, e, h0]
  have := hE.2.2.2 (by omega)
  omega
/-- a unit that is there -/
theorem tw_thD {k : Nat} {lo x : Int32} (hk : k ≤ 14) (h : tw_th k lo x = true) : ∃ u : Nat, u < k + 2 ∧ x = nI u ∧ tw_lb lo u = false := by
  simp only [tw_th, Bool.and_eq_true, Bool.not_eq_true', decide_eq_false_iff_not] at h
  obtain ⟨h0, h1, h2⟩ := h
  obtain ⟨u, hu, rfl⟩ := nI_of h0
  rw [nI_clamp hu] at h2
  refine ⟨u, ?_, rfl, h2⟩
  rcases Nat.lt_or_ge u (k + 2) with q | q
  · exact q
  · exact absurd (nI_le q hu) h1
theorem tw_thI {k : Nat} {lo : Int32} {u : Nat} (hk : k ≤ 14) (hu : u < k + 2) : tw_th k lo (nI u) = !tw_lb lo u := by
  have h1 : ¬ nI u < 0 := nI_pos (by omega)
  have h2 : ¬ nI (k + 2) ≤ nI u := nI_ge hu (by omega)
  simp [tw_th, h1, h2, nI_clamp (show u < 2 ^ 31 by omega)]
/-- bytes that are there -/
theorem tw_spD {z n : Int32} {mm : Nat} (hm : mm ≤ 64) (h : tw_sp z n (nI mm) = true) : ∃ i j : Nat, z = nI i ∧ n = nI j ∧ 1 ≤ j ∧ j ≤ mm ∧ i + j ≤ 64 := by
  simp only [tw_sp, Bool.and_eq_true, Bool.not_eq_true', decide_eq_false_iff_not] at h
  obtain ⟨h1, h2, h3, h4⟩ := h
  have e1 : (1 : Int32).toInt = 1 := by decide
  have e0 : (0 : Int32).toInt = 0 := by decide
  have hn : ¬ n < 0 := by
    rw [Int32.lt_iff_toInt_lt] at h1 ⊢
    omega
  obtain ⟨j, hj, rfl⟩ := nI_of hn
  obtain ⟨i, hi, rfl⟩ := nI_of h3
  have g1 : 1 ≤ j := by
    rcases Nat.lt_or_ge j 1 with q | q
    · exact absurd (show nI j < nI 1 from nI_lt q (by decide)) h1
    · exact q
  have g2 : j ≤ mm := by
    rcases Nat.lt_or_ge mm j with q | q
    · exact absurd (nI_lt q hj) h2
    · exact q
  have e4 : (64 : Int32) - nI j = nI (64 - j) := by rw [show (64 : Int32) = nI 64 from rfl, pk_sub (by omega)]
  rw [e4] at h4
  have g3 : i ≤ 64 - j := by
    rcases Nat.lt_or_ge (64 - j) i with q | q
    · exact absurd (nI_lt q hi) h4
    · exact q
  exact ⟨i, j, rfl, rfl, g1, g2, by omega⟩
theorem tw_spI {i j mm : Nat} (hm : mm ≤ 64) (h1 : 1 ≤ j) (h2 : j ≤ mm) (h3 : i + j ≤ 64) : tw_sp (nI i) (nI j) (nI mm) = true := by
  have e4 : (64 : Int32) - nI j = nI (64 - j) := by rw [show (64 : Int32) = nI 64 from rfl, pk_sub (by omega)]
  have g1 : ¬ nI j < 1 := by rw [show (1 : Int32) = nI 1 from rfl]; exact nI_nlt h1 (by omega)
  have g2 : ¬ nI mm < nI j := nI_nlt h2 (by omega)
  have g3 : ¬ nI i < 0 := nI_pos (by omega)
  have g4 : ¬ nI (64 - j) < nI i := nI_nlt (by omega) (by omega)
  simp [tw_sp, e4, g1, g2, g3, g4]
def tq_bv (x : Int32) : BitVec 8 := BitVec.ofNat 8 x.toNatClampNeg
theorem tq_bv_eb (b : BitVec 8) : tq_bv (tq_eb b) = b := by
  unfold tq_bv tq_eb
  have h : b.toNat < 2 ^ 8 := b.isLt
  rw [nI_clamp (by omega)]
  apply BitVec.eq_of_toNat_eq
  rw [BitVec.toNat_ofNat, Nat.mod_eq_of_lt h]
theorem tw_el_eb (b : BitVec 8) : tw_el (tq_eb b) = true := by
  obtain ⟨h1, h2, _⟩ := tq_eb_rng b
  simp [tw_el, h1, h2]
theorem tw_elD {x : Int32} (h : tw_el x = true) : ∃ b : BitVec 8, x = tq_eb b := by
  simp only [tw_el, Bool.and_eq_true, Bool.not_eq_true', decide_eq_false_iff_not] at h
  exact tq_eb_of h.1 h.2
end
section
abbrev rmX0_doubled : Room := { frames := 0, cells := 0, slots := 0, locals := 0 }
theorem kdX0_doubled : yX0_doubled.cls ≠ "java/lang/invoke/MethodHandle" ∧ yX0_doubled.cls ≠ "java/lang/invoke/VarHandle" ∧ (parseMethodDescriptor yX0_doubled.desc).map (fun d => d.parameters.length) = some 1 := by decide +kernel
set_option maxHeartbeats 4000000 in
set_option maxRecDepth 100000 in
theorem c_X0_doubled (l : Launch) (x : BitVec 8) : Met l yX0_doubled wsX0_doubled rmX0_doubled (va_Pc [.int (tq_eb x)] (fun _ => True)) (vp_Si (fun r => r = tq_eb (tq_d x))) 0 0 (fun _ => False) := by
  refine tw_metS (by decide) rfl rfl (Nat.le_of_ble_eq_true rfl) ?_
  intro p e s m args below meth c Q ls hx hb hml hown hts hend hl
  have hown : s.vm.findClass RX0 = some m.cls := hown
  have hl : lv_has ls 2 [(0, .int (tq_eb x))] := hl
  refine lv_iload_n hx hb dX0_doubled_0 rfl (lv_at hl 0 rfl) ?_
  refine lv_iconst (v := 1) hx hb dX0_doubled_1 (by decide) ?_
  refine lv_ishl hx hb dX0_doubled_2 ?_
  refine lv_topi (fun x1_3 ex1_3 => ?_)
  refine lv_istore_n (lv' := [(1, .int x1_3), (0, .int (tq_eb x))]) hx hb dX0_doubled_3 rfl hl (by decide) rfl (fun ls hl => ?_)
  refine lv_iload_n hx hb dX0_doubled_4 rfl (lv_at hl 0 rfl) ?_
  refine lv_sipush (v := 256) hx hb dX0_doubled_5 (by decide) ?_
  refine lv_icmp_ge (tgt := 15) hx hb dX0_doubled_8 (by decide) (fun c_8 => ?_) (fun c_8 => ?_)
  · refine lv_iload_n hx hb dX0_doubled_15 rfl (lv_at hl 0 rfl) ?_
    refine lv_sipush (v := 285) hx hb dX0_doubled_16 (by decide) ?_
    refine lv_ixor hx hb dX0_doubled_19 ?_
    refine tw_topr (x' := tq_eb (tq_d x)) (by rw [← tq_dbl_i x, ← ex1_3]; first | exact (if_pos c_8).symm | exact (if_neg c_8).symm) ?_
    exact hend _ _ dX0_doubled_20
  · refine lv_iload_n hx hb dX0_doubled_11 rfl (lv_at hl 0 rfl) ?_
    refine lv_goto (tgt := 20) hx hb dX0_doubled_12 (by decide) ?_
    refine tw_topr (x' := tq_eb (tq_d x)) (by rw [← tq_dbl_i x, ← ex1_3]; first | exact (if_pos c_8).symm | exact (if_neg c_8).symm) ?_
    exact hend _ _ dX0_doubled_20
abbrev rmX0_timesPower : Room := { frames := 1, cells := 0, slots := 0, locals := 21 }
theorem kdX0_timesPower : yX0_timesPower.cls ≠ "java/lang/invoke/MethodHandle" ∧ yX0_timesPower.cls ≠ "java/lang/invoke/VarHandle" ∧ (parseMethodDescriptor yX0_timesPower.desc).map (fun d => d.parameters.length) = some 2 := by decide +kernel
set_option maxHeartbeats 4000000 in
set_option maxRecDepth 100000 in
theorem c_X0_timesPower (l : Launch) (x : BitVec 8) (i : Nat) (hi : i < 2 ^ 31) : Met l yX0_timesPower wsX0_timesPower rmX0_timesPower (va_Pc [.int (tq_eb x), .int (nI i)] (fun _ => True)) (vp_Si (fun r => r = tq_eb (tq_p i x))) 0 0 (fun _ => False) := by
  refine tw_metS (by decide) rfl rfl (Nat.le_of_ble_eq_true rfl) ?_
  intro p e s m args below meth c Q ls hx hb hml hown hts hend hl
  have hown : s.vm.findClass RX0 = some m.cls := hown
  have hl : lv_has ls 4 [(0, .int (tq_eb x)), (1, .int (nI i))] := hl
  have loop : ∀ (n j : Nat) (ls : Array Slot), j + n = i → lv_has ls 4 [(0, .int (tq_eb x)), (1, .int (nI i)), (2, .int (tq_eb (tq_p j x))), (3, .int (nI j))] → W p l e rmX0_timesPower s m args below meth c s.heap [] 0 0 Q (F0 m 4 ls []) := by
    intro n
    induction n with
    | zero =>
      intro j ls hj hl
      refine lv_iload_n hx hb dX0_timesPower_4 rfl (lv_at hl 3 rfl) ?_
      refine lv_iload_n hx hb dX0_timesPower_5 rfl (lv_at hl 1 rfl) ?_
      refine lv_icmp_ge (tgt := 20) hx hb dX0_timesPower_6 (by decide) (fun c_6 => ?_) (fun c_6 => ?_)
      · refine lv_iload_n hx hb dX0_timesPower_20 rfl (lv_at hl 2 rfl) ?_
        refine tw_topr (x' := tq_eb (tq_p i x)) (by rw [show j = i by omega]) ?_
        exact hend _ _ dX0_timesPower_21
      · exact absurd (nI_le (by omega) (by omega)) c_6
    | succ n ih =>
      intro j ls hj hl
      refine lv_iload_n hx hb dX0_timesPower_4 rfl (lv_at hl 3 rfl) ?_
      refine lv_iload_n hx hb dX0_timesPower_5 rfl (lv_at hl 1 rfl) ?_
      refine lv_icmp_ge (tgt := 20) hx hb dX0_timesPower_6 (by decide) (fun c_6 => ?_) (fun c_6 => ?_)
      · exact absurd c_6 (nI_ge (by omega) (by omega))
      · refine lv_iload_n hx hb dX0_timesPower_9 rfl (lv_at hl 2 rfl) ?_
        refine tw_s ⟨hx, hb, hml, hown, hts⟩ (c_X0_doubled l (tq_p j x)) (va_cwS 1 hts gX0_timesPower_X0_doubled rfl rfl rfl kdX0_doubled ⟨Nat.le_of_ble_eq_true rfl, Nat.le_of_ble_eq_true rfl⟩) rfl hl.1 rfl (Nat.le_of_ble_eq_true rfl) dX0_timesPower_10 ⟨Nat.zero_le _, Nat.zero_le _⟩ ?_
        refine lv_istore_n (lv' := [(2, .int (tq_eb (tq_d (tq_p j x)))), (0, .int (tq_eb x)), (1, .int (nI i)), (3, .int (nI j))]) hx hb dX0_timesPower_13 rfl hl (by decide) rfl (fun ls hl => ?_)
        refine lv_iinc (v := nI (j + 1)) (lv' := [(3, .int (nI (j + 1))), (2, .int (tq_eb (tq_d (tq_p j x)))), (0, .int (tq_eb x)), (1, .int (nI i))]) hx hb dX0_timesPower_14 hl (k := 3) rfl (nI_1 j) (by decide) rfl (fun ls hl => ?_)
        refine lv_goto (tgt := 4) hx hb dX0_timesPower_17 (by decide) ?_
        exact ih (j + 1) ls (by omega) (lv_sub hl [2, 3, 1, 0] rfl)
  refine lv_iload_n hx hb dX0_timesPower_0 rfl (lv_at hl 0 rfl) ?_
  refine lv_istore_n (lv' := [(2, .int (tq_eb x)), (0, .int (tq_eb x)), (1, .int (nI i))]) hx hb dX0_timesPower_1 rfl hl (by decide) rfl (fun ls hl => ?_)
  refine lv_iconst (v := 0) hx hb dX0_timesPower_2 (by decide) ?_
  refine lv_istore_n (lv' := [(3, .int 0), (2, .int (tq_eb x)), (0, .int (tq_eb x)), (1, .int (nI i))]) hx hb dX0_timesPower_3 rfl hl (by decide) rfl (fun ls hl => ?_)
  exact loop i 0 ls (by omega) (lv_sub hl [2, 3, 1, 0] rfl)
abbrev rmX0_multiplied : Room := { frames := 1, cells := 0, slots := 0, locals := 21 }
theorem kdX0_multiplied : yX0_multiplied.cls ≠ "java/lang/invoke/MethodHandle" ∧ yX0_multiplied.cls ≠ "java/lang/invoke/VarHandle" ∧ (parseMethodDescriptor yX0_multiplied.desc).map (fun d => d.parameters.length) = some 2 := by decide +kernel
set_option maxHeartbeats 4000000 in
set_option maxRecDepth 100000 in
theorem c_X0_multiplied (l : Launch) (a b : BitVec 8) : Met l yX0_multiplied wsX0_multiplied rmX0_multiplied (va_Pc [.int (tq_eb a), .int (tq_eb b)] (fun _ => True)) (vp_Si (fun r => r = tq_eb (tq_m a b))) 0 0 (fun _ => False) := by
  refine tw_metS (by decide) rfl rfl (Nat.le_of_ble_eq_true rfl) ?_
  intro p e s m args below meth c Q ls hx hb hml hown hts hend hl
  have hown : s.vm.findClass RX0 = some m.cls := hown
  have hl : lv_has ls 5 [(0, .int (tq_eb a)), (1, .int (tq_eb b))] := hl
  have loop : ∀ (n j : Nat) (ls : Array Slot), j + n = 8 → lv_has ls 5 [(0, .int (tq_eb a)), (1, .int (tq_eb b)), (2, .int (tq_eb (tq_ms a b j))), (3, .int (tq_eb (tq_p j a))), (4, .int (nI j))] → W p l e rmX0_multiplied s m args below meth c s.heap [] 0 0 Q (F0 m 7 ls []) := by
    intro n
    induction n with
    | zero =>
      intro j ls hj hl
      refine lv_iload hx hb dX0_multiplied_7 (lv_at hl 4 rfl) ?_
      refine lv_bipush (v := 8) hx hb dX0_multiplied_9 (by decide) ?_
      refine lv_icmp_ge (tgt := 38) hx hb dX0_multiplied_11 (by decide) (fun c_11 => ?_) (fun c_11 => ?_)
      · refine lv_iload_n hx hb dX0_multiplied_38 rfl (lv_at hl 2 rfl) ?_
        refine tw_topr (x' := tq_eb (tq_m a b)) (by rw [show j = 8 by omega]; rfl) ?_
        exact hend _ _ dX0_multiplied_39
      · exact absurd (nI_le (a := 8) (by omega) (by omega)) c_11
    | succ n ih =>
      intro j ls hj hl
      refine lv_iload hx hb dX0_multiplied_7 (lv_at hl 4 rfl) ?_
      refine lv_bipush (v := 8) hx hb dX0_multiplied_9 (by decide) ?_
      refine lv_icmp_ge (tgt := 38) hx hb dX0_multiplied_11 (by decide) (fun c_11 => ?_) (fun c_11 => ?_)
      · exact absurd c_11 (nI_ge (b := 8) (by omega) (by omega))
      · refine lv_iload_n hx hb dX0_multiplied_14 rfl (lv_at hl 1 rfl) ?_
        refine lv_iload hx hb dX0_multiplied_15 (lv_at hl 4 rfl) ?_
        refine lv_ishr hx hb dX0_multiplied_17 ?_
        refine lv_iconst (v := 1) hx hb dX0_multiplied_18 (by decide) ?_
        refine lv_iand hx hb dX0_multiplied_19 ?_
        rw [tq_bit_i b j (by omega)]
        refine lv_if_eq (tgt := 27) hx hb dX0_multiplied_20 (by decide) (fun c_20 => ?_) (fun c_20 => ?_)
        · have hbit : b.getLsbD j = false := by cases hq : b.getLsbD j with | false => rfl | true => rw [hq] at c_20; exact absurd c_20 (by decide)
          refine lv_iload_n hx hb dX0_multiplied_27 rfl (lv_at hl 3 rfl) ?_
          refine tw_s ⟨hx, hb, hml, hown, hts⟩ (c_X0_doubled l (tq_p j a)) (va_cwS 1 hts gX0_multiplied_X0_doubled rfl rfl rfl kdX0_doubled ⟨Nat.le_of_ble_eq_true rfl, Nat.le_of_ble_eq_true rfl⟩) rfl hl.1 rfl (Nat.le_of_ble_eq_true rfl) dX0_multiplied_28 ⟨Nat.zero_le _, Nat.zero_le _⟩ ?_
          refine lv_istore_n (lv' := [(3, .int (tq_eb (tq_d (tq_p j a)))), (0, .int (tq_eb a)), (1, .int (tq_eb b)), (2, .int (tq_eb (tq_ms a b j))), (4, .int (nI j))]) hx hb dX0_multiplied_31 rfl hl (by decide) rfl (fun ls hl => ?_)
          refine lv_iinc (v := nI (j + 1)) (lv' := [(4, .int (nI (j + 1))), (3, .int (tq_eb (tq_d (tq_p j a)))), (0, .int (tq_eb a)), (1, .int (tq_eb b)), (2, .int (tq_eb (tq_ms a b j)))]) hx hb dX0_multiplied_32 hl (k := 4) rfl (nI_1 j) (by decide) rfl (fun ls hl => ?_)
          refine lv_goto (tgt := 7) hx hb dX0_multiplied_35 (by decide) ?_
          have hl : lv_has ls 5 [(0, .int (tq_eb a)), (1, .int (tq_eb b)), (2, .int (tq_eb (tq_ms a b (j + 1)))), (3, .int (tq_eb (tq_p (j + 1) a))), (4, .int (nI (j + 1)))] := by
            have := (lv_sub hl [2, 3, 4, 1, 0] rfl)
            simp only [tq_ms, hbit, if_true, Bool.false_eq_true, if_false]
            exact this
          exact ih (j + 1) ls (by omega) hl
        · have hbit : b.getLsbD j = true := by cases hq : b.getLsbD j with | true => rfl | false => rw [hq] at c_20; exact absurd rfl c_20
          refine lv_iload_n hx hb dX0_multiplied_23 rfl (lv_at hl 2 rfl) ?_
          refine lv_iload_n hx hb dX0_multiplied_24 rfl (lv_at hl 3 rfl) ?_
          refine lv_ixor hx hb dX0_multiplied_25 ?_
          refine tw_topr (x' := tq_eb (tq_ms a b j ^^^ tq_p j a)) (tq_eb_xor _ _) ?_
          refine lv_istore_n (lv' := [(2, .int (tq_eb (tq_ms a b j ^^^ tq_p j a))), (0, .int (tq_eb a)), (1, .int (tq_eb b)), (3, .int (tq_eb (tq_p j a))), (4, .int (nI j))]) hx hb dX0_multiplied_26 rfl hl (by decide) rfl (fun ls hl => ?_)
          refine lv_iload_n hx hb dX0_multiplied_27 rfl (lv_at hl 3 rfl) ?_
          refine tw_s ⟨hx, hb, hml, hown, hts⟩ (c_X0_doubled l (tq_p j a)) (va_cwS 1 hts gX0_multiplied_X0_doubled rfl rfl rfl kdX0_doubled ⟨Nat.le_of_ble_eq_true rfl, Nat.le_of_ble_eq_true rfl⟩) rfl hl.1 rfl (Nat.le_of_ble_eq_true rfl) dX0_multiplied_28 ⟨Nat.zero_le _, Nat.zero_le _⟩ ?_
          refine lv_istore_n (lv' := [(3, .int (tq_eb (tq_d (tq_p j a)))), (2, .int (tq_eb (tq_ms a b j ^^^ tq_p j a))), (0, .int (tq_eb a)), (1, .int (tq_eb b)), (4, .int (nI j))]) hx hb dX0_multiplied_31 rfl hl (by decide) rfl (fun ls hl => ?_)
          refine lv_iinc (v := nI (j + 1)) (lv' := [(4, .int (nI (j + 1))), (3, .int (tq_eb (tq_d (tq_p j a)))), (2, .int (tq_eb (tq_ms a b j ^^^ tq_p j a))), (0, .int (tq_eb a)), (1, .int (tq_eb b))]) hx hb dX0_multiplied_32 hl (k := 4) rfl (nI_1 j) (by decide) rfl (fun ls hl => ?_)
          refine lv_goto (tgt := 7) hx hb dX0_multiplied_35 (by decide) ?_
          have hl : lv_has ls 5 [(0, .int (tq_eb a)), (1, .int (tq_eb b)), (2, .int (tq_eb (tq_ms a b (j + 1)))), (3, .int (tq_eb (tq_p (j + 1) a))), (4, .int (nI (j + 1)))] := by
            have := (lv_sub hl [3, 4, 2, 1, 0] rfl)
            simp only [tq_ms, hbit, if_true, Bool.false_eq_true, if_false]
            exact this
          exact ih (j + 1) ls (by omega) hl
  refine lv_iconst (v := 0) hx hb dX0_multiplied_0 (by decide) ?_
  refine lv_istore_n (lv' := [(2, .int 0), (0, .int (tq_eb a)), (1, .int (tq_eb b))]) hx hb dX0_multiplied_1 rfl hl (by decide) rfl (fun ls hl => ?_)
  refine lv_iload_n hx hb dX0_multiplied_2 rfl (lv_at hl 1 rfl) ?_
  refine lv_istore_n (lv' := [(3, .int (tq_eb a)), (2, .int 0), (0, .int (tq_eb a)), (1, .int (tq_eb b))]) hx hb dX0_multiplied_3 rfl hl (by decide) rfl (fun ls hl => ?_)
  refine lv_iconst (v := 0) hx hb dX0_multiplied_4 (by decide) ?_
  refine lv_istore (lv' := [(4, .int 0), (3, .int (tq_eb a)), (2, .int 0), (0, .int (tq_eb a)), (1, .int (tq_eb b))]) hx hb dX0_multiplied_5 hl (by decide) rfl (fun ls hl => ?_)
  exact loop 8 0 ls (by omega) (lv_sub hl [3, 4, 2, 1, 0] rfl)
abbrev rmX0_inverse : Room := { frames := 2, cells := 0, slots := 0, locals := 45 }
theorem kdX0_inverse : yX0_inverse.cls ≠ "java/lang/invoke/MethodHandle" ∧ yX0_inverse.cls ≠ "java/lang/invoke/VarHandle" ∧ (parseMethodDescriptor yX0_inverse.desc).map (fun d => d.parameters.length) = some 1 := by decide +kernel
set_option maxHeartbeats 4000000 in
set_option maxRecDepth 100000 in
theorem c_X0_inverse (l : Launch) (a : BitVec 8) : Met l yX0_inverse wsX0_inverse rmX0_inverse (va_Pc [.int (tq_eb a)] (fun _ => True)) (vp_Si (fun r => r = tq_eb (tq_i a))) 0 0 (fun _ => False) := by
  refine tw_metS (by decide) rfl rfl (Nat.le_of_ble_eq_true rfl) ?_
  intro p e s m args below meth c Q ls hx hb hml hown hts hend hl
  have hown : s.vm.findClass RX0 = some m.cls := hown
  have hl : lv_has ls 4 [(0, .int (tq_eb a))] := hl
  have loop : ∀ (n j : Nat) (ls : Array Slot), j + n = 7 → lv_has ls 4 [(0, .int (tq_eb a)), (1, .int (tq_eb (tq_is a j).1)), (2, .int (tq_eb (tq_is a j).2)), (3, .int (nI (j + 1)))] → W p l e rmX0_inverse s m args below meth c s.heap [] 0 0 Q (F0 m 6 ls []) := by
    intro n
    induction n with
    | zero =>
      intro j ls hj hl
      refine lv_iload_n hx hb dX0_inverse_6 rfl (lv_at hl 3 rfl) ?_
      refine lv_bipush (v := 8) hx hb dX0_inverse_7 (by decide) ?_
      refine lv_icmp_ge (tgt := 30) hx hb dX0_inverse_9 (by decide) (fun c_9 => ?_) (fun c_9 => ?_)
      · refine lv_iload_n hx hb dX0_inverse_30 rfl (lv_at hl 2 rfl) ?_
        refine tw_topr (x' := tq_eb (tq_i a)) (by rw [show j = 7 by omega]; rfl) ?_
        exact hend _ _ dX0_inverse_31
      · exact absurd (nI_le (a := 8) (by omega) (by omega)) c_9
    | succ n ih =>
      intro j ls hj hl
      refine lv_iload_n hx hb dX0_inverse_6 rfl (lv_at hl 3 rfl) ?_
      refine lv_bipush (v := 8) hx hb dX0_inverse_7 (by decide) ?_
      refine lv_icmp_ge (tgt := 30) hx hb dX0_inverse_9 (by decide) (fun c_9 => ?_) (fun c_9 => ?_)
      · exact absurd c_9 (nI_ge (b := 8) (by omega) (by omega))
      · refine lv_iload_n hx hb dX0_inverse_12 rfl (lv_at hl 1 rfl) ?_
        refine lv_iload_n hx hb dX0_inverse_13 rfl (lv_at hl 1 rfl) ?_
        refine tw_s ⟨hx, hb, hml, hown, hts⟩ (c_X0_multiplied l (tq_is a j).1 (tq_is a j).1) (va_cwS 2 hts gX0_inverse_X0_multiplied rfl rfl rfl kdX0_multiplied ⟨Nat.le_of_ble_eq_true rfl, Nat.le_of_ble_eq_true rfl⟩) rfl hl.1 rfl (Nat.le_of_ble_eq_true rfl) dX0_inverse_14 ⟨Nat.zero_le _, Nat.zero_le _⟩ ?_
        refine lv_istore_n (lv' := [(1, .int (tq_eb (tq_m (tq_is a j).1 (tq_is a j).1))), (0, .int (tq_eb a)), (2, .int (tq_eb (tq_is a j).2)), (3, .int (nI (j + 1)))]) hx hb dX0_inverse_17 rfl hl (by decide) rfl (fun ls hl => ?_)
        refine lv_iload_n hx hb dX0_inverse_18 rfl (lv_at hl 2 rfl) ?_
        refine lv_iload_n hx hb dX0_inverse_19 rfl (lv_at hl 0 rfl) ?_
        refine tw_s ⟨hx, hb, hml, hown, hts⟩ (c_X0_multiplied l (tq_is a j).2 (tq_m (tq_is a j).1 (tq_is a j).1)) (va_cwS 2 hts gX0_inverse_X0_multiplied rfl rfl rfl kdX0_multiplied ⟨Nat.le_of_ble_eq_true rfl, Nat.le_of_ble_eq_true rfl⟩) rfl hl.1 rfl (Nat.le_of_ble_eq_true rfl) dX0_inverse_20 ⟨Nat.zero_le _, Nat.zero_le _⟩ ?_
        refine lv_istore_n (lv' := [(2, .int (tq_eb (tq_m (tq_is a j).2 (tq_m (tq_is a j).1 (tq_is a j).1)))), (1, .int (tq_eb (tq_m (tq_is a j).1 (tq_is a j).1))), (0, .int (tq_eb a)), (3, .int (nI (j + 1)))]) hx hb dX0_inverse_23 rfl hl (by decide) rfl (fun ls hl => ?_)
        refine lv_iinc (v := nI (j + 2)) (lv' := [(3, .int (nI (j + 2))), (2, .int (tq_eb (tq_m (tq_is a j).2 (tq_m (tq_is a j).1 (tq_is a j).1)))), (1, .int (tq_eb (tq_m (tq_is a j).1 (tq_is a j).1))), (0, .int (tq_eb a))]) hx hb dX0_inverse_24 hl (k := 3) rfl (nI_1 (j + 1)) (by decide) rfl (fun ls hl => ?_)
        refine lv_goto (tgt := 6) hx hb dX0_inverse_27 (by decide) ?_
        exact ih (j + 1) ls (by omega) (lv_sub hl [3, 2, 1, 0] rfl)
  refine lv_iload_n hx hb dX0_inverse_0 rfl (lv_at hl 0 rfl) ?_
  refine lv_istore_n (lv' := [(1, .int (tq_eb a)), (0, .int (tq_eb a))]) hx hb dX0_inverse_1 rfl hl (by decide) rfl (fun ls hl => ?_)
  refine lv_iconst (v := 1) hx hb dX0_inverse_2 (by decide) ?_
  refine lv_istore_n (lv' := [(2, .int 1), (1, .int (tq_eb a)), (0, .int (tq_eb a))]) hx hb dX0_inverse_3 rfl hl (by decide) rfl (fun ls hl => ?_)
  refine lv_iconst (v := 1) hx hb dX0_inverse_4 (by decide) ?_
  refine lv_istore_n (lv' := [(3, .int 1), (2, .int 1), (1, .int (tq_eb a)), (0, .int (tq_eb a))]) hx hb dX0_inverse_5 rfl hl (by decide) rfl (fun ls hl => ?_)
  exact loop 7 0 ls (by omega) (lv_sub hl [3, 2, 1, 0] rfl)
abbrev rmX0_isSpan : Room := { frames := 0, cells := 0, slots := 0, locals := 0 }
theorem kdX0_isSpan : yX0_isSpan.cls ≠ "java/lang/invoke/MethodHandle" ∧ yX0_isSpan.cls ≠ "java/lang/invoke/VarHandle" ∧ (parseMethodDescriptor yX0_isSpan.desc).map (fun d => d.parameters.length) = some 3 := by decide +kernel
set_option maxHeartbeats 4000000 in
set_option maxRecDepth 100000 in
theorem c_X0_isSpan (l : Launch) (z n most : Int32) : Met l yX0_isSpan wsX0_isSpan rmX0_isSpan (va_Pc [.int z, .int n, .int most] (fun _ => True)) (vp_Si (fun r => r = tw_bI (tw_sp z n most))) 0 0 (fun _ => False) := by
  refine tw_metT (by decide) rfl rfl (Nat.le_of_ble_eq_true rfl) ?_
  intro p e s m args below meth c Q ls hx hb hml hown hts hend hl
  have hown : s.vm.findClass RX0 = some m.cls := hown
  have hl : lv_has ls 3 [(0, .int z), (1, .int n), (2, .int most)] := hl
  refine lv_iload_n hx hb dX0_isSpan_0 rfl (lv_at hl 1 rfl) ?_
  refine lv_iconst (v := 1) hx hb dX0_isSpan_1 (by decide) ?_
  refine lv_icmp_lt (tgt := 26) hx hb dX0_isSpan_2 (by decide) (fun c_2 => ?_) (fun c_2 => ?_)
  · refine lv_iconst (v := 0) hx hb dX0_isSpan_26 (by decide) ?_
    refine tw_topr (x' := tw_bI (tw_sp z n most)) (by simp [tw_sp, tw_bI, *]) ?_
    exact hend _ _ dX0_isSpan_27
  · refine lv_iload_n hx hb dX0_isSpan_5 rfl (lv_at hl 1 rfl) ?_
    refine lv_iload_n hx hb dX0_isSpan_6 rfl (lv_at hl 2 rfl) ?_
    refine lv_icmp_gt (tgt := 26) hx hb dX0_isSpan_7 (by decide) (fun c_7 => ?_) (fun c_7 => ?_)
    · refine lv_iconst (v := 0) hx hb dX0_isSpan_26 (by decide) ?_
      refine tw_topr (x' := tw_bI (tw_sp z n most)) (by simp [tw_sp, tw_bI, *]) ?_
      exact hend _ _ dX0_isSpan_27
    · refine lv_iload_n hx hb dX0_isSpan_10 rfl (lv_at hl 0 rfl) ?_
      refine lv_if_lt (tgt := 26) hx hb dX0_isSpan_11 (by decide) (fun c_11 => ?_) (fun c_11 => ?_)
      · refine lv_iconst (v := 0) hx hb dX0_isSpan_26 (by decide) ?_
        refine tw_topr (x' := tw_bI (tw_sp z n most)) (by simp [tw_sp, tw_bI, *]) ?_
        exact hend _ _ dX0_isSpan_27
      · refine lv_iload_n hx hb dX0_isSpan_14 rfl (lv_at hl 0 rfl) ?_
        refine lv_bipush (v := 64) hx hb dX0_isSpan_15 (by decide) ?_
        refine lv_iload_n hx hb dX0_isSpan_17 rfl (lv_at hl 1 rfl) ?_
        refine lv_isub hx hb dX0_isSpan_18 ?_
        refine lv_icmp_gt (tgt := 26) hx hb dX0_isSpan_19 (by decide) (fun c_19 => ?_) (fun c_19 => ?_)
        · refine lv_iconst (v := 0) hx hb dX0_isSpan_26 (by decide) ?_
          refine tw_topr (x' := tw_bI (tw_sp z n most)) (by simp [tw_sp, tw_bI, *]) ?_
          exact hend _ _ dX0_isSpan_27
        · refine lv_iconst (v := 1) hx hb dX0_isSpan_22 (by decide) ?_
          refine lv_goto (tgt := 27) hx hb dX0_isSpan_23 (by decide) ?_
          refine tw_topr (x' := tw_bI (tw_sp z n most)) (by simp [tw_sp, tw_bI, *]) ?_
          exact hend _ _ dX0_isSpan_27
abbrev rmX0_isElement : Room := { frames := 0, cells := 0, slots := 0, locals := 0 }
theorem kdX0_isElement : yX0_isElement.cls ≠ "java/lang/invoke/MethodHandle" ∧ yX0_isElement.cls ≠ "java/lang/invoke/VarHandle" ∧ (parseMethodDescriptor yX0_isElement.desc).map (fun d => d.parameters.length) = some 1 := by decide +kernel
set_option maxHeartbeats 4000000 in
set_option maxRecDepth 100000 in
theorem c_X0_isElement (l : Launch) (x : Int32) : Met l yX0_isElement wsX0_isElement rmX0_isElement (va_Pc [.int x] (fun _ => True)) (vp_Si (fun r => r = tw_bI (tw_el x))) 0 0 (fun _ => False) := by
  refine tw_metT (by decide) rfl rfl (Nat.le_of_ble_eq_true rfl) ?_
  intro p e s m args below meth c Q ls hx hb hml hown hts hend hl
  have hown : s.vm.findClass RX0 = some m.cls := hown
  have hl : lv_has ls 1 [(0, .int x)] := hl
  refine lv_iload_n hx hb dX0_isElement_0 rfl (lv_at hl 0 rfl) ?_
  refine lv_if_lt (tgt := 15) hx hb dX0_isElement_1 (by decide) (fun c_1 => ?_) (fun c_1 => ?_)
  · refine lv_iconst (v := 0) hx hb dX0_isElement_15 (by decide) ?_
    refine tw_topr (x' := tw_bI (tw_el x)) (by simp [tw_el, tw_bI, *]) ?_
    exact hend _ _ dX0_isElement_16
  · refine lv_iload_n hx hb dX0_isElement_4 rfl (lv_at hl 0 rfl) ?_
    refine lv_sipush (v := 256) hx hb dX0_isElement_5 (by decide) ?_
    refine lv_icmp_ge (tgt := 15) hx hb dX0_isElement_8 (by decide) (fun c_8 => ?_) (fun c_8 => ?_)
    · refine lv_iconst (v := 0) hx hb dX0_isElement_15 (by decide) ?_
      refine tw_topr (x' := tw_bI (tw_el x)) (by simp [tw_el, tw_bI, *]) ?_
      exact hend _ _ dX0_isElement_16
    · refine lv_iconst (v := 1) hx hb dX0_isElement_11 (by decide) ?_
      refine lv_goto (tgt := 16) hx hb dX0_isElement_12 (by decide) ?_
      refine tw_topr (x' := tw_bI (tw_el x)) (by simp [tw_el, tw_bI, *]) ?_
      exact hend _ _ dX0_isElement_16
abbrev rmX0_units : Room := { frames := 0, cells := 0, slots := 0, locals := 0 }
theorem inX0_units : ∀ w ∈ wsX00, w ∈ wsX0_units := fun _ h => List.mem_cons_of_mem _ (List.mem_append_right _ h)
theorem fX0_units_13 : Cond.fieldLink RX0 13 "TwinParity" "dataUnits" "I" ∈ wsX0_units := List.mem_of_getElem? (i := 1) rfl
theorem kdX0_units : yX0_units.cls = RX0 ∧ yX0_units.cls ≠ "java/lang/invoke/MethodHandle" ∧ yX0_units.cls ≠ "java/lang/invoke/VarHandle" ∧ (parseMethodDescriptor yX0_units.desc).map (fun d => d.parameters.length) = some 0 := by decide +kernel
set_option maxHeartbeats 4000000 in
set_option maxRecDepth 100000 in
theorem c_X0_units (l : Launch) (D : va_G) (cA : ClassId) (h0 a0 k : Nat) (lo : Int32) (F : Nat → BitVec 8)  : Met l yX0_units wsX0_units rmX0_units (va_Pc [.ref h0] (tw_B D (tw_X cA h0 a0 k lo F) (tw_tX cA))) (vp_Si (fun r => r = nI (k + 2))) 0 0 (fun _ => False) := by
  refine tw_metR (by decide) rfl rfl (Nat.le_of_ble_eq_true rfl) ?_
  intro p e s m args below meth c Q ls hx hb hml hown hts hP hK hend hl
  have hown : s.vm.findClass RX0 = some m.cls := hown
  have hl : lv_has ls 1 [(0, .ref h0)] := hl
  refine lv_aload_n hx hb dX0_units_0 rfl (lv_at hl 0 rfl) ?_
  refine va_get (D := D) (ci := 0) (v := .int (nI k)) (C := RX0) (T := TX0) (N := 3) hx hb hts inX0_units hown hK hP 0 rfl rfl 1 (by decide) (hts _ fX0_units_13) (fun _ h9 => h9) rfl dX0_units_1 ?_
  refine lv_iconst (v := 2) hx hb dX0_units_4 (by decide) ?_
  refine lv_iadd hx hb dX0_units_5 ?_
  refine tw_topr (x' := nI (k + 2)) (nI_add k 2) ?_
  exact hend _ _ dX0_units_6
abbrev rmX0_unitP : Room := { frames := 0, cells := 0, slots := 0, locals := 0 }
theorem inX0_unitP : ∀ w ∈ wsX00, w ∈ wsX0_unitP := fun _ h => List.mem_cons_of_mem _ (List.mem_append_right _ h)
theorem fX0_unitP_13 : Cond.fieldLink RX0 13 "TwinParity" "dataUnits" "I" ∈ wsX0_unitP := List.mem_of_getElem? (i := 1) rfl
theorem kdX0_unitP : yX0_unitP.cls = RX0 ∧ yX0_unitP.cls ≠ "java/lang/invoke/MethodHandle" ∧ yX0_unitP.cls ≠ "java/lang/invoke/VarHandle" ∧ (parseMethodDescriptor yX0_unitP.desc).map (fun d => d.parameters.length) = some 0 := by decide +kernel
set_option maxHeartbeats 4000000 in
set_option maxRecDepth 100000 in
theorem c_X0_unitP (l : Launch) (D : va_G) (cA : ClassId) (h0 a0 k : Nat) (lo : Int32) (F : Nat → BitVec 8)  : Met l yX0_unitP wsX0_unitP rmX0_unitP (va_Pc [.ref h0] (tw_B D (tw_X cA h0 a0 k lo F) (tw_tX cA))) (vp_Si (fun r => r = nI k)) 0 0 (fun _ => False) := by
  refine tw_metR (by decide) rfl rfl (Nat.le_of_ble_eq_true rfl) ?_
  intro p e s m args below meth c Q ls hx hb hml hown hts hP hK hend hl
  have hown : s.vm.findClass RX0 = some m.cls := hown
  have hl : lv_has ls 1 [(0, .ref h0)] := hl
  refine lv_aload_n hx hb dX0_unitP_0 rfl (lv_at hl 0 rfl) ?_
  refine va_get (D := D) (ci := 0) (v := .int (nI k)) (C := RX0) (T := TX0) (N := 3) hx hb hts inX0_unitP hown hK hP 0 rfl rfl 1 (by decide) (hts _ fX0_unitP_13) (fun _ h9 => h9) rfl dX0_unitP_1 ?_
  exact hend _ _ dX0_unitP_4
abbrev rmX0_unitQ : Room := { frames := 0, cells := 0, slots := 0, locals := 0 }
theorem inX0_unitQ : ∀ w ∈ wsX00, w ∈ wsX0_unitQ := fun _ h => List.mem_cons_of_mem _ (List.mem_append_right _ h)
theorem fX0_unitQ_13 : Cond.fieldLink RX0 13 "TwinParity" "dataUnits" "I" ∈ wsX0_unitQ := List.mem_of_getElem? (i := 1) rfl
theorem kdX0_unitQ : yX0_unitQ.cls = RX0 ∧ yX0_unitQ.cls ≠ "java/lang/invoke/MethodHandle" ∧ yX0_unitQ.cls ≠ "java/lang/invoke/VarHandle" ∧ (parseMethodDescriptor yX0_unitQ.desc).map (fun d => d.parameters.length) = some 0 := by decide +kernel
set_option maxHeartbeats 4000000 in
set_option maxRecDepth 100000 in
theorem c_X0_unitQ (l : Launch) (D : va_G) (cA : ClassId) (h0 a0 k : Nat) (lo : Int32) (F : Nat → BitVec 8)  : Met l yX0_unitQ wsX0_unitQ rmX0_unitQ (va_Pc [.ref h0] (tw_B D (tw_X cA h0 a0 k lo F) (tw_tX cA))) (vp_Si (fun r => r = nI (k + 1))) 0 0 (fun _ => False) := by
  refine tw_metR (by decide) rfl rfl (Nat.le_of_ble_eq_true rfl) ?_
  intro p e s m args below meth c Q ls hx hb hml hown hts hP hK hend hl
  have hown : s.vm.findClass RX0 = some m.cls := hown
  have hl : lv_has ls 1 [(0, .ref h0)] := hl
  refine lv_aload_n hx hb dX0_unitQ_0 rfl (lv_at hl 0 rfl) ?_
  refine va_get (D := D) (ci := 0) (v := .int (nI k)) (C := RX0) (T := TX0) (N := 3) hx hb hts inX0_unitQ hown hK hP 0 rfl rfl 1 (by decide) (hts _ fX0_unitQ_13) (fun _ h9 => h9) rfl dX0_unitQ_1 ?_
  refine lv_iconst (v := 1) hx hb dX0_unitQ_4 (by decide) ?_
  refine lv_iadd hx hb dX0_unitQ_5 ?_
  refine tw_topr (x' := nI (k + 1)) (nI_add k 1) ?_
  exact hend _ _ dX0_unitQ_6
abbrev rmX0_isLost : Room := { frames := 0, cells := 0, slots := 0, locals := 0 }
theorem inX0_isLost : ∀ w ∈ wsX00, w ∈ wsX0_isLost := fun _ h => List.mem_cons_of_mem _ (List.mem_append_right _ h)
theorem fX0_isLost_17 : Cond.fieldLink RX0 17 "TwinParity" "lostUnits" "I" ∈ wsX0_isLost := List.mem_of_getElem? (i := 1) rfl
theorem kdX0_isLost : yX0_isLost.cls = RX0 ∧ yX0_isLost.cls ≠ "java/lang/invoke/MethodHandle" ∧ yX0_isLost.cls ≠ "java/lang/invoke/VarHandle" ∧ (parseMethodDescriptor yX0_isLost.desc).map (fun d => d.parameters.length) = some 1 := by decide +kernel
set_option maxHeartbeats 4000000 in
set_option maxRecDepth 100000 in
theorem c_X0_isLost (l : Launch) (D : va_G) (cA : ClassId) (h0 a0 k : Nat) (lo : Int32) (F : Nat → BitVec 8) (u : Nat) : Met l yX0_isLost wsX0_isLost rmX0_isLost (va_Pc [.ref h0, .int (nI u)] (tw_B D (tw_X cA h0 a0 k lo F) (tw_tX cA))) (vp_Si (fun r => r = tw_bI (tw_lb lo u))) 0 0 (fun _ => False) := by
  refine tw_metZ (by decide) rfl rfl (Nat.le_of_ble_eq_true rfl) ?_
  intro p e s m args below meth c Q ls hx hb hml hown hts hP hK hend hl
  have hown : s.vm.findClass RX0 = some m.cls := hown
  have hl : lv_has ls 2 [(0, .ref h0), (1, .int (nI u))] := hl
  refine lv_aload_n hx hb dX0_isLost_0 rfl (lv_at hl 0 rfl) ?_
  refine va_get (D := D) (ci := 0) (v := .int lo) (C := RX0) (T := TX0) (N := 3) hx hb hts inX0_isLost hown hK hP 0 rfl rfl 2 (by decide) (hts _ fX0_isLost_17) (fun _ h9 => h9) rfl dX0_isLost_1 ?_
  refine lv_iload_n hx hb dX0_isLost_4 rfl (lv_at hl 1 rfl) ?_
  refine lv_ishr hx hb dX0_isLost_5 ?_
  refine lv_iconst (v := 1) hx hb dX0_isLost_6 (by decide) ?_
  refine lv_iand hx hb dX0_isLost_7 ?_
  refine lv_if_eq (tgt := 15) hx hb dX0_isLost_8 (by decide) (fun c_8 => ?_) (fun c_8 => ?_)
  · refine lv_iconst (v := 0) hx hb dX0_isLost_15 (by decide) ?_
    refine tw_topr (x' := tw_bI (tw_lb lo u)) (by simp [tw_lb, tw_bI, c_8]) ?_
    exact hend _ _ dX0_isLost_16
  · refine lv_iconst (v := 1) hx hb dX0_isLost_11 (by decide) ?_
    refine lv_goto (tgt := 16) hx hb dX0_isLost_12 (by decide) ?_
    refine tw_topr (x' := tw_bI (tw_lb lo u)) (by simp [tw_lb, tw_bI, c_8]) ?_
    exact hend _ _ dX0_isLost_16
abbrev rmX0_isThere : Room := { frames := 1, cells := 0, slots := 0, locals := 21 }
theorem inX0_isThere : ∀ w ∈ wsX00, w ∈ wsX0_isThere := fun _ h => List.mem_cons_of_mem _ (List.mem_append_right _ h)
theorem fX0_isThere_13 : Cond.fieldLink RX0 13 "TwinParity" "dataUnits" "I" ∈ wsX0_isThere := List.mem_of_getElem? (i := 6) rfl
theorem fX0_isThere_17 : Cond.fieldLink RX0 17 "TwinParity" "lostUnits" "I" ∈ wsX0_isThere := List.mem_of_getElem? (i := 11) rfl
theorem kdX0_isThere : yX0_isThere.cls = RX0 ∧ yX0_isThere.cls ≠ "java/lang/invoke/MethodHandle" ∧ yX0_isThere.cls ≠ "java/lang/invoke/VarHandle" ∧ (parseMethodDescriptor yX0_isThere.desc).map (fun d => d.parameters.length) = some 1 := by decide +kernel
set_option maxHeartbeats 4000000 in
set_option maxRecDepth 100000 in
theorem c_X0_isThere (l : Launch) (D : va_G) (cA : ClassId) (h0 a0 k : Nat) (lo : Int32) (F : Nat → BitVec 8) (x : Int32) (hk : k ≤ 14) : Met l yX0_isThere wsX0_isThere rmX0_isThere (va_Pc [.ref h0, .int x] (tw_B D (tw_X cA h0 a0 k lo F) (tw_tX cA))) (vp_Si (fun r => r = tw_bI (tw_th k lo x))) 0 0 (fun _ => False) := by
  refine tw_metZ (by decide) rfl rfl (Nat.le_of_ble_eq_true rfl) ?_
  intro p e s m args below meth c Q ls hx hb hml hown hts hP hK hend hl
  have hown : s.vm.findClass RX0 = some m.cls := hown
  have hl : lv_has ls 2 [(0, .ref h0), (1, .int x)] := hl
  generalize hE : tw_th k lo x = E at hend
  refine lv_iload_n hx hb dX0_isThere_0 rfl (lv_at hl 1 rfl) ?_
  refine lv_if_lt (tgt := 24) hx hb dX0_isThere_1 (by decide) (fun c_1 => ?_) (fun c_1 => ?_)
  · refine lv_iconst (v := 0) hx hb dX0_isThere_24 (by decide) ?_
    refine tw_topr (x' := tw_bI E) (by rw [← hE]; simp [tw_th, tw_bI, *]) ?_
    exact hend _ _ dX0_isThere_25
  · refine lv_iload_n hx hb dX0_isThere_4 rfl (lv_at hl 1 rfl) ?_
    refine lv_aload_n hx hb dX0_isThere_5 rfl (lv_at hl 0 rfl) ?_
    refine tw_rX ⟨hx, hb, hml, hown, hts⟩ hK hP (c_X0_units l D cA h0 a0 k lo F ) (cwV 0 hts gX0_isThere_X0_units rfl rfl rfl kdX0_units ⟨Nat.le_of_ble_eq_true rfl, Nat.le_of_ble_eq_true rfl⟩) rfl hl.1 rfl (Nat.le_of_ble_eq_true rfl) dX0_isThere_6 ⟨Nat.zero_le _, Nat.zero_le _⟩ ?_
    refine lv_icmp_ge (tgt := 24) hx hb dX0_isThere_9 (by decide) (fun c_9 => ?_) (fun c_9 => ?_)
    · refine lv_iconst (v := 0) hx hb dX0_isThere_24 (by decide) ?_
      refine tw_topr (x' := tw_bI E) (by rw [← hE]; simp [tw_th, tw_bI, *]) ?_
      exact hend _ _ dX0_isThere_25
    · obtain ⟨u, hu, rfl⟩ := nI_of c_1
      have hcl : (nI u).toNatClampNeg = u := nI_clamp hu
      have hl : lv_has ls 2 [(0, .ref h0), (1, .int (nI u))] := hl
      refine lv_aload_n hx hb dX0_isThere_12 rfl (lv_at hl 0 rfl) ?_
      refine lv_iload_n hx hb dX0_isThere_13 rfl (lv_at hl 1 rfl) ?_
      refine tw_rX ⟨hx, hb, hml, hown, hts⟩ hK hP (c_X0_isLost l D cA h0 a0 k lo F u) (cwV 1 hts gX0_isThere_X0_isLost rfl rfl rfl kdX0_isLost ⟨Nat.le_of_ble_eq_true rfl, Nat.le_of_ble_eq_true rfl⟩) rfl hl.1 rfl (Nat.le_of_ble_eq_true rfl) dX0_isThere_14 ⟨Nat.zero_le _, Nat.zero_le _⟩ ?_
      refine lv_if_ne (tgt := 24) hx hb dX0_isThere_17 (by decide) (fun c_17 => ?_) (fun c_17 => ?_)
      · rw [tw_bI1] at c_17
        refine lv_iconst (v := 0) hx hb dX0_isThere_24 (by decide) ?_
        refine tw_topr (x' := tw_bI E) (by rw [← hE]; simp [tw_th, tw_bI, *]) ?_
        exact hend _ _ dX0_isThere_25
      · rw [tw_bI0] at c_17
        refine lv_iconst (v := 1) hx hb dX0_isThere_20 (by decide) ?_
        refine lv_goto (tgt := 25) hx hb dX0_isThere_21 (by decide) ?_
        refine tw_topr (x' := tw_bI E) (by rw [← hE]; simp [tw_th, tw_bI, *]) ?_
        exact hend _ _ dX0_isThere_25
end
section
abbrev rmJ6_bitCount_0f7a4 : Room := { frames := 0, cells := 0, slots := 0, locals := 0 }
theorem fJ6_bitCount_0f7a4_265 : Cond.constant RJ6 265 (1431655765) ∈ wsJ6_bitCount_0f7a4 := List.mem_of_getElem? (i := 1) rfl
theorem fJ6_bitCount_0f7a4_266 : Cond.constant RJ6 266 (858993459) ∈ wsJ6_bitCount_0f7a4 := List.mem_of_getElem? (i := 2) rfl
theorem fJ6_bitCount_0f7a4_267 : Cond.constant RJ6 267 (252645135) ∈ wsJ6_bitCount_0f7a4 := List.mem_of_getElem? (i := 3) rfl
theorem kdJ6_bitCount_0f7a4 : yJ6_bitCount_0f7a4.cls ≠ "java/lang/invoke/MethodHandle" ∧ yJ6_bitCount_0f7a4.cls ≠ "java/lang/invoke/VarHandle" ∧ (parseMethodDescriptor yJ6_bitCount_0f7a4.desc).map (fun d => d.parameters.length) = some 1 := by decide +kernel
set_option maxHeartbeats 4000000 in
set_option maxRecDepth 100000 in
theorem c_J6_bitCount_0f7a4 (l : Launch) (x : Int32) : Met l yJ6_bitCount_0f7a4 wsJ6_bitCount_0f7a4 rmJ6_bitCount_0f7a4 (va_Pc [.int x] (fun _ => True)) (vp_Si (fun r => r = tw_bc x)) 0 0 (fun _ => False) := by
  refine tw_metS (by decide) rfl rfl (Nat.le_of_ble_eq_true rfl) ?_
  intro p e s m args below meth c Q ls hx hb hml hown hts hend hl
  have hown : s.vm.findClass RJ6 = some m.cls := hown
  have hl : lv_has ls 1 [(0, .int x)] := hl
  refine lv_iload_n hx hb dJ6_bitCount_0f7a4_0 rfl (lv_at hl 0 rfl) ?_
  refine lv_iload_n hx hb dJ6_bitCount_0f7a4_1 rfl (lv_at hl 0 rfl) ?_
  refine lv_iconst (v := 1) hx hb dJ6_bitCount_0f7a4_2 (by decide) ?_
  refine lv_iushr hx hb dJ6_bitCount_0f7a4_3 rfl ?_
  refine lv_ldcw (v := 1431655765) hx hb hown (hts _ fJ6_bitCount_0f7a4_265) dJ6_bitCount_0f7a4_4 ?_
  refine lv_iand hx hb dJ6_bitCount_0f7a4_7 ?_
  refine lv_isub hx hb dJ6_bitCount_0f7a4_8 ?_
  refine lv_topi (fun x0_9 ex0_9 => ?_)
  refine lv_istore_n (lv' := [(0, .int x0_9)]) hx hb dJ6_bitCount_0f7a4_9 rfl hl (by decide) rfl (fun ls hl => ?_)
  refine lv_iload_n hx hb dJ6_bitCount_0f7a4_10 rfl (lv_at hl 0 rfl) ?_
  refine lv_ldcw (v := 858993459) hx hb hown (hts _ fJ6_bitCount_0f7a4_266) dJ6_bitCount_0f7a4_11 ?_
  refine lv_iand hx hb dJ6_bitCount_0f7a4_14 ?_
  refine lv_iload_n hx hb dJ6_bitCount_0f7a4_15 rfl (lv_at hl 0 rfl) ?_
  refine lv_iconst (v := 2) hx hb dJ6_bitCount_0f7a4_16 (by decide) ?_
  refine lv_iushr hx hb dJ6_bitCount_0f7a4_17 rfl ?_
  refine lv_ldcw (v := 858993459) hx hb hown (hts _ fJ6_bitCount_0f7a4_266) dJ6_bitCount_0f7a4_18 ?_
  refine lv_iand hx hb dJ6_bitCount_0f7a4_21 ?_
  refine lv_iadd hx hb dJ6_bitCount_0f7a4_22 ?_
  refine lv_topi (fun x0_23 ex0_23 => ?_)
  refine lv_istore_n (lv' := [(0, .int x0_23)]) hx hb dJ6_bitCount_0f7a4_23 rfl hl (by decide) rfl (fun ls hl => ?_)
  refine lv_iload_n hx hb dJ6_bitCount_0f7a4_24 rfl (lv_at hl 0 rfl) ?_
  refine lv_iload_n hx hb dJ6_bitCount_0f7a4_25 rfl (lv_at hl 0 rfl) ?_
  refine lv_iconst (v := 4) hx hb dJ6_bitCount_0f7a4_26 (by decide) ?_
  refine lv_iushr hx hb dJ6_bitCount_0f7a4_27 rfl ?_
  refine lv_iadd hx hb dJ6_bitCount_0f7a4_28 ?_
  refine lv_ldcw (v := 252645135) hx hb hown (hts _ fJ6_bitCount_0f7a4_267) dJ6_bitCount_0f7a4_29 ?_
  refine lv_iand hx hb dJ6_bitCount_0f7a4_32 ?_
  refine lv_topi (fun x0_33 ex0_33 => ?_)
  refine lv_istore_n (lv' := [(0, .int x0_33)]) hx hb dJ6_bitCount_0f7a4_33 rfl hl (by decide) rfl (fun ls hl => ?_)
  refine lv_iload_n hx hb dJ6_bitCount_0f7a4_34 rfl (lv_at hl 0 rfl) ?_
  refine lv_iload_n hx hb dJ6_bitCount_0f7a4_35 rfl (lv_at hl 0 rfl) ?_
  refine lv_bipush (v := 8) hx hb dJ6_bitCount_0f7a4_36 (by decide) ?_
  refine lv_iushr hx hb dJ6_bitCount_0f7a4_38 rfl ?_
  refine lv_iadd hx hb dJ6_bitCount_0f7a4_39 ?_
  refine lv_topi (fun x0_40 ex0_40 => ?_)
  refine lv_istore_n (lv' := [(0, .int x0_40)]) hx hb dJ6_bitCount_0f7a4_40 rfl hl (by decide) rfl (fun ls hl => ?_)
  refine lv_iload_n hx hb dJ6_bitCount_0f7a4_41 rfl (lv_at hl 0 rfl) ?_
  refine lv_iload_n hx hb dJ6_bitCount_0f7a4_42 rfl (lv_at hl 0 rfl) ?_
  refine lv_bipush (v := 16) hx hb dJ6_bitCount_0f7a4_43 (by decide) ?_
  refine lv_iushr hx hb dJ6_bitCount_0f7a4_45 rfl ?_
  refine lv_iadd hx hb dJ6_bitCount_0f7a4_46 ?_
  refine lv_topi (fun x0_47 ex0_47 => ?_)
  refine lv_istore_n (lv' := [(0, .int x0_47)]) hx hb dJ6_bitCount_0f7a4_47 rfl hl (by decide) rfl (fun ls hl => ?_)
  refine lv_iload_n hx hb dJ6_bitCount_0f7a4_48 rfl (lv_at hl 0 rfl) ?_
  refine lv_bipush (v := 63) hx hb dJ6_bitCount_0f7a4_49 (by decide) ?_
  refine lv_iand hx hb dJ6_bitCount_0f7a4_51 ?_
  refine tw_topr (x' := tw_bc x) (by subst ex0_47; subst ex0_40; subst ex0_33; subst ex0_23; subst ex0_9; rfl) ?_
  exact hend _ _ dJ6_bitCount_0f7a4_52
theorem tw_metSF {l : Launch} {y : MethodName} {ws ws' : List Cond} {rm : Room} {cc : ByteArray} {maxL : Nat} {ret : Option FieldType} {av : List Value} {E : Int32} (hy : plainFor y = true) (hw : ws = Cond.code y cc maxL ret :: ws') (hret : ret = some .int) (hlen : (lg_sl av).length ≤ maxL)
    (body : ∀ (p : Program) (e : Env) (s : State) (m : MethodId) (args : Array Value) (below : List Frame) (meth : Method) (c : Code) (Q : State → Prop) (ls : Array Slot), p.tables.exec = Jvm.exec → c.code = cc → c.maxLocals = maxL → s.vm.findClass y.cls = some m.cls → (∀ w ∈ ws, w.before args s = true) →
      (∀ (pc : Nat) (ls : Array Slot), decode cc pc = .ok (.ireturn, 1) → W p l e rm s m args below meth c s.heap [] 0 0 Q (F0 m pc ls [.int E])) → lv_has ls maxL (lv_args 0 av) → W p l e rm s m args below meth c s.heap [] 0 0 Q (F0 m 0 ls [])) :
    Met l y ws rm (va_Pc av (fun _ => True)) (vp_Si (fun r => r = E)) 0 0 (fun _ => False) := by
  refine va_MetF (cc := cc) (maxL := maxL) (ret := ret) hy hw ?_
  intro p e s m args below meth c s₁ B hml hv
  obtain ⟨rfl, -⟩ := hv
  rw [lg_entry_eq]
  subst hret
  exact body p e s m _ below meth c _ _ B.exec B.bytes hml (findClass_of_methodNamed B.named) (atoms_spec (ws := ws) B.pre) (fun pc ls hd => tw_ri B.exec B.bytes B.returns B.notSynchronized rfl hd) (lv_entry av hlen)
abbrev rmJ9_floorMod_7cf53 : Room := { frames := 0, cells := 0, slots := 0, locals := 0 }
theorem kdJ9_floorMod_7cf53 : yJ9_floorMod_7cf53.cls ≠ "java/lang/invoke/MethodHandle" ∧ yJ9_floorMod_7cf53.cls ≠ "java/lang/invoke/VarHandle" ∧ (parseMethodDescriptor yJ9_floorMod_7cf53.desc).map (fun d => d.parameters.length) = some 2 := by decide +kernel
set_option maxHeartbeats 4000000 in
set_option maxRecDepth 100000 in
theorem c_J9_floorMod_7cf53 (l : Launch) (x : Int32) : Met l yJ9_floorMod_7cf53 wsJ9_floorMod_7cf53 rmJ9_floorMod_7cf53 (va_Pc [.int x, .int 255] (fun _ => True)) (vp_Si (fun r => r = nI (tw_fm x))) 0 0 (fun _ => False) := by
  refine tw_metSF (by decide +kernel) rfl rfl (Nat.le_of_ble_eq_true rfl) ?_
  intro p e s m args below meth c Q ls hx hb hml hown hts hend hl
  have hown : s.vm.findClass RJ9 = some m.cls := hown
  have hl : lv_has ls 3 [(0, .int x), (1, .int 255)] := hl
  refine lv_iload_n hx hb dJ9_floorMod_7cf53_0 rfl (lv_at hl 0 rfl) ?_
  refine lv_iload_n hx hb dJ9_floorMod_7cf53_1 rfl (lv_at hl 1 rfl) ?_
  refine lv_irem hx hb dJ9_floorMod_7cf53_2 (by decide) ?_
  refine lv_topi (fun x2_3 ex2_3 => ?_)
  refine lv_istore_n (lv' := [(2, .int x2_3), (0, .int x), (1, .int 255)]) hx hb dJ9_floorMod_7cf53_3 rfl hl (by decide) rfl (fun ls hl => ?_)
  refine lv_iload_n hx hb dJ9_floorMod_7cf53_4 rfl (lv_at hl 1 rfl) ?_
  refine lv_iload_n hx hb dJ9_floorMod_7cf53_5 rfl (lv_at hl 2 rfl) ?_
  refine lv_ixor hx hb dJ9_floorMod_7cf53_6 ?_
  refine lv_if_ge (tgt := 18) hx hb dJ9_floorMod_7cf53_7 (by decide) (fun c_7 => ?_) (fun c_7 => ?_)
  · refine lv_iload_n hx hb dJ9_floorMod_7cf53_18 rfl (lv_at hl 0 rfl) ?_
    refine tw_topr (x' := nI (tw_fm x)) (by first | (rw [ex2_3]; exact tw_fmC c_7) | (rw [ex2_3] at c_11 ⊢; exact tw_fmA (by rw [c_11]; decide))) ?_
    exact hend _ _ dJ9_floorMod_7cf53_19
  · refine lv_iload_n hx hb dJ9_floorMod_7cf53_10 rfl (lv_at hl 0 rfl) ?_
    refine lv_if_eq (tgt := 18) hx hb dJ9_floorMod_7cf53_11 (by decide) (fun c_11 => ?_) (fun c_11 => ?_)
    · refine lv_iload_n hx hb dJ9_floorMod_7cf53_18 rfl (lv_at hl 0 rfl) ?_
      refine tw_topr (x' := nI (tw_fm x)) (by first | (rw [ex2_3]; exact tw_fmC c_7) | (rw [ex2_3] at c_11 ⊢; exact tw_fmA (by rw [c_11]; decide))) ?_
      exact hend _ _ dJ9_floorMod_7cf53_19
    · refine lv_iload_n hx hb dJ9_floorMod_7cf53_14 rfl (lv_at hl 0 rfl) ?_
      refine lv_iload_n hx hb dJ9_floorMod_7cf53_15 rfl (lv_at hl 2 rfl) ?_
      refine lv_iadd hx hb dJ9_floorMod_7cf53_16 ?_
      refine tw_topr (x' := nI (tw_fm x)) (by rw [ex2_3]; exact tw_fmD c_7 (by rw [← ex2_3]; exact c_11)) ?_
      exact hend _ _ dJ9_floorMod_7cf53_17
abbrev rmX0_lostCount : Room := { frames := 1, cells := 0, slots := 0, locals := 20 }
theorem inX0_lostCount : ∀ w ∈ wsX00, w ∈ wsX0_lostCount := fun _ h => List.mem_cons_of_mem _ (List.mem_append_right _ h)
theorem fX0_lostCount_17 : Cond.fieldLink RX0 17 "TwinParity" "lostUnits" "I" ∈ wsX0_lostCount := List.mem_of_getElem? (i := 1) rfl
theorem kdX0_lostCount : yX0_lostCount.cls = RX0 ∧ yX0_lostCount.cls ≠ "java/lang/invoke/MethodHandle" ∧ yX0_lostCount.cls ≠ "java/lang/invoke/VarHandle" ∧ (parseMethodDescriptor yX0_lostCount.desc).map (fun d => d.parameters.length) = some 0 := by decide +kernel
set_option maxHeartbeats 4000000 in
set_option maxRecDepth 100000 in
theorem c_X0_lostCount (l : Launch) (D : va_G) (cA : ClassId) (h0 a0 k : Nat) (lo : Int32) (F : Nat → BitVec 8)  : Met l yX0_lostCount wsX0_lostCount rmX0_lostCount (va_Pc [.ref h0] (tw_B D (tw_X cA h0 a0 k lo F) (tw_tX cA))) (vp_Si (fun r => r = tw_bc lo)) 0 0 (fun _ => False) := by
  refine tw_metR (by decide) rfl rfl (Nat.le_of_ble_eq_true rfl) ?_
  intro p e s m args below meth c Q ls hx hb hml hown hts hP hK hend hl
  have hown : s.vm.findClass RX0 = some m.cls := hown
  have hl : lv_has ls 1 [(0, .ref h0)] := hl
  refine lv_aload_n hx hb dX0_lostCount_0 rfl (lv_at hl 0 rfl) ?_
  refine va_get (D := D) (ci := 0) (v := .int lo) (C := RX0) (T := TX0) (N := 3) hx hb hts inX0_lostCount hown hK hP 0 rfl rfl 2 (by decide) (hts _ fX0_lostCount_17) (fun _ h9 => h9) rfl dX0_lostCount_1 ?_
  refine tw_s ⟨hx, hb, hml, hown, hts⟩ (c_J6_bitCount_0f7a4 l lo) (va_cwS 1 hts gX0_lostCount_J6_bitCount_0f7a4 rfl rfl rfl kdJ6_bitCount_0f7a4 ⟨Nat.le_of_ble_eq_true rfl, Nat.le_of_ble_eq_true rfl⟩) rfl hl.1 rfl (Nat.le_of_ble_eq_true rfl) dX0_lostCount_4 ⟨Nat.zero_le _, Nat.zero_le _⟩ ?_
  exact hend _ _ dX0_lostCount_7
abbrev rmX0_byteAt : Room := { frames := 0, cells := 0, slots := 0, locals := 0 }
theorem inX0_byteAt : ∀ w ∈ wsX00, w ∈ wsX0_byteAt := fun _ h => List.mem_cons_of_mem _ (List.mem_append_right _ h)
theorem fX0_byteAt_9 : Cond.fieldLink RX0 9 "TwinParity" "bytes" "[I" ∈ wsX0_byteAt := List.mem_of_getElem? (i := 1) rfl
theorem kdX0_byteAt : yX0_byteAt.cls = RX0 ∧ yX0_byteAt.cls ≠ "java/lang/invoke/MethodHandle" ∧ yX0_byteAt.cls ≠ "java/lang/invoke/VarHandle" ∧ (parseMethodDescriptor yX0_byteAt.desc).map (fun d => d.parameters.length) = some 2 := by decide +kernel
set_option maxHeartbeats 4000000 in
set_option maxRecDepth 100000 in
theorem c_X0_byteAt (l : Launch) (D : va_G) (cA : ClassId) (h0 a0 k : Nat) (lo : Int32) (F : Nat → BitVec 8) (u i : Nat) (h : 64 * u + i < 1024) : Met l yX0_byteAt wsX0_byteAt rmX0_byteAt (va_Pc [.ref h0, .int (nI u), .int (nI i)] (tw_B D (tw_X cA h0 a0 k lo F) (tw_tX cA))) (vp_Si (fun r => r = tq_eb (F (64 * u + i)))) 0 0 (fun _ => False) := by
  refine tw_metR (by decide) rfl rfl (Nat.le_of_ble_eq_true rfl) ?_
  intro p e s m args below meth c Q ls hx hb hml hown hts hP hK hend hl
  have hown : s.vm.findClass RX0 = some m.cls := hown
  have hl : lv_has ls 3 [(0, .ref h0), (1, .int (nI u)), (2, .int (nI i))] := hl
  refine lv_aload_n hx hb dX0_byteAt_0 rfl (lv_at hl 0 rfl) ?_
  refine va_get (D := D) (ci := 0) (v := .ref a0) (C := RX0) (T := TX0) (N := 3) hx hb hts inX0_byteAt hown hK hP 0 rfl rfl 0 (by decide) (hts _ fX0_byteAt_9) (fun _ h9 => h9) rfl dX0_byteAt_1 ?_
  refine lv_iload_n hx hb dX0_byteAt_4 rfl (lv_at hl 1 rfl) ?_
  refine lv_bipush (v := 64) hx hb dX0_byteAt_5 (by decide) ?_
  refine lv_imul hx hb dX0_byteAt_7 ?_
  refine lv_iload_n hx hb dX0_byteAt_8 rfl (lv_at hl 2 rfl) ?_
  refine lv_iadd hx hb dX0_byteAt_9 ?_
  refine tw_ld hx hb hK hP 1 0 rfl rfl (n := 64 * u + i) (tw_ix u i) (h) (by decide) dX0_byteAt_10 ?_
  exact hend _ _ dX0_byteAt_11
def tw_lf (k : Nat) (lo : Int32) (f : Nat) : Int32 := if tw_low (tw_lb lo) f (k + 2 - f) = k + 2 then -1 else nI (tw_low (tw_lb lo) f (k + 2 - f))
abbrev rmX0_lostFrom : Room := { frames := 1, cells := 0, slots := 0, locals := 21 }
theorem inX0_lostFrom : ∀ w ∈ wsX00, w ∈ wsX0_lostFrom := fun _ h => List.mem_cons_of_mem _ (List.mem_append_right _ h)
theorem fX0_lostFrom_13 : Cond.fieldLink RX0 13 "TwinParity" "dataUnits" "I" ∈ wsX0_lostFrom := List.mem_of_getElem? (i := 6) rfl
theorem fX0_lostFrom_17 : Cond.fieldLink RX0 17 "TwinParity" "lostUnits" "I" ∈ wsX0_lostFrom := List.mem_of_getElem? (i := 11) rfl
theorem kdX0_lostFrom : yX0_lostFrom.cls = RX0 ∧ yX0_lostFrom.cls ≠ "java/lang/invoke/MethodHandle" ∧ yX0_lostFrom.cls ≠ "java/lang/invoke/VarHandle" ∧ (parseMethodDescriptor yX0_lostFrom.desc).map (fun d => d.parameters.length) = some 1 := by decide +kernel
set_option maxHeartbeats 4000000 in
set_option maxRecDepth 100000 in
theorem c_X0_lostFrom (l : Launch) (D : va_G) (cA : ClassId) (h0 a0 k : Nat) (lo : Int32) (F : Nat → BitVec 8) (f : Nat) (hf : f ≤ k + 2) (hk : k ≤ 14) : Met l yX0_lostFrom wsX0_lostFrom rmX0_lostFrom (va_Pc [.ref h0, .int (nI f)] (tw_B D (tw_X cA h0 a0 k lo F) (tw_tX cA))) (vp_Si (fun r => r = tw_lf k lo f)) 0 0 (fun _ => False) := by
  refine tw_metR (by decide) rfl rfl (Nat.le_of_ble_eq_true rfl) ?_
  intro p e s m args below meth c Q ls hx hb hml hown hts hP hK hend hl
  have hown : s.vm.findClass RX0 = some m.cls := hown
  have hl : lv_has ls 3 [(0, .ref h0), (1, .int (nI f))] := hl
  have loop : ∀ (n j : Nat) (ls : Array Slot), j + n = k + 2 → tw_low (tw_lb lo) f (k + 2 - f) = tw_low (tw_lb lo) j n → lv_has ls 3 [(0, .ref h0), (1, .int (nI f)), (2, .int (nI j))] → W p l e rmX0_lostFrom s m args below meth c s.heap [] 0 0 Q (F0 m 2 ls []) := by
    intro n
    induction n with
    | zero =>
      intro j ls hj hlow hl
      refine lv_iload_n hx hb dX0_lostFrom_2 rfl (lv_at hl 2 rfl) ?_
      refine lv_aload_n hx hb dX0_lostFrom_3 rfl (lv_at hl 0 rfl) ?_
      refine tw_rX ⟨hx, hb, hml, hown, hts⟩ hK hP (c_X0_units l D cA h0 a0 k lo F ) (cwV 0 hts gX0_lostFrom_X0_units rfl rfl rfl kdX0_units ⟨Nat.le_of_ble_eq_true rfl, Nat.le_of_ble_eq_true rfl⟩) rfl hl.1 rfl (Nat.le_of_ble_eq_true rfl) dX0_lostFrom_4 ⟨Nat.zero_le _, Nat.zero_le _⟩ ?_
      refine lv_icmp_ge (tgt := 26) hx hb dX0_lostFrom_7 (by decide) (fun c_7 => ?_) (fun c_7 => ?_)
      · refine lv_iconst (v := (-1)) hx hb dX0_lostFrom_26 (by decide) ?_
        refine tw_topr (x' := tw_lf k lo f) (by rw [tw_lf, hlow, show j = k + 2 by omega]; simp [tw_low]) ?_
        exact hend _ _ dX0_lostFrom_27
      · exact absurd (nI_le (by omega) (by omega)) c_7
    | succ n ih =>
      intro j ls hj hlow hl
      refine lv_iload_n hx hb dX0_lostFrom_2 rfl (lv_at hl 2 rfl) ?_
      refine lv_aload_n hx hb dX0_lostFrom_3 rfl (lv_at hl 0 rfl) ?_
      refine tw_rX ⟨hx, hb, hml, hown, hts⟩ hK hP (c_X0_units l D cA h0 a0 k lo F ) (cwV 0 hts gX0_lostFrom_X0_units rfl rfl rfl kdX0_units ⟨Nat.le_of_ble_eq_true rfl, Nat.le_of_ble_eq_true rfl⟩) rfl hl.1 rfl (Nat.le_of_ble_eq_true rfl) dX0_lostFrom_4 ⟨Nat.zero_le _, Nat.zero_le _⟩ ?_
      refine lv_icmp_ge (tgt := 26) hx hb dX0_lostFrom_7 (by decide) (fun c_7 => ?_) (fun c_7 => ?_)
      · exact absurd c_7 (nI_ge (by omega) (by omega))
      · refine lv_aload_n hx hb dX0_lostFrom_10 rfl (lv_at hl 0 rfl) ?_
        refine lv_iload_n hx hb dX0_lostFrom_11 rfl (lv_at hl 2 rfl) ?_
        refine tw_rX ⟨hx, hb, hml, hown, hts⟩ hK hP (c_X0_isLost l D cA h0 a0 k lo F j) (cwV 1 hts gX0_lostFrom_X0_isLost rfl rfl rfl kdX0_isLost ⟨Nat.le_of_ble_eq_true rfl, Nat.le_of_ble_eq_true rfl⟩) rfl hl.1 rfl (Nat.le_of_ble_eq_true rfl) dX0_lostFrom_12 ⟨Nat.zero_le _, Nat.zero_le _⟩ ?_
        refine lv_if_eq (tgt := 20) hx hb dX0_lostFrom_15 (by decide) (fun c_15 => ?_) (fun c_15 => ?_)
        · refine lv_iinc (v := nI (j + 1)) (lv' := [(2, .int (nI (j + 1))), (0, .ref h0), (1, .int (nI f))]) hx hb dX0_lostFrom_20 hl (k := 2) rfl (nI_1 j) (by decide) rfl (fun ls hl => ?_)
          refine lv_goto (tgt := 2) hx hb dX0_lostFrom_23 (by decide) ?_
          exact ih (j + 1) ls (by omega) (by rw [hlow, tw_low, if_neg (by rw [tw_bI0.mp c_15]; decide)]) (lv_sub hl [1, 2, 0] rfl)
        · refine lv_iload_n hx hb dX0_lostFrom_18 rfl (lv_at hl 2 rfl) ?_
          refine tw_topr (x' := tw_lf k lo f) (by rw [tw_lf, hlow, tw_low, if_pos (tw_bI1.mp c_15), if_neg (by omega)]) ?_
          exact hend _ _ dX0_lostFrom_19
  refine lv_iload_n hx hb dX0_lostFrom_0 rfl (lv_at hl 1 rfl) ?_
  refine lv_istore_n (lv' := [(2, .int (nI f)), (0, .ref h0), (1, .int (nI f))]) hx hb dX0_lostFrom_1 rfl hl (by decide) rfl (fun ls hl => ?_)
  exact loop (k + 2 - f) f ls (by omega) rfl (lv_sub hl [1, 2, 0] rfl)
abbrev rmX0_differenceP : Room := { frames := 1, cells := 0, slots := 0, locals := 22 }
theorem inX0_differenceP : ∀ w ∈ wsX00, w ∈ wsX0_differenceP := fun _ h => List.mem_cons_of_mem _ (List.mem_append_right _ h)
theorem fX0_differenceP_13 : Cond.fieldLink RX0 13 "TwinParity" "dataUnits" "I" ∈ wsX0_differenceP := List.mem_of_getElem? (i := 1) rfl
theorem fX0_differenceP_9 : Cond.fieldLink RX0 9 "TwinParity" "bytes" "[I" ∈ wsX0_differenceP := List.mem_of_getElem? (i := 11) rfl
theorem kdX0_differenceP : yX0_differenceP.cls = RX0 ∧ yX0_differenceP.cls ≠ "java/lang/invoke/MethodHandle" ∧ yX0_differenceP.cls ≠ "java/lang/invoke/VarHandle" ∧ (parseMethodDescriptor yX0_differenceP.desc).map (fun d => d.parameters.length) = some 1 := by decide +kernel
set_option maxHeartbeats 4000000 in
set_option maxRecDepth 100000 in
theorem c_X0_differenceP (l : Launch) (D : va_G) (cA : ClassId) (h0 a0 k : Nat) (lo : Int32) (F : Nat → BitVec 8) (i : Nat) (hi : i < 64) (hk : k ≤ 14) : Met l yX0_differenceP wsX0_differenceP rmX0_differenceP (va_Pc [.ref h0, .int (nI i)] (tw_B D (tw_X cA h0 a0 k lo F) (tw_tX cA))) (vp_Si (fun r => r = tq_eb (tq_dP k (tq_col F i)))) 0 0 (fun _ => False) := by
  refine tw_metR (by decide) rfl rfl (Nat.le_of_ble_eq_true rfl) ?_
  intro p e s m args below meth c Q ls hx hb hml hown hts hP hK hend hl
  have hown : s.vm.findClass RX0 = some m.cls := hown
  have hl : lv_has ls 4 [(0, .ref h0), (1, .int (nI i))] := hl
  have loop : ∀ (n j : Nat) (ls : Array Slot), j + n = k → lv_has ls 4 [(0, .ref h0), (1, .int (nI i)), (2, .int (tq_eb (tq_col F i k ^^^ tq_xs (tq_col F i) j))), (3, .int (nI j))] → W p l e rmX0_differenceP s m args below meth c s.heap [] 0 0 Q (F0 m 12 ls []) := by
    intro n
    induction n with
    | zero =>
      intro j ls hj hl
      refine lv_iload_n hx hb dX0_differenceP_12 rfl (lv_at hl 3 rfl) ?_
      refine lv_aload_n hx hb dX0_differenceP_13 rfl (lv_at hl 0 rfl) ?_
      refine va_get (D := D) (ci := 0) (v := .int (nI k)) (C := RX0) (T := TX0) (N := 3) hx hb hts inX0_differenceP hown hK hP 0 rfl rfl 1 (by decide) (hts _ fX0_differenceP_13) (fun _ h9 => h9) rfl dX0_differenceP_14 ?_
      refine lv_icmp_ge (tgt := 35) hx hb dX0_differenceP_17 (by decide) (fun c_17 => ?_) (fun c_17 => ?_)
      · refine lv_iload_n hx hb dX0_differenceP_35 rfl (lv_at hl 2 rfl) ?_
        refine tw_topr (x' := tq_eb (tq_dP k (tq_col F i))) (by rw [show j = k by omega]; rfl) ?_
        exact hend _ _ dX0_differenceP_36
      · exact absurd (nI_le (by omega) (by omega)) c_17
    | succ n ih =>
      intro j ls hj hl
      refine lv_iload_n hx hb dX0_differenceP_12 rfl (lv_at hl 3 rfl) ?_
      refine lv_aload_n hx hb dX0_differenceP_13 rfl (lv_at hl 0 rfl) ?_
      refine va_get (D := D) (ci := 0) (v := .int (nI k)) (C := RX0) (T := TX0) (N := 3) hx hb hts inX0_differenceP hown hK hP 0 rfl rfl 1 (by decide) (hts _ fX0_differenceP_13) (fun _ h9 => h9) rfl dX0_differenceP_14 ?_
      refine lv_icmp_ge (tgt := 35) hx hb dX0_differenceP_17 (by decide) (fun c_17 => ?_) (fun c_17 => ?_)
      · exact absurd c_17 (nI_ge (by omega) (by omega))
      · refine lv_iload_n hx hb dX0_differenceP_20 rfl (lv_at hl 2 rfl) ?_
        refine lv_aload_n hx hb dX0_differenceP_21 rfl (lv_at hl 0 rfl) ?_
        refine lv_iload_n hx hb dX0_differenceP_22 rfl (lv_at hl 3 rfl) ?_
        refine lv_iload_n hx hb dX0_differenceP_23 rfl (lv_at hl 1 rfl) ?_
        refine tw_rX ⟨hx, hb, hml, hown, hts⟩ hK hP (c_X0_byteAt l D cA h0 a0 k lo F j i (by omega)) (cwV 2 hts gX0_differenceP_X0_byteAt rfl rfl rfl kdX0_byteAt ⟨Nat.le_of_ble_eq_true rfl, Nat.le_of_ble_eq_true rfl⟩) rfl hl.1 rfl (Nat.le_of_ble_eq_true rfl) dX0_differenceP_24 ⟨Nat.zero_le _, Nat.zero_le _⟩ ?_
        refine lv_ixor hx hb dX0_differenceP_27 ?_
        refine tw_topr (x' := tq_eb (tq_col F i k ^^^ tq_xs (tq_col F i) (j + 1))) (by rw [tq_eb_xor, BitVec.xor_assoc]; rfl) ?_
        refine lv_istore_n (lv' := [(2, .int (tq_eb (tq_col F i k ^^^ tq_xs (tq_col F i) (j + 1)))), (0, .ref h0), (1, .int (nI i)), (3, .int (nI j))]) hx hb dX0_differenceP_28 rfl hl (by decide) rfl (fun ls hl => ?_)
        refine lv_iinc (v := nI (j + 1)) (lv' := [(3, .int (nI (j + 1))), (2, .int (tq_eb (tq_col F i k ^^^ tq_xs (tq_col F i) (j + 1)))), (0, .ref h0), (1, .int (nI i))]) hx hb dX0_differenceP_29 hl (k := 3) rfl (nI_1 j) (by decide) rfl (fun ls hl => ?_)
        refine lv_goto (tgt := 12) hx hb dX0_differenceP_32 (by decide) ?_
        exact ih (j + 1) ls (by omega) (lv_sub hl [2, 3, 1, 0] rfl)
  refine lv_aload_n hx hb dX0_differenceP_0 rfl (lv_at hl 0 rfl) ?_
  refine lv_aload_n hx hb dX0_differenceP_1 rfl (lv_at hl 0 rfl) ?_
  refine tw_rX ⟨hx, hb, hml, hown, hts⟩ hK hP (c_X0_unitP l D cA h0 a0 k lo F ) (cwV 0 hts gX0_differenceP_X0_unitP rfl rfl rfl kdX0_unitP ⟨Nat.le_of_ble_eq_true rfl, Nat.le_of_ble_eq_true rfl⟩) rfl hl.1 rfl (Nat.le_of_ble_eq_true rfl) dX0_differenceP_2 ⟨Nat.zero_le _, Nat.zero_le _⟩ ?_
  refine lv_iload_n hx hb dX0_differenceP_5 rfl (lv_at hl 1 rfl) ?_
  refine tw_rX ⟨hx, hb, hml, hown, hts⟩ hK hP (c_X0_byteAt l D cA h0 a0 k lo F k i (by omega)) (cwV 2 hts gX0_differenceP_X0_byteAt rfl rfl rfl kdX0_byteAt ⟨Nat.le_of_ble_eq_true rfl, Nat.le_of_ble_eq_true rfl⟩) rfl hl.1 rfl (Nat.le_of_ble_eq_true rfl) dX0_differenceP_6 ⟨Nat.zero_le _, Nat.zero_le _⟩ ?_
  refine tw_topr (x' := tq_eb (tq_col F i k ^^^ tq_xs (tq_col F i) 0)) (by simp [tq_col, tq_xs]) ?_
  refine lv_istore_n (lv' := [(2, .int (tq_eb (tq_col F i k ^^^ tq_xs (tq_col F i) 0))), (0, .ref h0), (1, .int (nI i))]) hx hb dX0_differenceP_9 rfl hl (by decide) rfl (fun ls hl => ?_)
  refine lv_iconst (v := 0) hx hb dX0_differenceP_10 (by decide) ?_
  refine lv_istore_n (lv' := [(3, .int 0), (2, .int (tq_eb (tq_col F i k ^^^ tq_xs (tq_col F i) 0))), (0, .ref h0), (1, .int (nI i))]) hx hb dX0_differenceP_11 rfl hl (by decide) rfl (fun ls hl => ?_)
  exact loop k 0 ls (by omega) (lv_sub hl [2, 3, 1, 0] rfl)
abbrev rmX0_differenceQ : Room := { frames := 1, cells := 0, slots := 0, locals := 22 }
theorem inX0_differenceQ : ∀ w ∈ wsX00, w ∈ wsX0_differenceQ := fun _ h => List.mem_cons_of_mem _ (List.mem_append_right _ h)
theorem fX0_differenceQ_13 : Cond.fieldLink RX0 13 "TwinParity" "dataUnits" "I" ∈ wsX0_differenceQ := List.mem_of_getElem? (i := 1) rfl
theorem fX0_differenceQ_9 : Cond.fieldLink RX0 9 "TwinParity" "bytes" "[I" ∈ wsX0_differenceQ := List.mem_of_getElem? (i := 10) rfl
theorem kdX0_differenceQ : yX0_differenceQ.cls = RX0 ∧ yX0_differenceQ.cls ≠ "java/lang/invoke/MethodHandle" ∧ yX0_differenceQ.cls ≠ "java/lang/invoke/VarHandle" ∧ (parseMethodDescriptor yX0_differenceQ.desc).map (fun d => d.parameters.length) = some 1 := by decide +kernel
set_option maxHeartbeats 4000000 in
set_option maxRecDepth 100000 in
theorem c_X0_differenceQ (l : Launch) (D : va_G) (cA : ClassId) (h0 a0 k : Nat) (lo : Int32) (F : Nat → BitVec 8) (i : Nat) (hi : i < 64) (hk : k ≤ 14) : Met l yX0_differenceQ wsX0_differenceQ rmX0_differenceQ (va_Pc [.ref h0, .int (nI i)] (tw_B D (tw_X cA h0 a0 k lo F) (tw_tX cA))) (vp_Si (fun r => r = tq_eb (tq_dQ k (tq_col F i)))) 0 0 (fun _ => False) := by
  refine tw_metR (by decide) rfl rfl (Nat.le_of_ble_eq_true rfl) ?_
  intro p e s m args below meth c Q ls hx hb hml hown hts hP hK hend hl
  have hown : s.vm.findClass RX0 = some m.cls := hown
  have hl : lv_has ls 4 [(0, .ref h0), (1, .int (nI i))] := hl
  have loop : ∀ (n : Nat) (ls : Array Slot), n ≤ k → lv_has ls 4 [(0, .ref h0), (1, .int (nI i)), (2, .int (tq_eb (tq_hs (tq_col F i) n (k - n)))), (3, .int (nI n - 1))] → W p l e rmX0_differenceQ s m args below meth c s.heap [] 0 0 Q (F0 m 9 ls []) := by
    intro n
    induction n with
    | zero =>
      intro ls hn hl
      have hl : lv_has ls 4 [(0, .ref h0), (1, .int (nI i)), (2, .int (tq_eb (tq_hs (tq_col F i) 0 (k - 0)))), (3, .int ((-1)))] := hl
      refine lv_iload_n hx hb dX0_differenceQ_9 rfl (lv_at hl 3 rfl) ?_
      refine lv_if_lt (tgt := 31) hx hb dX0_differenceQ_10 (by decide) (fun c_10 => ?_) (fun c_10 => ?_)
      · refine lv_iload_n hx hb dX0_differenceQ_31 rfl (lv_at hl 2 rfl) ?_
        refine lv_aload_n hx hb dX0_differenceQ_32 rfl (lv_at hl 0 rfl) ?_
        refine lv_aload_n hx hb dX0_differenceQ_33 rfl (lv_at hl 0 rfl) ?_
        refine tw_rX ⟨hx, hb, hml, hown, hts⟩ hK hP (c_X0_unitQ l D cA h0 a0 k lo F ) (cwV 0 hts gX0_differenceQ_X0_unitQ rfl rfl rfl kdX0_unitQ ⟨Nat.le_of_ble_eq_true rfl, Nat.le_of_ble_eq_true rfl⟩) rfl hl.1 rfl (Nat.le_of_ble_eq_true rfl) dX0_differenceQ_34 ⟨Nat.zero_le _, Nat.zero_le _⟩ ?_
        refine lv_iload_n hx hb dX0_differenceQ_37 rfl (lv_at hl 1 rfl) ?_
        refine tw_rX ⟨hx, hb, hml, hown, hts⟩ hK hP (c_X0_byteAt l D cA h0 a0 k lo F (k + 1) i (by omega)) (cwV 2 hts gX0_differenceQ_X0_byteAt rfl rfl rfl kdX0_byteAt ⟨Nat.le_of_ble_eq_true rfl, Nat.le_of_ble_eq_true rfl⟩) rfl hl.1 rfl (Nat.le_of_ble_eq_true rfl) dX0_differenceQ_38 ⟨Nat.zero_le _, Nat.zero_le _⟩ ?_
        refine lv_ixor hx hb dX0_differenceQ_41 ?_
        refine tw_topr (x' := tq_eb (tq_dQ k (tq_col F i))) (by rw [tq_eb_xor]; rfl) ?_
        exact hend _ _ dX0_differenceQ_42
      · exact absurd (by decide) c_10
    | succ n ih =>
      intro ls hn hl
      rw [nI_pred] at hl
      refine lv_iload_n hx hb dX0_differenceQ_9 rfl (lv_at hl 3 rfl) ?_
      refine lv_if_lt (tgt := 31) hx hb dX0_differenceQ_10 (by decide) (fun c_10 => ?_) (fun c_10 => ?_)
      · exact absurd c_10 (nI_pos (by omega))
      · refine lv_iload_n hx hb dX0_differenceQ_13 rfl (lv_at hl 2 rfl) ?_
        refine tw_s ⟨hx, hb, hml, hown, hts⟩ (c_X0_doubled l (tq_hs (tq_col F i) (n + 1) (k - (n + 1)))) (va_cwS 1 hts gX0_differenceQ_X0_doubled rfl rfl rfl kdX0_doubled ⟨Nat.le_of_ble_eq_true rfl, Nat.le_of_ble_eq_true rfl⟩) rfl hl.1 rfl (Nat.le_of_ble_eq_true rfl) dX0_differenceQ_14 ⟨Nat.zero_le _, Nat.zero_le _⟩ ?_
        refine lv_aload_n hx hb dX0_differenceQ_17 rfl (lv_at hl 0 rfl) ?_
        refine lv_iload_n hx hb dX0_differenceQ_18 rfl (lv_at hl 3 rfl) ?_
        refine lv_iload_n hx hb dX0_differenceQ_19 rfl (lv_at hl 1 rfl) ?_
        refine tw_rX ⟨hx, hb, hml, hown, hts⟩ hK hP (c_X0_byteAt l D cA h0 a0 k lo F n i (by omega)) (cwV 2 hts gX0_differenceQ_X0_byteAt rfl rfl rfl kdX0_byteAt ⟨Nat.le_of_ble_eq_true rfl, Nat.le_of_ble_eq_true rfl⟩) rfl hl.1 rfl (Nat.le_of_ble_eq_true rfl) dX0_differenceQ_20 ⟨Nat.zero_le _, Nat.zero_le _⟩ ?_
        refine lv_ixor hx hb dX0_differenceQ_23 ?_
        refine tw_topr (x' := tq_eb (tq_hs (tq_col F i) n (k - n))) (by rw [tq_eb_xor, show k - n = (k - (n + 1)) + 1 by omega]; rfl) ?_
        refine lv_istore_n (lv' := [(2, .int (tq_eb (tq_hs (tq_col F i) n (k - n)))), (0, .ref h0), (1, .int (nI i)), (3, .int (nI n))]) hx hb dX0_differenceQ_24 rfl hl (by decide) rfl (fun ls hl => ?_)
        refine lv_iinc (v := nI n - 1) (lv' := [(3, .int (nI n - 1)), (2, .int (tq_eb (tq_hs (tq_col F i) n (k - n)))), (0, .ref h0), (1, .int (nI i))]) hx hb dX0_differenceQ_25 hl (k := 3) rfl (tw_dec n) (by decide) rfl (fun ls hl => ?_)
        refine lv_goto (tgt := 9) hx hb dX0_differenceQ_28 (by decide) ?_
        exact ih ls (by omega) (lv_sub hl [2, 3, 1, 0] rfl)
  refine lv_iconst (v := 0) hx hb dX0_differenceQ_0 (by decide) ?_
  refine tw_topr (x' := tq_eb (tq_hs (tq_col F i) k (k - k))) (by rw [Nat.sub_self]; rfl) ?_
  refine lv_istore_n (lv' := [(2, .int (tq_eb (tq_hs (tq_col F i) k (k - k)))), (0, .ref h0), (1, .int (nI i))]) hx hb dX0_differenceQ_1 rfl hl (by decide) rfl (fun ls hl => ?_)
  refine lv_aload_n hx hb dX0_differenceQ_2 rfl (lv_at hl 1 rfl) ?_
  refine va_get (D := D) (ci := 0) (v := .int (nI k)) (C := RX0) (T := TX0) (N := 3) hx hb hts inX0_differenceQ hown hK hP 0 rfl rfl 1 (by decide) (hts _ fX0_differenceQ_13) (fun _ h9 => h9) rfl dX0_differenceQ_3 ?_
  refine lv_iconst (v := 1) hx hb dX0_differenceQ_6 (by decide) ?_
  refine lv_isub hx hb dX0_differenceQ_7 ?_
  refine lv_istore_n (lv' := [(3, .int ((nI k) - 1)), (2, .int (tq_eb (tq_hs (tq_col F i) k (k - k)))), (0, .ref h0), (1, .int (nI i))]) hx hb dX0_differenceQ_8 rfl hl (by decide) rfl (fun ls hl => ?_)
  exact loop k ls (Nat.le_refl k) (lv_sub hl [2, 3, 1, 0] rfl)
def tw_of (k : Nat) (F : Nat → BitVec 8) (i : Nat) : Int32 := tq_off k (tq_col F i)
abbrev rmX0_offAt : Room := { frames := 2, cells := 0, slots := 0, locals := 45 }
theorem inX0_offAt : ∀ w ∈ wsX00, w ∈ wsX0_offAt := fun _ h => List.mem_cons_of_mem _ (List.mem_append_right _ h)
theorem fX0_offAt_13 : Cond.fieldLink RX0 13 "TwinParity" "dataUnits" "I" ∈ wsX0_offAt := List.mem_of_getElem? (i := 1) rfl
theorem fX0_offAt_9 : Cond.fieldLink RX0 9 "TwinParity" "bytes" "[I" ∈ wsX0_offAt := List.mem_of_getElem? (i := 15) rfl
theorem kdX0_offAt : yX0_offAt.cls = RX0 ∧ yX0_offAt.cls ≠ "java/lang/invoke/MethodHandle" ∧ yX0_offAt.cls ≠ "java/lang/invoke/VarHandle" ∧ (parseMethodDescriptor yX0_offAt.desc).map (fun d => d.parameters.length) = some 1 := by decide +kernel
set_option maxHeartbeats 4000000 in
set_option maxRecDepth 100000 in
theorem c_X0_offAt (l : Launch) (D : va_G) (cA : ClassId) (h0 a0 k : Nat) (lo : Int32) (F : Nat → BitVec 8) (i : Nat) (hi : i < 64) (hk : k ≤ 14) : Met l yX0_offAt wsX0_offAt rmX0_offAt (va_Pc [.ref h0, .int (nI i)] (tw_B D (tw_X cA h0 a0 k lo F) (tw_tX cA))) (vp_Si (fun r => r = tw_of k F i)) 0 0 (fun _ => False) := by
  refine tw_metR (by decide) rfl rfl (Nat.le_of_ble_eq_true rfl) ?_
  intro p e s m args below meth c Q ls hx hb hml hown hts hP hK hend hl
  have hown : s.vm.findClass RX0 = some m.cls := hown
  have hl : lv_has ls 6 [(0, .ref h0), (1, .int (nI i))] := hl
  have loop : ∀ (n j : Nat) (ls : Array Slot), j + n = k → tw_of k F i = tq_fu (tq_dP k (tq_col F i)) (tq_dQ k (tq_col F i)) j n → lv_has ls 6 [(0, .ref h0), (1, .int (nI i)), (2, .int (tq_eb (tq_dP k (tq_col F i)))), (3, .int (tq_eb (tq_dQ k (tq_col F i)))), (4, .int (tq_eb (tq_p j (tq_dP k (tq_col F i))))), (5, .int (nI j))] → W p l e rmX0_offAt s m args below meth c s.heap [] 0 0 Q (F0 m 45 ls []) := by
    intro n
    induction n with
    | zero =>
      intro j ls hj hfu hl
      refine lv_iload hx hb dX0_offAt_45 (lv_at hl 5 rfl) ?_
      refine lv_aload_n hx hb dX0_offAt_47 rfl (lv_at hl 0 rfl) ?_
      refine va_get (D := D) (ci := 0) (v := .int (nI k)) (C := RX0) (T := TX0) (N := 3) hx hb hts inX0_offAt hown hK hP 0 rfl rfl 1 (by decide) (hts _ fX0_offAt_13) (fun _ h9 => h9) rfl dX0_offAt_48 ?_
      refine lv_icmp_ge (tgt := 76) hx hb dX0_offAt_51 (by decide) (fun c_51 => ?_) (fun c_51 => ?_)
      · refine lv_bipush (v := (-3)) hx hb dX0_offAt_76 (by decide) ?_
        refine tw_topr (x' := tw_of k F i) (by rw [hfu]; rfl) ?_
        exact hend _ _ dX0_offAt_78
      · exact absurd (nI_le (by omega) (by omega)) c_51
    | succ n ih =>
      intro j ls hj hfu hl
      refine lv_iload hx hb dX0_offAt_45 (lv_at hl 5 rfl) ?_
      refine lv_aload_n hx hb dX0_offAt_47 rfl (lv_at hl 0 rfl) ?_
      refine va_get (D := D) (ci := 0) (v := .int (nI k)) (C := RX0) (T := TX0) (N := 3) hx hb hts inX0_offAt hown hK hP 0 rfl rfl 1 (by decide) (hts _ fX0_offAt_13) (fun _ h9 => h9) rfl dX0_offAt_48 ?_
      refine lv_icmp_ge (tgt := 76) hx hb dX0_offAt_51 (by decide) (fun c_51 => ?_) (fun c_51 => ?_)
      · exact absurd c_51 (nI_ge (by omega) (by omega))
      · refine lv_iload hx hb dX0_offAt_54 (lv_at hl 4 rfl) ?_
        refine lv_iload_n hx hb dX0_offAt_56 rfl (lv_at hl 3 rfl) ?_
        refine lv_icmp_ne (tgt := 63) hx hb dX0_offAt_57 (by decide) (fun c_57 => ?_) (fun c_57 => ?_)
        · refine lv_iload hx hb dX0_offAt_63 (lv_at hl 4 rfl) ?_
          refine tw_s ⟨hx, hb, hml, hown, hts⟩ (c_X0_doubled l (tq_p j (tq_dP k (tq_col F i)))) (va_cwS 1 hts gX0_offAt_X0_doubled rfl rfl rfl kdX0_doubled ⟨Nat.le_of_ble_eq_true rfl, Nat.le_of_ble_eq_true rfl⟩) rfl hl.1 rfl (Nat.le_of_ble_eq_true rfl) dX0_offAt_65 ⟨Nat.zero_le _, Nat.zero_le _⟩ ?_
          refine lv_istore (lv' := [(4, .int (tq_eb (tq_d (tq_p j (tq_dP k (tq_col F i)))))), (0, .ref h0), (1, .int (nI i)), (2, .int (tq_eb (tq_dP k (tq_col F i)))), (3, .int (tq_eb (tq_dQ k (tq_col F i)))), (5, .int (nI j))]) hx hb dX0_offAt_68 hl (by decide) rfl (fun ls hl => ?_)
          refine lv_iinc (v := nI (j + 1)) (lv' := [(5, .int (nI (j + 1))), (4, .int (tq_eb (tq_d (tq_p j (tq_dP k (tq_col F i)))))), (0, .ref h0), (1, .int (nI i)), (2, .int (tq_eb (tq_dP k (tq_col F i)))), (3, .int (tq_eb (tq_dQ k (tq_col F i))))]) hx hb dX0_offAt_70 hl (k := 5) rfl (nI_1 j) (by decide) rfl (fun ls hl => ?_)
          refine lv_goto (tgt := 45) hx hb dX0_offAt_73 (by decide) ?_
          exact ih (j + 1) ls (by omega) (by rw [hfu, tq_fu, if_neg (fun q9 => c_57 (by rw [q9]))]) (lv_sub hl [2, 3, 4, 5, 1, 0] rfl)
        · refine lv_iload hx hb dX0_offAt_60 (lv_at hl 5 rfl) ?_
          refine tw_topr (x' := tw_of k F i) (by rw [hfu, tq_fu, if_pos (tq_eb_inj c_57)]) ?_
          exact hend _ _ dX0_offAt_62
  refine lv_aload_n hx hb dX0_offAt_0 rfl (lv_at hl 0 rfl) ?_
  refine lv_iload_n hx hb dX0_offAt_1 rfl (lv_at hl 1 rfl) ?_
  refine tw_rX ⟨hx, hb, hml, hown, hts⟩ hK hP (c_X0_differenceP l D cA h0 a0 k lo F i hi hk) (cwV 1 hts gX0_offAt_X0_differenceP rfl rfl rfl kdX0_differenceP ⟨Nat.le_of_ble_eq_true rfl, Nat.le_of_ble_eq_true rfl⟩) rfl hl.1 rfl (Nat.le_of_ble_eq_true rfl) dX0_offAt_2 ⟨Nat.zero_le _, Nat.zero_le _⟩ ?_
  refine lv_istore_n (lv' := [(2, .int (tq_eb (tq_dP k (tq_col F i)))), (0, .ref h0), (1, .int (nI i))]) hx hb dX0_offAt_5 rfl hl (by decide) rfl (fun ls hl => ?_)
  refine lv_aload_n hx hb dX0_offAt_6 rfl (lv_at hl 1 rfl) ?_
  refine lv_iload_n hx hb dX0_offAt_7 rfl (lv_at hl 2 rfl) ?_
  refine tw_rX ⟨hx, hb, hml, hown, hts⟩ hK hP (c_X0_differenceQ l D cA h0 a0 k lo F i hi hk) (cwV 1 hts gX0_offAt_X0_differenceQ rfl rfl rfl kdX0_differenceQ ⟨Nat.le_of_ble_eq_true rfl, Nat.le_of_ble_eq_true rfl⟩) rfl hl.1 rfl (Nat.le_of_ble_eq_true rfl) dX0_offAt_8 ⟨Nat.zero_le _, Nat.zero_le _⟩ ?_
  refine lv_istore_n (lv' := [(3, .int (tq_eb (tq_dQ k (tq_col F i)))), (2, .int (tq_eb (tq_dP k (tq_col F i)))), (0, .ref h0), (1, .int (nI i))]) hx hb dX0_offAt_11 rfl hl (by decide) rfl (fun ls hl => ?_)
  refine lv_iload_n hx hb dX0_offAt_12 rfl (lv_at hl 0 rfl) ?_
  refine lv_if_ne (tgt := 30) hx hb dX0_offAt_13 (by decide) (fun c_13 => ?_) (fun c_13 => ?_)
  · refine lv_iload_n hx hb dX0_offAt_30 rfl (lv_at hl 1 rfl) ?_
    refine lv_if_ne (tgt := 39) hx hb dX0_offAt_31 (by decide) (fun c_31 => ?_) (fun c_31 => ?_)
    · refine lv_iload_n hx hb dX0_offAt_39 rfl (lv_at hl 1 rfl) ?_
      refine lv_istore (lv' := [(4, .int (tq_eb (tq_dP k (tq_col F i)))), (3, .int (tq_eb (tq_dQ k (tq_col F i)))), (2, .int (tq_eb (tq_dP k (tq_col F i)))), (0, .ref h0), (1, .int (nI i))]) hx hb dX0_offAt_40 hl (by decide) rfl (fun ls hl => ?_)
      refine lv_iconst (v := 0) hx hb dX0_offAt_42 (by decide) ?_
      refine lv_istore (lv' := [(5, .int 0), (4, .int (tq_eb (tq_dP k (tq_col F i)))), (3, .int (tq_eb (tq_dQ k (tq_col F i)))), (2, .int (tq_eb (tq_dP k (tq_col F i)))), (0, .ref h0), (1, .int (nI i))]) hx hb dX0_offAt_43 hl (by decide) rfl (fun ls hl => ?_)
      exact loop k 0 ls (by omega) (by simp only [tq_eb_z] at c_13 c_31; simp [tw_of, tq_off, c_13, c_31]) (lv_sub hl [4, 5, 3, 2, 1, 0] rfl)
    · refine lv_aload_n hx hb dX0_offAt_34 rfl (lv_at hl 2 rfl) ?_
      refine tw_rX ⟨hx, hb, hml, hown, hts⟩ hK hP (c_X0_unitQ l D cA h0 a0 k lo F ) (cwV 0 hts gX0_offAt_X0_unitQ rfl rfl rfl kdX0_unitQ ⟨Nat.le_of_ble_eq_true rfl, Nat.le_of_ble_eq_true rfl⟩) rfl hl.1 rfl (Nat.le_of_ble_eq_true rfl) dX0_offAt_35 ⟨Nat.zero_le _, Nat.zero_le _⟩ ?_
      refine tw_topr (x' := tw_of k F i) (by simp only [tq_eb_z] at c_13 c_31; simp [tw_of, tq_off, c_13, c_31]) ?_
      exact hend _ _ dX0_offAt_38
  · refine lv_iload_n hx hb dX0_offAt_16 rfl (lv_at hl 1 rfl) ?_
    refine lv_if_ne (tgt := 25) hx hb dX0_offAt_17 (by decide) (fun c_17 => ?_) (fun c_17 => ?_)
    · refine lv_aload_n hx hb dX0_offAt_25 rfl (lv_at hl 2 rfl) ?_
      refine tw_rX ⟨hx, hb, hml, hown, hts⟩ hK hP (c_X0_unitP l D cA h0 a0 k lo F ) (cwV 0 hts gX0_offAt_X0_unitP rfl rfl rfl kdX0_unitP ⟨Nat.le_of_ble_eq_true rfl, Nat.le_of_ble_eq_true rfl⟩) rfl hl.1 rfl (Nat.le_of_ble_eq_true rfl) dX0_offAt_26 ⟨Nat.zero_le _, Nat.zero_le _⟩ ?_
      refine tw_topr (x' := tw_of k F i) (by simp only [tq_eb_z] at c_13 c_17; simp [tw_of, tq_off, c_13, c_17]) ?_
      exact hend _ _ dX0_offAt_29
    · refine lv_bipush (v := (-2)) hx hb dX0_offAt_20 (by decide) ?_
      refine lv_goto (tgt := 29) hx hb dX0_offAt_22 (by decide) ?_
      refine tw_topr (x' := tw_of k F i) (by simp only [tq_eb_z] at c_13 c_17; simp [tw_of, tq_off, c_13, c_17]) ?_
      exact hend _ _ dX0_offAt_29
def tw_ck (k : Nat) (lo : Int32) (F : Nat → BitVec 8) : Int32 := if lo = 0 then tq_ck (tw_of k F) (-2) 0 64 else -1
abbrev rmX0_check : Room := { frames := 3, cells := 0, slots := 0, locals := 70 }
theorem inX0_check : ∀ w ∈ wsX00, w ∈ wsX0_check := fun _ h => List.mem_cons_of_mem _ (List.mem_append_right _ h)
theorem fX0_check_17 : Cond.fieldLink RX0 17 "TwinParity" "lostUnits" "I" ∈ wsX0_check := List.mem_of_getElem? (i := 1) rfl
theorem fX0_check_13 : Cond.fieldLink RX0 13 "TwinParity" "dataUnits" "I" ∈ wsX0_check := List.mem_of_getElem? (i := 7) rfl
theorem fX0_check_9 : Cond.fieldLink RX0 9 "TwinParity" "bytes" "[I" ∈ wsX0_check := List.mem_of_getElem? (i := 20) rfl
theorem kdX0_check : yX0_check.cls = RX0 ∧ yX0_check.cls ≠ "java/lang/invoke/MethodHandle" ∧ yX0_check.cls ≠ "java/lang/invoke/VarHandle" ∧ (parseMethodDescriptor yX0_check.desc).map (fun d => d.parameters.length) = some 0 := by decide +kernel
set_option maxHeartbeats 4000000 in
set_option maxRecDepth 100000 in
theorem c_X0_check (l : Launch) (D : va_G) (cA : ClassId) (h0 a0 k : Nat) (lo : Int32) (F : Nat → BitVec 8) (hk : k ≤ 14) : Met l yX0_check wsX0_check rmX0_check (va_Pc [.ref h0] (tw_B D (tw_X cA h0 a0 k lo F) (tw_tX cA))) (vp_Si (fun r => r = tw_ck k lo F)) 0 0 (fun _ => False) := by
  refine tw_metR (by decide) rfl rfl (Nat.le_of_ble_eq_true rfl) ?_
  intro p e s m args below meth c Q ls hx hb hml hown hts hP hK hend hl
  have hown : s.vm.findClass RX0 = some m.cls := hown
  have hl : lv_has ls 4 [(0, .ref h0)] := hl
  refine lv_aload_n hx hb dX0_check_0 rfl (lv_at hl 0 rfl) ?_
  refine va_get (D := D) (ci := 0) (v := .int lo) (C := RX0) (T := TX0) (N := 3) hx hb hts inX0_check hown hK hP 0 rfl rfl 2 (by decide) (hts _ fX0_check_17) (fun _ h9 => h9) rfl dX0_check_1 ?_
  refine lv_if_eq (tgt := 9) hx hb dX0_check_4 (by decide) (fun c_4 => ?_) (fun c_4 => ?_)
  · have loop : ∀ (n j : Nat) (o : Int32) (ls : Array Slot), j + n = 64 → tq_ck (tw_of k F) (-2) 0 64 = tq_ck (tw_of k F) o j n → lv_has ls 4 [(0, .ref h0), (1, .int o), (2, .int (nI j))] → W p l e rmX0_check s m args below meth c s.heap [] 0 0 Q (F0 m 14 ls []) := by
      intro n
      induction n with
      | zero =>
        intro j o ls hj hck hl
        refine lv_iload_n hx hb dX0_check_14 rfl (lv_at hl 2 rfl) ?_
        refine lv_bipush (v := 64) hx hb dX0_check_15 (by decide) ?_
        refine lv_icmp_ge (tgt := 60) hx hb dX0_check_17 (by decide) (fun c_17 => ?_) (fun c_17 => ?_)
        · refine lv_iload_n hx hb dX0_check_60 rfl (lv_at hl 1 rfl) ?_
          refine tw_topr (x' := tw_ck k lo F) (by rw [tw_ck, if_pos c_4, hck]; rfl) ?_
          exact hend _ _ dX0_check_61
        · exact absurd (nI_le (a := 64) (by omega) (by omega)) c_17
      | succ n ih =>
        intro j o ls hj hck hl
        refine lv_iload_n hx hb dX0_check_14 rfl (lv_at hl 2 rfl) ?_
        refine lv_bipush (v := 64) hx hb dX0_check_15 (by decide) ?_
        refine lv_icmp_ge (tgt := 60) hx hb dX0_check_17 (by decide) (fun c_17 => ?_) (fun c_17 => ?_)
        · exact absurd c_17 (nI_ge (b := 64) (by omega) (by omega))
        · refine lv_aload_n hx hb dX0_check_20 rfl (lv_at hl 0 rfl) ?_
          refine lv_iload_n hx hb dX0_check_21 rfl (lv_at hl 2 rfl) ?_
          refine tw_rX ⟨hx, hb, hml, hown, hts⟩ hK hP (c_X0_offAt l D cA h0 a0 k lo F j (by omega) hk) (cwV 1 hts gX0_check_X0_offAt rfl rfl rfl kdX0_offAt ⟨Nat.le_of_ble_eq_true rfl, Nat.le_of_ble_eq_true rfl⟩) rfl hl.1 rfl (Nat.le_of_ble_eq_true rfl) dX0_check_22 ⟨Nat.zero_le _, Nat.zero_le _⟩ ?_
          refine lv_topi (fun x3_25 ex3_25 => ?_)
          refine lv_istore_n (lv' := [(3, .int x3_25), (0, .ref h0), (1, .int o), (2, .int (nI j))]) hx hb dX0_check_25 rfl hl (by decide) rfl (fun ls hl => ?_)
          refine lv_iload_n hx hb dX0_check_26 rfl (lv_at hl 0 rfl) ?_
          refine lv_bipush (v := (-2)) hx hb dX0_check_27 (by decide) ?_
          refine lv_icmp_eq (tgt := 46) hx hb dX0_check_29 (by decide) (fun c_29 => ?_) (fun c_29 => ?_)
          · refine lv_iload_n hx hb dX0_check_46 rfl (lv_at hl 0 rfl) ?_
            refine lv_bipush (v := (-2)) hx hb dX0_check_47 (by decide) ?_
            refine lv_icmp_eq (tgt := 54) hx hb dX0_check_49 (by decide) (fun c_49 => ?_) (fun c_49 => ?_)
            · refine lv_iinc (v := nI (j + 1)) (lv' := [(2, .int (nI (j + 1))), (3, .int x3_25), (0, .ref h0), (1, .int o)]) hx hb dX0_check_54 hl (k := 3) rfl (nI_1 j) (by decide) rfl (fun ls hl => ?_)
              refine lv_goto (tgt := 14) hx hb dX0_check_57 (by decide) ?_
              exact ih (j + 1) o ls (by omega) (by rw [hck, tq_ck, ← ex3_25]; first | (exact absurd c_29 c_49) | (exact absurd c_49 c_29) | (simp [c_29]; done) | (simp [c_35, c_49]; done) | (simp [c_40]; done) | (simp [c_40, c_49]; done)) (lv_sub hl [2, 3, 0] rfl)
            · refine lv_iload_n hx hb dX0_check_52 rfl (lv_at hl 0 rfl) ?_
              refine lv_istore_n (lv' := [(1, .int x3_25), (3, .int x3_25), (0, .ref h0), (2, .int (nI j))]) hx hb dX0_check_53 rfl hl (by decide) rfl (fun ls hl => ?_)
              refine lv_iinc (v := nI (j + 1)) (lv' := [(2, .int (nI (j + 1))), (1, .int x3_25), (3, .int x3_25), (0, .ref h0)]) hx hb dX0_check_54 hl (k := 3) rfl (nI_1 j) (by decide) rfl (fun ls hl => ?_)
              refine lv_goto (tgt := 14) hx hb dX0_check_57 (by decide) ?_
              exact ih (j + 1) x3_25 ls (by omega) (by rw [hck, tq_ck, ← ex3_25]; first | (exact absurd c_29 c_49) | (exact absurd c_49 c_29) | (simp [c_29]; done) | (simp [c_35, c_49]; done) | (simp [c_40]; done) | (simp [c_40, c_49]; done)) (lv_sub hl [3, 1, 0] rfl)
          · refine lv_iload_n hx hb dX0_check_32 rfl (lv_at hl 2 rfl) ?_
            refine lv_bipush (v := (-2)) hx hb dX0_check_33 (by decide) ?_
            refine lv_icmp_eq (tgt := 46) hx hb dX0_check_35 (by decide) (fun c_35 => ?_) (fun c_35 => ?_)
            · refine lv_iload_n hx hb dX0_check_46 rfl (lv_at hl 0 rfl) ?_
              refine lv_bipush (v := (-2)) hx hb dX0_check_47 (by decide) ?_
              refine lv_icmp_eq (tgt := 54) hx hb dX0_check_49 (by decide) (fun c_49 => ?_) (fun c_49 => ?_)
              · refine lv_iinc (v := nI (j + 1)) (lv' := [(2, .int (nI (j + 1))), (3, .int x3_25), (0, .ref h0), (1, .int o)]) hx hb dX0_check_54 hl (k := 3) rfl (nI_1 j) (by decide) rfl (fun ls hl => ?_)
                refine lv_goto (tgt := 14) hx hb dX0_check_57 (by decide) ?_
                exact ih (j + 1) o ls (by omega) (by rw [hck, tq_ck, ← ex3_25]; first | (exact absurd c_29 c_49) | (exact absurd c_49 c_29) | (simp [c_29]; done) | (simp [c_35, c_49]; done) | (simp [c_40]; done) | (simp [c_40, c_49]; done)) (lv_sub hl [2, 3, 0] rfl)
              · refine lv_iload_n hx hb dX0_check_52 rfl (lv_at hl 0 rfl) ?_
                refine lv_istore_n (lv' := [(1, .int x3_25), (3, .int x3_25), (0, .ref h0), (2, .int (nI j))]) hx hb dX0_check_53 rfl hl (by decide) rfl (fun ls hl => ?_)
                refine lv_iinc (v := nI (j + 1)) (lv' := [(2, .int (nI (j + 1))), (1, .int x3_25), (3, .int x3_25), (0, .ref h0)]) hx hb dX0_check_54 hl (k := 3) rfl (nI_1 j) (by decide) rfl (fun ls hl => ?_)
                refine lv_goto (tgt := 14) hx hb dX0_check_57 (by decide) ?_
                exact ih (j + 1) x3_25 ls (by omega) (by rw [hck, tq_ck, ← ex3_25]; first | (exact absurd c_29 c_49) | (exact absurd c_49 c_29) | (simp [c_29]; done) | (simp [c_35, c_49]; done) | (simp [c_40]; done) | (simp [c_40, c_49]; done)) (lv_sub hl [3, 1, 0] rfl)
            · refine lv_iload_n hx hb dX0_check_38 rfl (lv_at hl 0 rfl) ?_
              refine lv_iload_n hx hb dX0_check_39 rfl (lv_at hl 2 rfl) ?_
              refine lv_icmp_eq (tgt := 46) hx hb dX0_check_40 (by decide) (fun c_40 => ?_) (fun c_40 => ?_)
              · refine lv_iload_n hx hb dX0_check_46 rfl (lv_at hl 0 rfl) ?_
                refine lv_bipush (v := (-2)) hx hb dX0_check_47 (by decide) ?_
                refine lv_icmp_eq (tgt := 54) hx hb dX0_check_49 (by decide) (fun c_49 => ?_) (fun c_49 => ?_)
                · refine lv_iinc (v := nI (j + 1)) (lv' := [(2, .int (nI (j + 1))), (3, .int x3_25), (0, .ref h0), (1, .int o)]) hx hb dX0_check_54 hl (k := 3) rfl (nI_1 j) (by decide) rfl (fun ls hl => ?_)
                  refine lv_goto (tgt := 14) hx hb dX0_check_57 (by decide) ?_
                  exact ih (j + 1) o ls (by omega) (by rw [hck, tq_ck, ← ex3_25]; first | (exact absurd c_29 c_49) | (exact absurd c_49 c_29) | (simp [c_29]; done) | (simp [c_35, c_49]; done) | (simp [c_40]; done) | (simp [c_40, c_49]; done)) (lv_sub hl [2, 3, 0] rfl)
                · refine lv_iload_n hx hb dX0_check_52 rfl (lv_at hl 0 rfl) ?_
                  refine lv_istore_n (lv' := [(1, .int x3_25), (3, .int x3_25), (0, .ref h0), (2, .int (nI j))]) hx hb dX0_check_53 rfl hl (by decide) rfl (fun ls hl => ?_)
                  refine lv_iinc (v := nI (j + 1)) (lv' := [(2, .int (nI (j + 1))), (1, .int x3_25), (3, .int x3_25), (0, .ref h0)]) hx hb dX0_check_54 hl (k := 3) rfl (nI_1 j) (by decide) rfl (fun ls hl => ?_)
                  refine lv_goto (tgt := 14) hx hb dX0_check_57 (by decide) ?_
                  exact ih (j + 1) x3_25 ls (by omega) (by rw [hck, tq_ck, ← ex3_25]; first | (exact absurd c_29 c_49) | (exact absurd c_49 c_29) | (simp [c_29]; done) | (simp [c_35, c_49]; done) | (simp [c_40]; done) | (simp [c_40, c_49]; done)) (lv_sub hl [3, 1, 0] rfl)
              · refine lv_bipush (v := (-3)) hx hb dX0_check_43 (by decide) ?_
                refine tw_topr (x' := tw_ck k lo F) (by rw [tw_ck, if_pos c_4, hck, tq_ck, ← ex3_25, if_pos ⟨c_29, c_35, c_40⟩]) ?_
                exact hend _ _ dX0_check_45
    refine lv_bipush (v := (-2)) hx hb dX0_check_9 (by decide) ?_
    refine lv_istore_n (lv' := [(1, .int ((-2))), (0, .ref h0)]) hx hb dX0_check_11 rfl hl (by decide) rfl (fun ls hl => ?_)
    refine lv_iconst (v := 0) hx hb dX0_check_12 (by decide) ?_
    refine lv_istore_n (lv' := [(2, .int 0), (1, .int ((-2))), (0, .ref h0)]) hx hb dX0_check_13 rfl hl (by decide) rfl (fun ls hl => ?_)
    exact loop 64 0 (-2) ls (by omega) rfl (lv_sub hl [2, 1, 0] rfl)
  · refine lv_iconst (v := (-1)) hx hb dX0_check_7 (by decide) ?_
    refine tw_topr (x' := tw_ck k lo F) (by rw [tw_ck, if_neg c_4]) ?_
    exact hend _ _ dX0_check_8
end
section
def tw_get (k : Nat) (lo : Int32) (F : Nat → BitVec 8) (x z : Int32) : Int32 := if tw_th k lo x && tw_sp z 1 1 then tq_eb (F (64 * x.toNatClampNeg + z.toNatClampNeg)) else -1
abbrev rmX0_get : Room := { frames := 2, cells := 0, slots := 0, locals := 42 }
theorem inX0_get : ∀ w ∈ wsX00, w ∈ wsX0_get := fun _ h => List.mem_cons_of_mem _ (List.mem_append_right _ h)
theorem fX0_get_13 : Cond.fieldLink RX0 13 "TwinParity" "dataUnits" "I" ∈ wsX0_get := List.mem_of_getElem? (i := 10) rfl
theorem fX0_get_17 : Cond.fieldLink RX0 17 "TwinParity" "lostUnits" "I" ∈ wsX0_get := List.mem_of_getElem? (i := 15) rfl
theorem fX0_get_9 : Cond.fieldLink RX0 9 "TwinParity" "bytes" "[I" ∈ wsX0_get := List.mem_of_getElem? (i := 23) rfl
theorem kdX0_get : yX0_get.cls = RX0 ∧ yX0_get.cls ≠ "java/lang/invoke/MethodHandle" ∧ yX0_get.cls ≠ "java/lang/invoke/VarHandle" ∧ (parseMethodDescriptor yX0_get.desc).map (fun d => d.parameters.length) = some 2 := by decide +kernel
set_option maxHeartbeats 4000000 in
set_option maxRecDepth 100000 in
theorem c_X0_get (l : Launch) (D : va_G) (cA : ClassId) (h0 a0 k : Nat) (lo : Int32) (F : Nat → BitVec 8) (x z : Int32) (hk : k ≤ 14) : Met l yX0_get wsX0_get rmX0_get (va_Pc [.ref h0, .int x, .int z] (tw_B D (tw_X cA h0 a0 k lo F) (tw_tX cA))) (vp_Si (fun r => r = tw_get k lo F x z)) 0 0 (fun _ => False) := by
  refine tw_metR (by decide) rfl rfl (Nat.le_of_ble_eq_true rfl) ?_
  intro p e s m args below meth c Q ls hx hb hml hown hts hP hK hend hl
  have hown : s.vm.findClass RX0 = some m.cls := hown
  have hl : lv_has ls 3 [(0, .ref h0), (1, .int x), (2, .int z)] := hl
  refine lv_aload_n hx hb dX0_get_0 rfl (lv_at hl 0 rfl) ?_
  refine lv_iload_n hx hb dX0_get_1 rfl (lv_at hl 1 rfl) ?_
  refine tw_rX ⟨hx, hb, hml, hown, hts⟩ hK hP (c_X0_isThere l D cA h0 a0 k lo F x hk) (cwV 1 hts gX0_get_X0_isThere rfl rfl rfl kdX0_isThere ⟨Nat.le_of_ble_eq_true rfl, Nat.le_of_ble_eq_true rfl⟩) rfl hl.1 rfl (Nat.le_of_ble_eq_true rfl) dX0_get_2 ⟨Nat.zero_le _, Nat.zero_le _⟩ ?_
  refine lv_if_eq (tgt := 17) hx hb dX0_get_5 (by decide) (fun c_5 => ?_) (fun c_5 => ?_)
  · rw [tw_bI0] at c_5
    refine lv_iconst (v := (-1)) hx hb dX0_get_17 (by decide) ?_
    refine tw_topr (x' := tw_get k lo F x z) (by first | (simp [tw_get, c_14]; done) | (simp [tw_get, c_5]; done)) ?_
    exact hend _ _ dX0_get_18
  · rw [tw_bI1] at c_5
    refine lv_iload_n hx hb dX0_get_8 rfl (lv_at hl 2 rfl) ?_
    refine lv_iconst (v := 1) hx hb dX0_get_9 (by decide) ?_
    refine lv_iconst (v := 1) hx hb dX0_get_10 (by decide) ?_
    refine tw_s ⟨hx, hb, hml, hown, hts⟩ (c_X0_isSpan l z 1 1) (va_cwS 3 hts gX0_get_X0_isSpan rfl rfl rfl kdX0_isSpan ⟨Nat.le_of_ble_eq_true rfl, Nat.le_of_ble_eq_true rfl⟩) rfl hl.1 rfl (Nat.le_of_ble_eq_true rfl) dX0_get_11 ⟨Nat.zero_le _, Nat.zero_le _⟩ ?_
    refine lv_if_ne (tgt := 19) hx hb dX0_get_14 (by decide) (fun c_14 => ?_) (fun c_14 => ?_)
    · rw [tw_bI1] at c_14
      generalize hE : tw_get k lo F x z = E at hend
      obtain ⟨u, hu, rfl, hlb⟩ := tw_thD hk c_5
      obtain ⟨i, j, rfl, hj, hj1, hj2, hij⟩ := tw_spD (mm := 1) (by decide) c_14
      refine lv_aload_n hx hb dX0_get_19 rfl (lv_at hl 0 rfl) ?_
      refine lv_iload_n hx hb dX0_get_20 rfl (lv_at hl 1 rfl) ?_
      refine lv_iload_n hx hb dX0_get_21 rfl (lv_at hl 2 rfl) ?_
      refine tw_rX ⟨hx, hb, hml, hown, hts⟩ hK hP (c_X0_byteAt l D cA h0 a0 k lo F u i (by omega)) (cwV 2 hts gX0_get_X0_byteAt rfl rfl rfl kdX0_byteAt ⟨Nat.le_of_ble_eq_true rfl, Nat.le_of_ble_eq_true rfl⟩) rfl hl.1 rfl (Nat.le_of_ble_eq_true rfl) dX0_get_22 ⟨Nat.zero_le _, Nat.zero_le _⟩ ?_
      refine tw_topr (x' := E) (by rw [← hE, tw_get, c_5, c_14, nI_clamp (by omega), nI_clamp (by omega)]; rfl) ?_
      exact hend _ _ dX0_get_25
    · rw [tw_bI0] at c_14
      refine lv_iconst (v := (-1)) hx hb dX0_get_17 (by decide) ?_
      refine tw_topr (x' := tw_get k lo F x z) (by first | (simp [tw_get, c_14]; done) | (simp [tw_get, c_5]; done)) ?_
      exact hend _ _ dX0_get_18
def tw_w8 (z : Int32) : Bool := !decide (z < 0) && !decide (8 ≤ z)
def tw_wval (F : Nat → BitVec 8) (u i : Nat) : Int64 := tq_wd (fun j => F (64 * u + (8 * i + j))) 8
def tw_word (k : Nat) (lo : Int32) (F : Nat → BitVec 8) (x z : Int32) : Int64 := if tw_th k lo x && tw_w8 z then tw_wval F x.toNatClampNeg z.toNatClampNeg else 0
abbrev rmX0_word : Room := { frames := 2, cells := 0, slots := 0, locals := 42 }
theorem inX0_word : ∀ w ∈ wsX00, w ∈ wsX0_word := fun _ h => List.mem_cons_of_mem _ (List.mem_append_right _ h)
theorem fX0_word_13 : Cond.fieldLink RX0 13 "TwinParity" "dataUnits" "I" ∈ wsX0_word := List.mem_of_getElem? (i := 10) rfl
theorem fX0_word_17 : Cond.fieldLink RX0 17 "TwinParity" "lostUnits" "I" ∈ wsX0_word := List.mem_of_getElem? (i := 15) rfl
theorem fX0_word_9 : Cond.fieldLink RX0 9 "TwinParity" "bytes" "[I" ∈ wsX0_word := List.mem_of_getElem? (i := 20) rfl
theorem kdX0_word : yX0_word.cls = RX0 ∧ yX0_word.cls ≠ "java/lang/invoke/MethodHandle" ∧ yX0_word.cls ≠ "java/lang/invoke/VarHandle" ∧ (parseMethodDescriptor yX0_word.desc).map (fun d => d.parameters.length) = some 2 := by decide +kernel
set_option maxHeartbeats 4000000 in
set_option maxRecDepth 100000 in
theorem c_X0_word (l : Launch) (D : va_G) (cA : ClassId) (h0 a0 k : Nat) (lo : Int32) (F : Nat → BitVec 8) (x z : Int32) (hk : k ≤ 14) : Met l yX0_word wsX0_word rmX0_word (va_Pc [.ref h0, .int x, .int z] (tw_B D (tw_X cA h0 a0 k lo F) (tw_tX cA))) (vp_Sl (fun r => r = tw_word k lo F x z)) 0 0 (fun _ => False) := by
  refine tw_metL (by decide) rfl rfl (Nat.le_of_ble_eq_true rfl) ?_
  intro p e s m args below meth c Q ls hx hb hml hown hts hP hK hend hl
  have hown : s.vm.findClass RX0 = some m.cls := hown
  have hl : lv_has ls 6 [(0, .ref h0), (1, .int x), (2, .int z)] := hl
  refine lv_aload_n hx hb dX0_word_0 rfl (lv_at hl 0 rfl) ?_
  refine lv_iload_n hx hb dX0_word_1 rfl (lv_at hl 1 rfl) ?_
  refine tw_rX ⟨hx, hb, hml, hown, hts⟩ hK hP (c_X0_isThere l D cA h0 a0 k lo F x hk) (cwV 1 hts gX0_word_X0_isThere rfl rfl rfl kdX0_isThere ⟨Nat.le_of_ble_eq_true rfl, Nat.le_of_ble_eq_true rfl⟩) rfl hl.1 rfl (Nat.le_of_ble_eq_true rfl) dX0_word_2 ⟨Nat.zero_le _, Nat.zero_le _⟩ ?_
  refine lv_if_eq (tgt := 18) hx hb dX0_word_5 (by decide) (fun c_5 => ?_) (fun c_5 => ?_)
  · rw [tw_bI0] at c_5
    refine lv_lconst (v := 0) hx hb dX0_word_18 (by decide) ?_
    refine tw_toprl (x' := tw_word k lo F x z) (by first | (simp [tw_word, c_5]; done) | (simp [tw_word, tw_w8, c_9]; done) | (simp [tw_word, tw_w8, Int32.not_lt.mp c_15]; done)) ?_
    exact hend _ _ dX0_word_19
  · rw [tw_bI1] at c_5
    refine lv_iload_n hx hb dX0_word_8 rfl (lv_at hl 2 rfl) ?_
    refine lv_if_lt (tgt := 18) hx hb dX0_word_9 (by decide) (fun c_9 => ?_) (fun c_9 => ?_)
    · refine lv_lconst (v := 0) hx hb dX0_word_18 (by decide) ?_
      refine tw_toprl (x' := tw_word k lo F x z) (by first | (simp [tw_word, c_5]; done) | (simp [tw_word, tw_w8, c_9]; done) | (simp [tw_word, tw_w8, Int32.not_lt.mp c_15]; done)) ?_
      exact hend _ _ dX0_word_19
    · refine lv_iload_n hx hb dX0_word_12 rfl (lv_at hl 2 rfl) ?_
      refine lv_bipush (v := 8) hx hb dX0_word_13 (by decide) ?_
      refine lv_icmp_lt (tgt := 20) hx hb dX0_word_15 (by decide) (fun c_15 => ?_) (fun c_15 => ?_)
      · generalize hE : tw_word k lo F x z = E at hend
        obtain ⟨u, hu, rfl, hlb⟩ := tw_thD hk c_5
        obtain ⟨i, hi0, rfl⟩ := nI_of c_9
        have hi : i < 8 := by rcases Nat.lt_or_ge i 8 with q | q; exact q; exact absurd c_15 (nI_nlt q hi0)
        have loop : ∀ (n : Nat) (ls : Array Slot), n ≤ 8 → lv_has ls 6 [(0, .ref h0), (1, .int (nI u)), (2, .int (nI i)), (3, .long (tq_wd (fun j => F (64 * u + (8 * i + j))) (8 - n))), (5, .int (nI n - 1))] → W p l e rmX0_word s m args below meth c s.heap [] 0 0 Q (F0 m 26 ls []) := by
          intro n
          induction n with
          | zero =>
            intro ls hn hl
            have hl : lv_has ls 6 [(0, .ref h0), (1, .int (nI u)), (2, .int (nI i)), (3, .long (tq_wd (fun j => F (64 * u + (8 * i + j))) (8 - 0))), (5, .int ((-1)))] := hl
            refine lv_iload hx hb dX0_word_26 (lv_at hl 4 rfl) ?_
            refine lv_if_lt (tgt := 56) hx hb dX0_word_28 (by decide) (fun c_28 => ?_) (fun c_28 => ?_)
            · refine lv_lload_n hx hb dX0_word_56 rfl (lv_at hl 3 rfl) ?_
              refine tw_toprl (x' := E) (by rw [← hE, tw_word, c_5, tw_w8]; simp [c_9, c_15, nI_clamp (show u < 2 ^ 31 by omega), nI_clamp (show i < 2 ^ 31 by omega)]; rfl) ?_
              exact hend _ _ dX0_word_57
            · exact absurd (by decide) c_28
          | succ n ih =>
            intro ls hn hl
            rw [nI_pred] at hl
            refine lv_iload hx hb dX0_word_26 (lv_at hl 4 rfl) ?_
            refine lv_if_lt (tgt := 56) hx hb dX0_word_28 (by decide) (fun c_28 => ?_) (fun c_28 => ?_)
            · exact absurd c_28 (nI_pos (by omega))
            · refine lv_lload_n hx hb dX0_word_31 rfl (lv_at hl 3 rfl) ?_
              refine lv_bipush (v := 8) hx hb dX0_word_32 (by decide) ?_
              refine lv_lshl hx hb dX0_word_34 rfl ?_
              refine lv_aload_n hx hb dX0_word_35 rfl (lv_at hl 0 rfl) ?_
              refine lv_iload_n hx hb dX0_word_36 rfl (lv_at hl 1 rfl) ?_
              refine lv_bipush (v := 8) hx hb dX0_word_37 (by decide) ?_
              refine lv_iload_n hx hb dX0_word_39 rfl (lv_at hl 2 rfl) ?_
              refine lv_imul hx hb dX0_word_40 ?_
              refine lv_iload hx hb dX0_word_41 (lv_at hl 4 rfl) ?_
              refine lv_iadd hx hb dX0_word_43 ?_
              refine tw_topr (x' := nI (8 * i + n)) (by rw [show (8 : Int32) = nI 8 from rfl, pk_mul, nI_add]) ?_
              refine tw_rX ⟨hx, hb, hml, hown, hts⟩ hK hP (c_X0_byteAt l D cA h0 a0 k lo F u (8 * i + n) (by omega)) (cwV 2 hts gX0_word_X0_byteAt rfl rfl rfl kdX0_byteAt ⟨Nat.le_of_ble_eq_true rfl, Nat.le_of_ble_eq_true rfl⟩) rfl hl.1 rfl (Nat.le_of_ble_eq_true rfl) dX0_word_44 ⟨Nat.zero_le _, Nat.zero_le _⟩ ?_
              refine lv_i2l hx hb dX0_word_47 rfl ?_
              refine lv_lor hx hb dX0_word_48 ?_
              refine tw_toprl (x' := tq_wd (fun j => F (64 * u + (8 * i + j))) (8 - n)) (by rw [show 8 - n = (8 - (n + 1)) + 1 by omega, tq_wd, show 7 - (8 - (n + 1)) = n by omega]) ?_
              refine lv_lstore_n (lv' := [(3, .long (tq_wd (fun j => F (64 * u + (8 * i + j))) (8 - n))), (0, .ref h0), (1, .int (nI u)), (2, .int (nI i)), (5, .int (nI n))]) hx hb dX0_word_49 rfl hl (by decide) rfl (fun ls hl => ?_)
              refine lv_iinc (v := nI n - 1) (lv' := [(5, .int (nI n - 1)), (3, .long (tq_wd (fun j => F (64 * u + (8 * i + j))) (8 - n))), (0, .ref h0), (1, .int (nI u)), (2, .int (nI i))]) hx hb dX0_word_50 hl (k := 4) rfl (tw_dec n) (by decide) rfl (fun ls hl => ?_)
              refine lv_goto (tgt := 26) hx hb dX0_word_53 (by decide) ?_
              exact ih ls (by omega) (lv_sub hl [2, 3, 4, 1, 0] rfl)
        refine lv_lconst (v := 0) hx hb dX0_word_20 (by decide) ?_
        refine lv_lstore_n (lv' := [(3, .long 0), (0, .ref h0), (1, .int (nI u)), (2, .int (nI i))]) hx hb dX0_word_21 rfl hl (by decide) rfl (fun ls hl => ?_)
        refine lv_bipush (v := 7) hx hb dX0_word_22 (by decide) ?_
        refine lv_istore (lv' := [(5, .int 7), (3, .long 0), (0, .ref h0), (1, .int (nI u)), (2, .int (nI i))]) hx hb dX0_word_24 hl (by decide) rfl (fun ls hl => ?_)
        exact loop 8 ls (Nat.le_refl 8) (lv_sub hl [2, 3, 4, 1, 0] rfl)
      · refine lv_lconst (v := 0) hx hb dX0_word_18 (by decide) ?_
        refine tw_toprl (x' := tw_word k lo F x z) (by first | (simp [tw_word, c_5]; done) | (simp [tw_word, tw_w8, c_9]; done) | (simp [tw_word, tw_w8, Int32.not_lt.mp c_15]; done)) ?_
        exact hend _ _ dX0_word_19
def tw_cnt (k : Nat) (lo x : Int32) : Int32 := if x = 0 then nI (k + 2) else if x = 1 then tw_bc lo else if x = 2 then tw_lf k lo 0 else -1
abbrev rmX0_count : Room := { frames := 2, cells := 0, slots := 0, locals := 43 }
theorem inX0_count : ∀ w ∈ wsX00, w ∈ wsX0_count := fun _ h => List.mem_cons_of_mem _ (List.mem_append_right _ h)
theorem fX0_count_13 : Cond.fieldLink RX0 13 "TwinParity" "dataUnits" "I" ∈ wsX0_count := List.mem_of_getElem? (i := 6) rfl
theorem fX0_count_17 : Cond.fieldLink RX0 17 "TwinParity" "lostUnits" "I" ∈ wsX0_count := List.mem_of_getElem? (i := 11) rfl
theorem kdX0_count : yX0_count.cls = RX0 ∧ yX0_count.cls ≠ "java/lang/invoke/MethodHandle" ∧ yX0_count.cls ≠ "java/lang/invoke/VarHandle" ∧ (parseMethodDescriptor yX0_count.desc).map (fun d => d.parameters.length) = some 1 := by decide +kernel
set_option maxHeartbeats 4000000 in
set_option maxRecDepth 100000 in
theorem c_X0_count (l : Launch) (D : va_G) (cA : ClassId) (h0 a0 k : Nat) (lo : Int32) (F : Nat → BitVec 8) (x : Int32) (hk : k ≤ 14) : Met l yX0_count wsX0_count rmX0_count (va_Pc [.ref h0, .int x] (tw_B D (tw_X cA h0 a0 k lo F) (tw_tX cA))) (vp_Si (fun r => r = tw_cnt k lo x)) 0 0 (fun _ => False) := by
  refine tw_metR (by decide) rfl rfl (Nat.le_of_ble_eq_true rfl) ?_
  intro p e s m args below meth c Q ls hx hb hml hown hts hP hK hend hl
  have hown : s.vm.findClass RX0 = some m.cls := hown
  have hl : lv_has ls 2 [(0, .ref h0), (1, .int x)] := hl
  refine lv_iload_n hx hb dX0_count_0 rfl (lv_at hl 1 rfl) ?_
  by_cases hv0 : x = 0
  · subst hv0
    refine lv_tableIn (tgt := 28) (off := 27) hx hb dX0_count_1 (by decide) (by decide) (by decide) (by decide) ?_
    refine lv_aload_n hx hb dX0_count_28 rfl (lv_at hl 0 rfl) ?_
    refine tw_rX ⟨hx, hb, hml, hown, hts⟩ hK hP (c_X0_units l D cA h0 a0 k lo F ) (cwV 0 hts gX0_count_X0_units rfl rfl rfl kdX0_units ⟨Nat.le_of_ble_eq_true rfl, Nat.le_of_ble_eq_true rfl⟩) rfl hl.1 rfl (Nat.le_of_ble_eq_true rfl) dX0_count_29 ⟨Nat.zero_le _, Nat.zero_le _⟩ ?_
    exact hend _ _ dX0_count_32
  by_cases hv1 : x = 1
  · subst hv1
    refine lv_tableIn (tgt := 33) (off := 32) hx hb dX0_count_1 (by decide) (by decide) (by decide) (by decide) ?_
    refine lv_aload_n hx hb dX0_count_33 rfl (lv_at hl 0 rfl) ?_
    refine tw_rX ⟨hx, hb, hml, hown, hts⟩ hK hP (c_X0_lostCount l D cA h0 a0 k lo F ) (cwV 0 hts gX0_count_X0_lostCount rfl rfl rfl kdX0_lostCount ⟨Nat.le_of_ble_eq_true rfl, Nat.le_of_ble_eq_true rfl⟩) rfl hl.1 rfl (Nat.le_of_ble_eq_true rfl) dX0_count_34 ⟨Nat.zero_le _, Nat.zero_le _⟩ ?_
    exact hend _ _ dX0_count_37
  by_cases hv2 : x = 2
  · subst hv2
    refine lv_tableIn (tgt := 38) (off := 37) hx hb dX0_count_1 (by decide) (by decide) (by decide) (by decide) ?_
    refine lv_aload_n hx hb dX0_count_38 rfl (lv_at hl 0 rfl) ?_
    refine lv_iconst (v := 0) hx hb dX0_count_39 (by decide) ?_
    refine tw_rX ⟨hx, hb, hml, hown, hts⟩ hK hP (c_X0_lostFrom l D cA h0 a0 k lo F 0 (by omega) hk) (cwV 1 hts gX0_count_X0_lostFrom rfl rfl rfl kdX0_lostFrom ⟨Nat.le_of_ble_eq_true rfl, Nat.le_of_ble_eq_true rfl⟩) rfl hl.1 rfl (Nat.le_of_ble_eq_true rfl) dX0_count_40 ⟨Nat.zero_le _, Nat.zero_le _⟩ ?_
    exact hend _ _ dX0_count_43
  refine lv_tableOut (tgt := 44) hx hb dX0_count_1 (by have := lv_neT (a := 0) hv0 (by decide); have := lv_neT (a := 1) hv1 (by decide); have := lv_neT (a := 2) hv2 (by decide); omega) (by decide) ?_
  refine lv_iconst (v := (-1)) hx hb dX0_count_44 (by decide) ?_
  refine tw_topr (x' := tw_cnt k lo x) (by simp [tw_cnt, hv0, hv1, hv2]) ?_
  exact hend _ _ dX0_count_45
def tw_pr (a b z : Int32) : Int32 := if tw_el a && (tw_el b && !(!decide (z = 0) && decide (b = 0))) then tq_eb (tq_m (tq_bv a) (if z = 0 then tq_bv b else tq_i (tq_bv b))) else -1
abbrev rmX0_product : Room := { frames := 3, cells := 0, slots := 0, locals := 68 }
theorem kdX0_product : yX0_product.cls = RX0 ∧ yX0_product.cls ≠ "java/lang/invoke/MethodHandle" ∧ yX0_product.cls ≠ "java/lang/invoke/VarHandle" ∧ (parseMethodDescriptor yX0_product.desc).map (fun d => d.parameters.length) = some 3 := by decide +kernel
set_option maxHeartbeats 4000000 in
set_option maxRecDepth 100000 in
theorem c_X0_product (l : Launch) (D : va_G) (cA : ClassId) (h0 a0 k : Nat) (lo : Int32) (F : Nat → BitVec 8) (a b z : Int32) : Met l yX0_product wsX0_product rmX0_product (va_Pc [.ref h0, .int a, .int b, .int z] (tw_B D (tw_X cA h0 a0 k lo F) (tw_tX cA))) (vp_Si (fun r => r = tw_pr a b z)) 0 0 (fun _ => False) := by
  refine tw_metR (by decide) rfl rfl (Nat.le_of_ble_eq_true rfl) ?_
  intro p e s m args below meth c Q ls hx hb hml hown hts hP hK hend hl
  have hown : s.vm.findClass RX0 = some m.cls := hown
  have hl : lv_has ls 4 [(0, .ref h0), (1, .int a), (2, .int b), (3, .int z)] := hl
  refine lv_iload_n hx hb dX0_product_0 rfl (lv_at hl 1 rfl) ?_
  refine tw_s ⟨hx, hb, hml, hown, hts⟩ (c_X0_isElement l a) (va_cwS 1 hts gX0_product_X0_isElement rfl rfl rfl kdX0_isElement ⟨Nat.le_of_ble_eq_true rfl, Nat.le_of_ble_eq_true rfl⟩) rfl hl.1 rfl (Nat.le_of_ble_eq_true rfl) dX0_product_1 ⟨Nat.zero_le _, Nat.zero_le _⟩ ?_
  refine lv_if_eq (tgt := 22) hx hb dX0_product_4 (by decide) (fun c_4 => ?_) (fun c_4 => ?_)
  · rw [tw_bI0] at c_4
    refine lv_iconst (v := (-1)) hx hb dX0_product_22 (by decide) ?_
    refine tw_topr (x' := tw_pr a b z) (by first | (simp [tw_pr, c_4]; done) | (simp [tw_pr, c_11]; done) | (simp [tw_pr, c_15, c_19]; done)) ?_
    exact hend _ _ dX0_product_23
  · rw [tw_bI1] at c_4
    refine lv_iload_n hx hb dX0_product_7 rfl (lv_at hl 2 rfl) ?_
    refine tw_s ⟨hx, hb, hml, hown, hts⟩ (c_X0_isElement l b) (va_cwS 1 hts gX0_product_X0_isElement rfl rfl rfl kdX0_isElement ⟨Nat.le_of_ble_eq_true rfl, Nat.le_of_ble_eq_true rfl⟩) rfl hl.1 rfl (Nat.le_of_ble_eq_true rfl) dX0_product_8 ⟨Nat.zero_le _, Nat.zero_le _⟩ ?_
    refine lv_if_eq (tgt := 22) hx hb dX0_product_11 (by decide) (fun c_11 => ?_) (fun c_11 => ?_)
    · rw [tw_bI0] at c_11
      refine lv_iconst (v := (-1)) hx hb dX0_product_22 (by decide) ?_
      refine tw_topr (x' := tw_pr a b z) (by first | (simp [tw_pr, c_4]; done) | (simp [tw_pr, c_11]; done) | (simp [tw_pr, c_15, c_19]; done)) ?_
      exact hend _ _ dX0_product_23
    · rw [tw_bI1] at c_11
      refine lv_iload_n hx hb dX0_product_14 rfl (lv_at hl 3 rfl) ?_
      refine lv_if_eq (tgt := 24) hx hb dX0_product_15 (by decide) (fun c_15 => ?_) (fun c_15 => ?_)
      · generalize hE : tw_pr a b z = E at hend
        obtain ⟨a2, rfl⟩ := tw_elD c_4
        obtain ⟨b2, rfl⟩ := tw_elD c_11
        refine lv_iload_n hx hb dX0_product_24 rfl (lv_at hl 1 rfl) ?_
        refine lv_iload_n hx hb dX0_product_25 rfl (lv_at hl 3 rfl) ?_
        refine lv_if_eq (tgt := 36) hx hb dX0_product_26 (by decide) (fun c_26 => ?_) (fun c_26 => ?_)
        · refine lv_iload_n hx hb dX0_product_36 rfl (lv_at hl 2 rfl) ?_
          refine tw_s ⟨hx, hb, hml, hown, hts⟩ (c_X0_multiplied l a2 b2) (va_cwS 2 hts gX0_product_X0_multiplied rfl rfl rfl kdX0_multiplied ⟨Nat.le_of_ble_eq_true rfl, Nat.le_of_ble_eq_true rfl⟩) rfl hl.1 rfl (Nat.le_of_ble_eq_true rfl) dX0_product_37 ⟨Nat.zero_le _, Nat.zero_le _⟩ ?_
          refine tw_topr (x' := E) (by first | exact absurd c_15 c_26 | exact absurd c_26 c_15 | (rw [← hE, tw_pr, c_4, c_11, tq_bv_eb, tq_bv_eb]; first | (simp [c_15]; done) | (simp [c_15, c_19]; done) | (simp [c_15, tq_eb_z]; simp only [tq_eb_z] at c_19; simp [c_19]; done))) ?_
          exact hend _ _ dX0_product_40
        · refine lv_iload_n hx hb dX0_product_29 rfl (lv_at hl 2 rfl) ?_
          refine tw_s ⟨hx, hb, hml, hown, hts⟩ (c_X0_inverse l b2) (va_cwS 1 hts gX0_product_X0_inverse rfl rfl rfl kdX0_inverse ⟨Nat.le_of_ble_eq_true rfl, Nat.le_of_ble_eq_true rfl⟩) rfl hl.1 rfl (Nat.le_of_ble_eq_true rfl) dX0_product_30 ⟨Nat.zero_le _, Nat.zero_le _⟩ ?_
          refine lv_goto (tgt := 37) hx hb dX0_product_33 (by decide) ?_
          refine tw_s ⟨hx, hb, hml, hown, hts⟩ (c_X0_multiplied l a2 (tq_i b2)) (va_cwS 2 hts gX0_product_X0_multiplied rfl rfl rfl kdX0_multiplied ⟨Nat.le_of_ble_eq_true rfl, Nat.le_of_ble_eq_true rfl⟩) rfl hl.1 rfl (Nat.le_of_ble_eq_true rfl) dX0_product_37 ⟨Nat.zero_le _, Nat.zero_le _⟩ ?_
          refine tw_topr (x' := E) (by first | exact absurd c_15 c_26 | exact absurd c_26 c_15 | (rw [← hE, tw_pr, c_4, c_11, tq_bv_eb, tq_bv_eb]; first | (simp [c_15]; done) | (simp [c_15, c_19]; done) | (simp [c_15, tq_eb_z]; simp only [tq_eb_z] at c_19; simp [c_19]; done))) ?_
          exact hend _ _ dX0_product_40
      · refine lv_iload_n hx hb dX0_product_18 rfl (lv_at hl 2 rfl) ?_
        refine lv_if_ne (tgt := 24) hx hb dX0_product_19 (by decide) (fun c_19 => ?_) (fun c_19 => ?_)
        · generalize hE : tw_pr a b z = E at hend
          obtain ⟨a2, rfl⟩ := tw_elD c_4
          obtain ⟨b2, rfl⟩ := tw_elD c_11
          refine lv_iload_n hx hb dX0_product_24 rfl (lv_at hl 1 rfl) ?_
          refine lv_iload_n hx hb dX0_product_25 rfl (lv_at hl 3 rfl) ?_
          refine lv_if_eq (tgt := 36) hx hb dX0_product_26 (by decide) (fun c_26 => ?_) (fun c_26 => ?_)
          · refine lv_iload_n hx hb dX0_product_36 rfl (lv_at hl 2 rfl) ?_
            refine tw_s ⟨hx, hb, hml, hown, hts⟩ (c_X0_multiplied l a2 b2) (va_cwS 2 hts gX0_product_X0_multiplied rfl rfl rfl kdX0_multiplied ⟨Nat.le_of_ble_eq_true rfl, Nat.le_of_ble_eq_true rfl⟩) rfl hl.1 rfl (Nat.le_of_ble_eq_true rfl) dX0_product_37 ⟨Nat.zero_le _, Nat.zero_le _⟩ ?_
            refine tw_topr (x' := E) (by first | exact absurd c_15 c_26 | exact absurd c_26 c_15 | (rw [← hE, tw_pr, c_4, c_11, tq_bv_eb, tq_bv_eb]; first | (simp [c_15]; done) | (simp [c_15, c_19]; done) | (simp [c_15, tq_eb_z]; simp only [tq_eb_z] at c_19; simp [c_19]; done))) ?_
            exact hend _ _ dX0_product_40
          · refine lv_iload_n hx hb dX0_product_29 rfl (lv_at hl 2 rfl) ?_
            refine tw_s ⟨hx, hb, hml, hown, hts⟩ (c_X0_inverse l b2) (va_cwS 1 hts gX0_product_X0_inverse rfl rfl rfl kdX0_inverse ⟨Nat.le_of_ble_eq_true rfl, Nat.le_of_ble_eq_true rfl⟩) rfl hl.1 rfl (Nat.le_of_ble_eq_true rfl) dX0_product_30 ⟨Nat.zero_le _, Nat.zero_le _⟩ ?_
            refine lv_goto (tgt := 37) hx hb dX0_product_33 (by decide) ?_
            refine tw_s ⟨hx, hb, hml, hown, hts⟩ (c_X0_multiplied l a2 (tq_i b2)) (va_cwS 2 hts gX0_product_X0_multiplied rfl rfl rfl kdX0_multiplied ⟨Nat.le_of_ble_eq_true rfl, Nat.le_of_ble_eq_true rfl⟩) rfl hl.1 rfl (Nat.le_of_ble_eq_true rfl) dX0_product_37 ⟨Nat.zero_le _, Nat.zero_le _⟩ ?_
            refine tw_topr (x' := E) (by first | exact absurd c_15 c_26 | exact absurd c_26 c_15 | (rw [← hE, tw_pr, c_4, c_11, tq_bv_eb, tq_bv_eb]; first | (simp [c_15]; done) | (simp [c_15, c_19]; done) | (simp [c_15, tq_eb_z]; simp only [tq_eb_z] at c_19; simp [c_19]; done))) ?_
            exact hend _ _ dX0_product_40
        · refine lv_iconst (v := (-1)) hx hb dX0_product_22 (by decide) ?_
          refine tw_topr (x' := tw_pr a b z) (by first | (simp [tw_pr, c_4]; done) | (simp [tw_pr, c_11]; done) | (simp [tw_pr, c_15, c_19]; done)) ?_
          exact hend _ _ dX0_product_23
abbrev rmX0_power : Room := { frames := 2, cells := 0, slots := 0, locals := 44 }
theorem kdX0_power : yX0_power.cls = RX0 ∧ yX0_power.cls ≠ "java/lang/invoke/MethodHandle" ∧ yX0_power.cls ≠ "java/lang/invoke/VarHandle" ∧ (parseMethodDescriptor yX0_power.desc).map (fun d => d.parameters.length) = some 1 := by decide +kernel
set_option maxHeartbeats 4000000 in
set_option maxRecDepth 100000 in
theorem c_X0_power (l : Launch) (D : va_G) (cA : ClassId) (h0 a0 k : Nat) (lo : Int32) (F : Nat → BitVec 8) (x : Int32) : Met l yX0_power wsX0_power rmX0_power (va_Pc [.ref h0, .int x] (tw_B D (tw_X cA h0 a0 k lo F) (tw_tX cA))) (vp_Si (fun r => r = tq_eb (tq_p (tw_fm x) 1#8))) 0 0 (fun _ => False) := by
  refine tw_metR (by decide) rfl rfl (Nat.le_of_ble_eq_true rfl) ?_
  intro p e s m args below meth c Q ls hx hb hml hown hts hP hK hend hl
  have hown : s.vm.findClass RX0 = some m.cls := hown
  have hl : lv_has ls 2 [(0, .ref h0), (1, .int x)] := hl
  refine lv_iconst (v := 1) hx hb dX0_power_0 (by decide) ?_
  refine lv_iload_n hx hb dX0_power_1 rfl (lv_at hl 1 rfl) ?_
  refine lv_sipush (v := 255) hx hb dX0_power_2 (by decide) ?_
  refine tw_s ⟨hx, hb, hml, hown, hts⟩ (c_J9_floorMod_7cf53 l x) (va_cwS 2 hts gX0_power_J9_floorMod_7cf53 rfl rfl rfl kdJ9_floorMod_7cf53 ⟨Nat.le_of_ble_eq_true rfl, Nat.le_of_ble_eq_true rfl⟩) rfl hl.1 rfl (Nat.le_of_ble_eq_true rfl) dX0_power_5 ⟨Nat.zero_le _, Nat.zero_le _⟩ ?_
  refine tw_s ⟨hx, hb, hml, hown, hts⟩ (c_X0_timesPower l 1#8 (tw_fm x) (by have := tw_fm_lt x; omega)) (va_cwS 2 hts gX0_power_X0_timesPower rfl rfl rfl kdX0_timesPower ⟨Nat.le_of_ble_eq_true rfl, Nat.le_of_ble_eq_true rfl⟩) rfl hl.1 rfl (Nat.le_of_ble_eq_true rfl) dX0_power_8 ⟨Nat.zero_le _, Nat.zero_le _⟩ ?_
  exact hend _ _ dX0_power_11
end
section
abbrev rmX0_change : Room := { frames := 0, cells := 0, slots := 0, locals := 0 }
theorem inX0_change : ∀ w ∈ wsX00, w ∈ wsX0_change := fun _ h => List.mem_cons_of_mem _ (List.mem_append_right _ h)
theorem fX0_change_9 : Cond.fieldLink RX0 9 "TwinParity" "bytes" "[I" ∈ wsX0_change := List.mem_of_getElem? (i := 1) rfl
theorem kdX0_change : yX0_change.cls = RX0 ∧ yX0_change.cls ≠ "java/lang/invoke/MethodHandle" ∧ yX0_change.cls ≠ "java/lang/invoke/VarHandle" ∧ (parseMethodDescriptor yX0_change.desc).map (fun d => d.parameters.length) = some 3 := by decide +kernel
set_option maxHeartbeats 4000000 in
set_option maxRecDepth 100000 in
theorem c_X0_change (l : Launch) (D : va_G) (cA : ClassId) (h0 a0 k : Nat) (lo : Int32) (F : Nat → BitVec 8) (sz : Nat) (u i : Nat) (d : BitVec 8) (h : 64 * u + i < 1024) : Met l yX0_change wsX0_change rmX0_change (va_Pc [.ref h0, .int (nI u), .int (nI i), .int (tq_eb d)] (tw_Pw D (tw_X cA h0 a0 k lo F) (tw_tX cA) sz)) (va_Qv (fun _ : Unit => True) (tw_Qw D (fun _ : Unit => (tw_X cA h0 a0 k lo (tw_ch F u i d))) (tw_tX cA) (va_A (tw_X cA h0 a0 k lo F) sz)) (va_A (tw_X cA h0 a0 k lo F) sz)) 0 0 (va_A (tw_X cA h0 a0 k lo F) sz) := by
  refine tw_metV (by decide) rfl rfl (Nat.le_of_ble_eq_true rfl) ?_
  intro p e s m args below meth c Q ls A hx hb hml hown hts hP hK hD hS hA hend hl
  have hown : s.vm.findClass RX0 = some m.cls := hown
  have hl : lv_has ls 4 [(0, .ref h0), (1, .int (nI u)), (2, .int (nI i)), (3, .int (tq_eb d))] := hl
  refine lv_aload_n hx hb dX0_change_0 rfl (lv_at hl 0 rfl) ?_
  refine va_get (D := D) (ci := 0) (v := .ref a0) (C := RX0) (T := TX0) (N := 3) hx hb hts inX0_change hown hK hP 0 rfl rfl 0 (by decide) (hts _ fX0_change_9) (fun _ h9 => h9) rfl dX0_change_1 ?_
  refine lv_iload_n hx hb dX0_change_4 rfl (lv_at hl 1 rfl) ?_
  refine lv_bipush (v := 64) hx hb dX0_change_5 (by decide) ?_
  refine lv_imul hx hb dX0_change_7 ?_
  refine lv_iload_n hx hb dX0_change_8 rfl (lv_at hl 2 rfl) ?_
  refine lv_iadd hx hb dX0_change_9 ?_
  refine tw_topr (x' := nI (64 * u + i)) (tw_ix u i) ?_
  refine lv_dup2_11 hx hb dX0_change_10 rfl rfl ?_
  refine tw_ld hx hb hK hP 1 0 rfl rfl (n := 64 * u + i) (rfl) (h) (by decide) dX0_change_11 ?_
  refine lv_iload_n hx hb dX0_change_12 rfl (lv_at hl 3 rfl) ?_
  refine lv_ixor hx hb dX0_change_13 ?_
  refine tw_st hx hb hK hP hD hS 1 0 rfl rfl (n := 64 * u + i) (v := F (64 * u + i) ^^^ d) (rfl) (tq_eb_xor _ _) (h) (by decide) dX0_change_14 (fun H locs hP hD hS => ?_)
  have hP : va_P D vwCl (tw_X cA h0 a0 k lo (va_up F (64 * u + i) (F (64 * u + i) ^^^ d))) H := hP
  have hD : va_D A (tw_X cA h0 a0 k lo (va_up F (64 * u + i) (F (64 * u + i) ^^^ d))) := hD
  exact hend _ _ _ _ dX0_change_15 hP hD hS
abbrev rmX0_changeWithParities : Room := { frames := 2, cells := 0, slots := 0, locals := 44 }
theorem inX0_changeWithParities : ∀ w ∈ wsX00, w ∈ wsX0_changeWithParities := fun _ h => List.mem_cons_of_mem _ (List.mem_append_right _ h)
theorem fX0_changeWithParities_9 : Cond.fieldLink RX0 9 "TwinParity" "bytes" "[I" ∈ wsX0_changeWithParities := List.mem_of_getElem? (i := 6) rfl
theorem fX0_changeWithParities_13 : Cond.fieldLink RX0 13 "TwinParity" "dataUnits" "I" ∈ wsX0_changeWithParities := List.mem_of_getElem? (i := 11) rfl
theorem fX0_changeWithParities_17 : Cond.fieldLink RX0 17 "TwinParity" "lostUnits" "I" ∈ wsX0_changeWithParities := List.mem_of_getElem? (i := 16) rfl
theorem kdX0_changeWithParities : yX0_changeWithParities.cls = RX0 ∧ yX0_changeWithParities.cls ≠ "java/lang/invoke/MethodHandle" ∧ yX0_changeWithParities.cls ≠ "java/lang/invoke/VarHandle" ∧ (parseMethodDescriptor yX0_changeWithParities.desc).map (fun d => d.parameters.length) = some 3 := by decide +kernel
set_option maxHeartbeats 4000000 in
set_option maxRecDepth 100000 in
theorem c_X0_changeWithParities (l : Launch) (D : va_G) (cA : ClassId) (h0 a0 k : Nat) (lo : Int32) (F : Nat → BitVec 8) (sz : Nat) (u i : Nat) (d : BitVec 8) (hu : u < k) (hi : i < 64) (hk : k ≤ 14) : Met l yX0_changeWithParities wsX0_changeWithParities rmX0_changeWithParities (va_Pc [.ref h0, .int (nI u), .int (nI i), .int (tq_eb d)] (tw_Pw D (tw_X cA h0 a0 k lo F) (tw_tX cA) sz)) (va_Qv (fun _ : Unit => True) (tw_Qw D (fun _ : Unit => (tw_X cA h0 a0 k lo (tw_cw k lo F u i d))) (tw_tX cA) (va_A (tw_X cA h0 a0 k lo F) sz)) (va_A (tw_X cA h0 a0 k lo F) sz)) 0 0 (va_A (tw_X cA h0 a0 k lo F) sz) := by
  refine tw_metV (by decide) rfl rfl (Nat.le_of_ble_eq_true rfl) ?_
  intro p e s m args below meth c Q ls A hx hb hml hown hts hP hK hD hS hA hend hl
  have hown : s.vm.findClass RX0 = some m.cls := hown
  have hl : lv_has ls 4 [(0, .ref h0), (1, .int (nI u)), (2, .int (nI i)), (3, .int (tq_eb d))] := hl
  refine lv_aload_n hx hb dX0_changeWithParities_0 rfl (lv_at hl 0 rfl) ?_
  refine lv_iload_n hx hb dX0_changeWithParities_1 rfl (lv_at hl 1 rfl) ?_
  refine lv_iload_n hx hb dX0_changeWithParities_2 rfl (lv_at hl 2 rfl) ?_
  refine lv_iload_n hx hb dX0_changeWithParities_3 rfl (lv_at hl 3 rfl) ?_
  refine tw_wXv ⟨hx, hb, hml, hown, hts⟩ hK hP hD hS hA (c_X0_change l D cA h0 a0 k lo F _ u i d (by omega)) (cwV 3 hts gX0_changeWithParities_X0_change rfl rfl rfl kdX0_change ⟨Nat.le_of_ble_eq_true rfl, Nat.le_of_ble_eq_true rfl⟩) rfl hl.1 rfl (Nat.le_of_ble_eq_true rfl) dX0_changeWithParities_4 ⟨Nat.zero_le _, Nat.zero_le _⟩ (fun H locs hP hD hS => ?_)
  have hP : va_P D vwCl (tw_X cA h0 a0 k lo (tw_ch F u i d)) H := hP
  have hD : va_D A (tw_X cA h0 a0 k lo (tw_ch F u i d)) := hD
  refine lv_aload_n hx hb dX0_changeWithParities_7 rfl (lv_at hl 0 rfl) ?_
  refine lv_aload_n hx hb dX0_changeWithParities_8 rfl (lv_at hl 0 rfl) ?_
  refine tw_rX ⟨hx, hb, hml, hown, hts⟩ hK hP (c_X0_unitP l D cA h0 a0 k lo (tw_ch F u i d) ) (cwV 0 hts gX0_changeWithParities_X0_unitP rfl rfl rfl kdX0_unitP ⟨Nat.le_of_ble_eq_true rfl, Nat.le_of_ble_eq_true rfl⟩) rfl hl.1 rfl (Nat.le_of_ble_eq_true rfl) dX0_changeWithParities_9 ⟨Nat.zero_le _, Nat.zero_le _⟩ ?_
  refine tw_rX ⟨hx, hb, hml, hown, hts⟩ hK hP (c_X0_isLost l D cA h0 a0 k lo (tw_ch F u i d) k) (cwV 1 hts gX0_changeWithParities_X0_isLost rfl rfl rfl kdX0_isLost ⟨Nat.le_of_ble_eq_true rfl, Nat.le_of_ble_eq_true rfl⟩) rfl hl.1 rfl (Nat.le_of_ble_eq_true rfl) dX0_changeWithParities_12 ⟨Nat.zero_le _, Nat.zero_le _⟩ ?_
  refine lv_if_ne (tgt := 28) hx hb dX0_changeWithParities_15 (by decide) (fun c_15 => ?_) (fun c_15 => ?_)
  · rw [tw_bI1] at c_15
    refine lv_aload_n hx hb dX0_changeWithParities_28 rfl (lv_at hl 0 rfl) ?_
    refine lv_aload_n hx hb dX0_changeWithParities_29 rfl (lv_at hl 0 rfl) ?_
    refine tw_rX ⟨hx, hb, hml, hown, hts⟩ hK hP (c_X0_unitQ l D cA h0 a0 k lo (tw_ch F u i d) ) (cwV 0 hts gX0_changeWithParities_X0_unitQ rfl rfl rfl kdX0_unitQ ⟨Nat.le_of_ble_eq_true rfl, Nat.le_of_ble_eq_true rfl⟩) rfl hl.1 rfl (Nat.le_of_ble_eq_true rfl) dX0_changeWithParities_30 ⟨Nat.zero_le _, Nat.zero_le _⟩ ?_
    refine tw_rX ⟨hx, hb, hml, hown, hts⟩ hK hP (c_X0_isLost l D cA h0 a0 k lo (tw_ch F u i d) (k + 1)) (cwV 1 hts gX0_changeWithParities_X0_isLost rfl rfl rfl kdX0_isLost ⟨Nat.le_of_ble_eq_true rfl, Nat.le_of_ble_eq_true rfl⟩) rfl hl.1 rfl (Nat.le_of_ble_eq_true rfl) dX0_changeWithParities_33 ⟨Nat.zero_le _, Nat.zero_le _⟩ ?_
    refine lv_if_ne (tgt := 53) hx hb dX0_changeWithParities_36 (by decide) (fun c_36 => ?_) (fun c_36 => ?_)
    · rw [tw_bI1] at c_36
      rw [show tw_ch F u i d = tw_cw k lo F u i d from by simp [tw_cw, c_15, c_36]] at hP hD
      exact hend _ _ _ _ dX0_changeWithParities_53 hP hD hS
    · rw [tw_bI0] at c_36
      refine lv_aload_n hx hb dX0_changeWithParities_39 rfl (lv_at hl 0 rfl) ?_
      refine lv_aload_n hx hb dX0_changeWithParities_40 rfl (lv_at hl 0 rfl) ?_
      refine tw_rX ⟨hx, hb, hml, hown, hts⟩ hK hP (c_X0_unitQ l D cA h0 a0 k lo (tw_ch F u i d) ) (cwV 0 hts gX0_changeWithParities_X0_unitQ rfl rfl rfl kdX0_unitQ ⟨Nat.le_of_ble_eq_true rfl, Nat.le_of_ble_eq_true rfl⟩) rfl hl.1 rfl (Nat.le_of_ble_eq_true rfl) dX0_changeWithParities_41 ⟨Nat.zero_le _, Nat.zero_le _⟩ ?_
      refine lv_iload_n hx hb dX0_changeWithParities_44 rfl (lv_at hl 2 rfl) ?_
      refine lv_iload_n hx hb dX0_changeWithParities_45 rfl (lv_at hl 3 rfl) ?_
      refine lv_iload_n hx hb dX0_changeWithParities_46 rfl (lv_at hl 1 rfl) ?_
      refine tw_s ⟨hx, hb, hml, hown, hts⟩ (c_X0_timesPower l d u (by omega)) (va_cwS 2 hts gX0_changeWithParities_X0_timesPower rfl rfl rfl kdX0_timesPower ⟨Nat.le_of_ble_eq_true rfl, Nat.le_of_ble_eq_true rfl⟩) rfl hl.1 rfl (Nat.le_of_ble_eq_true rfl) dX0_changeWithParities_47 ⟨Nat.zero_le _, Nat.zero_le _⟩ ?_
      refine tw_wXv ⟨hx, hb, hml, hown, hts⟩ hK hP hD hS hA (c_X0_change l D cA h0 a0 k lo (tw_ch F u i d) _ (k + 1) i (tq_p u d) (by omega)) (cwV 3 hts gX0_changeWithParities_X0_change rfl rfl rfl kdX0_change ⟨Nat.le_of_ble_eq_true rfl, Nat.le_of_ble_eq_true rfl⟩) rfl hl.1 rfl (Nat.le_of_ble_eq_true rfl) dX0_changeWithParities_50 ⟨Nat.zero_le _, Nat.zero_le _⟩ (fun H locs hP hD hS => ?_)
      have hP : va_P D vwCl (tw_X cA h0 a0 k lo (tw_ch (tw_ch F u i d) (k + 1) i (tq_p u d))) H := hP
      have hD : va_D A (tw_X cA h0 a0 k lo (tw_ch (tw_ch F u i d) (k + 1) i (tq_p u d))) := hD
      rw [show tw_ch (tw_ch F u i d) (k + 1) i (tq_p u d) = tw_cw k lo F u i d from by simp [tw_cw, c_15, c_36]] at hP hD
      exact hend _ _ _ _ dX0_changeWithParities_53 hP hD hS
  · rw [tw_bI0] at c_15
    refine lv_aload_n hx hb dX0_changeWithParities_18 rfl (lv_at hl 0 rfl) ?_
    refine lv_aload_n hx hb dX0_changeWithParities_19 rfl (lv_at hl 0 rfl) ?_
    refine tw_rX ⟨hx, hb, hml, hown, hts⟩ hK hP (c_X0_unitP l D cA h0 a0 k lo (tw_ch F u i d) ) (cwV 0 hts gX0_changeWithParities_X0_unitP rfl rfl rfl kdX0_unitP ⟨Nat.le_of_ble_eq_true rfl, Nat.le_of_ble_eq_true rfl⟩) rfl hl.1 rfl (Nat.le_of_ble_eq_true rfl) dX0_changeWithParities_20 ⟨Nat.zero_le _, Nat.zero_le _⟩ ?_
    refine lv_iload_n hx hb dX0_changeWithParities_23 rfl (lv_at hl 2 rfl) ?_
    refine lv_iload_n hx hb dX0_changeWithParities_24 rfl (lv_at hl 3 rfl) ?_
    refine tw_wXv ⟨hx, hb, hml, hown, hts⟩ hK hP hD hS hA (c_X0_change l D cA h0 a0 k lo (tw_ch F u i d) _ k i d (by omega)) (cwV 3 hts gX0_changeWithParities_X0_change rfl rfl rfl kdX0_change ⟨Nat.le_of_ble_eq_true rfl, Nat.le_of_ble_eq_true rfl⟩) rfl hl.1 rfl (Nat.le_of_ble_eq_true rfl) dX0_changeWithParities_25 ⟨Nat.zero_le _, Nat.zero_le _⟩ (fun H locs hP hD hS => ?_)
    have hP : va_P D vwCl (tw_X cA h0 a0 k lo (tw_ch (tw_ch F u i d) k i d)) H := hP
    have hD : va_D A (tw_X cA h0 a0 k lo (tw_ch (tw_ch F u i d) k i d)) := hD
    refine lv_aload_n hx hb dX0_changeWithParities_28 rfl (lv_at hl 0 rfl) ?_
    refine lv_aload_n hx hb dX0_changeWithParities_29 rfl (lv_at hl 0 rfl) ?_
    refine tw_rX ⟨hx, hb, hml, hown, hts⟩ hK hP (c_X0_unitQ l D cA h0 a0 k lo (tw_ch (tw_ch F u i d) k i d) ) (cwV 0 hts gX0_changeWithParities_X0_unitQ rfl rfl rfl kdX0_unitQ ⟨Nat.le_of_ble_eq_true rfl, Nat.le_of_ble_eq_true rfl⟩) rfl hl.1 rfl (Nat.le_of_ble_eq_true rfl) dX0_changeWithParities_30 ⟨Nat.zero_le _, Nat.zero_le _⟩ ?_
    refine tw_rX ⟨hx, hb, hml, hown, hts⟩ hK hP (c_X0_isLost l D cA h0 a0 k lo (tw_ch (tw_ch F u i d) k i d) (k + 1)) (cwV 1 hts gX0_changeWithParities_X0_isLost rfl rfl rfl kdX0_isLost ⟨Nat.le_of_ble_eq_true rfl, Nat.le_of_ble_eq_true rfl⟩) rfl hl.1 rfl (Nat.le_of_ble_eq_true rfl) dX0_changeWithParities_33 ⟨Nat.zero_le _, Nat.zero_le _⟩ ?_
    refine lv_if_ne (tgt := 53) hx hb dX0_changeWithParities_36 (by decide) (fun c_36 => ?_) (fun c_36 => ?_)
    · rw [tw_bI1] at c_36
      rw [show tw_ch (tw_ch F u i d) k i d = tw_cw k lo F u i d from by simp [tw_cw, c_15, c_36]] at hP hD
      exact hend _ _ _ _ dX0_changeWithParities_53 hP hD hS
    · rw [tw_bI0] at c_36
      refine lv_aload_n hx hb dX0_changeWithParities_39 rfl (lv_at hl 0 rfl) ?_
      refine lv_aload_n hx hb dX0_changeWithParities_40 rfl (lv_at hl 0 rfl) ?_
      refine tw_rX ⟨hx, hb, hml, hown, hts⟩ hK hP (c_X0_unitQ l D cA h0 a0 k lo (tw_ch (tw_ch F u i d) k i d) ) (cwV 0 hts gX0_changeWithParities_X0_unitQ rfl rfl rfl kdX0_unitQ ⟨Nat.le_of_ble_eq_true rfl, Nat.le_of_ble_eq_true rfl⟩) rfl hl.1 rfl (Nat.le_of_ble_eq_true rfl) dX0_changeWithParities_41 ⟨Nat.zero_le _, Nat.zero_le _⟩ ?_
      refine lv_iload_n hx hb dX0_changeWithParities_44 rfl (lv_at hl 2 rfl) ?_
      refine lv_iload_n hx hb dX0_changeWithParities_45 rfl (lv_at hl 3 rfl) ?_
      refine lv_iload_n hx hb dX0_changeWithParities_46 rfl (lv_at hl 1 rfl) ?_
      refine tw_s ⟨hx, hb, hml, hown, hts⟩ (c_X0_timesPower l d u (by omega)) (va_cwS 2 hts gX0_changeWithParities_X0_timesPower rfl rfl rfl kdX0_timesPower ⟨Nat.le_of_ble_eq_true rfl, Nat.le_of_ble_eq_true rfl⟩) rfl hl.1 rfl (Nat.le_of_ble_eq_true rfl) dX0_changeWithParities_47 ⟨Nat.zero_le _, Nat.zero_le _⟩ ?_
      refine tw_wXv ⟨hx, hb, hml, hown, hts⟩ hK hP hD hS hA (c_X0_change l D cA h0 a0 k lo (tw_ch (tw_ch F u i d) k i d) _ (k + 1) i (tq_p u d) (by omega)) (cwV 3 hts gX0_changeWithParities_X0_change rfl rfl rfl kdX0_change ⟨Nat.le_of_ble_eq_true rfl, Nat.le_of_ble_eq_true rfl⟩) rfl hl.1 rfl (Nat.le_of_ble_eq_true rfl) dX0_changeWithParities_50 ⟨Nat.zero_le _, Nat.zero_le _⟩ (fun H locs hP hD hS => ?_)
      have hP : va_P D vwCl (tw_X cA h0 a0 k lo (tw_ch (tw_ch (tw_ch F u i d) k i d) (k + 1) i (tq_p u d))) H := hP
      have hD : va_D A (tw_X cA h0 a0 k lo (tw_ch (tw_ch (tw_ch F u i d) k i d) (k + 1) i (tq_p u d))) := hD
      rw [show tw_ch (tw_ch (tw_ch F u i d) k i d) (k + 1) i (tq_p u d) = tw_cw k lo F u i d from by simp [tw_cw, c_15, c_36]] at hP hD
      exact hend _ _ _ _ dX0_changeWithParities_53 hP hD hS
def ty_rp (k u : Nat) (F : Nat → BitVec 8) : Nat → Nat → BitVec 8
  | 0 => F
  | n + 1 => tw_ch (ty_rp k u F n) u n (tq_dP k (tq_col (ty_rp k u F n) n))
abbrev rmX0_restoreByP : Room := { frames := 2, cells := 0, slots := 0, locals := 45 }
theorem inX0_restoreByP : ∀ w ∈ wsX00, w ∈ wsX0_restoreByP := fun _ h => List.mem_cons_of_mem _ (List.mem_append_right _ h)
theorem fX0_restoreByP_13 : Cond.fieldLink RX0 13 "TwinParity" "dataUnits" "I" ∈ wsX0_restoreByP := List.mem_of_getElem? (i := 6) rfl
theorem fX0_restoreByP_9 : Cond.fieldLink RX0 9 "TwinParity" "bytes" "[I" ∈ wsX0_restoreByP := List.mem_of_getElem? (i := 15) rfl
theorem kdX0_restoreByP : yX0_restoreByP.cls = RX0 ∧ yX0_restoreByP.cls ≠ "java/lang/invoke/MethodHandle" ∧ yX0_restoreByP.cls ≠ "java/lang/invoke/VarHandle" ∧ (parseMethodDescriptor yX0_restoreByP.desc).map (fun d => d.parameters.length) = some 1 := by decide +kernel
set_option maxHeartbeats 4000000 in
set_option maxRecDepth 100000 in
theorem c_X0_restoreByP (l : Launch) (D : va_G) (cA : ClassId) (h0 a0 k : Nat) (lo : Int32) (F : Nat → BitVec 8) (sz : Nat) (u : Nat) (hu : u ≤ k + 1) (hk : k ≤ 14) : Met l yX0_restoreByP wsX0_restoreByP rmX0_restoreByP (va_Pc [.ref h0, .int (nI u)] (tw_Pw D (tw_X cA h0 a0 k lo F) (tw_tX cA) sz)) (va_Qv (fun _ : Unit => True) (tw_Qw D (fun _ : Unit => (tw_X cA h0 a0 k lo (ty_rp k u F 64))) (tw_tX cA) (va_A (tw_X cA h0 a0 k lo F) sz)) (va_A (tw_X cA h0 a0 k lo F) sz)) 0 0 (va_A (tw_X cA h0 a0 k lo F) sz) := by
  refine tw_metV (by decide) rfl rfl (Nat.le_of_ble_eq_true rfl) ?_
  intro p e s m args below meth c Q ls A hx hb hml hown hts hP hK hD hS hA hend hl
  have hown : s.vm.findClass RX0 = some m.cls := hown
  have hl : lv_has ls 3 [(0, .ref h0), (1, .int (nI u))] := hl
  have loop : ∀ (n j : Nat) (ls : Array Slot) (H : Heap) (locs : List Loc), j + n = 64 → va_P D vwCl (tw_X cA h0 a0 k lo (ty_rp k u F j)) H → va_D A (tw_X cA h0 a0 k lo (ty_rp k u F j)) → va_S A s.heap H locs → lv_has ls 3 [(0, .ref h0), (1, .int (nI u)), (2, .int (nI j))] → W p l e rmX0_restoreByP s m args below meth c H locs 0 0 Q (F0 m 2 ls []) := by
    intro n
    induction n with
    | zero =>
      intro j ls H locs hj hP hD hS hl
      refine lv_iload_n hx hb dX0_restoreByP_2 rfl (lv_at hl 2 rfl) ?_
      refine lv_bipush (v := 64) hx hb dX0_restoreByP_3 (by decide) ?_
      refine lv_icmp_ge (tgt := 25) hx hb dX0_restoreByP_5 (by decide) (fun c_5 => ?_) (fun c_5 => ?_)
      · rw [show j = 64 by omega] at hP hD
        exact hend _ _ _ _ dX0_restoreByP_25 hP hD hS
      · exact absurd (nI_le (a := 64) (by omega) (by omega)) c_5
    | succ n ih =>
      intro j ls H locs hj hP hD hS hl
      refine lv_iload_n hx hb dX0_restoreByP_2 rfl (lv_at hl 2 rfl) ?_
      refine lv_bipush (v := 64) hx hb dX0_restoreByP_3 (by decide) ?_
      refine lv_icmp_ge (tgt := 25) hx hb dX0_restoreByP_5 (by decide) (fun c_5 => ?_) (fun c_5 => ?_)
      · exact absurd c_5 (nI_ge (b := 64) (by omega) (by omega))
      · refine lv_aload_n hx hb dX0_restoreByP_8 rfl (lv_at hl 0 rfl) ?_
        refine lv_iload_n hx hb dX0_restoreByP_9 rfl (lv_at hl 1 rfl) ?_
        refine lv_iload_n hx hb dX0_restoreByP_10 rfl (lv_at hl 2 rfl) ?_
        refine lv_aload_n hx hb dX0_restoreByP_11 rfl (lv_at hl 0 rfl) ?_
        refine lv_iload_n hx hb dX0_restoreByP_12 rfl (lv_at hl 2 rfl) ?_
        refine tw_rX ⟨hx, hb, hml, hown, hts⟩ hK hP (c_X0_differenceP l D cA h0 a0 k lo (ty_rp k u F j) j (by omega) hk) (cwV 1 hts gX0_restoreByP_X0_differenceP rfl rfl rfl kdX0_differenceP ⟨Nat.le_of_ble_eq_true rfl, Nat.le_of_ble_eq_true rfl⟩) rfl hl.1 rfl (Nat.le_of_ble_eq_true rfl) dX0_restoreByP_13 ⟨Nat.zero_le _, Nat.zero_le _⟩ ?_
        refine tw_wXv ⟨hx, hb, hml, hown, hts⟩ hK hP hD hS hA (c_X0_change l D cA h0 a0 k lo (ty_rp k u F j) _ u j (tq_dP k (tq_col (ty_rp k u F j) j)) (by omega)) (cwV 3 hts gX0_restoreByP_X0_change rfl rfl rfl kdX0_change ⟨Nat.le_of_ble_eq_true rfl, Nat.le_of_ble_eq_true rfl⟩) rfl hl.1 rfl (Nat.le_of_ble_eq_true rfl) dX0_restoreByP_16 ⟨Nat.zero_le _, Nat.zero_le _⟩ (fun H locs hP hD hS => ?_)
        have hP : va_P D vwCl (tw_X cA h0 a0 k lo (ty_rp k u F (j + 1))) H := hP
        have hD : va_D A (tw_X cA h0 a0 k lo (ty_rp k u F (j + 1))) := hD
        refine lv_iinc (v := nI (j + 1)) (lv' := [(2, .int (nI (j + 1))), (0, .ref h0), (1, .int (nI u))]) hx hb dX0_restoreByP_19 hl (k := 2) rfl (nI_1 j) (by decide) rfl (fun ls hl => ?_)
        refine lv_goto (tgt := 2) hx hb dX0_restoreByP_22 (by decide) ?_
        exact ih (j + 1) ls H locs (by omega) hP hD hS (lv_sub hl [1, 2, 0] rfl)
  refine lv_iconst (v := 0) hx hb dX0_restoreByP_0 (by decide) ?_
  refine lv_istore_n (lv' := [(2, .int 0), (0, .ref h0), (1, .int (nI u))]) hx hb dX0_restoreByP_1 rfl hl (by decide) rfl (fun ls hl => ?_)
  exact loop 64 0 ls _ _ (by omega) hP hD hS (lv_sub hl [1, 2, 0] rfl)
def tw_fq (k u : Nat) : BitVec 8 := if u = k + 1 then 1#8 else tq_i (tq_p u 1#8)
def ty_rq (k u : Nat) (F : Nat → BitVec 8) : Nat → Nat → BitVec 8
  | 0 => F
  | n + 1 => tw_ch (ty_rq k u F n) u n (tq_m (tq_dQ k (tq_col (ty_rq k u F n) n)) (tw_fq k u))
abbrev rmX0_restoreByQ : Room := { frames := 3, cells := 0, slots := 0, locals := 68 }
theorem inX0_restoreByQ : ∀ w ∈ wsX00, w ∈ wsX0_restoreByQ := fun _ h => List.mem_cons_of_mem _ (List.mem_append_right _ h)
theorem fX0_restoreByQ_13 : Cond.fieldLink RX0 13 "TwinParity" "dataUnits" "I" ∈ wsX0_restoreByQ := List.mem_of_getElem? (i := 6) rfl
theorem fX0_restoreByQ_9 : Cond.fieldLink RX0 9 "TwinParity" "bytes" "[I" ∈ wsX0_restoreByQ := List.mem_of_getElem? (i := 27) rfl
theorem kdX0_restoreByQ : yX0_restoreByQ.cls = RX0 ∧ yX0_restoreByQ.cls ≠ "java/lang/invoke/MethodHandle" ∧ yX0_restoreByQ.cls ≠ "java/lang/invoke/VarHandle" ∧ (parseMethodDescriptor yX0_restoreByQ.desc).map (fun d => d.parameters.length) = some 1 := by decide +kernel
set_option maxHeartbeats 4000000 in
set_option maxRecDepth 100000 in
theorem c_X0_restoreByQ (l : Launch) (D : va_G) (cA : ClassId) (h0 a0 k : Nat) (lo : Int32) (F : Nat → BitVec 8) (sz : Nat) (u : Nat) (hu : u ≤ k + 1) (hk : k ≤ 14) : Met l yX0_restoreByQ wsX0_restoreByQ rmX0_restoreByQ (va_Pc [.ref h0, .int (nI u)] (tw_Pw D (tw_X cA h0 a0 k lo F) (tw_tX cA) sz)) (va_Qv (fun _ : Unit => True) (tw_Qw D (fun _ : Unit => (tw_X cA h0 a0 k lo (ty_rq k u F 64))) (tw_tX cA) (va_A (tw_X cA h0 a0 k lo F) sz)) (va_A (tw_X cA h0 a0 k lo F) sz)) 0 0 (va_A (tw_X cA h0 a0 k lo F) sz) := by
  refine tw_metV (by decide) rfl rfl (Nat.le_of_ble_eq_true rfl) ?_
  intro p e s m args below meth c Q ls A hx hb hml hown hts hP hK hD hS hA hend hl
  have hown : s.vm.findClass RX0 = some m.cls := hown
  have hl : lv_has ls 4 [(0, .ref h0), (1, .int (nI u))] := hl
  have loop : ∀ (n j : Nat) (ls : Array Slot) (H : Heap) (locs : List Loc), j + n = 64 → va_P D vwCl (tw_X cA h0 a0 k lo (ty_rq k u F j)) H → va_D A (tw_X cA h0 a0 k lo (ty_rq k u F j)) → va_S A s.heap H locs → lv_has ls 4 [(0, .ref h0), (1, .int (nI u)), (2, .int (tq_eb (tw_fq k u))), (3, .int (nI j))] → W p l e rmX0_restoreByQ s m args below meth c H locs 0 0 Q (F0 m 23 ls []) := by
    intro n
    induction n with
    | zero =>
      intro j ls H locs hj hP hD hS hl
      refine lv_iload_n hx hb dX0_restoreByQ_23 rfl (lv_at hl 3 rfl) ?_
      refine lv_bipush (v := 64) hx hb dX0_restoreByQ_24 (by decide) ?_
      refine lv_icmp_ge (tgt := 50) hx hb dX0_restoreByQ_26 (by decide) (fun c_26 => ?_) (fun c_26 => ?_)
      · rw [show j = 64 by omega] at hP hD
        exact hend _ _ _ _ dX0_restoreByQ_50 hP hD hS
      · exact absurd (nI_le (a := 64) (by omega) (by omega)) c_26
    | succ n ih =>
      intro j ls H locs hj hP hD hS hl
      refine lv_iload_n hx hb dX0_restoreByQ_23 rfl (lv_at hl 3 rfl) ?_
      refine lv_bipush (v := 64) hx hb dX0_restoreByQ_24 (by decide) ?_
      refine lv_icmp_ge (tgt := 50) hx hb dX0_restoreByQ_26 (by decide) (fun c_26 => ?_) (fun c_26 => ?_)
      · exact absurd c_26 (nI_ge (b := 64) (by omega) (by omega))
      · refine lv_aload_n hx hb dX0_restoreByQ_29 rfl (lv_at hl 0 rfl) ?_
        refine lv_iload_n hx hb dX0_restoreByQ_30 rfl (lv_at hl 1 rfl) ?_
        refine lv_iload_n hx hb dX0_restoreByQ_31 rfl (lv_at hl 3 rfl) ?_
        refine lv_aload_n hx hb dX0_restoreByQ_32 rfl (lv_at hl 0 rfl) ?_
        refine lv_iload_n hx hb dX0_restoreByQ_33 rfl (lv_at hl 3 rfl) ?_
        refine tw_rX ⟨hx, hb, hml, hown, hts⟩ hK hP (c_X0_differenceQ l D cA h0 a0 k lo (ty_rq k u F j) j (by omega) hk) (cwV 1 hts gX0_restoreByQ_X0_differenceQ rfl rfl rfl kdX0_differenceQ ⟨Nat.le_of_ble_eq_true rfl, Nat.le_of_ble_eq_true rfl⟩) rfl hl.1 rfl (Nat.le_of_ble_eq_true rfl) dX0_restoreByQ_34 ⟨Nat.zero_le _, Nat.zero_le _⟩ ?_
        refine lv_iload_n hx hb dX0_restoreByQ_37 rfl (lv_at hl 2 rfl) ?_
        refine tw_s ⟨hx, hb, hml, hown, hts⟩ (c_X0_multiplied l (tq_dQ k (tq_col (ty_rq k u F j) j)) (tw_fq k u)) (va_cwS 2 hts gX0_restoreByQ_X0_multiplied rfl rfl rfl kdX0_multiplied ⟨Nat.le_of_ble_eq_true rfl, Nat.le_of_ble_eq_true rfl⟩) rfl hl.1 rfl (Nat.le_of_ble_eq_true rfl) dX0_restoreByQ_38 ⟨Nat.zero_le _, Nat.zero_le _⟩ ?_
        refine tw_wXv ⟨hx, hb, hml, hown, hts⟩ hK hP hD hS hA (c_X0_change l D cA h0 a0 k lo (ty_rq k u F j) _ u j (tq_m (tq_dQ k (tq_col (ty_rq k u F j) j)) (tw_fq k u)) (by omega)) (cwV 3 hts gX0_restoreByQ_X0_change rfl rfl rfl kdX0_change ⟨Nat.le_of_ble_eq_true rfl, Nat.le_of_ble_eq_true rfl⟩) rfl hl.1 rfl (Nat.le_of_ble_eq_true rfl) dX0_restoreByQ_41 ⟨Nat.zero_le _, Nat.zero_le _⟩ (fun H locs hP hD hS => ?_)
        have hP : va_P D vwCl (tw_X cA h0 a0 k lo (ty_rq k u F (j + 1))) H := hP
        have hD : va_D A (tw_X cA h0 a0 k lo (ty_rq k u F (j + 1))) := hD
        refine lv_iinc (v := nI (j + 1)) (lv' := [(3, .int (nI (j + 1))), (0, .ref h0), (1, .int (nI u)), (2, .int (tq_eb (tw_fq k u)))]) hx hb dX0_restoreByQ_44 hl (k := 3) rfl (nI_1 j) (by decide) rfl (fun ls hl => ?_)
        refine lv_goto (tgt := 23) hx hb dX0_restoreByQ_47 (by decide) ?_
        exact ih (j + 1) ls H locs (by omega) hP hD hS (lv_sub hl [1, 2, 3, 0] rfl)
  refine lv_iload_n hx hb dX0_restoreByQ_0 rfl (lv_at hl 1 rfl) ?_
  refine lv_aload_n hx hb dX0_restoreByQ_1 rfl (lv_at hl 0 rfl) ?_
  refine tw_rX ⟨hx, hb, hml, hown, hts⟩ hK hP (c_X0_unitQ l D cA h0 a0 k lo F ) (cwV 0 hts gX0_restoreByQ_X0_unitQ rfl rfl rfl kdX0_unitQ ⟨Nat.le_of_ble_eq_true rfl, Nat.le_of_ble_eq_true rfl⟩) rfl hl.1 rfl (Nat.le_of_ble_eq_true rfl) dX0_restoreByQ_2 ⟨Nat.zero_le _, Nat.zero_le _⟩ ?_
  refine lv_icmp_ne (tgt := 12) hx hb dX0_restoreByQ_5 (by decide) (fun c_5 => ?_) (fun c_5 => ?_)
  · have c_5 : ¬ u = k + 1 := fun q9 => c_5 (by rw [q9])
    refine lv_iconst (v := 1) hx hb dX0_restoreByQ_12 (by decide) ?_
    refine lv_iload_n hx hb dX0_restoreByQ_13 rfl (lv_at hl 1 rfl) ?_
    refine tw_s ⟨hx, hb, hml, hown, hts⟩ (c_X0_timesPower l 1#8 u (by omega)) (va_cwS 2 hts gX0_restoreByQ_X0_timesPower rfl rfl rfl kdX0_timesPower ⟨Nat.le_of_ble_eq_true rfl, Nat.le_of_ble_eq_true rfl⟩) rfl hl.1 rfl (Nat.le_of_ble_eq_true rfl) dX0_restoreByQ_14 ⟨Nat.zero_le _, Nat.zero_le _⟩ ?_
    refine tw_s ⟨hx, hb, hml, hown, hts⟩ (c_X0_inverse l (tq_p u 1#8)) (va_cwS 1 hts gX0_restoreByQ_X0_inverse rfl rfl rfl kdX0_inverse ⟨Nat.le_of_ble_eq_true rfl, Nat.le_of_ble_eq_true rfl⟩) rfl hl.1 rfl (Nat.le_of_ble_eq_true rfl) dX0_restoreByQ_17 ⟨Nat.zero_le _, Nat.zero_le _⟩ ?_
    refine tw_topr (x' := tq_eb (tw_fq k u)) (by first | (rw [tw_fq, if_pos c_5]; rfl) | rw [tw_fq, if_neg c_5]) ?_
    refine lv_istore_n (lv' := [(2, .int (tq_eb (tw_fq k u))), (0, .ref h0), (1, .int (nI u))]) hx hb dX0_restoreByQ_20 rfl hl (by decide) rfl (fun ls hl => ?_)
    refine lv_iconst (v := 0) hx hb dX0_restoreByQ_21 (by decide) ?_
    refine lv_istore_n (lv' := [(3, .int 0), (2, .int (tq_eb (tw_fq k u))), (0, .ref h0), (1, .int (nI u))]) hx hb dX0_restoreByQ_22 rfl hl (by decide) rfl (fun ls hl => ?_)
    exact loop 64 0 ls _ _ (by omega) hP hD hS (lv_sub hl [2, 3, 1, 0] rfl)
  · have c_5 : u = k + 1 := (nI_eq (by omega) (by omega)).mp c_5
    refine lv_iconst (v := 1) hx hb dX0_restoreByQ_8 (by decide) ?_
    refine lv_goto (tgt := 20) hx hb dX0_restoreByQ_9 (by decide) ?_
    refine tw_topr (x' := tq_eb (tw_fq k u)) (by first | (rw [tw_fq, if_pos c_5]; rfl) | rw [tw_fq, if_neg c_5]) ?_
    refine lv_istore_n (lv' := [(2, .int (tq_eb (tw_fq k u))), (0, .ref h0), (1, .int (nI u))]) hx hb dX0_restoreByQ_20 rfl hl (by decide) rfl (fun ls hl => ?_)
    refine lv_iconst (v := 0) hx hb dX0_restoreByQ_21 (by decide) ?_
    refine lv_istore_n (lv' := [(3, .int 0), (2, .int (tq_eb (tw_fq k u))), (0, .ref h0), (1, .int (nI u))]) hx hb dX0_restoreByQ_22 rfl hl (by decide) rfl (fun ls hl => ?_)
    exact loop 64 0 ls _ _ (by omega) hP hD hS (lv_sub hl [2, 3, 1, 0] rfl)
def tw_fd (a b : Nat) : BitVec 8 := tq_i (tq_p a 1#8 ^^^ tq_p b 1#8)
def tw_yd (k a b : Nat) (c : Nat → BitVec 8) : BitVec 8 := tq_m (tq_dQ k c ^^^ tq_p a (tq_dP k c)) (tw_fd a b)
def ty_rd (k a b : Nat) (F : Nat → BitVec 8) : Nat → Nat → BitVec 8
  | 0 => F
  | n + 1 => tw_ch (tw_ch (ty_rd k a b F n) a n (tq_dP k (tq_col (ty_rd k a b F n) n) ^^^ tw_yd k a b (tq_col (ty_rd k a b F n) n))) b n (tw_yd k a b (tq_col (ty_rd k a b F n) n))
abbrev rmX0_restoreDataPair : Room := { frames := 3, cells := 0, slots := 0, locals := 68 }
theorem inX0_restoreDataPair : ∀ w ∈ wsX00, w ∈ wsX0_restoreDataPair := fun _ h => List.mem_cons_of_mem _ (List.mem_append_right _ h)
theorem fX0_restoreDataPair_13 : Cond.fieldLink RX0 13 "TwinParity" "dataUnits" "I" ∈ wsX0_restoreDataPair := List.mem_of_getElem? (i := 18) rfl
theorem fX0_restoreDataPair_9 : Cond.fieldLink RX0 9 "TwinParity" "bytes" "[I" ∈ wsX0_restoreDataPair := List.mem_of_getElem? (i := 27) rfl
theorem kdX0_restoreDataPair : yX0_restoreDataPair.cls = RX0 ∧ yX0_restoreDataPair.cls ≠ "java/lang/invoke/MethodHandle" ∧ yX0_restoreDataPair.cls ≠ "java/lang/invoke/VarHandle" ∧ (parseMethodDescriptor yX0_restoreDataPair.desc).map (fun d => d.parameters.length) = some 2 := by decide +kernel
set_option maxHeartbeats 4000000 in
set_option maxRecDepth 100000 in
theorem c_X0_restoreDataPair (l : Launch) (D : va_G) (cA : ClassId) (h0 a0 k : Nat) (lo : Int32) (F : Nat → BitVec 8) (sz : Nat) (a b : Nat) (ha : a < k) (hb9 : b < k) (hk : k ≤ 14) : Met l yX0_restoreDataPair wsX0_restoreDataPair rmX0_restoreDataPair (va_Pc [.ref h0, .int (nI a), .int (nI b)] (tw_Pw D (tw_X cA h0 a0 k lo F) (tw_tX cA) sz)) (va_Qv (fun _ : Unit => True) (tw_Qw D (fun _ : Unit => (tw_X cA h0 a0 k lo (ty_rd k a b F 64))) (tw_tX cA) (va_A (tw_X cA h0 a0 k lo F) sz)) (va_A (tw_X cA h0 a0 k lo F) sz)) 0 0 (va_A (tw_X cA h0 a0 k lo F) sz) := by
  refine tw_metV (by decide) rfl rfl (Nat.le_of_ble_eq_true rfl) ?_
  intro p e s m args below meth c Q ls A hx hb hml hown hts hP hK hD hS hA hend hl
  have hown : s.vm.findClass RX0 = some m.cls := hown
  have hl : lv_has ls 7 [(0, .ref h0), (1, .int (nI a)), (2, .int (nI b))] := hl
  have loop : ∀ (n j : Nat) (ls : Array Slot) (H : Heap) (locs : List Loc), j + n = 64 → va_P D vwCl (tw_X cA h0 a0 k lo (ty_rd k a b F j)) H → va_D A (tw_X cA h0 a0 k lo (ty_rd k a b F j)) → va_S A s.heap H locs → lv_has ls 7 [(0, .ref h0), (1, .int (nI a)), (2, .int (nI b)), (3, .int (tq_eb (tw_fd a b))), (4, .int (nI j))] → W p l e rmX0_restoreDataPair s m args below meth c H locs 0 0 Q (F0 m 18 ls []) := by
    intro n
    induction n with
    | zero =>
      intro j ls H locs hj hP hD hS hl
      refine lv_iload hx hb dX0_restoreDataPair_18 (lv_at hl 4 rfl) ?_
      refine lv_bipush (v := 64) hx hb dX0_restoreDataPair_20 (by decide) ?_
      refine lv_icmp_ge (tgt := 79) hx hb dX0_restoreDataPair_22 (by decide) (fun c_22 => ?_) (fun c_22 => ?_)
      · rw [show j = 64 by omega] at hP hD
        exact hend _ _ _ _ dX0_restoreDataPair_79 hP hD hS
      · exact absurd (nI_le (a := 64) (by omega) (by omega)) c_22
    | succ n ih =>
      intro j ls H locs hj hP hD hS hl
      refine lv_iload hx hb dX0_restoreDataPair_18 (lv_at hl 4 rfl) ?_
      refine lv_bipush (v := 64) hx hb dX0_restoreDataPair_20 (by decide) ?_
      refine lv_icmp_ge (tgt := 79) hx hb dX0_restoreDataPair_22 (by decide) (fun c_22 => ?_) (fun c_22 => ?_)
      · exact absurd c_22 (nI_ge (b := 64) (by omega) (by omega))
      · refine lv_aload_n hx hb dX0_restoreDataPair_25 rfl (lv_at hl 0 rfl) ?_
        refine lv_iload hx hb dX0_restoreDataPair_26 (lv_at hl 4 rfl) ?_
        refine tw_rX ⟨hx, hb, hml, hown, hts⟩ hK hP (c_X0_differenceP l D cA h0 a0 k lo (ty_rd k a b F j) j (by omega) hk) (cwV 1 hts gX0_restoreDataPair_X0_differenceP rfl rfl rfl kdX0_differenceP ⟨Nat.le_of_ble_eq_true rfl, Nat.le_of_ble_eq_true rfl⟩) rfl hl.1 rfl (Nat.le_of_ble_eq_true rfl) dX0_restoreDataPair_28 ⟨Nat.zero_le _, Nat.zero_le _⟩ ?_
        refine lv_istore (lv' := [(5, .int (tq_eb (tq_dP k (tq_col (ty_rd k a b F j) j)))), (0, .ref h0), (1, .int (nI a)), (2, .int (nI b)), (3, .int (tq_eb (tw_fd a b))), (4, .int (nI j))]) hx hb dX0_restoreDataPair_31 hl (by decide) rfl (fun ls hl => ?_)
        refine lv_aload_n hx hb dX0_restoreDataPair_33 rfl (lv_at hl 1 rfl) ?_
        refine lv_iload hx hb dX0_restoreDataPair_34 (lv_at hl 5 rfl) ?_
        refine tw_rX ⟨hx, hb, hml, hown, hts⟩ hK hP (c_X0_differenceQ l D cA h0 a0 k lo (ty_rd k a b F j) j (by omega) hk) (cwV 1 hts gX0_restoreDataPair_X0_differenceQ rfl rfl rfl kdX0_differenceQ ⟨Nat.le_of_ble_eq_true rfl, Nat.le_of_ble_eq_true rfl⟩) rfl hl.1 rfl (Nat.le_of_ble_eq_true rfl) dX0_restoreDataPair_36 ⟨Nat.zero_le _, Nat.zero_le _⟩ ?_
        refine lv_iload hx hb dX0_restoreDataPair_39 (lv_at hl 0 rfl) ?_
        refine lv_iload_n hx hb dX0_restoreDataPair_41 rfl (lv_at hl 2 rfl) ?_
        refine tw_s ⟨hx, hb, hml, hown, hts⟩ (c_X0_timesPower l (tq_dP k (tq_col (ty_rd k a b F j) j)) a (by omega)) (va_cwS 2 hts gX0_restoreDataPair_X0_timesPower rfl rfl rfl kdX0_timesPower ⟨Nat.le_of_ble_eq_true rfl, Nat.le_of_ble_eq_true rfl⟩) rfl hl.1 rfl (Nat.le_of_ble_eq_true rfl) dX0_restoreDataPair_42 ⟨Nat.zero_le _, Nat.zero_le _⟩ ?_
        refine lv_ixor hx hb dX0_restoreDataPair_45 ?_
        refine tw_topr (x' := tq_eb (tq_dQ k (tq_col (ty_rd k a b F j) j) ^^^ tq_p a (tq_dP k (tq_col (ty_rd k a b F j) j)))) (tq_eb_xor _ _) ?_
        refine lv_iload_n hx hb dX0_restoreDataPair_46 rfl (lv_at hl 4 rfl) ?_
        refine tw_s ⟨hx, hb, hml, hown, hts⟩ (c_X0_multiplied l (tq_dQ k (tq_col (ty_rd k a b F j) j) ^^^ tq_p a (tq_dP k (tq_col (ty_rd k a b F j) j))) (tw_fd a b)) (va_cwS 2 hts gX0_restoreDataPair_X0_multiplied rfl rfl rfl kdX0_multiplied ⟨Nat.le_of_ble_eq_true rfl, Nat.le_of_ble_eq_true rfl⟩) rfl hl.1 rfl (Nat.le_of_ble_eq_true rfl) dX0_restoreDataPair_47 ⟨Nat.zero_le _, Nat.zero_le _⟩ ?_
        refine lv_istore (lv' := [(6, .int (tq_eb (tw_yd k a b (tq_col (ty_rd k a b F j) j)))), (5, .int (tq_eb (tq_dP k (tq_col (ty_rd k a b F j) j)))), (0, .ref h0), (1, .int (nI a)), (2, .int (nI b)), (3, .int (tq_eb (tw_fd a b))), (4, .int (nI j))]) hx hb dX0_restoreDataPair_50 hl (by decide) rfl (fun ls hl => ?_)
        refine lv_aload_n hx hb dX0_restoreDataPair_52 rfl (lv_at hl 2 rfl) ?_
        refine lv_iload_n hx hb dX0_restoreDataPair_53 rfl (lv_at hl 3 rfl) ?_
        refine lv_iload hx hb dX0_restoreDataPair_54 (lv_at hl 6 rfl) ?_
        refine lv_iload hx hb dX0_restoreDataPair_56 (lv_at hl 1 rfl) ?_
        refine lv_iload hx hb dX0_restoreDataPair_58 (lv_at hl 0 rfl) ?_
        refine lv_ixor hx hb dX0_restoreDataPair_60 ?_
        refine tw_topr (x' := tq_eb (tq_dP k (tq_col (ty_rd k a b F j) j) ^^^ tw_yd k a b (tq_col (ty_rd k a b F j) j))) (tq_eb_xor _ _) ?_
        refine tw_wXv ⟨hx, hb, hml, hown, hts⟩ hK hP hD hS hA (c_X0_change l D cA h0 a0 k lo (ty_rd k a b F j) _ a j (tq_dP k (tq_col (ty_rd k a b F j) j) ^^^ tw_yd k a b (tq_col (ty_rd k a b F j) j)) (by omega)) (cwV 3 hts gX0_restoreDataPair_X0_change rfl rfl rfl kdX0_change ⟨Nat.le_of_ble_eq_true rfl, Nat.le_of_ble_eq_true rfl⟩) rfl hl.1 rfl (Nat.le_of_ble_eq_true rfl) dX0_restoreDataPair_61 ⟨Nat.zero_le _, Nat.zero_le _⟩ (fun H locs hP hD hS => ?_)
        have hP : va_P D vwCl (tw_X cA h0 a0 k lo (tw_ch (ty_rd k a b F j) a j (tq_dP k (tq_col (ty_rd k a b F j) j) ^^^ tw_yd k a b (tq_col (ty_rd k a b F j) j)))) H := hP
        have hD : va_D A (tw_X cA h0 a0 k lo (tw_ch (ty_rd k a b F j) a j (tq_dP k (tq_col (ty_rd k a b F j) j) ^^^ tw_yd k a b (tq_col (ty_rd k a b F j) j)))) := hD
        refine lv_aload_n hx hb dX0_restoreDataPair_64 rfl (lv_at hl 2 rfl) ?_
        refine lv_iload_n hx hb dX0_restoreDataPair_65 rfl (lv_at hl 4 rfl) ?_
        refine lv_iload hx hb dX0_restoreDataPair_66 (lv_at hl 6 rfl) ?_
        refine lv_iload hx hb dX0_restoreDataPair_68 (lv_at hl 0 rfl) ?_
        refine tw_wXv ⟨hx, hb, hml, hown, hts⟩ hK hP hD hS hA (c_X0_change l D cA h0 a0 k lo (tw_ch (ty_rd k a b F j) a j (tq_dP k (tq_col (ty_rd k a b F j) j) ^^^ tw_yd k a b (tq_col (ty_rd k a b F j) j))) _ b j (tw_yd k a b (tq_col (ty_rd k a b F j) j)) (by omega)) (cwV 3 hts gX0_restoreDataPair_X0_change rfl rfl rfl kdX0_change ⟨Nat.le_of_ble_eq_true rfl, Nat.le_of_ble_eq_true rfl⟩) rfl hl.1 rfl (Nat.le_of_ble_eq_true rfl) dX0_restoreDataPair_70 ⟨Nat.zero_le _, Nat.zero_le _⟩ (fun H locs hP hD hS => ?_)
        have hP : va_P D vwCl (tw_X cA h0 a0 k lo (ty_rd k a b F (j + 1))) H := hP
        have hD : va_D A (tw_X cA h0 a0 k lo (ty_rd k a b F (j + 1))) := hD
        refine lv_iinc (v := nI (j + 1)) (lv' := [(4, .int (nI (j + 1))), (6, .int (tq_eb (tw_yd k a b (tq_col (ty_rd k a b F j) j)))), (5, .int (tq_eb (tq_dP k (tq_col (ty_rd k a b F j) j)))), (0, .ref h0), (1, .int (nI a)), (2, .int (nI b)), (3, .int (tq_eb (tw_fd a b)))]) hx hb dX0_restoreDataPair_73 hl (k := 6) rfl (nI_1 j) (by decide) rfl (fun ls hl => ?_)
        refine lv_goto (tgt := 18) hx hb dX0_restoreDataPair_76 (by decide) ?_
        exact ih (j + 1) ls H locs (by omega) hP hD hS (lv_sub hl [3, 4, 5, 6, 0] rfl)
  refine lv_iconst (v := 1) hx hb dX0_restoreDataPair_0 (by decide) ?_
  refine lv_iload_n hx hb dX0_restoreDataPair_1 rfl (lv_at hl 1 rfl) ?_
  refine tw_s ⟨hx, hb, hml, hown, hts⟩ (c_X0_timesPower l 1#8 a (by omega)) (va_cwS 2 hts gX0_restoreDataPair_X0_timesPower rfl rfl rfl kdX0_timesPower ⟨Nat.le_of_ble_eq_true rfl, Nat.le_of_ble_eq_true rfl⟩) rfl hl.1 rfl (Nat.le_of_ble_eq_true rfl) dX0_restoreDataPair_2 ⟨Nat.zero_le _, Nat.zero_le _⟩ ?_
  refine lv_iconst (v := 1) hx hb dX0_restoreDataPair_5 (by decide) ?_
  refine lv_iload_n hx hb dX0_restoreDataPair_6 rfl (lv_at hl 2 rfl) ?_
  refine tw_s ⟨hx, hb, hml, hown, hts⟩ (c_X0_timesPower l 1#8 b (by omega)) (va_cwS 2 hts gX0_restoreDataPair_X0_timesPower rfl rfl rfl kdX0_timesPower ⟨Nat.le_of_ble_eq_true rfl, Nat.le_of_ble_eq_true rfl⟩) rfl hl.1 rfl (Nat.le_of_ble_eq_true rfl) dX0_restoreDataPair_7 ⟨Nat.zero_le _, Nat.zero_le _⟩ ?_
  refine lv_ixor hx hb dX0_restoreDataPair_10 ?_
  refine tw_topr (x' := tq_eb (tq_p a 1#8 ^^^ tq_p b 1#8)) (tq_eb_xor _ _) ?_
  refine tw_s ⟨hx, hb, hml, hown, hts⟩ (c_X0_inverse l (tq_p a 1#8 ^^^ tq_p b 1#8)) (va_cwS 1 hts gX0_restoreDataPair_X0_inverse rfl rfl rfl kdX0_inverse ⟨Nat.le_of_ble_eq_true rfl, Nat.le_of_ble_eq_true rfl⟩) rfl hl.1 rfl (Nat.le_of_ble_eq_true rfl) dX0_restoreDataPair_11 ⟨Nat.zero_le _, Nat.zero_le _⟩ ?_
  refine lv_istore_n (lv' := [(3, .int (tq_eb (tw_fd a b))), (0, .ref h0), (1, .int (nI a)), (2, .int (nI b))]) hx hb dX0_restoreDataPair_14 rfl hl (by decide) rfl (fun ls hl => ?_)
  refine lv_iconst (v := 0) hx hb dX0_restoreDataPair_15 (by decide) ?_
  refine lv_istore (lv' := [(4, .int 0), (3, .int (tq_eb (tw_fd a b))), (0, .ref h0), (1, .int (nI a)), (2, .int (nI b))]) hx hb dX0_restoreDataPair_16 hl (by decide) rfl (fun ls hl => ?_)
  exact loop 64 0 ls _ _ (by omega) hP hD hS (lv_sub hl [2, 3, 4, 1, 0] rfl)
def ty_ro (k u : Nat) (F : Nat → BitVec 8) : Nat → BitVec 8 := if u = k + 1 then ty_rq k u F 64 else ty_rp k u F 64
def ty_rt (k a b : Nat) (F : Nat → BitVec 8) : Nat → BitVec 8 := if b = k + 1 then ty_rq k b (ty_rp k a F 64) 64 else if b = k then ty_rp k b (ty_rq k a F 64) 64 else ty_rd k a b F 64
abbrev rmX0_restoreOne : Room := { frames := 4, cells := 0, slots := 0, locals := 91 }
theorem inX0_restoreOne : ∀ w ∈ wsX00, w ∈ wsX0_restoreOne := fun _ h => List.mem_cons_of_mem _ (List.mem_append_right _ h)
theorem fX0_restoreOne_13 : Cond.fieldLink RX0 13 "TwinParity" "dataUnits" "I" ∈ wsX0_restoreOne := List.mem_of_getElem? (i := 6) rfl
theorem fX0_restoreOne_9 : Cond.fieldLink RX0 9 "TwinParity" "bytes" "[I" ∈ wsX0_restoreOne := List.mem_of_getElem? (i := 31) rfl
theorem kdX0_restoreOne : yX0_restoreOne.cls = RX0 ∧ yX0_restoreOne.cls ≠ "java/lang/invoke/MethodHandle" ∧ yX0_restoreOne.cls ≠ "java/lang/invoke/VarHandle" ∧ (parseMethodDescriptor yX0_restoreOne.desc).map (fun d => d.parameters.length) = some 1 := by decide +kernel
set_option maxHeartbeats 4000000 in
set_option maxRecDepth 100000 in
theorem c_X0_restoreOne (l : Launch) (D : va_G) (cA : ClassId) (h0 a0 k : Nat) (lo : Int32) (F : Nat → BitVec 8) (sz : Nat) (u : Nat) (hu : u ≤ k + 1) (hk : k ≤ 14) : Met l yX0_restoreOne wsX0_restoreOne rmX0_restoreOne (va_Pc [.ref h0, .int (nI u)] (tw_Pw D (tw_X cA h0 a0 k lo F) (tw_tX cA) sz)) (va_Qv (fun _ : Unit => True) (tw_Qw D (fun _ : Unit => (tw_X cA h0 a0 k lo (ty_ro k u F))) (tw_tX cA) (va_A (tw_X cA h0 a0 k lo F) sz)) (va_A (tw_X cA h0 a0 k lo F) sz)) 0 0 (va_A (tw_X cA h0 a0 k lo F) sz) := by
  refine tw_metV (by decide) rfl rfl (Nat.le_of_ble_eq_true rfl) ?_
  intro p e s m args below meth c Q ls A hx hb hml hown hts hP hK hD hS hA hend hl
  have hown : s.vm.findClass RX0 = some m.cls := hown
  have hl : lv_has ls 2 [(0, .ref h0), (1, .int (nI u))] := hl
  refine lv_iload_n hx hb dX0_restoreOne_0 rfl (lv_at hl 1 rfl) ?_
  refine lv_aload_n hx hb dX0_restoreOne_1 rfl (lv_at hl 0 rfl) ?_
  refine tw_rX ⟨hx, hb, hml, hown, hts⟩ hK hP (c_X0_unitQ l D cA h0 a0 k lo F ) (cwV 0 hts gX0_restoreOne_X0_unitQ rfl rfl rfl kdX0_unitQ ⟨Nat.le_of_ble_eq_true rfl, Nat.le_of_ble_eq_true rfl⟩) rfl hl.1 rfl (Nat.le_of_ble_eq_true rfl) dX0_restoreOne_2 ⟨Nat.zero_le _, Nat.zero_le _⟩ ?_
  refine lv_icmp_ne (tgt := 16) hx hb dX0_restoreOne_5 (by decide) (fun c_5 => ?_) (fun c_5 => ?_)
  · have c_5 : ¬ u = k + 1 := fun q9 => c_5 (by rw [q9])
    refine lv_aload_n hx hb dX0_restoreOne_16 rfl (lv_at hl 0 rfl) ?_
    refine lv_iload_n hx hb dX0_restoreOne_17 rfl (lv_at hl 1 rfl) ?_
    refine tw_wXv ⟨hx, hb, hml, hown, hts⟩ hK hP hD hS hA (c_X0_restoreByP l D cA h0 a0 k lo F _ u hu hk) (cwV 1 hts gX0_restoreOne_X0_restoreByP rfl rfl rfl kdX0_restoreByP ⟨Nat.le_of_ble_eq_true rfl, Nat.le_of_ble_eq_true rfl⟩) rfl hl.1 rfl (Nat.le_of_ble_eq_true rfl) dX0_restoreOne_18 ⟨Nat.zero_le _, Nat.zero_le _⟩ (fun H locs hP hD hS => ?_)
    have hP : va_P D vwCl (tw_X cA h0 a0 k lo (ty_rp k u F 64)) H := hP
    have hD : va_D A (tw_X cA h0 a0 k lo (ty_rp k u F 64)) := hD
    have e9 : ty_rp k u F 64 = ty_ro k u F := by first | (rw [ty_ro, if_pos c_5]; done) | (rw [ty_ro, if_neg c_5]; done) | (rw [ty_ro, if_neg c_5, if_pos c_26]; done) | (rw [ty_ro, if_neg c_5, if_neg c_26]; done)
    rw [e9] at hP hD
    exact hend _ _ _ _ dX0_restoreOne_21 hP hD hS
  · have c_5 : u = k + 1 := (nI_eq (by omega) (by omega)).mp c_5
    refine lv_aload_n hx hb dX0_restoreOne_8 rfl (lv_at hl 0 rfl) ?_
    refine lv_iload_n hx hb dX0_restoreOne_9 rfl (lv_at hl 1 rfl) ?_
    refine tw_wXv ⟨hx, hb, hml, hown, hts⟩ hK hP hD hS hA (c_X0_restoreByQ l D cA h0 a0 k lo F _ u hu hk) (cwV 1 hts gX0_restoreOne_X0_restoreByQ rfl rfl rfl kdX0_restoreByQ ⟨Nat.le_of_ble_eq_true rfl, Nat.le_of_ble_eq_true rfl⟩) rfl hl.1 rfl (Nat.le_of_ble_eq_true rfl) dX0_restoreOne_10 ⟨Nat.zero_le _, Nat.zero_le _⟩ (fun H locs hP hD hS => ?_)
    have hP : va_P D vwCl (tw_X cA h0 a0 k lo (ty_rq k u F 64)) H := hP
    have hD : va_D A (tw_X cA h0 a0 k lo (ty_rq k u F 64)) := hD
    refine lv_goto (tgt := 21) hx hb dX0_restoreOne_13 (by decide) ?_
    have e9 : ty_rq k u F 64 = ty_ro k u F := by first | (rw [ty_ro, if_pos c_5]; done) | (rw [ty_ro, if_neg c_5]; done) | (rw [ty_ro, if_neg c_5, if_pos c_26]; done) | (rw [ty_ro, if_neg c_5, if_neg c_26]; done)
    rw [e9] at hP hD
    exact hend _ _ _ _ dX0_restoreOne_21 hP hD hS
abbrev rmX0_restoreTwo : Room := { frames := 4, cells := 0, slots := 0, locals := 94 }
theorem inX0_restoreTwo : ∀ w ∈ wsX00, w ∈ wsX0_restoreTwo := fun _ h => List.mem_cons_of_mem _ (List.mem_append_right _ h)
theorem fX0_restoreTwo_13 : Cond.fieldLink RX0 13 "TwinParity" "dataUnits" "I" ∈ wsX0_restoreTwo := List.mem_of_getElem? (i := 6) rfl
theorem fX0_restoreTwo_9 : Cond.fieldLink RX0 9 "TwinParity" "bytes" "[I" ∈ wsX0_restoreTwo := List.mem_of_getElem? (i := 23) rfl
theorem kdX0_restoreTwo : yX0_restoreTwo.cls = RX0 ∧ yX0_restoreTwo.cls ≠ "java/lang/invoke/MethodHandle" ∧ yX0_restoreTwo.cls ≠ "java/lang/invoke/VarHandle" ∧ (parseMethodDescriptor yX0_restoreTwo.desc).map (fun d => d.parameters.length) = some 2 := by decide +kernel
set_option maxHeartbeats 4000000 in
set_option maxRecDepth 100000 in
theorem c_X0_restoreTwo (l : Launch) (D : va_G) (cA : ClassId) (h0 a0 k : Nat) (lo : Int32) (F : Nat → BitVec 8) (sz : Nat) (a b : Nat) (hab : a < b) (hb9 : b ≤ k + 1) (hk : k ≤ 14) : Met l yX0_restoreTwo wsX0_restoreTwo rmX0_restoreTwo (va_Pc [.ref h0, .int (nI a), .int (nI b)] (tw_Pw D (tw_X cA h0 a0 k lo F) (tw_tX cA) sz)) (va_Qv (fun _ : Unit => True) (tw_Qw D (fun _ : Unit => (tw_X cA h0 a0 k lo (ty_rt k a b F))) (tw_tX cA) (va_A (tw_X cA h0 a0 k lo F) sz)) (va_A (tw_X cA h0 a0 k lo F) sz)) 0 0 (va_A (tw_X cA h0 a0 k lo F) sz) := by
  refine tw_metV (by decide) rfl rfl (Nat.le_of_ble_eq_true rfl) ?_
  intro p e s m args below meth c Q ls A hx hb hml hown hts hP hK hD hS hA hend hl
  have hown : s.vm.findClass RX0 = some m.cls := hown
  have hl : lv_has ls 3 [(0, .ref h0), (1, .int (nI a)), (2, .int (nI b))] := hl
  refine lv_iload_n hx hb dX0_restoreTwo_0 rfl (lv_at hl 2 rfl) ?_
  refine lv_aload_n hx hb dX0_restoreTwo_1 rfl (lv_at hl 0 rfl) ?_
  refine tw_rX ⟨hx, hb, hml, hown, hts⟩ hK hP (c_X0_unitQ l D cA h0 a0 k lo F ) (cwV 0 hts gX0_restoreTwo_X0_unitQ rfl rfl rfl kdX0_unitQ ⟨Nat.le_of_ble_eq_true rfl, Nat.le_of_ble_eq_true rfl⟩) rfl hl.1 rfl (Nat.le_of_ble_eq_true rfl) dX0_restoreTwo_2 ⟨Nat.zero_le _, Nat.zero_le _⟩ ?_
  refine lv_icmp_ne (tgt := 21) hx hb dX0_restoreTwo_5 (by decide) (fun c_5 => ?_) (fun c_5 => ?_)
  · have c_5 : ¬ b = k + 1 := fun q9 => c_5 (by rw [q9])
    refine lv_iload_n hx hb dX0_restoreTwo_21 rfl (lv_at hl 2 rfl) ?_
    refine lv_aload_n hx hb dX0_restoreTwo_22 rfl (lv_at hl 0 rfl) ?_
    refine tw_rX ⟨hx, hb, hml, hown, hts⟩ hK hP (c_X0_unitP l D cA h0 a0 k lo F ) (cwV 0 hts gX0_restoreTwo_X0_unitP rfl rfl rfl kdX0_unitP ⟨Nat.le_of_ble_eq_true rfl, Nat.le_of_ble_eq_true rfl⟩) rfl hl.1 rfl (Nat.le_of_ble_eq_true rfl) dX0_restoreTwo_23 ⟨Nat.zero_le _, Nat.zero_le _⟩ ?_
    refine lv_icmp_ne (tgt := 42) hx hb dX0_restoreTwo_26 (by decide) (fun c_26 => ?_) (fun c_26 => ?_)
    · have c_26 : ¬ b = k := fun q9 => c_26 (by rw [q9])
      refine lv_aload_n hx hb dX0_restoreTwo_42 rfl (lv_at hl 0 rfl) ?_
      refine lv_iload_n hx hb dX0_restoreTwo_43 rfl (lv_at hl 1 rfl) ?_
      refine lv_iload_n hx hb dX0_restoreTwo_44 rfl (lv_at hl 2 rfl) ?_
      refine tw_wXv ⟨hx, hb, hml, hown, hts⟩ hK hP hD hS hA (c_X0_restoreDataPair l D cA h0 a0 k lo F _ a b (by omega) (by omega) hk) (cwV 2 hts gX0_restoreTwo_X0_restoreDataPair rfl rfl rfl kdX0_restoreDataPair ⟨Nat.le_of_ble_eq_true rfl, Nat.le_of_ble_eq_true rfl⟩) rfl hl.1 rfl (Nat.le_of_ble_eq_true rfl) dX0_restoreTwo_45 ⟨Nat.zero_le _, Nat.zero_le _⟩ (fun H locs hP hD hS => ?_)
      have hP : va_P D vwCl (tw_X cA h0 a0 k lo (ty_rd k a b F 64)) H := hP
      have hD : va_D A (tw_X cA h0 a0 k lo (ty_rd k a b F 64)) := hD
      have e9 : ty_rd k a b F 64 = ty_rt k a b F := by first | (rw [ty_rt, if_pos c_5]; done) | (rw [ty_rt, if_neg c_5]; done) | (rw [ty_rt, if_neg c_5, if_pos c_26]; done) | (rw [ty_rt, if_neg c_5, if_neg c_26]; done)
      rw [e9] at hP hD
      exact hend _ _ _ _ dX0_restoreTwo_48 hP hD hS
    · have c_26 : b = k := (nI_eq (by omega) (by omega)).mp c_26
      refine lv_aload_n hx hb dX0_restoreTwo_29 rfl (lv_at hl 0 rfl) ?_
      refine lv_iload_n hx hb dX0_restoreTwo_30 rfl (lv_at hl 1 rfl) ?_
      refine tw_wXv ⟨hx, hb, hml, hown, hts⟩ hK hP hD hS hA (c_X0_restoreByQ l D cA h0 a0 k lo F _ a (by omega) hk) (cwV 1 hts gX0_restoreTwo_X0_restoreByQ rfl rfl rfl kdX0_restoreByQ ⟨Nat.le_of_ble_eq_true rfl, Nat.le_of_ble_eq_true rfl⟩) rfl hl.1 rfl (Nat.le_of_ble_eq_true rfl) dX0_restoreTwo_31 ⟨Nat.zero_le _, Nat.zero_le _⟩ (fun H locs hP hD hS => ?_)
      have hP : va_P D vwCl (tw_X cA h0 a0 k lo (ty_rq k a F 64)) H := hP
      have hD : va_D A (tw_X cA h0 a0 k lo (ty_rq k a F 64)) := hD
      refine lv_aload_n hx hb dX0_restoreTwo_34 rfl (lv_at hl 0 rfl) ?_
      refine lv_iload_n hx hb dX0_restoreTwo_35 rfl (lv_at hl 2 rfl) ?_
      refine tw_wXv ⟨hx, hb, hml, hown, hts⟩ hK hP hD hS hA (c_X0_restoreByP l D cA h0 a0 k lo (ty_rq k a F 64) _ b (by omega) hk) (cwV 1 hts gX0_restoreTwo_X0_restoreByP rfl rfl rfl kdX0_restoreByP ⟨Nat.le_of_ble_eq_true rfl, Nat.le_of_ble_eq_true rfl⟩) rfl hl.1 rfl (Nat.le_of_ble_eq_true rfl) dX0_restoreTwo_36 ⟨Nat.zero_le _, Nat.zero_le _⟩ (fun H locs hP hD hS => ?_)
      have hP : va_P D vwCl (tw_X cA h0 a0 k lo (ty_rp k b (ty_rq k a F 64) 64)) H := hP
      have hD : va_D A (tw_X cA h0 a0 k lo (ty_rp k b (ty_rq k a F 64) 64)) := hD
      refine lv_goto (tgt := 48) hx hb dX0_restoreTwo_39 (by decide) ?_
      have e9 : ty_rp k b (ty_rq k a F 64) 64 = ty_rt k a b F := by first | (rw [ty_rt, if_pos c_5]; done) | (rw [ty_rt, if_neg c_5]; done) | (rw [ty_rt, if_neg c_5, if_pos c_26]; done) | (rw [ty_rt, if_neg c_5, if_neg c_26]; done)
      rw [e9] at hP hD
      exact hend _ _ _ _ dX0_restoreTwo_48 hP hD hS
  · have c_5 : b = k + 1 := (nI_eq (by omega) (by omega)).mp c_5
    refine lv_aload_n hx hb dX0_restoreTwo_8 rfl (lv_at hl 0 rfl) ?_
    refine lv_iload_n hx hb dX0_restoreTwo_9 rfl (lv_at hl 1 rfl) ?_
    refine tw_wXv ⟨hx, hb, hml, hown, hts⟩ hK hP hD hS hA (c_X0_restoreByP l D cA h0 a0 k lo F _ a (by omega) hk) (cwV 1 hts gX0_restoreTwo_X0_restoreByP rfl rfl rfl kdX0_restoreByP ⟨Nat.le_of_ble_eq_true rfl, Nat.le_of_ble_eq_true rfl⟩) rfl hl.1 rfl (Nat.le_of_ble_eq_true rfl) dX0_restoreTwo_10 ⟨Nat.zero_le _, Nat.zero_le _⟩ (fun H locs hP hD hS => ?_)
    have hP : va_P D vwCl (tw_X cA h0 a0 k lo (ty_rp k a F 64)) H := hP
    have hD : va_D A (tw_X cA h0 a0 k lo (ty_rp k a F 64)) := hD
    refine lv_aload_n hx hb dX0_restoreTwo_13 rfl (lv_at hl 0 rfl) ?_
    refine lv_iload_n hx hb dX0_restoreTwo_14 rfl (lv_at hl 2 rfl) ?_
    refine tw_wXv ⟨hx, hb, hml, hown, hts⟩ hK hP hD hS hA (c_X0_restoreByQ l D cA h0 a0 k lo (ty_rp k a F 64) _ b (by omega) hk) (cwV 1 hts gX0_restoreTwo_X0_restoreByQ rfl rfl rfl kdX0_restoreByQ ⟨Nat.le_of_ble_eq_true rfl, Nat.le_of_ble_eq_true rfl⟩) rfl hl.1 rfl (Nat.le_of_ble_eq_true rfl) dX0_restoreTwo_15 ⟨Nat.zero_le _, Nat.zero_le _⟩ (fun H locs hP hD hS => ?_)
    have hP : va_P D vwCl (tw_X cA h0 a0 k lo (ty_rq k b (ty_rp k a F 64) 64)) H := hP
    have hD : va_D A (tw_X cA h0 a0 k lo (ty_rq k b (ty_rp k a F 64) 64)) := hD
    refine lv_goto (tgt := 48) hx hb dX0_restoreTwo_18 (by decide) ?_
    have e9 : ty_rq k b (ty_rp k a F 64) 64 = ty_rt k a b F := by first | (rw [ty_rt, if_pos c_5]; done) | (rw [ty_rt, if_neg c_5]; done) | (rw [ty_rt, if_neg c_5, if_pos c_26]; done) | (rw [ty_rt, if_neg c_5, if_neg c_26]; done)
    rw [e9] at hP hD
    exact hend _ _ _ _ dX0_restoreTwo_48 hP hD hS
end
section
theorem wb_tb (n : Nat) : (lN n).toBitVec = BitVec.ofNat 64 n := rfl
theorem wb_inj {a b : Int64} (h : a.toBitVec = b.toBitVec) : a = b := Int64.toBitVec_inj.mp h
theorem wb_tn {n : Nat} (h : n < 2 ^ 64) : (lN n).toBitVec.toNat = n := by rw [wb_tb, BitVec.toNat_ofNat, Nat.mod_eq_of_lt h]
theorem wb_of (x : Int64) : ∃ n, n < 2 ^ 64 ∧ x = lN n := ⟨x.toBitVec.toNat, x.toBitVec.isLt, wb_inj (by rw [wb_tb]; simp)⟩
theorem wb_of32 (x : Int32) : ∃ n, n < 2 ^ 32 ∧ x = nI n := ⟨x.toBitVec.toNat, x.toBitVec.isLt, Int32.toBitVec_inj.mp (by show _ = BitVec.ofNat 32 _; simp)⟩
theorem wb_c : ∀ k, k < 64 → ((nI k).toInt64 &&& 63) = lN k := by decide +kernel
theorem wb_cu : ∀ k, k < 64 → ((nI k).toInt64.toUInt64 &&& Int64.toUInt64 63) = UInt64.ofNat k := by decide +kernel
theorem wb_sm : ∀ k, k < 64 → (BitVec.ofNat 64 k).smod 64 = BitVec.ofNat 64 k := by decide +kernel
theorem wb_pw {a b : Nat} (h : a ≤ b) : 2 ^ b = 2 ^ a * 2 ^ (b - a) := by rw [← Nat.pow_add]; congr 1; omega
theorem wb_lt2 {a b : Nat} (h : a < b) : 2 ^ a < 2 ^ b := Nat.pow_lt_pow_right (by decide) h
theorem wb_mod (n : Nat) : lN n = lN (n % 2 ^ 64) := wb_inj (by rw [wb_tb, wb_tb]; apply BitVec.eq_of_toNat_eq; rw [BitVec.toNat_ofNat, BitVec.toNat_ofNat, Nat.mod_mod])
theorem wb_shr {n k : Nat} (hn : n < 2 ^ 64) (hk : k < 64) : ((lN n).toUInt64 >>> ((nI k).toInt64.toUInt64 &&& Int64.toUInt64 63)).toInt64 = lN (n / 2 ^ k) := by
  rw [wb_cu k hk]
  apply wb_inj
  apply BitVec.eq_of_toNat_eq
  show ((lN n).toUInt64 >>> UInt64.ofNat k).toNat = (BitVec.ofNat 64 _).toNat
  have h1 : (UInt64.ofNat k).toNat = k := by
    show (BitVec.ofNat 64 k).toNat = k
    rw [BitVec.toNat_ofNat, Nat.mod_eq_of_lt (by omega)]
  have h2 : (lN n).toUInt64.toNat = n := wb_tn hn
  rw [UInt64.toNat_shiftRight, h1, h2, Nat.mod_eq_of_lt hk, Nat.shiftRight_eq_div_pow, BitVec.toNat_ofNat, Nat.mod_eq_of_lt (Nat.lt_of_le_of_lt (Nat.div_le_self _ _) hn)]
/-! ===== bytes of a long, and the seed's bytes ===== -/
def tw_by (v : Int64) (j : Nat) : BitVec 8 := BitVec.ofNat 8 (v.toBitVec.toNat / 2 ^ (8 * j))
def tw_b16 (x : Int32) : BitVec 8 := BitVec.ofNat 8 (x.toBitVec.toNat / 2 ^ 16)
theorem tw_by_x (v : Int64) (j : Nat) (hj : j < 8) : Int64.toInt32 (v.toUInt64 >>> ((Int32.toInt64 (8 * nI j)).toUInt64 &&& Int64.toUInt64 63)).toInt64 &&& 255 = tq_eb (tw_by v j) := by
  obtain ⟨n, hn, rfl⟩ := wb_of v
  rw [show (8 : Int32) = nI 8 from rfl, pk_mul, wb_shr hn (by omega), lN_i, pk_and _ 8 (by decide)]
  unfold tq_eb tw_by
  rw [BitVec.toNat_ofNat, wb_tn hn]
  congr 1
  show (BitVec.ofNat 32 _).toNat % 2 ^ 8 = _
  rw [BitVec.toNat_ofNat]
  omega
theorem tw_bit255 (i : Nat) : (255 : Int64).toBitVec.getLsbD i = decide (i < 8) := by
  show (BitVec.ofNat 64 255).getLsbD i = _
  rw [BitVec.getLsbD_ofNat, show (255 : Nat) = 2 ^ 8 - 1 from rfl, Nat.testBit_two_pow_sub_one]
  by_cases h : i < 8
  · simp [h]; omega
  · simp [h]
theorem tw_bit255i (i : Nat) : (255 : Int32).toBitVec.getLsbD i = decide (i < 8) := by
  show (BitVec.ofNat 32 255).getLsbD i = _
  rw [BitVec.getLsbD_ofNat, show (255 : Nat) = 2 ^ 8 - 1 from rfl, Nat.testBit_two_pow_sub_one]
  by_cases h : i < 8
  · simp [h]; omega
  · simp [h]
theorem tw_ebbit (N i : Nat) (hi : i < 32) : (tq_eb (BitVec.ofNat 8 N)).toBitVec.getLsbD i = (decide (i < 8) && N.testBit i) := by
  show (BitVec.ofNat 32 (BitVec.ofNat 8 N).toNat).getLsbD i = _
  rw [BitVec.getLsbD_ofNat, BitVec.toNat_ofNat, Nat.testBit_mod_two_pow]
  simp [hi]
theorem tw_by_m (v : Int64) (j : Nat) (hj : j < 8) : Int64.toInt32 ((v >>> (Int32.toInt64 (8 * nI j) &&& 63)) &&& 255) = tq_eb (tw_by v j) := by
  rw [show (8 : Int32) = nI 8 from rfl, pk_mul, wb_c (8 * j) (by omega)]
  apply Int32.toBitVec_inj.mp
  apply BitVec.eq_of_getLsbD_eq
  intro i hi
  unfold tw_by
  rw [tw_ebbit _ i hi]
  rw [Int64.toBitVec_toInt32, BitVec.getLsbD_signExtend, if_pos (by omega), Int64.toBitVec_and, BitVec.getLsbD_and, tw_bit255, Int64.toBitVec_shiftRight, wb_tb, wb_sm (8 * j) (by omega)]
  by_cases h8 : i < 8
  · have e : (v.toBitVec.sshiftRight' (BitVec.ofNat 64 (8 * j))).getLsbD i = v.toBitVec.toNat.testBit (8 * j + i) := by
      show (v.toBitVec.sshiftRight (BitVec.ofNat 64 (8 * j)).toNat).getLsbD i = _
      rw [BitVec.toNat_ofNat, Nat.mod_eq_of_lt (by omega), BitVec.getLsbD_sshiftRight]
      simp [show 8 * j + i < 64 by omega, show ¬ 64 ≤ i by omega]
      rfl
    rw [e, Nat.testBit_div_two_pow]
    simp [h8, hi, Nat.add_comm]
  · simp [h8]
theorem tw_b16_x (x : Int32) : (x.toUInt32 >>> (Int32.toUInt32 16 &&& Int32.toUInt32 31)).toInt32 &&& 255 = tq_eb (tw_b16 x) := by
  rw [pk_and _ 8 (by decide), pk_ushr x 16 16 (by decide)]
  unfold tq_eb tw_b16
  rw [BitVec.toNat_ofNat]
theorem tw_b16_m (x : Int32) : (x >>> (16 &&& 31)) &&& 255 = tq_eb (tw_b16 x) := by
  apply Int32.toBitVec_inj.mp
  apply BitVec.eq_of_getLsbD_eq
  intro i hi
  unfold tw_b16
  rw [tw_ebbit _ i hi, Int32.toBitVec_and, BitVec.getLsbD_and, tw_bit255i, Int32.toBitVec_shiftRight]
  by_cases h8 : i < 8
  · have e : (x.toBitVec.sshiftRight' ((16 &&& 31 : Int32).toBitVec.smod 32)).getLsbD i = x.toBitVec.toNat.testBit (16 + i) := by
      show (x.toBitVec.sshiftRight ((16 &&& 31 : Int32).toBitVec.smod 32).toNat).getLsbD i = _
      rw [show ((16 &&& 31 : Int32).toBitVec.smod 32).toNat = 16 from by decide, BitVec.getLsbD_sshiftRight]
      simp [show 16 + i < 32 by omega, show ¬ 32 ≤ i by omega]
      rfl
    rw [e, Nat.testBit_div_two_pow]
    simp [h8, Nat.add_comm]
  · simp [h8]
/-- the seed's numbers -/
def tw_lc (seed : Int32) : Nat → Int32
  | 0 => seed
  | j + 1 => 1103515245 * tw_lc seed j + 12345
theorem tw_low_le (g : Nat → Bool) (u n : Nat) : u ≤ tw_low g u n ∧ tw_low g u n ≤ u + n := by
  induction n generalizing u with
  | zero => exact ⟨Nat.le_refl _, Nat.le_refl _⟩
  | succ n ih =>
    unfold tw_low
    split
    · omega
    · have := ih (u + 1); omega
theorem tw_nI_m1 {a : Nat} (h : a < 2 ^ 31) : nI a ≠ -1 := fun e => by
  have h1 := nI_toInt h
  rw [e] at h1
  have h2 : (-1 : Int32).toInt = -1 := by decide
  omega
theorem tw_lfD {k : Nat} {lo : Int32} {f : Nat} (hk : k ≤ 14) (hf : f ≤ k + 2) (h : ¬ tw_lf k lo f = -1) : ∃ a : Nat, a = tw_low (tw_lb lo) f (k + 2 - f) ∧ f ≤ a ∧ a < k + 2 ∧ tw_lf k lo f = nI a := by
  have hb := tw_low_le (tw_lb lo) f (k + 2 - f)
  unfold tw_lf at h ⊢
  split at h
  · exact absurd rfl h
  · rename_i h2
    exact ⟨_, rfl, hb.1, by omega, by rw [if_neg h2]⟩
theorem tw_lfE {k : Nat} {lo : Int32} {f : Nat} (hk : k ≤ 14) (hf : f ≤ k + 2) (h : tw_lf k lo f = -1) : tw_low (tw_lb lo) f (k + 2 - f) = k + 2 := by
  have hb := tw_low_le (tw_lb lo) f (k + 2 - f)
  unfold tw_lf at h
  split at h
  · assumption
  · exact absurd h (tw_nI_m1 (by omega))
def tw_fl (F : Nat → BitVec 8) (n : Nat) : Nat → BitVec 8 := fun j => if j < n then 0#8 else F j
theorem tw_fl_0 (F : Nat → BitVec 8) : tw_fl F 0 = F := by funext j; simp [tw_fl]
theorem tw_fl_s (F : Nat → BitVec 8) (n : Nat) : va_up (tw_fl F n) n 0#8 = tw_fl F (n + 1) := by
  funext j
  unfold va_up tw_fl
  by_cases h : j = n
  · simp [h]
  · rw [if_neg h]
    by_cases h2 : j < n
    · rw [if_pos h2, if_pos (by omega)]
    · rw [if_neg h2, if_neg (by omega)]
/-- where check says a unit, it is one -/
theorem tq_fu_rng (p q : BitVec 8) (k : Nat) (hk : k ≤ 14) : ∀ n u, u + n = k → (tq_fu p q u n = -3 ∨ ∃ a, a < k ∧ tq_fu p q u n = nI a) := by
  intro n
  induction n with
  | zero => intro u _; exact Or.inl rfl
  | succ n ih =>
    intro u h
    unfold tq_fu
    split
    · exact Or.inr ⟨u, by omega, rfl⟩
    · exact ih (u + 1) (by omega)
theorem tw_of_rng (k : Nat) (F : Nat → BitVec 8) (i : Nat) (hk : k ≤ 14) : tw_of k F i = -3 ∨ tw_of k F i = -2 ∨ ∃ a, a ≤ k + 1 ∧ tw_of k F i = nI a := by
  unfold tw_of tq_off
  split
  · split
    · exact Or.inr (Or.inl rfl)
    · exact Or.inr (Or.inr ⟨k, by omega, rfl⟩)
  · split
    · exact Or.inr (Or.inr ⟨k + 1, by omega, rfl⟩)
    · rcases tq_fu_rng (tq_dP k (tq_col F i)) (tq_dQ k (tq_col F i)) k hk k 0 (by omega) with h | ⟨a, h1, h2⟩
      · exact Or.inl h
      · exact Or.inr (Or.inr ⟨a, by omega, h2⟩)
theorem tq_ck_rng (P : Int32 → Prop) (f : Nat → Int32) (h3 : P (-3)) (hf : ∀ i, P (f i)) : ∀ n o i, P o → P (tq_ck f o i n) := by
  intro n
  induction n with
  | zero => intro o i h; exact h
  | succ n ih =>
    intro o i h
    unfold tq_ck
    split
    · exact h3
    · apply ih
      split
      · exact h
      · exact hf i
theorem tw_ckD {k : Nat} {lo : Int32} {F : Nat → BitVec 8} (hk : k ≤ 14) (h : ¬ tw_ck k lo F < 0) : ∃ a, a ≤ k + 1 ∧ tw_ck k lo F = nI a := by
  have key : tw_ck k lo F = -1 ∨ tw_ck k lo F = -3 ∨ tw_ck k lo F = -2 ∨ ∃ a, a ≤ k + 1 ∧ tw_ck k lo F = nI a := by
    unfold tw_ck
    split
    · exact Or.inr (tq_ck_rng (fun r => r = -3 ∨ r = -2 ∨ ∃ a, a ≤ k + 1 ∧ r = nI a) (tw_of k F) (Or.inl rfl) (fun i => tw_of_rng k F i hk) 64 (-2) 0 (Or.inr (Or.inl rfl)))
    · exact Or.inl rfl
  rcases key with e | e | e | e
  · rw [e] at h; exact absurd (by decide) h
  · rw [e] at h; exact absurd (by decide) h
  · rw [e] at h; exact absurd (by decide) h
  · exact e
theorem tw_nneg {x : Int32} (h : ¬ x < 2) : ¬ x < 0 := by
  rw [Int32.lt_iff_toInt_lt] at h ⊢
  have e0 : (0 : Int32).toInt = 0 := by decide
  have e2 : (2 : Int32).toInt = 2 := by decide
  omega
end
section
section TWS
variable {p : Program} {l : Launch} {e : Env} {R : Room} {s : State} {m : MethodId} {args : Array Value} {below : List Frame} {meth : Method} {c : Code} {H H0 : Heap} {locs : List Loc} {cells slots : Nat} {Q : State → Prop}
variable {pc : Nat} {ls : Array Slot} {rest st0 : List Value} {A : Nat → Prop}
variable {y : MethodName} {bytes cc : ByteArray} {maxL nL n index : Nat} {ret : Option FieldType} {ws : List Cond} {rm : Room} {Ts : List Cond} {own : String} {As : List Value} {D : va_G} {w0 wsA : va_W} {tys tysA : List (ClassId × FieldType)} {h0 : Nat}
theorem tw_wsv {w1 : va_W} {wr : va_W} (S : CallFix p m c cc nL s args Ts own) (hK : va_K D vwCl tys s) (hP : va_P D vwCl wsA H) (hD : va_D A wsA) (hS : va_S A H0 H locs) (hA : ∀ q, H0.size ≤ q → A q)
    (isC isR : List Nat) (hC : isC.map (fun i => wsA[i]?) = w0.map some) (hR : isR.map (fun i => wsA[i]?) = wr.map some) (hnC : va_nd isC = true) (hnR : va_nd isR = true) (hdis : ∀ i ∈ isR, i ∉ isC) (hPc : va_P D vwCl w0 H)
    (hM : Met l y ws rm (va_Pc As (tw_Pw D w0 tys H.size)) (va_Qv (fun _ : Unit => True) (tw_Qw D (fun _ : Unit => w1) tys (va_A w0 H.size)) (va_A w0 H.size)) 0 0 (va_A w0 H.size)) (cw : CallB R s args own index y bytes maxL ret ws rm 0 0 n ∧ (Cond.static y).before args s = true)
    (hn : As.length = n) (hsize : ls.size = nL) (hst : st0 = As.reverse ++ rest) (hW : (rest.map fun v => v.category).sum ≤ 8) (hdg : decode cc pc = .ok (.invokestatic index, 3)) (hf : cells ≤ R.cells ∧ slots ≤ R.slots)
    (kk : ∀ (H1 : Heap) (locs1 : List Loc), va_P D vwCl (wr ++ w1) H1 → va_D A (wr ++ w1) → va_S A H0 H1 locs1 → W p l e R s m args below meth c H1 locs1 cells slots Q (F0 m (pc + 3) ls rest)) : W p l e R s m args below meth c H locs cells slots Q (F0 m pc ls st0) := by
  have hDc : va_D A w0 := hD.sub isC hnC hC
  have hFc := va_free (wc := w0) hD hS hA isC hC
  refine va_callv (va_runS S hM cw ⟨tw_blindw, fun U hU hW => ⟨rfl, by rw [hU], ⟨by rw [hU]; exact hPc, va_K.moved hW.alike hK⟩, hDc.weaken (fun _ _ _ _ => trivial)⟩⟩ rfl hn hsize hst (lv_room hW) hdg hf) hS (fun q _ h => hFc q h) hFc (fun u t H1 locs1 ht hvm hw hB hz1 hk1 hS => ?_)
  obtain ⟨⟨hP1, hK1⟩, hD1⟩ := hB
  rw [ht] at hP1
  obtain ⟨hP, hD⟩ := va_join (wr := wr) (w1 := w1) hP hD isC isR hC hR hnR hdis hk1 hFc hP1 hD1
  exact kk H1 locs1 hP hD hS
end TWS
abbrev tw_Ar (cA : ClassId) (a0 : Nat) (F : Nat → BitVec 8) : va_W := [(a0, .inl (cA, 1024, .inl (fun j => tq_eb (F j))))]
abbrev rmJ7_fill_53178 : Room := { frames := 0, cells := 0, slots := 0, locals := 0 }
theorem kdJ7_fill_53178 : yJ7_fill_53178.cls ≠ "java/lang/invoke/MethodHandle" ∧ yJ7_fill_53178.cls ≠ "java/lang/invoke/VarHandle" ∧ (parseMethodDescriptor yJ7_fill_53178.desc).map (fun d => d.parameters.length) = some 2 := by decide +kernel
set_option maxHeartbeats 4000000 in
set_option maxRecDepth 100000 in
theorem c_J7_fill_53178 (l : Launch) (D : va_G) (cA : ClassId) (a0 : Nat) (F : Nat → BitVec 8) (sz : Nat) : Met l yJ7_fill_53178 wsJ7_fill_53178 rmJ7_fill_53178 (va_Pc [.ref a0, .int 0] (tw_Pw D (tw_Ar cA a0 F) (tw_tX cA) sz)) (va_Qv (fun _ : Unit => True) (tw_Qw D (fun _ : Unit => tw_Ar cA a0 (tw_fl F 1024)) (tw_tX cA) (va_A (tw_Ar cA a0 F) sz)) (va_A (tw_Ar cA a0 F) sz)) 0 0 (va_A (tw_Ar cA a0 F) sz) := by
  refine tw_metV (by decide) rfl rfl (Nat.le_of_ble_eq_true rfl) ?_
  intro p e s m args below meth c Q ls A hx hb hml hown hts hP hK hD hS hA hend hl
  have hl : lv_has ls 4 [(0, .ref a0), (1, .int 0)] := hl
  have hP : va_P D vwCl (tw_Ar cA a0 (tw_fl F 0)) s.heap := by rw [tw_fl_0]; exact hP
  have hD : va_D A (tw_Ar cA a0 (tw_fl F 0)) := by rw [tw_fl_0]; exact hD
  have loop : ∀ (n j : Nat) (ls : Array Slot) (H : Heap) (locs : List Loc), j + n = 1024 → va_P D vwCl (tw_Ar cA a0 (tw_fl F j)) H → va_D A (tw_Ar cA a0 (tw_fl F j)) → va_S A s.heap H locs → lv_has ls 4 [(0, .ref a0), (1, .int 0), (2, .int (nI j)), (3, .int (nI 1024))] → W p l e rmJ7_fill_53178 s m args below meth c H locs 0 0 Q (F0 m 5 ls []) := by
    intro n
    induction n with
    | zero =>
      intro j ls H locs hj hP hD hS hl
      refine lv_iload_n hx hb dJ7_fill_53178_5 rfl (lv_at hl 2 rfl) ?_
      refine lv_iload_n hx hb dJ7_fill_53178_6 rfl (lv_at hl 3 rfl) ?_
      refine lv_icmp_ge (tgt := 20) hx hb dJ7_fill_53178_7 (by decide) (fun c_7 => ?_) (fun c_7 => ?_)
      · rw [show j = 1024 by omega] at hP hD
        exact hend _ _ _ _ dJ7_fill_53178_20 hP hD hS
      · exact absurd (nI_le (by omega) (by omega)) c_7
    | succ n ih =>
      intro j ls H locs hj hP hD hS hl
      refine lv_iload_n hx hb dJ7_fill_53178_5 rfl (lv_at hl 2 rfl) ?_
      refine lv_iload_n hx hb dJ7_fill_53178_6 rfl (lv_at hl 3 rfl) ?_
      refine lv_icmp_ge (tgt := 20) hx hb dJ7_fill_53178_7 (by decide) (fun c_7 => ?_) (fun c_7 => ?_)
      · exact absurd c_7 (nI_ge (by omega) (by omega))
      · refine lv_aload_n hx hb dJ7_fill_53178_10 rfl (lv_at hl 0 rfl) ?_
        refine lv_iload_n hx hb dJ7_fill_53178_11 rfl (lv_at hl 2 rfl) ?_
        refine lv_iload_n hx hb dJ7_fill_53178_12 rfl (lv_at hl 1 rfl) ?_
        refine tw_st hx hb hK hP hD hS 0 0 rfl rfl (n := j) (v := 0#8) rfl rfl (by omega) (by decide) dJ7_fill_53178_13 (fun H locs hP hD hS => ?_)
        have hP : va_P D vwCl (tw_Ar cA a0 (va_up (tw_fl F j) j 0#8)) H := hP
        have hD : va_D A (tw_Ar cA a0 (va_up (tw_fl F j) j 0#8)) := hD
        rw [tw_fl_s] at hP hD
        refine lv_iinc (v := nI (j + 1)) (lv' := [(2, .int (nI (j + 1))), (0, .ref a0), (1, .int 0), (3, .int (nI 1024))]) hx hb dJ7_fill_53178_14 hl (k := 2) rfl (nI_1 j) (by decide) rfl (fun ls hl => ?_)
        refine lv_goto (tgt := 5) hx hb dJ7_fill_53178_17 (by decide) ?_
        exact ih (j + 1) ls H locs (by omega) hP hD hS (lv_sub hl [1, 2, 0, 3] rfl)
  refine lv_iconst (v := 0) hx hb dJ7_fill_53178_0 (by decide) ?_
  refine lv_istore_n (lv' := [(2, .int 0), (0, .ref a0), (1, .int 0)]) hx hb dJ7_fill_53178_1 rfl hl (by decide) rfl (fun ls hl => ?_)
  refine lv_aload_n hx hb dJ7_fill_53178_2 rfl (lv_at hl 1 rfl) ?_
  refine va_alen (v := nI 1024) hx hb hK hP 0 0 rfl rfl rfl dJ7_fill_53178_3 ?_
  refine lv_istore_n (lv' := [(3, .int (nI 1024)), (2, .int 0), (0, .ref a0), (1, .int 0)]) hx hb dJ7_fill_53178_4 rfl hl (by decide) rfl (fun ls hl => ?_)
  exact loop 1024 0 ls _ _ (by omega) hP hD hS (lv_sub hl [2, 3, 1, 0] rfl)
def tw_xbegin (k : Nat) (lo : Int32) (F : Nat → BitVec 8) (x : Int32) : Int32 × (Nat × Int32 × (Nat → BitVec 8)) := if x < 2 ∨ ¬ x ≤ 14 then (-1, (k, lo, F)) else (x + 2, (x.toNatClampNeg, 0, tw_fl F 1024))
abbrev rmX0_begin : Room := { frames := 1, cells := 0, slots := 0, locals := 23 }
theorem inX0_begin : ∀ w ∈ wsX00, w ∈ wsX0_begin := fun _ h => List.mem_cons_of_mem _ (List.mem_append_right _ h)
theorem fX0_begin_13 : Cond.fieldLink RX0 13 "TwinParity" "dataUnits" "I" ∈ wsX0_begin := List.mem_of_getElem? (i := 1) rfl
theorem fX0_begin_17 : Cond.fieldLink RX0 17 "TwinParity" "lostUnits" "I" ∈ wsX0_begin := List.mem_of_getElem? (i := 2) rfl
theorem fX0_begin_9 : Cond.fieldLink RX0 9 "TwinParity" "bytes" "[I" ∈ wsX0_begin := List.mem_of_getElem? (i := 3) rfl
theorem kdX0_begin : yX0_begin.cls = RX0 ∧ yX0_begin.cls ≠ "java/lang/invoke/MethodHandle" ∧ yX0_begin.cls ≠ "java/lang/invoke/VarHandle" ∧ (parseMethodDescriptor yX0_begin.desc).map (fun d => d.parameters.length) = some 1 := by decide +kernel
set_option maxHeartbeats 4000000 in
set_option maxRecDepth 100000 in
theorem c_X0_begin (l : Launch) (D : va_G) (cA : ClassId) (h0 a0 k : Nat) (lo : Int32) (F : Nat → BitVec 8) (sz : Nat) (x : Int32) (hk : k ≤ 14) : Met l yX0_begin wsX0_begin rmX0_begin (va_Pc [.ref h0, .int x] (tw_Pw D (tw_X cA h0 a0 k lo F) (tw_tX cA) sz)) (va_Qi (fun (r : Int32) (u : Nat × Int32 × (Nat → BitVec 8)) => (r, u) = tw_xbegin k lo F x) (tw_Qw D (fun u : Nat × Int32 × (Nat → BitVec 8) => tw_X cA h0 a0 u.1 u.2.1 u.2.2) (tw_tX cA) (va_A (tw_X cA h0 a0 k lo F) sz)) (va_A (tw_X cA h0 a0 k lo F) sz)) 0 0 (va_A (tw_X cA h0 a0 k lo F) sz) := by
  refine tw_metW (by decide) rfl rfl (Nat.le_of_ble_eq_true rfl) ?_
  intro p e s m args below meth c Q ls A hx hb hml hown hts hP hK hD hS hA hend hl
  have hown : s.vm.findClass RX0 = some m.cls := hown
  have hl : lv_has ls 2 [(0, .ref h0), (1, .int x)] := hl
  refine lv_iload_n hx hb dX0_begin_0 rfl (lv_at hl 1 rfl) ?_
  refine lv_iconst (v := 2) hx hb dX0_begin_1 (by decide) ?_
  refine lv_icmp_lt (tgt := 11) hx hb dX0_begin_2 (by decide) (fun c_2 => ?_) (fun c_2 => ?_)
  · refine lv_iconst (v := (-1)) hx hb dX0_begin_11 (by decide) ?_
    exact hend _ _ _ (k, lo, F) _ _ dX0_begin_12 (by rw [tw_xbegin, if_pos (by first | exact Or.inl c_2 | exact Or.inr c_8)]) hP hD hS
  · refine lv_iload_n hx hb dX0_begin_5 rfl (lv_at hl 1 rfl) ?_
    refine lv_bipush (v := 14) hx hb dX0_begin_6 (by decide) ?_
    refine lv_icmp_le (tgt := 13) hx hb dX0_begin_8 (by decide) (fun c_8 => ?_) (fun c_8 => ?_)
    · generalize hE : tw_xbegin k lo F x = E at hend
      obtain ⟨j, hj, rfl⟩ := nI_of (tw_nneg c_2)
      have hj14 : j ≤ 14 := (nI_leI hj (by decide)).mp (show nI j ≤ nI 14 from c_8)
      refine lv_aload_n hx hb dX0_begin_13 rfl (lv_at hl 0 rfl) ?_
      refine lv_iload_n hx hb dX0_begin_14 rfl (lv_at hl 1 rfl) ?_
      refine va_put (D := D) (ci := 0) (v := .int (nI j)) (ty := .int) (C := RX0) (T := TX0) (N := 3) hx hb hts inX0_begin tyX0 tyX0_ok nmX0 hown hK hP hD hS 0 rfl rfl 1 (by decide) (hts _ fX0_begin_13) (fun _ h9 => h9) rfl (by decide +kernel) rfl rfl (Nat.le_of_ble_eq_true rfl) dX0_begin_15 (fun H locs hP hD hS => ?_)
      have hP : va_P D vwCl (tw_X cA h0 a0 j lo F) H := hP
      have hD : va_D A (tw_X cA h0 a0 j lo F) := hD
      refine lv_aload_n hx hb dX0_begin_18 rfl (lv_at hl 0 rfl) ?_
      refine lv_iconst (v := 0) hx hb dX0_begin_19 (by decide) ?_
      refine va_put (D := D) (ci := 0) (v := .int 0) (ty := .int) (C := RX0) (T := TX0) (N := 3) hx hb hts inX0_begin tyX0 tyX0_ok nmX0 hown hK hP hD hS 0 rfl rfl 2 (by decide) (hts _ fX0_begin_17) (fun _ h9 => h9) rfl (by decide +kernel) rfl rfl (Nat.le_of_ble_eq_true rfl) dX0_begin_20 (fun H locs hP hD hS => ?_)
      have hP : va_P D vwCl (tw_X cA h0 a0 j 0 F) H := hP
      have hD : va_D A (tw_X cA h0 a0 j 0 F) := hD
      refine lv_aload_n hx hb dX0_begin_23 rfl (lv_at hl 0 rfl) ?_
      refine va_get (D := D) (ci := 0) (v := .ref a0) (C := RX0) (T := TX0) (N := 3) hx hb hts inX0_begin hown hK hP 0 rfl rfl 0 (by decide) (hts _ fX0_begin_9) (fun _ h9 => h9) rfl dX0_begin_24 ?_
      refine lv_iconst (v := 0) hx hb dX0_begin_27 (by decide) ?_
      refine tw_wsv (wr := [(h0, .inr (0, [.ref a0, .int (nI j), .int 0]))]) ⟨hx, hb, hml, hown, hts⟩ hK hP hD hS hA [1] [0] rfl rfl rfl rfl (by decide) (hP.sub [1] rfl) (c_J7_fill_53178 l D cA a0 F _) (va_cwS 2 hts gX0_begin_J7_fill_53178 rfl rfl rfl kdJ7_fill_53178 ⟨Nat.le_of_ble_eq_true rfl, Nat.le_of_ble_eq_true rfl⟩) rfl hl.1 rfl (Nat.le_of_ble_eq_true rfl) dX0_begin_28 ⟨Nat.zero_le _, Nat.zero_le _⟩ (fun H locs hP hD hS => ?_)
      have hP : va_P D vwCl (tw_X cA h0 a0 j 0 (tw_fl F 1024)) H := hP
      have hD : va_D A (tw_X cA h0 a0 j 0 (tw_fl F 1024)) := hD
      refine lv_aload_n hx hb dX0_begin_31 rfl (lv_at hl 0 rfl) ?_
      refine tw_rX ⟨hx, hb, hml, hown, hts⟩ hK hP (c_X0_units l D cA h0 a0 j 0 (tw_fl F 1024) ) (cwV 0 hts gX0_begin_X0_units rfl rfl rfl kdX0_units ⟨Nat.le_of_ble_eq_true rfl, Nat.le_of_ble_eq_true rfl⟩) rfl hl.1 rfl (Nat.le_of_ble_eq_true rfl) dX0_begin_32 ⟨Nat.zero_le _, Nat.zero_le _⟩ ?_
      exact hend _ _ _ (j, 0, tw_fl F 1024) _ _ dX0_begin_35 (by rw [← hE, tw_xbegin, if_neg (fun q9 => q9.elim c_2 (fun q8 => q8 c_8)), nI_clamp hj, show nI j + 2 = nI (j + 2) from nI_add j 2]) hP hD hS
    · refine lv_iconst (v := (-1)) hx hb dX0_begin_11 (by decide) ?_
      exact hend _ _ _ (k, lo, F) _ _ dX0_begin_12 (by rw [tw_xbegin, if_pos (by first | exact Or.inl c_2 | exact Or.inr c_8)]) hP hD hS
def tw_ps (k : Nat) (lo : Int32) (u i : Nat) (v : Int64) (F : Nat → BitVec 8) : Nat → Nat → BitVec 8
  | 0 => F
  | j + 1 => tw_cw k lo (tw_ps k lo u i v F j) u (i + j) (tw_ps k lo u i v F j (64 * u + (i + j)) ^^^ tw_by v j)
def tw_xput (k : Nat) (lo : Int32) (F : Nat → BitVec 8) (x z n : Int32) (v : Int64) : Int32 × (Nat × Int32 × (Nat → BitVec 8)) := if !decide (nI k ≤ x) && (tw_th k lo x && tw_sp z n 8) then (n, (k, lo, tw_ps k lo x.toNatClampNeg z.toNatClampNeg v F n.toNatClampNeg)) else (-1, (k, lo, F))
abbrev rmX0_put : Room := { frames := 3, cells := 0, slots := 0, locals := 67 }
theorem inX0_put : ∀ w ∈ wsX00, w ∈ wsX0_put := fun _ h => List.mem_cons_of_mem _ (List.mem_append_right _ h)
theorem fX0_put_13 : Cond.fieldLink RX0 13 "TwinParity" "dataUnits" "I" ∈ wsX0_put := List.mem_of_getElem? (i := 1) rfl
theorem fX0_put_17 : Cond.fieldLink RX0 17 "TwinParity" "lostUnits" "I" ∈ wsX0_put := List.mem_of_getElem? (i := 15) rfl
theorem fX0_put_9 : Cond.fieldLink RX0 9 "TwinParity" "bytes" "[I" ∈ wsX0_put := List.mem_of_getElem? (i := 23) rfl
theorem kdX0_put : yX0_put.cls = RX0 ∧ yX0_put.cls ≠ "java/lang/invoke/MethodHandle" ∧ yX0_put.cls ≠ "java/lang/invoke/VarHandle" ∧ (parseMethodDescriptor yX0_put.desc).map (fun d => d.parameters.length) = some 4 := by decide +kernel
set_option maxHeartbeats 4000000 in
set_option maxRecDepth 100000 in
theorem c_X0_put (l : Launch) (D : va_G) (cA : ClassId) (h0 a0 k : Nat) (lo : Int32) (F : Nat → BitVec 8) (sz : Nat) (x z n : Int32) (v : Int64) (hk : k ≤ 14) : Met l yX0_put wsX0_put rmX0_put (va_Pc [.ref h0, .int x, .int z, .int n, .long v] (tw_Pw D (tw_X cA h0 a0 k lo F) (tw_tX cA) sz)) (va_Qi (fun (r : Int32) (u : Nat × Int32 × (Nat → BitVec 8)) => (r, u) = tw_xput k lo F x z n v) (tw_Qw D (fun u : Nat × Int32 × (Nat → BitVec 8) => tw_X cA h0 a0 u.1 u.2.1 u.2.2) (tw_tX cA) (va_A (tw_X cA h0 a0 k lo F) sz)) (va_A (tw_X cA h0 a0 k lo F) sz)) 0 0 (va_A (tw_X cA h0 a0 k lo F) sz) := by
  refine tw_metW (by decide) rfl rfl (Nat.le_of_ble_eq_true rfl) ?_
  intro p e s m args below meth c Q ls A hx hb hml hown hts hP hK hD hS hA hend hl
  have hown : s.vm.findClass RX0 = some m.cls := hown
  have hl : lv_has ls 8 [(0, .ref h0), (1, .int x), (2, .int z), (3, .int n), (4, .long v)] := hl
  refine lv_iload_n hx hb dX0_put_0 rfl (lv_at hl 1 rfl) ?_
  refine lv_aload_n hx hb dX0_put_1 rfl (lv_at hl 0 rfl) ?_
  refine va_get (D := D) (ci := 0) (v := .int (nI k)) (C := RX0) (T := TX0) (N := 3) hx hb hts inX0_put hown hK hP 0 rfl rfl 1 (by decide) (hts _ fX0_put_13) (fun _ h9 => h9) rfl dX0_put_2 ?_
  refine lv_icmp_ge (tgt := 26) hx hb dX0_put_5 (by decide) (fun c_5 => ?_) (fun c_5 => ?_)
  · refine lv_iconst (v := (-1)) hx hb dX0_put_26 (by decide) ?_
    exact hend _ _ _ (k, lo, F) _ _ dX0_put_27 (by rw [tw_xput, if_neg (by first | (simp [c_5]; done) | (simp [c_13]; done) | (simp [c_23]; done))]) hP hD hS
  · refine lv_aload_n hx hb dX0_put_8 rfl (lv_at hl 0 rfl) ?_
    refine lv_iload_n hx hb dX0_put_9 rfl (lv_at hl 1 rfl) ?_
    refine tw_rX ⟨hx, hb, hml, hown, hts⟩ hK hP (c_X0_isThere l D cA h0 a0 k lo F x hk) (cwV 1 hts gX0_put_X0_isThere rfl rfl rfl kdX0_isThere ⟨Nat.le_of_ble_eq_true rfl, Nat.le_of_ble_eq_true rfl⟩) rfl hl.1 rfl (Nat.le_of_ble_eq_true rfl) dX0_put_10 ⟨Nat.zero_le _, Nat.zero_le _⟩ ?_
    refine lv_if_eq (tgt := 26) hx hb dX0_put_13 (by decide) (fun c_13 => ?_) (fun c_13 => ?_)
    · rw [tw_bI0] at c_13
      refine lv_iconst (v := (-1)) hx hb dX0_put_26 (by decide) ?_
      exact hend _ _ _ (k, lo, F) _ _ dX0_put_27 (by rw [tw_xput, if_neg (by first | (simp [c_5]; done) | (simp [c_13]; done) | (simp [c_23]; done))]) hP hD hS
    · rw [tw_bI1] at c_13
      refine lv_iload_n hx hb dX0_put_16 rfl (lv_at hl 2 rfl) ?_
      refine lv_iload_n hx hb dX0_put_17 rfl (lv_at hl 3 rfl) ?_
      refine lv_bipush (v := 8) hx hb dX0_put_18 (by decide) ?_
      refine tw_s ⟨hx, hb, hml, hown, hts⟩ (c_X0_isSpan l z n 8) (va_cwS 3 hts gX0_put_X0_isSpan rfl rfl rfl kdX0_isSpan ⟨Nat.le_of_ble_eq_true rfl, Nat.le_of_ble_eq_true rfl⟩) rfl hl.1 rfl (Nat.le_of_ble_eq_true rfl) dX0_put_20 ⟨Nat.zero_le _, Nat.zero_le _⟩ ?_
      refine lv_if_ne (tgt := 28) hx hb dX0_put_23 (by decide) (fun c_23 => ?_) (fun c_23 => ?_)
      · rw [tw_bI1] at c_23
        generalize hE : tw_xput k lo F x z n v = E at hend
        obtain ⟨u, hu, rfl, hlb⟩ := tw_thD hk c_13
        obtain ⟨i, q, rfl, rfl, hq1, hq2, hiq⟩ := tw_spD (mm := 8) (by decide) c_23
        have huk : u < k := by rcases Nat.lt_or_ge u k with h9 | h9; exact h9; exact absurd (nI_le h9 (by omega)) c_5
        have loop : ∀ (n j : Nat) (ls : Array Slot) (H : Heap) (locs : List Loc), j + n = q → va_P D vwCl (tw_X cA h0 a0 k lo (tw_ps k lo u i v F j)) H → va_D A (tw_X cA h0 a0 k lo (tw_ps k lo u i v F j)) → va_S A s.heap H locs → lv_has ls 8 [(0, .ref h0), (1, .int (nI u)), (2, .int (nI i)), (3, .int (nI q)), (4, .long v), (6, .int (nI j))] → W p l e rmX0_put s m args below meth c H locs 0 0 Q (F0 m 31 ls []) := by
          intro n
          induction n with
          | zero =>
            intro j ls H locs hj hP hD hS hl
            refine lv_iload hx hb dX0_put_31 (lv_at hl 5 rfl) ?_
            refine lv_iload_n hx hb dX0_put_33 rfl (lv_at hl 3 rfl) ?_
            refine lv_icmp_ge (tgt := 79) hx hb dX0_put_34 (by decide) (fun c_34 => ?_) (fun c_34 => ?_)
            · refine lv_iload_n hx hb dX0_put_79 rfl (lv_at hl 3 rfl) ?_
              rw [show j = q by omega] at hP hD
              exact hend _ _ _ (k, lo, tw_ps k lo u i v F q) _ _ dX0_put_80 (by rw [← hE, tw_xput, c_13, c_23]; simp [c_5, nI_clamp (show u < 2 ^ 31 by omega), nI_clamp (show i < 2 ^ 31 by omega), nI_clamp (show q < 2 ^ 31 by omega)]) hP hD hS
            · exact absurd (nI_le (by omega) (by omega)) c_34
          | succ n ih =>
            intro j ls H locs hj hP hD hS hl
            refine lv_iload hx hb dX0_put_31 (lv_at hl 5 rfl) ?_
            refine lv_iload_n hx hb dX0_put_33 rfl (lv_at hl 3 rfl) ?_
            refine lv_icmp_ge (tgt := 79) hx hb dX0_put_34 (by decide) (fun c_34 => ?_) (fun c_34 => ?_)
            · exact absurd c_34 (nI_ge (by omega) (by omega))
            · refine lv_lload hx hb dX0_put_37 (lv_at hl 4 rfl) ?_
              refine lv_bipush (v := 8) hx hb dX0_put_39 (by decide) ?_
              refine lv_iload hx hb dX0_put_41 (lv_at hl 5 rfl) ?_
              refine lv_imul hx hb dX0_put_43 ?_
              refine lv_lushr hx hb dX0_put_44 rfl ?_
              refine lv_l2i hx hb dX0_put_45 rfl ?_
              refine lv_sipush (v := 255) hx hb dX0_put_46 (by decide) ?_
              refine lv_iand hx hb dX0_put_49 ?_
              refine tw_topr (x' := tq_eb (tw_by v j)) (tw_by_x v j (by omega)) ?_
              refine lv_istore (lv' := [(7, .int (tq_eb (tw_by v j))), (0, .ref h0), (1, .int (nI u)), (2, .int (nI i)), (3, .int (nI q)), (4, .long v), (6, .int (nI j))]) hx hb dX0_put_50 hl (by decide) rfl (fun ls hl => ?_)
              refine lv_aload_n hx hb dX0_put_52 rfl (lv_at hl 1 rfl) ?_
              refine lv_iload_n hx hb dX0_put_53 rfl (lv_at hl 2 rfl) ?_
              refine lv_iload_n hx hb dX0_put_54 rfl (lv_at hl 3 rfl) ?_
              refine lv_iload hx hb dX0_put_55 (lv_at hl 6 rfl) ?_
              refine lv_iadd hx hb dX0_put_57 ?_
              refine tw_topr (x' := nI (i + j)) (nI_add i j) ?_
              refine lv_aload_n hx hb dX0_put_58 rfl (lv_at hl 1 rfl) ?_
              refine lv_iload_n hx hb dX0_put_59 rfl (lv_at hl 2 rfl) ?_
              refine lv_iload_n hx hb dX0_put_60 rfl (lv_at hl 3 rfl) ?_
              refine lv_iload hx hb dX0_put_61 (lv_at hl 6 rfl) ?_
              refine lv_iadd hx hb dX0_put_63 ?_
              refine tw_topr (x' := nI (i + j)) (nI_add i j) ?_
              refine tw_rX ⟨hx, hb, hml, hown, hts⟩ hK hP (c_X0_byteAt l D cA h0 a0 k lo (tw_ps k lo u i v F j) u (i + j) (by omega)) (cwV 2 hts gX0_put_X0_byteAt rfl rfl rfl kdX0_byteAt ⟨Nat.le_of_ble_eq_true rfl, Nat.le_of_ble_eq_true rfl⟩) rfl hl.1 rfl (Nat.le_of_ble_eq_true rfl) dX0_put_64 ⟨Nat.zero_le _, Nat.zero_le _⟩ ?_
              refine lv_iload hx hb dX0_put_67 (lv_at hl 0 rfl) ?_
              refine lv_ixor hx hb dX0_put_69 ?_
              refine tw_topr (x' := tq_eb (tw_ps k lo u i v F j (64 * u + (i + j)) ^^^ tw_by v j)) (tq_eb_xor _ _) ?_
              refine tw_wXv ⟨hx, hb, hml, hown, hts⟩ hK hP hD hS hA (c_X0_changeWithParities l D cA h0 a0 k lo (tw_ps k lo u i v F j) _ u (i + j) (tw_ps k lo u i v F j (64 * u + (i + j)) ^^^ tw_by v j) huk (by omega) hk) (cwV 3 hts gX0_put_X0_changeWithParities rfl rfl rfl kdX0_changeWithParities ⟨Nat.le_of_ble_eq_true rfl, Nat.le_of_ble_eq_true rfl⟩) rfl hl.1 rfl (Nat.le_of_ble_eq_true rfl) dX0_put_70 ⟨Nat.zero_le _, Nat.zero_le _⟩ (fun H locs hP hD hS => ?_)
              have hP : va_P D vwCl (tw_X cA h0 a0 k lo (tw_ps k lo u i v F (j + 1))) H := hP
              have hD : va_D A (tw_X cA h0 a0 k lo (tw_ps k lo u i v F (j + 1))) := hD
              refine lv_iinc (v := nI (j + 1)) (lv' := [(6, .int (nI (j + 1))), (7, .int (tq_eb (tw_by v j))), (0, .ref h0), (1, .int (nI u)), (2, .int (nI i)), (3, .int (nI q)), (4, .long v)]) hx hb dX0_put_73 hl (k := 6) rfl (nI_1 j) (by decide) rfl (fun ls hl => ?_)
              refine lv_goto (tgt := 31) hx hb dX0_put_76 (by decide) ?_
              exact ih (j + 1) ls H locs (by omega) hP hD hS (lv_sub hl [2, 3, 4, 5, 6, 0] rfl)
        refine lv_iconst (v := 0) hx hb dX0_put_28 (by decide) ?_
        refine lv_istore (lv' := [(6, .int 0), (0, .ref h0), (1, .int (nI u)), (2, .int (nI i)), (3, .int (nI q)), (4, .long v)]) hx hb dX0_put_29 hl (by decide) rfl (fun ls hl => ?_)
        exact loop q 0 ls _ _ (by omega) hP hD hS (lv_sub hl [1, 2, 3, 4, 5, 0] rfl)
      · rw [tw_bI0] at c_23
        refine lv_iconst (v := (-1)) hx hb dX0_put_26 (by decide) ?_
        exact hend _ _ _ (k, lo, F) _ _ dX0_put_27 (by rw [tw_xput, if_neg (by first | (simp [c_5]; done) | (simp [c_13]; done) | (simp [c_23]; done))]) hP hD hS
def tw_ss (u i : Nat) (sd : Int32) (F : Nat → BitVec 8) : Nat → Nat → BitVec 8
  | 0 => F
  | j + 1 => tw_ch (tw_ss u i sd F j) u (i + j) (tw_ss u i sd F j (64 * u + (i + j)) ^^^ tw_b16 (tw_lc sd (j + 1)))
def tw_xspoil (k : Nat) (lo : Int32) (F : Nat → BitVec 8) (x z n sd : Int32) : Int32 × (Nat × Int32 × (Nat → BitVec 8)) := if tw_th k lo x && tw_sp z n 64 then (n, (k, lo, tw_ss x.toNatClampNeg z.toNatClampNeg sd F n.toNatClampNeg)) else (-1, (k, lo, F))
abbrev rmX0_spoil : Room := { frames := 2, cells := 0, slots := 0, locals := 42 }
theorem inX0_spoil : ∀ w ∈ wsX00, w ∈ wsX0_spoil := fun _ h => List.mem_cons_of_mem _ (List.mem_append_right _ h)
theorem fX0_spoil_46 : Cond.constant RX0 46 (1103515245) ∈ wsX0_spoil := List.mem_of_getElem? (i := 1) rfl
theorem fX0_spoil_13 : Cond.fieldLink RX0 13 "TwinParity" "dataUnits" "I" ∈ wsX0_spoil := List.mem_of_getElem? (i := 11) rfl
theorem fX0_spoil_17 : Cond.fieldLink RX0 17 "TwinParity" "lostUnits" "I" ∈ wsX0_spoil := List.mem_of_getElem? (i := 16) rfl
theorem fX0_spoil_9 : Cond.fieldLink RX0 9 "TwinParity" "bytes" "[I" ∈ wsX0_spoil := List.mem_of_getElem? (i := 24) rfl
theorem kdX0_spoil : yX0_spoil.cls = RX0 ∧ yX0_spoil.cls ≠ "java/lang/invoke/MethodHandle" ∧ yX0_spoil.cls ≠ "java/lang/invoke/VarHandle" ∧ (parseMethodDescriptor yX0_spoil.desc).map (fun d => d.parameters.length) = some 4 := by decide +kernel
set_option maxHeartbeats 4000000 in
set_option maxRecDepth 100000 in
theorem c_X0_spoil (l : Launch) (D : va_G) (cA : ClassId) (h0 a0 k : Nat) (lo : Int32) (F : Nat → BitVec 8) (sz : Nat) (x z n sd : Int32) (hk : k ≤ 14) : Met l yX0_spoil wsX0_spoil rmX0_spoil (va_Pc [.ref h0, .int x, .int z, .int n, .int sd] (tw_Pw D (tw_X cA h0 a0 k lo F) (tw_tX cA) sz)) (va_Qi (fun (r : Int32) (u : Nat × Int32 × (Nat → BitVec 8)) => (r, u) = tw_xspoil k lo F x z n sd) (tw_Qw D (fun u : Nat × Int32 × (Nat → BitVec 8) => tw_X cA h0 a0 u.1 u.2.1 u.2.2) (tw_tX cA) (va_A (tw_X cA h0 a0 k lo F) sz)) (va_A (tw_X cA h0 a0 k lo F) sz)) 0 0 (va_A (tw_X cA h0 a0 k lo F) sz) := by
  refine tw_metW (by decide) rfl rfl (Nat.le_of_ble_eq_true rfl) ?_
  intro p e s m args below meth c Q ls A hx hb hml hown hts hP hK hD hS hA hend hl
  have hown : s.vm.findClass RX0 = some m.cls := hown
  have hl : lv_has ls 8 [(0, .ref h0), (1, .int x), (2, .int z), (3, .int n), (4, .int sd)] := hl
  refine lv_aload_n hx hb dX0_spoil_0 rfl (lv_at hl 0 rfl) ?_
  refine lv_iload_n hx hb dX0_spoil_1 rfl (lv_at hl 1 rfl) ?_
  refine tw_rX ⟨hx, hb, hml, hown, hts⟩ hK hP (c_X0_isThere l D cA h0 a0 k lo F x hk) (cwV 1 hts gX0_spoil_X0_isThere rfl rfl rfl kdX0_isThere ⟨Nat.le_of_ble_eq_true rfl, Nat.le_of_ble_eq_true rfl⟩) rfl hl.1 rfl (Nat.le_of_ble_eq_true rfl) dX0_spoil_2 ⟨Nat.zero_le _, Nat.zero_le _⟩ ?_
  refine lv_if_eq (tgt := 18) hx hb dX0_spoil_5 (by decide) (fun c_5 => ?_) (fun c_5 => ?_)
  · rw [tw_bI0] at c_5
    refine lv_iconst (v := (-1)) hx hb dX0_spoil_18 (by decide) ?_
    exact hend _ _ _ (k, lo, F) _ _ dX0_spoil_19 (by rw [tw_xspoil, if_neg (by first | (simp [c_5]; done) | (simp [c_15]; done))]) hP hD hS
  · rw [tw_bI1] at c_5
    refine lv_iload_n hx hb dX0_spoil_8 rfl (lv_at hl 2 rfl) ?_
    refine lv_iload_n hx hb dX0_spoil_9 rfl (lv_at hl 3 rfl) ?_
    refine lv_bipush (v := 64) hx hb dX0_spoil_10 (by decide) ?_
    refine tw_s ⟨hx, hb, hml, hown, hts⟩ (c_X0_isSpan l z n 64) (va_cwS 3 hts gX0_spoil_X0_isSpan rfl rfl rfl kdX0_isSpan ⟨Nat.le_of_ble_eq_true rfl, Nat.le_of_ble_eq_true rfl⟩) rfl hl.1 rfl (Nat.le_of_ble_eq_true rfl) dX0_spoil_12 ⟨Nat.zero_le _, Nat.zero_le _⟩ ?_
    refine lv_if_ne (tgt := 20) hx hb dX0_spoil_15 (by decide) (fun c_15 => ?_) (fun c_15 => ?_)
    · rw [tw_bI1] at c_15
      generalize hE : tw_xspoil k lo F x z n sd = E at hend
      obtain ⟨u, hu, rfl, hlb⟩ := tw_thD hk c_5
      obtain ⟨i, q, rfl, rfl, hq1, hq2, hiq⟩ := tw_spD (mm := 64) (by decide) c_15
      have loop : ∀ (n j : Nat) (ls : Array Slot) (H : Heap) (locs : List Loc), j + n = q → va_P D vwCl (tw_X cA h0 a0 k lo (tw_ss u i sd F j)) H → va_D A (tw_X cA h0 a0 k lo (tw_ss u i sd F j)) → va_S A s.heap H locs → lv_has ls 8 [(0, .ref h0), (1, .int (nI u)), (2, .int (nI i)), (3, .int (nI q)), (5, .int (tw_lc sd j)), (6, .int (nI j))] → W p l e rmX0_spoil s m args below meth c H locs 0 0 Q (F0 m 27 ls []) := by
        intro n
        induction n with
        | zero =>
          intro j ls H locs hj hP hD hS hl
          refine lv_iload hx hb dX0_spoil_27 (lv_at hl 5 rfl) ?_
          refine lv_iload_n hx hb dX0_spoil_29 rfl (lv_at hl 3 rfl) ?_
          refine lv_icmp_ge (tgt := 82) hx hb dX0_spoil_30 (by decide) (fun c_30 => ?_) (fun c_30 => ?_)
          · refine lv_iload_n hx hb dX0_spoil_82 rfl (lv_at hl 3 rfl) ?_
            rw [show j = q by omega] at hP hD
            exact hend _ _ _ (k, lo, tw_ss u i sd F q) _ _ dX0_spoil_83 (by rw [← hE, tw_xspoil, c_5, c_15]; simp [nI_clamp (show u < 2 ^ 31 by omega), nI_clamp (show i < 2 ^ 31 by omega), nI_clamp (show q < 2 ^ 31 by omega)]) hP hD hS
          · exact absurd (nI_le (by omega) (by omega)) c_30
        | succ n ih =>
          intro j ls H locs hj hP hD hS hl
          refine lv_iload hx hb dX0_spoil_27 (lv_at hl 5 rfl) ?_
          refine lv_iload_n hx hb dX0_spoil_29 rfl (lv_at hl 3 rfl) ?_
          refine lv_icmp_ge (tgt := 82) hx hb dX0_spoil_30 (by decide) (fun c_30 => ?_) (fun c_30 => ?_)
          · exact absurd c_30 (nI_ge (by omega) (by omega))
          · refine lv_ldc (v := 1103515245) hx hb hown (hts _ fX0_spoil_46) dX0_spoil_33 ?_
            refine lv_iload hx hb dX0_spoil_35 (lv_at hl 4 rfl) ?_
            refine lv_imul hx hb dX0_spoil_37 ?_
            refine lv_sipush (v := 12345) hx hb dX0_spoil_38 (by decide) ?_
            refine lv_iadd hx hb dX0_spoil_41 ?_
            refine tw_topr (x' := tw_lc sd (j + 1)) (rfl) ?_
            refine lv_istore (lv' := [(5, .int (tw_lc sd (j + 1))), (0, .ref h0), (1, .int (nI u)), (2, .int (nI i)), (3, .int (nI q)), (6, .int (nI j))]) hx hb dX0_spoil_42 hl (by decide) rfl (fun ls hl => ?_)
            refine lv_iload hx hb dX0_spoil_44 (lv_at hl 0 rfl) ?_
            refine lv_bipush (v := 16) hx hb dX0_spoil_46 (by decide) ?_
            refine lv_iushr hx hb dX0_spoil_48 rfl ?_
            refine lv_sipush (v := 255) hx hb dX0_spoil_49 (by decide) ?_
            refine lv_iand hx hb dX0_spoil_52 ?_
            refine tw_topr (x' := tq_eb (tw_b16 (tw_lc sd (j + 1)))) (tw_b16_x _) ?_
            refine lv_istore (lv' := [(7, .int (tq_eb (tw_b16 (tw_lc sd (j + 1))))), (5, .int (tw_lc sd (j + 1))), (0, .ref h0), (1, .int (nI u)), (2, .int (nI i)), (3, .int (nI q)), (6, .int (nI j))]) hx hb dX0_spoil_53 hl (by decide) rfl (fun ls hl => ?_)
            refine lv_aload_n hx hb dX0_spoil_55 rfl (lv_at hl 2 rfl) ?_
            refine lv_iload_n hx hb dX0_spoil_56 rfl (lv_at hl 3 rfl) ?_
            refine lv_iload_n hx hb dX0_spoil_57 rfl (lv_at hl 4 rfl) ?_
            refine lv_iload hx hb dX0_spoil_58 (lv_at hl 6 rfl) ?_
            refine lv_iadd hx hb dX0_spoil_60 ?_
            refine tw_topr (x' := nI (i + j)) (nI_add i j) ?_
            refine lv_aload_n hx hb dX0_spoil_61 rfl (lv_at hl 2 rfl) ?_
            refine lv_iload_n hx hb dX0_spoil_62 rfl (lv_at hl 3 rfl) ?_
            refine lv_iload_n hx hb dX0_spoil_63 rfl (lv_at hl 4 rfl) ?_
            refine lv_iload hx hb dX0_spoil_64 (lv_at hl 6 rfl) ?_
            refine lv_iadd hx hb dX0_spoil_66 ?_
            refine tw_topr (x' := nI (i + j)) (nI_add i j) ?_
            refine tw_rX ⟨hx, hb, hml, hown, hts⟩ hK hP (c_X0_byteAt l D cA h0 a0 k lo (tw_ss u i sd F j) u (i + j) (by omega)) (cwV 2 hts gX0_spoil_X0_byteAt rfl rfl rfl kdX0_byteAt ⟨Nat.le_of_ble_eq_true rfl, Nat.le_of_ble_eq_true rfl⟩) rfl hl.1 rfl (Nat.le_of_ble_eq_true rfl) dX0_spoil_67 ⟨Nat.zero_le _, Nat.zero_le _⟩ ?_
            refine lv_iload hx hb dX0_spoil_70 (lv_at hl 0 rfl) ?_
            refine lv_ixor hx hb dX0_spoil_72 ?_
            refine tw_topr (x' := tq_eb (tw_ss u i sd F j (64 * u + (i + j)) ^^^ tw_b16 (tw_lc sd (j + 1)))) (tq_eb_xor _ _) ?_
            refine tw_wXv ⟨hx, hb, hml, hown, hts⟩ hK hP hD hS hA (c_X0_change l D cA h0 a0 k lo (tw_ss u i sd F j) _ u (i + j) (tw_ss u i sd F j (64 * u + (i + j)) ^^^ tw_b16 (tw_lc sd (j + 1))) (by omega)) (cwV 3 hts gX0_spoil_X0_change rfl rfl rfl kdX0_change ⟨Nat.le_of_ble_eq_true rfl, Nat.le_of_ble_eq_true rfl⟩) rfl hl.1 rfl (Nat.le_of_ble_eq_true rfl) dX0_spoil_73 ⟨Nat.zero_le _, Nat.zero_le _⟩ (fun H locs hP hD hS => ?_)
            have hP : va_P D vwCl (tw_X cA h0 a0 k lo (tw_ss u i sd F (j + 1))) H := hP
            have hD : va_D A (tw_X cA h0 a0 k lo (tw_ss u i sd F (j + 1))) := hD
            refine lv_iinc (v := nI (j + 1)) (lv' := [(6, .int (nI (j + 1))), (7, .int (tq_eb (tw_b16 (tw_lc sd (j + 1))))), (5, .int (tw_lc sd (j + 1))), (0, .ref h0), (1, .int (nI u)), (2, .int (nI i)), (3, .int (nI q))]) hx hb dX0_spoil_76 hl (k := 6) rfl (nI_1 j) (by decide) rfl (fun ls hl => ?_)
            refine lv_goto (tgt := 27) hx hb dX0_spoil_79 (by decide) ?_
            exact ih (j + 1) ls H locs (by omega) hP hD hS (lv_sub hl [3, 4, 5, 6, 2, 0] rfl)
      refine lv_iload hx hb dX0_spoil_20 (lv_at hl 4 rfl) ?_
      refine lv_istore (lv' := [(5, .int sd), (0, .ref h0), (1, .int (nI u)), (2, .int (nI i)), (3, .int (nI q)), (4, .int sd)]) hx hb dX0_spoil_22 hl (by decide) rfl (fun ls hl => ?_)
      refine lv_iconst (v := 0) hx hb dX0_spoil_24 (by decide) ?_
      refine lv_istore (lv' := [(6, .int 0), (5, .int sd), (0, .ref h0), (1, .int (nI u)), (2, .int (nI i)), (3, .int (nI q)), (4, .int sd)]) hx hb dX0_spoil_25 hl (by decide) rfl (fun ls hl => ?_)
      exact loop q 0 ls _ _ (by omega) hP hD hS (lv_sub hl [2, 3, 4, 5, 1, 0] rfl)
    · rw [tw_bI0] at c_15
      refine lv_iconst (v := (-1)) hx hb dX0_spoil_18 (by decide) ?_
      exact hend _ _ _ (k, lo, F) _ _ dX0_spoil_19 (by rw [tw_xspoil, if_neg (by first | (simp [c_5]; done) | (simp [c_15]; done))]) hP hD hS
def tw_xmake (k : Nat) (lo : Int32) (F : Nat → BitVec 8) : Int32 × (Nat × Int32 × (Nat → BitVec 8)) := if lo = 0 then (0, (k, lo, ty_rq k (k + 1) (ty_rp k k F 64) 64)) else (-1, (k, lo, F))
abbrev rmX0_make : Room := { frames := 4, cells := 0, slots := 0, locals := 91 }
theorem inX0_make : ∀ w ∈ wsX00, w ∈ wsX0_make := fun _ h => List.mem_cons_of_mem _ (List.mem_append_right _ h)
theorem fX0_make_17 : Cond.fieldLink RX0 17 "TwinParity" "lostUnits" "I" ∈ wsX0_make := List.mem_of_getElem? (i := 1) rfl
theorem fX0_make_13 : Cond.fieldLink RX0 13 "TwinParity" "dataUnits" "I" ∈ wsX0_make := List.mem_of_getElem? (i := 7) rfl
theorem fX0_make_9 : Cond.fieldLink RX0 9 "TwinParity" "bytes" "[I" ∈ wsX0_make := List.mem_of_getElem? (i := 20) rfl
theorem kdX0_make : yX0_make.cls = RX0 ∧ yX0_make.cls ≠ "java/lang/invoke/MethodHandle" ∧ yX0_make.cls ≠ "java/lang/invoke/VarHandle" ∧ (parseMethodDescriptor yX0_make.desc).map (fun d => d.parameters.length) = some 0 := by decide +kernel
set_option maxHeartbeats 4000000 in
set_option maxRecDepth 100000 in
theorem c_X0_make (l : Launch) (D : va_G) (cA : ClassId) (h0 a0 k : Nat) (lo : Int32) (F : Nat → BitVec 8) (sz : Nat) (hk : k ≤ 14) : Met l yX0_make wsX0_make rmX0_make (va_Pc [.ref h0] (tw_Pw D (tw_X cA h0 a0 k lo F) (tw_tX cA) sz)) (va_Qi (fun (r : Int32) (u : Nat × Int32 × (Nat → BitVec 8)) => (r, u) = tw_xmake k lo F) (tw_Qw D (fun u : Nat × Int32 × (Nat → BitVec 8) => tw_X cA h0 a0 u.1 u.2.1 u.2.2) (tw_tX cA) (va_A (tw_X cA h0 a0 k lo F) sz)) (va_A (tw_X cA h0 a0 k lo F) sz)) 0 0 (va_A (tw_X cA h0 a0 k lo F) sz) := by
  refine tw_metW (by decide) rfl rfl (Nat.le_of_ble_eq_true rfl) ?_
  intro p e s m args below meth c Q ls A hx hb hml hown hts hP hK hD hS hA hend hl
  have hown : s.vm.findClass RX0 = some m.cls := hown
  have hl : lv_has ls 1 [(0, .ref h0)] := hl
  refine lv_aload_n hx hb dX0_make_0 rfl (lv_at hl 0 rfl) ?_
  refine va_get (D := D) (ci := 0) (v := .int lo) (C := RX0) (T := TX0) (N := 3) hx hb hts inX0_make hown hK hP 0 rfl rfl 2 (by decide) (hts _ fX0_make_17) (fun _ h9 => h9) rfl dX0_make_1 ?_
  refine lv_if_eq (tgt := 9) hx hb dX0_make_4 (by decide) (fun c_4 => ?_) (fun c_4 => ?_)
  · refine lv_aload_n hx hb dX0_make_9 rfl (lv_at hl 0 rfl) ?_
    refine lv_aload_n hx hb dX0_make_10 rfl (lv_at hl 0 rfl) ?_
    refine tw_rX ⟨hx, hb, hml, hown, hts⟩ hK hP (c_X0_unitP l D cA h0 a0 k lo F ) (cwV 0 hts gX0_make_X0_unitP rfl rfl rfl kdX0_unitP ⟨Nat.le_of_ble_eq_true rfl, Nat.le_of_ble_eq_true rfl⟩) rfl hl.1 rfl (Nat.le_of_ble_eq_true rfl) dX0_make_11 ⟨Nat.zero_le _, Nat.zero_le _⟩ ?_
    refine tw_wXv ⟨hx, hb, hml, hown, hts⟩ hK hP hD hS hA (c_X0_restoreByP l D cA h0 a0 k lo F _ k (by omega) hk) (cwV 1 hts gX0_make_X0_restoreByP rfl rfl rfl kdX0_restoreByP ⟨Nat.le_of_ble_eq_true rfl, Nat.le_of_ble_eq_true rfl⟩) rfl hl.1 rfl (Nat.le_of_ble_eq_true rfl) dX0_make_14 ⟨Nat.zero_le _, Nat.zero_le _⟩ (fun H locs hP hD hS => ?_)
    have hP : va_P D vwCl (tw_X cA h0 a0 k lo (ty_rp k k F 64)) H := hP
    have hD : va_D A (tw_X cA h0 a0 k lo (ty_rp k k F 64)) := hD
    refine lv_aload_n hx hb dX0_make_17 rfl (lv_at hl 0 rfl) ?_
    refine lv_aload_n hx hb dX0_make_18 rfl (lv_at hl 0 rfl) ?_
    refine tw_rX ⟨hx, hb, hml, hown, hts⟩ hK hP (c_X0_unitQ l D cA h0 a0 k lo (ty_rp k k F 64) ) (cwV 0 hts gX0_make_X0_unitQ rfl rfl rfl kdX0_unitQ ⟨Nat.le_of_ble_eq_true rfl, Nat.le_of_ble_eq_true rfl⟩) rfl hl.1 rfl (Nat.le_of_ble_eq_true rfl) dX0_make_19 ⟨Nat.zero_le _, Nat.zero_le _⟩ ?_
    refine tw_wXv ⟨hx, hb, hml, hown, hts⟩ hK hP hD hS hA (c_X0_restoreByQ l D cA h0 a0 k lo (ty_rp k k F 64) _ (k + 1) (by omega) hk) (cwV 1 hts gX0_make_X0_restoreByQ rfl rfl rfl kdX0_restoreByQ ⟨Nat.le_of_ble_eq_true rfl, Nat.le_of_ble_eq_true rfl⟩) rfl hl.1 rfl (Nat.le_of_ble_eq_true rfl) dX0_make_22 ⟨Nat.zero_le _, Nat.zero_le _⟩ (fun H locs hP hD hS => ?_)
    have hP : va_P D vwCl (tw_X cA h0 a0 k lo (ty_rq k (k + 1) (ty_rp k k F 64) 64)) H := hP
    have hD : va_D A (tw_X cA h0 a0 k lo (ty_rq k (k + 1) (ty_rp k k F 64) 64)) := hD
    refine lv_iconst (v := 0) hx hb dX0_make_25 (by decide) ?_
    exact hend _ _ _ (k, lo, ty_rq k (k + 1) (ty_rp k k F 64) 64) _ _ dX0_make_26 (by rw [tw_xmake, if_pos c_4]) hP hD hS
  · refine lv_iconst (v := (-1)) hx hb dX0_make_7 (by decide) ?_
    exact hend _ _ _ (k, lo, F) _ _ dX0_make_8 (by rw [tw_xmake, if_neg c_4]) hP hD hS
def tw_xlose (k : Nat) (lo : Int32) (F : Nat → BitVec 8) (x : Int32) : Int32 × (Nat × Int32 × (Nat → BitVec 8)) := if tw_th k lo x then (if tw_bc lo = 2 then (-3, (k, lo, F)) else (tw_bc (lo ||| (1 <<< (x &&& 31))), (k, lo ||| (1 <<< (x &&& 31)), F))) else (-1, (k, lo, F))
abbrev rmX0_lose : Room := { frames := 2, cells := 0, slots := 0, locals := 42 }
theorem inX0_lose : ∀ w ∈ wsX00, w ∈ wsX0_lose := fun _ h => List.mem_cons_of_mem _ (List.mem_append_right _ h)
theorem fX0_lose_17 : Cond.fieldLink RX0 17 "TwinParity" "lostUnits" "I" ∈ wsX0_lose := List.mem_of_getElem? (i := 1) rfl
theorem fX0_lose_13 : Cond.fieldLink RX0 13 "TwinParity" "dataUnits" "I" ∈ wsX0_lose := List.mem_of_getElem? (i := 11) rfl
theorem kdX0_lose : yX0_lose.cls = RX0 ∧ yX0_lose.cls ≠ "java/lang/invoke/MethodHandle" ∧ yX0_lose.cls ≠ "java/lang/invoke/VarHandle" ∧ (parseMethodDescriptor yX0_lose.desc).map (fun d => d.parameters.length) = some 1 := by decide +kernel
set_option maxHeartbeats 4000000 in
set_option maxRecDepth 100000 in
theorem c_X0_lose (l : Launch) (D : va_G) (cA : ClassId) (h0 a0 k : Nat) (lo : Int32) (F : Nat → BitVec 8) (sz : Nat) (x : Int32) (hk : k ≤ 14) : Met l yX0_lose wsX0_lose rmX0_lose (va_Pc [.ref h0, .int x] (tw_Pw D (tw_X cA h0 a0 k lo F) (tw_tX cA) sz)) (va_Qi (fun (r : Int32) (u : Nat × Int32 × (Nat → BitVec 8)) => (r, u) = tw_xlose k lo F x) (tw_Qw D (fun u : Nat × Int32 × (Nat → BitVec 8) => tw_X cA h0 a0 u.1 u.2.1 u.2.2) (tw_tX cA) (va_A (tw_X cA h0 a0 k lo F) sz)) (va_A (tw_X cA h0 a0 k lo F) sz)) 0 0 (va_A (tw_X cA h0 a0 k lo F) sz) := by
  refine tw_metW (by decide) rfl rfl (Nat.le_of_ble_eq_true rfl) ?_
  intro p e s m args below meth c Q ls A hx hb hml hown hts hP hK hD hS hA hend hl
  have hown : s.vm.findClass RX0 = some m.cls := hown
  have hl : lv_has ls 2 [(0, .ref h0), (1, .int x)] := hl
  refine lv_aload_n hx hb dX0_lose_0 rfl (lv_at hl 0 rfl) ?_
  refine lv_iload_n hx hb dX0_lose_1 rfl (lv_at hl 1 rfl) ?_
  refine tw_rX ⟨hx, hb, hml, hown, hts⟩ hK hP (c_X0_isThere l D cA h0 a0 k lo F x hk) (cwV 1 hts gX0_lose_X0_isThere rfl rfl rfl kdX0_isThere ⟨Nat.le_of_ble_eq_true rfl, Nat.le_of_ble_eq_true rfl⟩) rfl hl.1 rfl (Nat.le_of_ble_eq_true rfl) dX0_lose_2 ⟨Nat.zero_le _, Nat.zero_le _⟩ ?_
  refine lv_if_ne (tgt := 10) hx hb dX0_lose_5 (by decide) (fun c_5 => ?_) (fun c_5 => ?_)
  · rw [tw_bI1] at c_5
    refine lv_aload_n hx hb dX0_lose_10 rfl (lv_at hl 0 rfl) ?_
    refine tw_rX ⟨hx, hb, hml, hown, hts⟩ hK hP (c_X0_lostCount l D cA h0 a0 k lo F ) (cwV 0 hts gX0_lose_X0_lostCount rfl rfl rfl kdX0_lostCount ⟨Nat.le_of_ble_eq_true rfl, Nat.le_of_ble_eq_true rfl⟩) rfl hl.1 rfl (Nat.le_of_ble_eq_true rfl) dX0_lose_11 ⟨Nat.zero_le _, Nat.zero_le _⟩ ?_
    refine lv_iconst (v := 2) hx hb dX0_lose_14 (by decide) ?_
    refine lv_icmp_ne (tgt := 21) hx hb dX0_lose_15 (by decide) (fun c_15 => ?_) (fun c_15 => ?_)
    · refine lv_aload_n hx hb dX0_lose_21 rfl (lv_at hl 0 rfl) ?_
      refine lv_dup hx hb dX0_lose_22 rfl ?_
      refine va_get (D := D) (ci := 0) (v := .int lo) (C := RX0) (T := TX0) (N := 3) hx hb hts inX0_lose hown hK hP 0 rfl rfl 2 (by decide) (hts _ fX0_lose_17) (fun _ h9 => h9) rfl dX0_lose_23 ?_
      refine lv_iconst (v := 1) hx hb dX0_lose_26 (by decide) ?_
      refine lv_iload_n hx hb dX0_lose_27 rfl (lv_at hl 1 rfl) ?_
      refine lv_ishl hx hb dX0_lose_28 ?_
      refine lv_ior hx hb dX0_lose_29 ?_
      refine va_put (D := D) (ci := 0) (v := .int (lo ||| (1 <<< (x &&& 31)))) (ty := .int) (C := RX0) (T := TX0) (N := 3) hx hb hts inX0_lose tyX0 tyX0_ok nmX0 hown hK hP hD hS 0 rfl rfl 2 (by decide) (hts _ fX0_lose_17) (fun _ h9 => h9) rfl (by decide +kernel) rfl rfl (Nat.le_of_ble_eq_true rfl) dX0_lose_30 (fun H locs hP hD hS => ?_)
      have hP : va_P D vwCl (tw_X cA h0 a0 k (lo ||| (1 <<< (x &&& 31))) F) H := hP
      have hD : va_D A (tw_X cA h0 a0 k (lo ||| (1 <<< (x &&& 31))) F) := hD
      refine lv_aload_n hx hb dX0_lose_33 rfl (lv_at hl 0 rfl) ?_
      refine tw_rX ⟨hx, hb, hml, hown, hts⟩ hK hP (c_X0_lostCount l D cA h0 a0 k (lo ||| (1 <<< (x &&& 31))) F ) (cwV 0 hts gX0_lose_X0_lostCount rfl rfl rfl kdX0_lostCount ⟨Nat.le_of_ble_eq_true rfl, Nat.le_of_ble_eq_true rfl⟩) rfl hl.1 rfl (Nat.le_of_ble_eq_true rfl) dX0_lose_34 ⟨Nat.zero_le _, Nat.zero_le _⟩ ?_
      exact hend _ _ _ (k, lo ||| (1 <<< (x &&& 31)), F) _ _ dX0_lose_37 (by rw [tw_xlose, c_5, if_pos rfl, if_neg c_15]) hP hD hS
    · refine lv_bipush (v := (-3)) hx hb dX0_lose_18 (by decide) ?_
      exact hend _ _ _ (k, lo, F) _ _ dX0_lose_20 (by rw [tw_xlose, c_5, if_pos rfl, if_pos c_15]) hP hD hS
  · rw [tw_bI0] at c_5
    refine lv_iconst (v := (-1)) hx hb dX0_lose_8 (by decide) ?_
    exact hend _ _ _ (k, lo, F) _ _ dX0_lose_9 (by rw [tw_xlose, c_5]; rfl) hP hD hS
def tw_xmend (k : Nat) (lo : Int32) (F : Nat → BitVec 8) : Int32 × (Nat × Int32 × (Nat → BitVec 8)) :=
  let a := tw_low (tw_lb lo) 0 (k + 2)
  let b := tw_low (tw_lb lo) (a + 1) (k + 2 - (a + 1))
  if a = k + 2 then (0, (k, lo, F)) else if b = k + 2 then (1, (k, 0, ty_ro k a F)) else (2, (k, 0, ty_rt k a b F))
abbrev rmX0_mend : Room := { frames := 5, cells := 0, slots := 0, locals := 116 }
theorem inX0_mend : ∀ w ∈ wsX00, w ∈ wsX0_mend := fun _ h => List.mem_cons_of_mem _ (List.mem_append_right _ h)
theorem fX0_mend_17 : Cond.fieldLink RX0 17 "TwinParity" "lostUnits" "I" ∈ wsX0_mend := List.mem_of_getElem? (i := 1) rfl
theorem fX0_mend_13 : Cond.fieldLink RX0 13 "TwinParity" "dataUnits" "I" ∈ wsX0_mend := List.mem_of_getElem? (i := 11) rfl
theorem fX0_mend_9 : Cond.fieldLink RX0 9 "TwinParity" "bytes" "[I" ∈ wsX0_mend := List.mem_of_getElem? (i := 48) rfl
theorem kdX0_mend : yX0_mend.cls = RX0 ∧ yX0_mend.cls ≠ "java/lang/invoke/MethodHandle" ∧ yX0_mend.cls ≠ "java/lang/invoke/VarHandle" ∧ (parseMethodDescriptor yX0_mend.desc).map (fun d => d.parameters.length) = some 0 := by decide +kernel
set_option maxHeartbeats 4000000 in
set_option maxRecDepth 100000 in
theorem c_X0_mend (l : Launch) (D : va_G) (cA : ClassId) (h0 a0 k : Nat) (lo : Int32) (F : Nat → BitVec 8) (sz : Nat) (hk : k ≤ 14) : Met l yX0_mend wsX0_mend rmX0_mend (va_Pc [.ref h0] (tw_Pw D (tw_X cA h0 a0 k lo F) (tw_tX cA) sz)) (va_Qi (fun (r : Int32) (u : Nat × Int32 × (Nat → BitVec 8)) => (r, u) = tw_xmend k lo F) (tw_Qw D (fun u : Nat × Int32 × (Nat → BitVec 8) => tw_X cA h0 a0 u.1 u.2.1 u.2.2) (tw_tX cA) (va_A (tw_X cA h0 a0 k lo F) sz)) (va_A (tw_X cA h0 a0 k lo F) sz)) 0 0 (va_A (tw_X cA h0 a0 k lo F) sz) := by
  refine tw_metW (by decide) rfl rfl (Nat.le_of_ble_eq_true rfl) ?_
  intro p e s m args below meth c Q ls A hx hb hml hown hts hP hK hD hS hA hend hl
  have hown : s.vm.findClass RX0 = some m.cls := hown
  have hl : lv_has ls 3 [(0, .ref h0)] := hl
  refine lv_aload_n hx hb dX0_mend_0 rfl (lv_at hl 0 rfl) ?_
  refine lv_iconst (v := 0) hx hb dX0_mend_1 (by decide) ?_
  refine tw_rX ⟨hx, hb, hml, hown, hts⟩ hK hP (c_X0_lostFrom l D cA h0 a0 k lo F 0 (Nat.zero_le _) hk) (cwV 1 hts gX0_mend_X0_lostFrom rfl rfl rfl kdX0_lostFrom ⟨Nat.le_of_ble_eq_true rfl, Nat.le_of_ble_eq_true rfl⟩) rfl hl.1 rfl (Nat.le_of_ble_eq_true rfl) dX0_mend_2 ⟨Nat.zero_le _, Nat.zero_le _⟩ ?_
  refine lv_topi (fun x1_5 ex1_5 => ?_)
  refine lv_istore_n (lv' := [(1, .int x1_5), (0, .ref h0)]) hx hb dX0_mend_5 rfl hl (by decide) rfl (fun ls hl => ?_)
  refine lv_iload_n hx hb dX0_mend_6 rfl (lv_at hl 0 rfl) ?_
  refine lv_iconst (v := (-1)) hx hb dX0_mend_7 (by decide) ?_
  refine lv_icmp_ne (tgt := 13) hx hb dX0_mend_8 (by decide) (fun c_8 => ?_) (fun c_8 => ?_)
  · obtain ⟨a, ha, -, ha2, ha3⟩ := tw_lfD hk (Nat.zero_le _) (by rw [← ex1_5]; exact c_8)
    rw [ex1_5, ha3] at hl
    refine lv_aload_n hx hb dX0_mend_13 rfl (lv_at hl 1 rfl) ?_
    refine lv_iload_n hx hb dX0_mend_14 rfl (lv_at hl 0 rfl) ?_
    refine lv_iconst (v := 1) hx hb dX0_mend_15 (by decide) ?_
    refine lv_iadd hx hb dX0_mend_16 ?_
    refine tw_topr (x' := nI (a + 1)) (nI_1 a) ?_
    refine tw_rX ⟨hx, hb, hml, hown, hts⟩ hK hP (c_X0_lostFrom l D cA h0 a0 k lo F (a + 1) (by omega) hk) (cwV 1 hts gX0_mend_X0_lostFrom rfl rfl rfl kdX0_lostFrom ⟨Nat.le_of_ble_eq_true rfl, Nat.le_of_ble_eq_true rfl⟩) rfl hl.1 rfl (Nat.le_of_ble_eq_true rfl) dX0_mend_17 ⟨Nat.zero_le _, Nat.zero_le _⟩ ?_
    refine lv_topi (fun x2_20 ex2_20 => ?_)
    refine lv_istore_n (lv' := [(2, .int x2_20), (1, .int (nI a)), (0, .ref h0)]) hx hb dX0_mend_20 rfl hl (by decide) rfl (fun ls hl => ?_)
    refine lv_aload_n hx hb dX0_mend_21 rfl (lv_at hl 2 rfl) ?_
    refine lv_iconst (v := 0) hx hb dX0_mend_22 (by decide) ?_
    refine va_put (D := D) (ci := 0) (v := .int 0) (ty := .int) (C := RX0) (T := TX0) (N := 3) hx hb hts inX0_mend tyX0 tyX0_ok nmX0 hown hK hP hD hS 0 rfl rfl 2 (by decide) (hts _ fX0_mend_17) (fun _ h9 => h9) rfl (by decide +kernel) rfl rfl (Nat.le_of_ble_eq_true rfl) dX0_mend_23 (fun H locs hP hD hS => ?_)
    have hP : va_P D vwCl (tw_X cA h0 a0 k 0 F) H := hP
    have hD : va_D A (tw_X cA h0 a0 k 0 F) := hD
    refine lv_iload_n hx hb dX0_mend_26 rfl (lv_at hl 0 rfl) ?_
    refine lv_iconst (v := (-1)) hx hb dX0_mend_27 (by decide) ?_
    refine lv_icmp_ne (tgt := 38) hx hb dX0_mend_28 (by decide) (fun c_28 => ?_) (fun c_28 => ?_)
    · obtain ⟨b, hb1, hb2, hb3, hb4⟩ := tw_lfD (f := a + 1) hk (by omega) (by rw [← ex2_20]; exact c_28)
      rw [ex2_20, hb4] at hl
      refine lv_aload_n hx hb dX0_mend_38 rfl (lv_at hl 2 rfl) ?_
      refine lv_iload_n hx hb dX0_mend_39 rfl (lv_at hl 1 rfl) ?_
      refine lv_iload_n hx hb dX0_mend_40 rfl (lv_at hl 0 rfl) ?_
      refine tw_wXv ⟨hx, hb, hml, hown, hts⟩ hK hP hD hS hA (c_X0_restoreTwo l D cA h0 a0 k 0 F _ a b (by omega) (by omega) hk) (cwV 2 hts gX0_mend_X0_restoreTwo rfl rfl rfl kdX0_restoreTwo ⟨Nat.le_of_ble_eq_true rfl, Nat.le_of_ble_eq_true rfl⟩) rfl hl.1 rfl (Nat.le_of_ble_eq_true rfl) dX0_mend_41 ⟨Nat.zero_le _, Nat.zero_le _⟩ (fun H locs hP hD hS => ?_)
      have hP : va_P D vwCl (tw_X cA h0 a0 k 0 (ty_rt k a b F)) H := hP
      have hD : va_D A (tw_X cA h0 a0 k 0 (ty_rt k a b F)) := hD
      refine lv_iconst (v := 2) hx hb dX0_mend_44 (by decide) ?_
      exact hend _ _ _ (k, 0, ty_rt k a b F) _ _ dX0_mend_45 (by have h9 : tw_low (tw_lb lo) 0 (k + 2) = a := ha.symm; simp only [tw_xmend, h9, ← hb1, if_neg (show ¬ a = k + 2 by omega), if_neg (show ¬ b = k + 2 by omega)]) hP hD hS
    · refine lv_aload_n hx hb dX0_mend_31 rfl (lv_at hl 2 rfl) ?_
      refine lv_iload_n hx hb dX0_mend_32 rfl (lv_at hl 1 rfl) ?_
      refine tw_wXv ⟨hx, hb, hml, hown, hts⟩ hK hP hD hS hA (c_X0_restoreOne l D cA h0 a0 k 0 F _ a (by omega) hk) (cwV 1 hts gX0_mend_X0_restoreOne rfl rfl rfl kdX0_restoreOne ⟨Nat.le_of_ble_eq_true rfl, Nat.le_of_ble_eq_true rfl⟩) rfl hl.1 rfl (Nat.le_of_ble_eq_true rfl) dX0_mend_33 ⟨Nat.zero_le _, Nat.zero_le _⟩ (fun H locs hP hD hS => ?_)
      have hP : va_P D vwCl (tw_X cA h0 a0 k 0 (ty_ro k a F)) H := hP
      have hD : va_D A (tw_X cA h0 a0 k 0 (ty_ro k a F)) := hD
      refine lv_iconst (v := 1) hx hb dX0_mend_36 (by decide) ?_
      exact hend _ _ _ (k, 0, ty_ro k a F) _ _ dX0_mend_37 (by have h8 : tw_low (tw_lb lo) (a + 1) (k + 2 - (a + 1)) = k + 2 := tw_lfE hk (by omega) (by rw [← ex2_20]; exact c_28); have h9 : tw_low (tw_lb lo) 0 (k + 2) = a := ha.symm; simp only [tw_xmend, h9, h8, if_neg (show ¬ a = k + 2 by omega), if_true]) hP hD hS
  · refine lv_iconst (v := 0) hx hb dX0_mend_11 (by decide) ?_
    exact hend _ _ _ (k, lo, F) _ _ dX0_mend_12 (by have h9 : tw_low (tw_lb lo) 0 (k + 2) = k + 2 := tw_lfE hk (Nat.zero_le _) (by rw [← ex1_5]; exact c_8); simp [tw_xmend, h9]) hP hD hS
def tw_xfix (k : Nat) (lo : Int32) (F : Nat → BitVec 8) : Int32 × (Nat × Int32 × (Nat → BitVec 8)) := if tw_ck k lo F < 0 then (tw_ck k lo F, (k, lo, F)) else (tw_ck k lo F, (k, lo, ty_ro k (tw_ck k lo F).toNatClampNeg F))
abbrev rmX0_fix : Room := { frames := 5, cells := 0, slots := 0, locals := 112 }
theorem inX0_fix : ∀ w ∈ wsX00, w ∈ wsX0_fix := fun _ h => List.mem_cons_of_mem _ (List.mem_append_right _ h)
theorem fX0_fix_17 : Cond.fieldLink RX0 17 "TwinParity" "lostUnits" "I" ∈ wsX0_fix := List.mem_of_getElem? (i := 6) rfl
theorem fX0_fix_13 : Cond.fieldLink RX0 13 "TwinParity" "dataUnits" "I" ∈ wsX0_fix := List.mem_of_getElem? (i := 11) rfl
theorem fX0_fix_9 : Cond.fieldLink RX0 9 "TwinParity" "bytes" "[I" ∈ wsX0_fix := List.mem_of_getElem? (i := 24) rfl
theorem kdX0_fix : yX0_fix.cls = RX0 ∧ yX0_fix.cls ≠ "java/lang/invoke/MethodHandle" ∧ yX0_fix.cls ≠ "java/lang/invoke/VarHandle" ∧ (parseMethodDescriptor yX0_fix.desc).map (fun d => d.parameters.length) = some 0 := by decide +kernel
set_option maxHeartbeats 4000000 in
set_option maxRecDepth 100000 in
theorem c_X0_fix (l : Launch) (D : va_G) (cA : ClassId) (h0 a0 k : Nat) (lo : Int32) (F : Nat → BitVec 8) (sz : Nat) (hk : k ≤ 14) : Met l yX0_fix wsX0_fix rmX0_fix (va_Pc [.ref h0] (tw_Pw D (tw_X cA h0 a0 k lo F) (tw_tX cA) sz)) (va_Qi (fun (r : Int32) (u : Nat × Int32 × (Nat → BitVec 8)) => (r, u) = tw_xfix k lo F) (tw_Qw D (fun u : Nat × Int32 × (Nat → BitVec 8) => tw_X cA h0 a0 u.1 u.2.1 u.2.2) (tw_tX cA) (va_A (tw_X cA h0 a0 k lo F) sz)) (va_A (tw_X cA h0 a0 k lo F) sz)) 0 0 (va_A (tw_X cA h0 a0 k lo F) sz) := by
  refine tw_metW (by decide) rfl rfl (Nat.le_of_ble_eq_true rfl) ?_
  intro p e s m args below meth c Q ls A hx hb hml hown hts hP hK hD hS hA hend hl
  have hown : s.vm.findClass RX0 = some m.cls := hown
  have hl : lv_has ls 2 [(0, .ref h0)] := hl
  refine lv_aload_n hx hb dX0_fix_0 rfl (lv_at hl 0 rfl) ?_
  refine tw_rX ⟨hx, hb, hml, hown, hts⟩ hK hP (c_X0_check l D cA h0 a0 k lo F hk) (cwV 0 hts gX0_fix_X0_check rfl rfl rfl kdX0_check ⟨Nat.le_of_ble_eq_true rfl, Nat.le_of_ble_eq_true rfl⟩) rfl hl.1 rfl (Nat.le_of_ble_eq_true rfl) dX0_fix_1 ⟨Nat.zero_le _, Nat.zero_le _⟩ ?_
  refine lv_topi (fun x1_4 ex1_4 => ?_)
  refine lv_istore_n (lv' := [(1, .int x1_4), (0, .ref h0)]) hx hb dX0_fix_4 rfl hl (by decide) rfl (fun ls hl => ?_)
  refine lv_iload_n hx hb dX0_fix_5 rfl (lv_at hl 0 rfl) ?_
  refine lv_if_lt (tgt := 14) hx hb dX0_fix_6 (by decide) (fun c_6 => ?_) (fun c_6 => ?_)
  · refine lv_iload_n hx hb dX0_fix_14 rfl (lv_at hl 0 rfl) ?_
    exact hend _ _ _ (k, lo, F) _ _ dX0_fix_15 (by rw [tw_xfix, ← ex1_4, if_pos c_6]) hP hD hS
  · obtain ⟨a, ha, ha2⟩ := tw_ckD hk (show ¬ tw_ck k lo F < 0 by rw [← ex1_4]; exact c_6)
    rw [ex1_4, ha2] at hl
    refine lv_aload_n hx hb dX0_fix_9 rfl (lv_at hl 1 rfl) ?_
    refine lv_iload_n hx hb dX0_fix_10 rfl (lv_at hl 0 rfl) ?_
    refine tw_wXv ⟨hx, hb, hml, hown, hts⟩ hK hP hD hS hA (c_X0_restoreOne l D cA h0 a0 k lo F _ a ha hk) (cwV 1 hts gX0_fix_X0_restoreOne rfl rfl rfl kdX0_restoreOne ⟨Nat.le_of_ble_eq_true rfl, Nat.le_of_ble_eq_true rfl⟩) rfl hl.1 rfl (Nat.le_of_ble_eq_true rfl) dX0_fix_11 ⟨Nat.zero_le _, Nat.zero_le _⟩ (fun H locs hP hD hS => ?_)
    have hP : va_P D vwCl (tw_X cA h0 a0 k lo (ty_ro k a F)) H := hP
    have hD : va_D A (tw_X cA h0 a0 k lo (ty_ro k a F)) := hD
    refine lv_iload_n hx hb dX0_fix_14 rfl (lv_at hl 0 rfl) ?_
    exact hend _ _ _ (k, lo, ty_ro k a F) _ _ dX0_fix_15 (by rw [tw_xfix, ha2, if_neg (nI_pos (by omega)), nI_clamp (by omega)]) hP hD hS
end
section
/-! ===== words of the reference ===== -/
def tw_ml (g : Nat → Bool) (c : Nat → BitVec 8) (u : Nat) : BitVec 8 := if g u then 0#8 else c u
def tw_sm (b : Bool) (c : Nat → BitVec 8) (n : Nat) : BitVec 8 := if b then tq_qs c n else tq_xs c n
def tw_mc (g : Nat → Bool) : Nat → Nat
  | 0 => 0
  | n + 1 => tw_mc g n + (if g n then 1 else 0)
def tw_nu (k : Nat) (x : Int32) : Bool := decide (x < 0) || !decide (x < nI (k + 2))
theorem tq_nI {j : Nat} (h : j < 256) : nI j = tq_eb (BitVec.ofNat 8 j) := by
  unfold tq_eb
  rw [BitVec.toNat_ofNat, Nat.mod_eq_of_lt h]
theorem tq_ebN (x : BitVec 8) : tq_eb x = nI x.toNat := rfl
theorem tw_p_i (k : Nat) : nI (k + 2) - 2 = nI k := pk_sub (a := k + 2) (b := 2) (by omega)
theorem tw_q_i (k : Nat) : nI (k + 2) - 1 = nI (k + 1) := pk_sub (a := k + 2) (b := 1) (by omega)
theorem tw_mc_le (g : Nat → Bool) (n : Nat) : tw_mc g n ≤ n := by
  induction n with
  | zero => exact Nat.le_refl 0
  | succ n ih =>
    unfold tw_mc
    split <;> omega
abbrev rmX1_times : Room := { frames := 0, cells := 0, slots := 0, locals := 0 }
theorem kdX1_times : yX1_times.cls = RX1 ∧ yX1_times.cls ≠ "java/lang/invoke/MethodHandle" ∧ yX1_times.cls ≠ "java/lang/invoke/VarHandle" ∧ (parseMethodDescriptor yX1_times.desc).map (fun d => d.parameters.length) = some 2 := by decide +kernel
set_option maxHeartbeats 4000000 in
set_option maxRecDepth 100000 in
theorem c_X1_times (l : Launch) (D : va_G) (cA cB : ClassId) (h0 a0 b0 k : Nat) (F : Nat → BitVec 8) (g : Nat → Bool) (a b : BitVec 8) : Met l yX1_times wsX1_times rmX1_times (va_Pc [.ref h0, .int (tq_eb a), .int (tq_eb b)] (tw_B D (tw_M cA cB h0 a0 b0 k F g) (tw_tM cA cB))) (vp_Si (fun r => r = tq_eb (tq_m a b))) 0 0 (fun _ => False) := by
  refine tw_metR (by decide) rfl rfl (Nat.le_of_ble_eq_true rfl) ?_
  intro p e s m args below meth c Q ls hx hb hml hown hts hP hK hend hl
  have hown : s.vm.findClass RX1 = some m.cls := hown
  have hl : lv_has ls 6 [(0, .ref h0), (1, .int (tq_eb a)), (2, .int (tq_eb b))] := hl
  have loop : ∀ (n j : Nat) (ls : Array Slot), j + n = 8 → lv_has ls 6 [(0, .ref h0), (1, .int (tq_eb a)), (2, .int (tq_eb b)), (3, .int (tq_eb (tq_ms a b j))), (4, .int (tq_eb (tq_p j a))), (5, .int (nI j))] → W p l e rmX1_times s m args below meth c s.heap [] 0 0 Q (F0 m 8 ls []) := by
    intro n
    induction n with
    | zero =>
      intro j ls hj hl
      refine lv_iload hx hb dX1_times_8 (lv_at hl 5 rfl) ?_
      refine lv_bipush (v := 8) hx hb dX1_times_10 (by decide) ?_
      refine lv_icmp_ge (tgt := 65) hx hb dX1_times_12 (by decide) (fun c_12 => ?_) (fun c_12 => ?_)
      · refine lv_iload_n hx hb dX1_times_65 rfl (lv_at hl 3 rfl) ?_
        refine tw_topr (x' := tq_eb (tq_m a b)) (by rw [show j = 8 by omega]; rfl) ?_
        exact hend _ _ dX1_times_66
      · exact absurd (nI_le (a := 8) (by omega) (by omega)) c_12
    | succ n ih =>
      intro j ls hj hl
      refine lv_iload hx hb dX1_times_8 (lv_at hl 5 rfl) ?_
      refine lv_bipush (v := 8) hx hb dX1_times_10 (by decide) ?_
      refine lv_icmp_ge (tgt := 65) hx hb dX1_times_12 (by decide) (fun c_12 => ?_) (fun c_12 => ?_)
      · exact absurd c_12 (nI_ge (b := 8) (by omega) (by omega))
      · refine lv_iload_n hx hb dX1_times_15 rfl (lv_at hl 2 rfl) ?_
        refine lv_iload hx hb dX1_times_16 (lv_at hl 5 rfl) ?_
        refine lv_ishr hx hb dX1_times_18 ?_
        refine lv_iconst (v := 1) hx hb dX1_times_19 (by decide) ?_
        refine lv_iand hx hb dX1_times_20 ?_
        refine tw_topr (x' := if b.getLsbD j then 1 else 0) (tq_bit_i b j (by omega)) ?_
        refine lv_iconst (v := 1) hx hb dX1_times_21 (by decide) ?_
        refine lv_icmp_ne (tgt := 32) hx hb dX1_times_22 (by decide) (fun c_22 => ?_) (fun c_22 => ?_)
        · have hbit : b.getLsbD j = false := by cases hq : b.getLsbD j with | false => rfl | true => rw [hq] at c_22; exact absurd rfl c_22
          refine lv_iload_n hx hb dX1_times_32 rfl (lv_at hl 3 rfl) ?_
          refine tw_topr (x' := tq_eb (tq_ms a b (j + 1))) (by first | (rw [tq_eb_xor]; simp [tq_ms, hbit]; done) | (simp [tq_ms, hbit]; done)) ?_
          refine lv_istore_n (lv' := [(3, .int (tq_eb (tq_ms a b (j + 1)))), (0, .ref h0), (1, .int (tq_eb a)), (2, .int (tq_eb b)), (4, .int (tq_eb (tq_p j a))), (5, .int (nI j))]) hx hb dX1_times_33 rfl hl (by decide) rfl (fun ls hl => ?_)
          refine lv_iload hx hb dX1_times_34 (lv_at hl 4 rfl) ?_
          refine lv_sipush (v := 128) hx hb dX1_times_36 (by decide) ?_
          refine lv_icmp_ge (tgt := 49) hx hb dX1_times_39 (by decide) (fun c_39 => ?_) (fun c_39 => ?_)
          · refine lv_iconst (v := 2) hx hb dX1_times_49 (by decide) ?_
            refine lv_iload hx hb dX1_times_50 (lv_at hl 4 rfl) ?_
            refine lv_imul hx hb dX1_times_52 ?_
            refine lv_sipush (v := 285) hx hb dX1_times_53 (by decide) ?_
            refine lv_ixor hx hb dX1_times_56 ?_
            refine tw_topr (x' := tq_eb (tq_p (j + 1) a)) (by show _ = tq_eb (tq_d (tq_p j a)); rw [← tq_dbl_m]; first | exact (if_pos c_39).symm | exact (if_neg c_39).symm) ?_
            refine lv_istore (lv' := [(4, .int (tq_eb (tq_p (j + 1) a))), (3, .int (tq_eb (tq_ms a b (j + 1)))), (0, .ref h0), (1, .int (tq_eb a)), (2, .int (tq_eb b)), (5, .int (nI j))]) hx hb dX1_times_57 hl (by decide) rfl (fun ls hl => ?_)
            refine lv_iinc (v := nI (j + 1)) (lv' := [(5, .int (nI (j + 1))), (4, .int (tq_eb (tq_p (j + 1) a))), (3, .int (tq_eb (tq_ms a b (j + 1)))), (0, .ref h0), (1, .int (tq_eb a)), (2, .int (tq_eb b))]) hx hb dX1_times_59 hl (k := 5) rfl (nI_1 j) (by decide) rfl (fun ls hl => ?_)
            refine lv_goto (tgt := 8) hx hb dX1_times_62 (by decide) ?_
            exact ih (j + 1) ls (by omega) (lv_sub hl [3, 4, 5, 2, 1, 0] rfl)
          · refine lv_iconst (v := 2) hx hb dX1_times_42 (by decide) ?_
            refine lv_iload hx hb dX1_times_43 (lv_at hl 4 rfl) ?_
            refine lv_imul hx hb dX1_times_45 ?_
            refine lv_goto (tgt := 57) hx hb dX1_times_46 (by decide) ?_
            refine tw_topr (x' := tq_eb (tq_p (j + 1) a)) (by show _ = tq_eb (tq_d (tq_p j a)); rw [← tq_dbl_m]; first | exact (if_pos c_39).symm | exact (if_neg c_39).symm) ?_
            refine lv_istore (lv' := [(4, .int (tq_eb (tq_p (j + 1) a))), (3, .int (tq_eb (tq_ms a b (j + 1)))), (0, .ref h0), (1, .int (tq_eb a)), (2, .int (tq_eb b)), (5, .int (nI j))]) hx hb dX1_times_57 hl (by decide) rfl (fun ls hl => ?_)
            refine lv_iinc (v := nI (j + 1)) (lv' := [(5, .int (nI (j + 1))), (4, .int (tq_eb (tq_p (j + 1) a))), (3, .int (tq_eb (tq_ms a b (j + 1)))), (0, .ref h0), (1, .int (tq_eb a)), (2, .int (tq_eb b))]) hx hb dX1_times_59 hl (k := 5) rfl (nI_1 j) (by decide) rfl (fun ls hl => ?_)
            refine lv_goto (tgt := 8) hx hb dX1_times_62 (by decide) ?_
            exact ih (j + 1) ls (by omega) (lv_sub hl [3, 4, 5, 2, 1, 0] rfl)
        · have hbit : b.getLsbD j = true := by cases hq : b.getLsbD j with | true => rfl | false => rw [hq] at c_22; exact absurd c_22 (by decide)
          refine lv_iload_n hx hb dX1_times_25 rfl (lv_at hl 3 rfl) ?_
          refine lv_iload hx hb dX1_times_26 (lv_at hl 4 rfl) ?_
          refine lv_ixor hx hb dX1_times_28 ?_
          refine lv_goto (tgt := 33) hx hb dX1_times_29 (by decide) ?_
          refine tw_topr (x' := tq_eb (tq_ms a b (j + 1))) (by first | (rw [tq_eb_xor]; simp [tq_ms, hbit]; done) | (simp [tq_ms, hbit]; done)) ?_
          refine lv_istore_n (lv' := [(3, .int (tq_eb (tq_ms a b (j + 1)))), (0, .ref h0), (1, .int (tq_eb a)), (2, .int (tq_eb b)), (4, .int (tq_eb (tq_p j a))), (5, .int (nI j))]) hx hb dX1_times_33 rfl hl (by decide) rfl (fun ls hl => ?_)
          refine lv_iload hx hb dX1_times_34 (lv_at hl 4 rfl) ?_
          refine lv_sipush (v := 128) hx hb dX1_times_36 (by decide) ?_
          refine lv_icmp_ge (tgt := 49) hx hb dX1_times_39 (by decide) (fun c_39 => ?_) (fun c_39 => ?_)
          · refine lv_iconst (v := 2) hx hb dX1_times_49 (by decide) ?_
            refine lv_iload hx hb dX1_times_50 (lv_at hl 4 rfl) ?_
            refine lv_imul hx hb dX1_times_52 ?_
            refine lv_sipush (v := 285) hx hb dX1_times_53 (by decide) ?_
            refine lv_ixor hx hb dX1_times_56 ?_
            refine tw_topr (x' := tq_eb (tq_p (j + 1) a)) (by show _ = tq_eb (tq_d (tq_p j a)); rw [← tq_dbl_m]; first | exact (if_pos c_39).symm | exact (if_neg c_39).symm) ?_
            refine lv_istore (lv' := [(4, .int (tq_eb (tq_p (j + 1) a))), (3, .int (tq_eb (tq_ms a b (j + 1)))), (0, .ref h0), (1, .int (tq_eb a)), (2, .int (tq_eb b)), (5, .int (nI j))]) hx hb dX1_times_57 hl (by decide) rfl (fun ls hl => ?_)
            refine lv_iinc (v := nI (j + 1)) (lv' := [(5, .int (nI (j + 1))), (4, .int (tq_eb (tq_p (j + 1) a))), (3, .int (tq_eb (tq_ms a b (j + 1)))), (0, .ref h0), (1, .int (tq_eb a)), (2, .int (tq_eb b))]) hx hb dX1_times_59 hl (k := 5) rfl (nI_1 j) (by decide) rfl (fun ls hl => ?_)
            refine lv_goto (tgt := 8) hx hb dX1_times_62 (by decide) ?_
            exact ih (j + 1) ls (by omega) (lv_sub hl [3, 4, 5, 2, 1, 0] rfl)
          · refine lv_iconst (v := 2) hx hb dX1_times_42 (by decide) ?_
            refine lv_iload hx hb dX1_times_43 (lv_at hl 4 rfl) ?_
            refine lv_imul hx hb dX1_times_45 ?_
            refine lv_goto (tgt := 57) hx hb dX1_times_46 (by decide) ?_
            refine tw_topr (x' := tq_eb (tq_p (j + 1) a)) (by show _ = tq_eb (tq_d (tq_p j a)); rw [← tq_dbl_m]; first | exact (if_pos c_39).symm | exact (if_neg c_39).symm) ?_
            refine lv_istore (lv' := [(4, .int (tq_eb (tq_p (j + 1) a))), (3, .int (tq_eb (tq_ms a b (j + 1)))), (0, .ref h0), (1, .int (tq_eb a)), (2, .int (tq_eb b)), (5, .int (nI j))]) hx hb dX1_times_57 hl (by decide) rfl (fun ls hl => ?_)
            refine lv_iinc (v := nI (j + 1)) (lv' := [(5, .int (nI (j + 1))), (4, .int (tq_eb (tq_p (j + 1) a))), (3, .int (tq_eb (tq_ms a b (j + 1)))), (0, .ref h0), (1, .int (tq_eb a)), (2, .int (tq_eb b))]) hx hb dX1_times_59 hl (k := 5) rfl (nI_1 j) (by decide) rfl (fun ls hl => ?_)
            refine lv_goto (tgt := 8) hx hb dX1_times_62 (by decide) ?_
            exact ih (j + 1) ls (by omega) (lv_sub hl [3, 4, 5, 2, 1, 0] rfl)
  refine lv_iconst (v := 0) hx hb dX1_times_0 (by decide) ?_
  refine lv_istore_n (lv' := [(3, .int 0), (0, .ref h0), (1, .int (tq_eb a)), (2, .int (tq_eb b))]) hx hb dX1_times_1 rfl hl (by decide) rfl (fun ls hl => ?_)
  refine lv_iload_n hx hb dX1_times_2 rfl (lv_at hl 2 rfl) ?_
  refine lv_istore (lv' := [(4, .int (tq_eb a)), (3, .int 0), (0, .ref h0), (1, .int (tq_eb a)), (2, .int (tq_eb b))]) hx hb dX1_times_3 hl (by decide) rfl (fun ls hl => ?_)
  refine lv_iconst (v := 0) hx hb dX1_times_5 (by decide) ?_
  refine lv_istore (lv' := [(5, .int 0), (4, .int (tq_eb a)), (3, .int 0), (0, .ref h0), (1, .int (tq_eb a)), (2, .int (tq_eb b))]) hx hb dX1_times_6 hl (by decide) rfl (fun ls hl => ?_)
  exact loop 8 0 ls (by omega) (lv_sub hl [3, 4, 5, 2, 1, 0] rfl)
abbrev rmX1_twos : Room := { frames := 1, cells := 0, slots := 0, locals := 25 }
theorem kdX1_twos : yX1_twos.cls = RX1 ∧ yX1_twos.cls ≠ "java/lang/invoke/MethodHandle" ∧ yX1_twos.cls ≠ "java/lang/invoke/VarHandle" ∧ (parseMethodDescriptor yX1_twos.desc).map (fun d => d.parameters.length) = some 1 := by decide +kernel
set_option maxHeartbeats 4000000 in
set_option maxRecDepth 100000 in
theorem c_X1_twos (l : Launch) (D : va_G) (cA cB : ClassId) (h0 a0 b0 k : Nat) (F : Nat → BitVec 8) (g : Nat → Bool) (i : Nat) (hi : i < 2 ^ 31) : Met l yX1_twos wsX1_twos rmX1_twos (va_Pc [.ref h0, .int (nI i)] (tw_B D (tw_M cA cB h0 a0 b0 k F g) (tw_tM cA cB))) (vp_Si (fun r => r = tq_eb (tq_p i 1#8))) 0 0 (fun _ => False) := by
  refine tw_metR (by decide) rfl rfl (Nat.le_of_ble_eq_true rfl) ?_
  intro p e s m args below meth c Q ls hx hb hml hown hts hP hK hend hl
  have hown : s.vm.findClass RX1 = some m.cls := hown
  have hl : lv_has ls 4 [(0, .ref h0), (1, .int (nI i))] := hl
  have loop : ∀ (n j : Nat) (ls : Array Slot), j + n = i → lv_has ls 4 [(0, .ref h0), (1, .int (nI i)), (2, .int (tq_eb (tq_p j 1#8))), (3, .int (nI j))] → W p l e rmX1_twos s m args below meth c s.heap [] 0 0 Q (F0 m 4 ls []) := by
    intro n
    induction n with
    | zero =>
      intro j ls hj hl
      refine lv_iload_n hx hb dX1_twos_4 rfl (lv_at hl 3 rfl) ?_
      refine lv_iload_n hx hb dX1_twos_5 rfl (lv_at hl 1 rfl) ?_
      refine lv_icmp_ge (tgt := 22) hx hb dX1_twos_6 (by decide) (fun c_6 => ?_) (fun c_6 => ?_)
      · refine lv_iload_n hx hb dX1_twos_22 rfl (lv_at hl 2 rfl) ?_
        refine tw_topr (x' := tq_eb (tq_p i 1#8)) (by rw [show j = i by omega]) ?_
        exact hend _ _ dX1_twos_23
      · exact absurd (nI_le (by omega) (by omega)) c_6
    | succ n ih =>
      intro j ls hj hl
      refine lv_iload_n hx hb dX1_twos_4 rfl (lv_at hl 3 rfl) ?_
      refine lv_iload_n hx hb dX1_twos_5 rfl (lv_at hl 1 rfl) ?_
      refine lv_icmp_ge (tgt := 22) hx hb dX1_twos_6 (by decide) (fun c_6 => ?_) (fun c_6 => ?_)
      · exact absurd c_6 (nI_ge (by omega) (by omega))
      · refine lv_aload_n hx hb dX1_twos_9 rfl (lv_at hl 0 rfl) ?_
        refine lv_iload_n hx hb dX1_twos_10 rfl (lv_at hl 2 rfl) ?_
        refine lv_iconst (v := 2) hx hb dX1_twos_11 (by decide) ?_
        refine tw_rM ⟨hx, hb, hml, hown, hts⟩ hK hP (c_X1_times l D cA cB h0 a0 b0 k F g (tq_p j 1#8) 2#8) (cwV 2 hts gX1_twos_X1_times rfl rfl rfl kdX1_times ⟨Nat.le_of_ble_eq_true rfl, Nat.le_of_ble_eq_true rfl⟩) rfl hl.1 rfl (Nat.le_of_ble_eq_true rfl) dX1_twos_12 ⟨Nat.zero_le _, Nat.zero_le _⟩ ?_
        refine tw_topr (x' := tq_eb (tq_p (j + 1) 1#8)) (by rw [tq_m2]; rfl) ?_
        refine lv_istore_n (lv' := [(2, .int (tq_eb (tq_p (j + 1) 1#8))), (0, .ref h0), (1, .int (nI i)), (3, .int (nI j))]) hx hb dX1_twos_15 rfl hl (by decide) rfl (fun ls hl => ?_)
        refine lv_iinc (v := nI (j + 1)) (lv' := [(3, .int (nI (j + 1))), (2, .int (tq_eb (tq_p (j + 1) 1#8))), (0, .ref h0), (1, .int (nI i))]) hx hb dX1_twos_16 hl (k := 3) rfl (nI_1 j) (by decide) rfl (fun ls hl => ?_)
        refine lv_goto (tgt := 4) hx hb dX1_twos_19 (by decide) ?_
        exact ih (j + 1) ls (by omega) (lv_sub hl [2, 3, 1, 0] rfl)
  refine lv_iconst (v := 1) hx hb dX1_twos_0 (by decide) ?_
  refine lv_istore_n (lv' := [(2, .int 1), (0, .ref h0), (1, .int (nI i))]) hx hb dX1_twos_1 rfl hl (by decide) rfl (fun ls hl => ?_)
  refine lv_iconst (v := 0) hx hb dX1_twos_2 (by decide) ?_
  refine lv_istore_n (lv' := [(3, .int 0), (2, .int 1), (0, .ref h0), (1, .int (nI i))]) hx hb dX1_twos_3 rfl hl (by decide) rfl (fun ls hl => ?_)
  exact loop i 0 ls (by omega) (lv_sub hl [2, 3, 1, 0] rfl)
abbrev rmX1_part : Room := { frames := 1, cells := 0, slots := 0, locals := 25 }
theorem kdX1_part : yX1_part.cls = RX1 ∧ yX1_part.cls ≠ "java/lang/invoke/MethodHandle" ∧ yX1_part.cls ≠ "java/lang/invoke/VarHandle" ∧ (parseMethodDescriptor yX1_part.desc).map (fun d => d.parameters.length) = some 2 := by decide +kernel
set_option maxHeartbeats 4000000 in
set_option maxRecDepth 100000 in
theorem c_X1_part (l : Launch) (D : va_G) (cA cB : ClassId) (h0 a0 b0 k : Nat) (F : Nat → BitVec 8) (g : Nat → Bool) (a b : BitVec 8) (hb0 : b ≠ 0#8) : Met l yX1_part wsX1_part rmX1_part (va_Pc [.ref h0, .int (tq_eb a), .int (tq_eb b)] (tw_B D (tw_M cA cB h0 a0 b0 k F g) (tw_tM cA cB))) (vp_Si (fun r => r = tq_eb (tq_m a (tq_i b)))) 0 0 (fun _ => False) := by
  refine tw_metR (by decide) rfl rfl (Nat.le_of_ble_eq_true rfl) ?_
  intro p e s m args below meth c Q ls hx hb hml hown hts hP hK hend hl
  have hown : s.vm.findClass RX1 = some m.cls := hown
  have hl : lv_has ls 4 [(0, .ref h0), (1, .int (tq_eb a)), (2, .int (tq_eb b))] := hl
  have hJ : (tq_m a (tq_i b)).toNat < 2 ^ 8 := (tq_m a (tq_i b)).isLt
  have loop : ∀ (n j : Nat) (ls : Array Slot), j + n = (tq_m a (tq_i b)).toNat → lv_has ls 4 [(0, .ref h0), (1, .int (tq_eb a)), (2, .int (tq_eb b)), (3, .int (nI j))] → W p l e rmX1_part s m args below meth c s.heap [] 0 0 Q (F0 m 2 ls []) := by
    intro n
    induction n with
    | zero =>
      intro j ls hj hl
      refine lv_iload_n hx hb dX1_part_2 rfl (lv_at hl 3 rfl) ?_
      refine lv_sipush (v := 256) hx hb dX1_part_3 (by decide) ?_
      refine lv_icmp_ge (tgt := 31) hx hb dX1_part_6 (by decide) (fun c_6 => ?_) (fun c_6 => ?_)
      · exact absurd c_6 (nI_ge (b := 256) (by omega) (by omega))
      · refine lv_iload_n hx hb dX1_part_9 rfl (lv_at hl 2 rfl) ?_
        refine lv_if_eq (tgt := 31) hx hb dX1_part_10 (by decide) (fun c_10 => ?_) (fun c_10 => ?_)
        · exact absurd (tq_eb_z.mp c_10) hb0
        · refine lv_aload_n hx hb dX1_part_13 rfl (lv_at hl 0 rfl) ?_
          refine lv_iload_n hx hb dX1_part_14 rfl (lv_at hl 3 rfl) ?_
          refine tw_topr (x' := tq_eb (BitVec.ofNat 8 j)) (tq_nI (by omega)) ?_
          refine lv_iload_n hx hb dX1_part_15 rfl (lv_at hl 2 rfl) ?_
          refine tw_rM ⟨hx, hb, hml, hown, hts⟩ hK hP (c_X1_times l D cA cB h0 a0 b0 k F g (BitVec.ofNat 8 j) b) (cwV 2 hts gX1_part_X1_times rfl rfl rfl kdX1_times ⟨Nat.le_of_ble_eq_true rfl, Nat.le_of_ble_eq_true rfl⟩) rfl hl.1 rfl (Nat.le_of_ble_eq_true rfl) dX1_part_16 ⟨Nat.zero_le _, Nat.zero_le _⟩ ?_
          refine lv_iload_n hx hb dX1_part_19 rfl (lv_at hl 1 rfl) ?_
          refine lv_icmp_ne (tgt := 25) hx hb dX1_part_20 (by decide) (fun c_20 => ?_) (fun c_20 => ?_)
          · exact absurd (by rw [show BitVec.ofNat 8 j = tq_m a (tq_i b) from by apply BitVec.eq_of_toNat_eq; rw [BitVec.toNat_ofNat, Nat.mod_eq_of_lt (by omega)]; omega, tq_i2 hb0]) c_20
          · refine lv_iload_n hx hb dX1_part_23 rfl (lv_at hl 3 rfl) ?_
            refine tw_topr (x' := tq_eb (tq_m a (tq_i b))) (by rw [tq_ebN]; congr 1) ?_
            exact hend _ _ dX1_part_24
    | succ n ih =>
      intro j ls hj hl
      refine lv_iload_n hx hb dX1_part_2 rfl (lv_at hl 3 rfl) ?_
      refine lv_sipush (v := 256) hx hb dX1_part_3 (by decide) ?_
      refine lv_icmp_ge (tgt := 31) hx hb dX1_part_6 (by decide) (fun c_6 => ?_) (fun c_6 => ?_)
      · exact absurd c_6 (nI_ge (b := 256) (by omega) (by omega))
      · refine lv_iload_n hx hb dX1_part_9 rfl (lv_at hl 2 rfl) ?_
        refine lv_if_eq (tgt := 31) hx hb dX1_part_10 (by decide) (fun c_10 => ?_) (fun c_10 => ?_)
        · exact absurd (tq_eb_z.mp c_10) hb0
        · refine lv_aload_n hx hb dX1_part_13 rfl (lv_at hl 0 rfl) ?_
          refine lv_iload_n hx hb dX1_part_14 rfl (lv_at hl 3 rfl) ?_
          refine tw_topr (x' := tq_eb (BitVec.ofNat 8 j)) (tq_nI (by omega)) ?_
          refine lv_iload_n hx hb dX1_part_15 rfl (lv_at hl 2 rfl) ?_
          refine tw_rM ⟨hx, hb, hml, hown, hts⟩ hK hP (c_X1_times l D cA cB h0 a0 b0 k F g (BitVec.ofNat 8 j) b) (cwV 2 hts gX1_part_X1_times rfl rfl rfl kdX1_times ⟨Nat.le_of_ble_eq_true rfl, Nat.le_of_ble_eq_true rfl⟩) rfl hl.1 rfl (Nat.le_of_ble_eq_true rfl) dX1_part_16 ⟨Nat.zero_le _, Nat.zero_le _⟩ ?_
          refine lv_iload_n hx hb dX1_part_19 rfl (lv_at hl 1 rfl) ?_
          refine lv_icmp_ne (tgt := 25) hx hb dX1_part_20 (by decide) (fun c_20 => ?_) (fun c_20 => ?_)
          · refine lv_iinc (v := nI (j + 1)) (lv' := [(3, .int (nI (j + 1))), (0, .ref h0), (1, .int (tq_eb a)), (2, .int (tq_eb b))]) hx hb dX1_part_25 hl (k := 3) rfl (nI_1 j) (by decide) rfl (fun ls hl => ?_)
            refine lv_goto (tgt := 2) hx hb dX1_part_28 (by decide) ?_
            exact ih (j + 1) ls (by omega) (lv_sub hl [1, 2, 3, 0] rfl)
          · have e9 : BitVec.ofNat 8 j = tq_m a (tq_i b) := tq_inj hb0 (by rw [tq_i2 hb0]; exact tq_eb_inj c_20)
            have e8 := congrArg BitVec.toNat e9
            rw [BitVec.toNat_ofNat, Nat.mod_eq_of_lt (by omega)] at e8
            omega
  refine lv_iconst (v := 0) hx hb dX1_part_0 (by decide) ?_
  refine lv_istore_n (lv' := [(3, .int 0), (0, .ref h0), (1, .int (tq_eb a)), (2, .int (tq_eb b))]) hx hb dX1_part_1 rfl hl (by decide) rfl (fun ls hl => ?_)
  exact loop _ 0 ls (Nat.zero_add _) (lv_sub hl [1, 2, 3, 0] rfl)
abbrev rmX1_p : Room := { frames := 0, cells := 0, slots := 0, locals := 0 }
theorem inX1_p : ∀ w ∈ wsX10, w ∈ wsX1_p := fun _ h => List.mem_cons_of_mem _ (List.mem_append_right _ h)
theorem fX1_p_25 : Cond.fieldLink RX1 25 "TwinParityModel" "units" "I" ∈ wsX1_p := List.mem_of_getElem? (i := 1) rfl
theorem kdX1_p : yX1_p.cls = RX1 ∧ yX1_p.cls ≠ "java/lang/invoke/MethodHandle" ∧ yX1_p.cls ≠ "java/lang/invoke/VarHandle" ∧ (parseMethodDescriptor yX1_p.desc).map (fun d => d.parameters.length) = some 0 := by decide +kernel
set_option maxHeartbeats 4000000 in
set_option maxRecDepth 100000 in
theorem c_X1_p (l : Launch) (D : va_G) (cA cB : ClassId) (h0 a0 b0 k : Nat) (F : Nat → BitVec 8) (g : Nat → Bool)  : Met l yX1_p wsX1_p rmX1_p (va_Pc [.ref h0] (tw_B D (tw_M cA cB h0 a0 b0 k F g) (tw_tM cA cB))) (vp_Si (fun r => r = nI k)) 0 0 (fun _ => False) := by
  refine tw_metR (by decide) rfl rfl (Nat.le_of_ble_eq_true rfl) ?_
  intro p e s m args below meth c Q ls hx hb hml hown hts hP hK hend hl
  have hown : s.vm.findClass RX1 = some m.cls := hown
  have hl : lv_has ls 1 [(0, .ref h0)] := hl
  refine lv_aload_n hx hb dX1_p_0 rfl (lv_at hl 0 rfl) ?_
  refine va_get (D := D) (ci := 1) (v := .int (nI (k + 2))) (C := RX1) (T := TX1) (N := 4) hx hb hts inX1_p hown hK hP 0 rfl rfl 1 (by decide) (hts _ fX1_p_25) (fun _ h9 => h9) rfl dX1_p_1 ?_
  refine lv_iconst (v := 2) hx hb dX1_p_4 (by decide) ?_
  refine lv_isub hx hb dX1_p_5 ?_
  refine tw_topr (x' := nI k) (tw_p_i k) ?_
  exact hend _ _ dX1_p_6
abbrev rmX1_q : Room := { frames := 0, cells := 0, slots := 0, locals := 0 }
theorem inX1_q : ∀ w ∈ wsX10, w ∈ wsX1_q := fun _ h => List.mem_cons_of_mem _ (List.mem_append_right _ h)
theorem fX1_q_25 : Cond.fieldLink RX1 25 "TwinParityModel" "units" "I" ∈ wsX1_q := List.mem_of_getElem? (i := 1) rfl
theorem kdX1_q : yX1_q.cls = RX1 ∧ yX1_q.cls ≠ "java/lang/invoke/MethodHandle" ∧ yX1_q.cls ≠ "java/lang/invoke/VarHandle" ∧ (parseMethodDescriptor yX1_q.desc).map (fun d => d.parameters.length) = some 0 := by decide +kernel
set_option maxHeartbeats 4000000 in
set_option maxRecDepth 100000 in
theorem c_X1_q (l : Launch) (D : va_G) (cA cB : ClassId) (h0 a0 b0 k : Nat) (F : Nat → BitVec 8) (g : Nat → Bool)  : Met l yX1_q wsX1_q rmX1_q (va_Pc [.ref h0] (tw_B D (tw_M cA cB h0 a0 b0 k F g) (tw_tM cA cB))) (vp_Si (fun r => r = nI (k + 1))) 0 0 (fun _ => False) := by
  refine tw_metR (by decide) rfl rfl (Nat.le_of_ble_eq_true rfl) ?_
  intro p e s m args below meth c Q ls hx hb hml hown hts hP hK hend hl
  have hown : s.vm.findClass RX1 = some m.cls := hown
  have hl : lv_has ls 1 [(0, .ref h0)] := hl
  refine lv_aload_n hx hb dX1_q_0 rfl (lv_at hl 0 rfl) ?_
  refine va_get (D := D) (ci := 1) (v := .int (nI (k + 2))) (C := RX1) (T := TX1) (N := 4) hx hb hts inX1_q hown hK hP 0 rfl rfl 1 (by decide) (hts _ fX1_q_25) (fun _ h9 => h9) rfl dX1_q_1 ?_
  refine lv_iconst (v := 1) hx hb dX1_q_4 (by decide) ?_
  refine lv_isub hx hb dX1_q_5 ?_
  refine tw_topr (x' := nI (k + 1)) (tw_q_i k) ?_
  exact hend _ _ dX1_q_6
abbrev rmX1_noUnit : Room := { frames := 0, cells := 0, slots := 0, locals := 0 }
theorem inX1_noUnit : ∀ w ∈ wsX10, w ∈ wsX1_noUnit := fun _ h => List.mem_cons_of_mem _ (List.mem_append_right _ h)
theorem fX1_noUnit_25 : Cond.fieldLink RX1 25 "TwinParityModel" "units" "I" ∈ wsX1_noUnit := List.mem_of_getElem? (i := 1) rfl
theorem kdX1_noUnit : yX1_noUnit.cls = RX1 ∧ yX1_noUnit.cls ≠ "java/lang/invoke/MethodHandle" ∧ yX1_noUnit.cls ≠ "java/lang/invoke/VarHandle" ∧ (parseMethodDescriptor yX1_noUnit.desc).map (fun d => d.parameters.length) = some 1 := by decide +kernel
set_option maxHeartbeats 4000000 in
set_option maxRecDepth 100000 in
theorem c_X1_noUnit (l : Launch) (D : va_G) (cA cB : ClassId) (h0 a0 b0 k : Nat) (F : Nat → BitVec 8) (g : Nat → Bool) (x : Int32) : Met l yX1_noUnit wsX1_noUnit rmX1_noUnit (va_Pc [.ref h0, .int x] (tw_B D (tw_M cA cB h0 a0 b0 k F g) (tw_tM cA cB))) (vp_Si (fun r => r = tw_bI (tw_nu k x))) 0 0 (fun _ => False) := by
  refine tw_metZ (by decide) rfl rfl (Nat.le_of_ble_eq_true rfl) ?_
  intro p e s m args below meth c Q ls hx hb hml hown hts hP hK hend hl
  have hown : s.vm.findClass RX1 = some m.cls := hown
  have hl : lv_has ls 2 [(0, .ref h0), (1, .int x)] := hl
  refine lv_iload_n hx hb dX1_noUnit_0 rfl (lv_at hl 1 rfl) ?_
  refine lv_if_lt (tgt := 12) hx hb dX1_noUnit_1 (by decide) (fun c_1 => ?_) (fun c_1 => ?_)
  · refine lv_iconst (v := 1) hx hb dX1_noUnit_12 (by decide) ?_
    refine lv_goto (tgt := 17) hx hb dX1_noUnit_13 (by decide) ?_
    refine tw_topr (x' := tw_bI (tw_nu k x)) (by simp [tw_nu, tw_bI, *]) ?_
    exact hend _ _ dX1_noUnit_17
  · refine lv_iload_n hx hb dX1_noUnit_4 rfl (lv_at hl 1 rfl) ?_
    refine lv_aload_n hx hb dX1_noUnit_5 rfl (lv_at hl 0 rfl) ?_
    refine va_get (D := D) (ci := 1) (v := .int (nI (k + 2))) (C := RX1) (T := TX1) (N := 4) hx hb hts inX1_noUnit hown hK hP 0 rfl rfl 1 (by decide) (hts _ fX1_noUnit_25) (fun _ h9 => h9) rfl dX1_noUnit_6 ?_
    refine lv_icmp_lt (tgt := 16) hx hb dX1_noUnit_9 (by decide) (fun c_9 => ?_) (fun c_9 => ?_)
    · refine lv_iconst (v := 0) hx hb dX1_noUnit_16 (by decide) ?_
      refine tw_topr (x' := tw_bI (tw_nu k x)) (by simp [tw_nu, tw_bI, *]) ?_
      exact hend _ _ dX1_noUnit_17
    · refine lv_iconst (v := 1) hx hb dX1_noUnit_12 (by decide) ?_
      refine lv_goto (tgt := 17) hx hb dX1_noUnit_13 (by decide) ?_
      refine tw_topr (x' := tw_bI (tw_nu k x)) (by simp [tw_nu, tw_bI, *]) ?_
      exact hend _ _ dX1_noUnit_17
abbrev rmX1_manyLost : Room := { frames := 0, cells := 0, slots := 0, locals := 0 }
theorem inX1_manyLost : ∀ w ∈ wsX10, w ∈ wsX1_manyLost := fun _ h => List.mem_cons_of_mem _ (List.mem_append_right _ h)
theorem fX1_manyLost_25 : Cond.fieldLink RX1 25 "TwinParityModel" "units" "I" ∈ wsX1_manyLost := List.mem_of_getElem? (i := 1) rfl
theorem fX1_manyLost_13 : Cond.fieldLink RX1 13 "TwinParityModel" "lost" "[Z" ∈ wsX1_manyLost := List.mem_of_getElem? (i := 2) rfl
theorem kdX1_manyLost : yX1_manyLost.cls = RX1 ∧ yX1_manyLost.cls ≠ "java/lang/invoke/MethodHandle" ∧ yX1_manyLost.cls ≠ "java/lang/invoke/VarHandle" ∧ (parseMethodDescriptor yX1_manyLost.desc).map (fun d => d.parameters.length) = some 0 := by decide +kernel
set_option maxHeartbeats 4000000 in
set_option maxRecDepth 100000 in
theorem c_X1_manyLost (l : Launch) (D : va_G) (cA cB : ClassId) (h0 a0 b0 k : Nat) (F : Nat → BitVec 8) (g : Nat → Bool) (hk : k ≤ 14) : Met l yX1_manyLost wsX1_manyLost rmX1_manyLost (va_Pc [.ref h0] (tw_B D (tw_M cA cB h0 a0 b0 k F g) (tw_tM cA cB))) (vp_Si (fun r => r = nI (tw_mc g (k + 2)))) 0 0 (fun _ => False) := by
  refine tw_metR (by decide) rfl rfl (Nat.le_of_ble_eq_true rfl) ?_
  intro p e s m args below meth c Q ls hx hb hml hown hts hP hK hend hl
  have hown : s.vm.findClass RX1 = some m.cls := hown
  have hl : lv_has ls 3 [(0, .ref h0)] := hl
  have loop : ∀ (n j : Nat) (ls : Array Slot), j + n = k + 2 → lv_has ls 3 [(0, .ref h0), (1, .int (nI (tw_mc g j))), (2, .int (nI j))] → W p l e rmX1_manyLost s m args below meth c s.heap [] 0 0 Q (F0 m 4 ls []) := by
    intro n
    induction n with
    | zero =>
      intro j ls hj hl
      refine lv_iload_n hx hb dX1_manyLost_4 rfl (lv_at hl 2 rfl) ?_
      refine lv_aload_n hx hb dX1_manyLost_5 rfl (lv_at hl 0 rfl) ?_
      refine va_get (D := D) (ci := 1) (v := .int (nI (k + 2))) (C := RX1) (T := TX1) (N := 4) hx hb hts inX1_manyLost hown hK hP 0 rfl rfl 1 (by decide) (hts _ fX1_manyLost_25) (fun _ h9 => h9) rfl dX1_manyLost_6 ?_
      refine lv_icmp_ge (tgt := 35) hx hb dX1_manyLost_9 (by decide) (fun c_9 => ?_) (fun c_9 => ?_)
      · refine lv_iload_n hx hb dX1_manyLost_35 rfl (lv_at hl 1 rfl) ?_
        refine tw_topr (x' := nI (tw_mc g (k + 2))) (by rw [show j = k + 2 by omega]) ?_
        exact hend _ _ dX1_manyLost_36
      · exact absurd (nI_le (by omega) (by omega)) c_9
    | succ n ih =>
      intro j ls hj hl
      refine lv_iload_n hx hb dX1_manyLost_4 rfl (lv_at hl 2 rfl) ?_
      refine lv_aload_n hx hb dX1_manyLost_5 rfl (lv_at hl 0 rfl) ?_
      refine va_get (D := D) (ci := 1) (v := .int (nI (k + 2))) (C := RX1) (T := TX1) (N := 4) hx hb hts inX1_manyLost hown hK hP 0 rfl rfl 1 (by decide) (hts _ fX1_manyLost_25) (fun _ h9 => h9) rfl dX1_manyLost_6 ?_
      refine lv_icmp_ge (tgt := 35) hx hb dX1_manyLost_9 (by decide) (fun c_9 => ?_) (fun c_9 => ?_)
      · exact absurd c_9 (nI_ge (by omega) (by omega))
      · refine lv_iload_n hx hb dX1_manyLost_12 rfl (lv_at hl 1 rfl) ?_
        refine lv_aload_n hx hb dX1_manyLost_13 rfl (lv_at hl 0 rfl) ?_
        refine va_get (D := D) (ci := 1) (v := .ref b0) (C := RX1) (T := TX1) (N := 4) hx hb hts inX1_manyLost hown hK hP 0 rfl rfl 3 (by decide) (hts _ fX1_manyLost_13) (fun _ h9 => h9) rfl dX1_manyLost_14 ?_
        refine lv_iload_n hx hb dX1_manyLost_17 rfl (lv_at hl 2 rfl) ?_
        refine tw_lz hx hb hK hP 2 1 rfl rfl (n := j) (rfl) (by omega) (by decide) dX1_manyLost_18 ?_
        refine lv_if_eq (tgt := 26) hx hb dX1_manyLost_19 (by decide) (fun c_19 => ?_) (fun c_19 => ?_)
        · refine lv_iconst (v := 0) hx hb dX1_manyLost_26 (by decide) ?_
          refine lv_iadd hx hb dX1_manyLost_27 ?_
          refine tw_topr (x' := nI (tw_mc g (j + 1))) (by first | (rw [tw_mc, if_pos (tw_bI1.mp c_19)]; exact nI_1 _) | (rw [tw_mc, if_neg (by rw [tw_bI0.mp c_19]; decide)]; exact nI_add _ 0)) ?_
          refine lv_istore_n (lv' := [(1, .int (nI (tw_mc g (j + 1)))), (0, .ref h0), (2, .int (nI j))]) hx hb dX1_manyLost_28 rfl hl (by decide) rfl (fun ls hl => ?_)
          refine lv_iinc (v := nI (j + 1)) (lv' := [(2, .int (nI (j + 1))), (1, .int (nI (tw_mc g (j + 1)))), (0, .ref h0)]) hx hb dX1_manyLost_29 hl (k := 2) rfl (nI_1 j) (by decide) rfl (fun ls hl => ?_)
          refine lv_goto (tgt := 4) hx hb dX1_manyLost_32 (by decide) ?_
          exact ih (j + 1) ls (by omega) (lv_sub hl [2, 1, 0] rfl)
        · refine lv_iconst (v := 1) hx hb dX1_manyLost_22 (by decide) ?_
          refine lv_goto (tgt := 27) hx hb dX1_manyLost_23 (by decide) ?_
          refine lv_iadd hx hb dX1_manyLost_27 ?_
          refine tw_topr (x' := nI (tw_mc g (j + 1))) (by first | (rw [tw_mc, if_pos (tw_bI1.mp c_19)]; exact nI_1 _) | (rw [tw_mc, if_neg (by rw [tw_bI0.mp c_19]; decide)]; exact nI_add _ 0)) ?_
          refine lv_istore_n (lv' := [(1, .int (nI (tw_mc g (j + 1)))), (0, .ref h0), (2, .int (nI j))]) hx hb dX1_manyLost_28 rfl hl (by decide) rfl (fun ls hl => ?_)
          refine lv_iinc (v := nI (j + 1)) (lv' := [(2, .int (nI (j + 1))), (1, .int (nI (tw_mc g (j + 1)))), (0, .ref h0)]) hx hb dX1_manyLost_29 hl (k := 2) rfl (nI_1 j) (by decide) rfl (fun ls hl => ?_)
          refine lv_goto (tgt := 4) hx hb dX1_manyLost_32 (by decide) ?_
          exact ih (j + 1) ls (by omega) (lv_sub hl [2, 1, 0] rfl)
  refine lv_iconst (v := 0) hx hb dX1_manyLost_0 (by decide) ?_
  refine lv_istore_n (lv' := [(1, .int 0), (0, .ref h0)]) hx hb dX1_manyLost_1 rfl hl (by decide) rfl (fun ls hl => ?_)
  refine lv_iconst (v := 0) hx hb dX1_manyLost_2 (by decide) ?_
  refine lv_istore_n (lv' := [(2, .int 0), (1, .int 0), (0, .ref h0)]) hx hb dX1_manyLost_3 rfl hl (by decide) rfl (fun ls hl => ?_)
  exact loop (k + 2) 0 ls (by omega) (lv_sub hl [2, 1, 0] rfl)
abbrev rmX1_sumAt : Room := { frames := 2, cells := 0, slots := 0, locals := 48 }
theorem inX1_sumAt : ∀ w ∈ wsX10, w ∈ wsX1_sumAt := fun _ h => List.mem_cons_of_mem _ (List.mem_append_right _ h)
theorem fX1_sumAt_13 : Cond.fieldLink RX1 13 "TwinParityModel" "lost" "[Z" ∈ wsX1_sumAt := List.mem_of_getElem? (i := 1) rfl
theorem fX1_sumAt_7 : Cond.fieldLink RX1 7 "TwinParityModel" "bytes" "[I" ∈ wsX1_sumAt := List.mem_of_getElem? (i := 2) rfl
theorem fX1_sumAt_25 : Cond.fieldLink RX1 25 "TwinParityModel" "units" "I" ∈ wsX1_sumAt := List.mem_of_getElem? (i := 8) rfl
theorem kdX1_sumAt : yX1_sumAt.cls = RX1 ∧ yX1_sumAt.cls ≠ "java/lang/invoke/MethodHandle" ∧ yX1_sumAt.cls ≠ "java/lang/invoke/VarHandle" ∧ (parseMethodDescriptor yX1_sumAt.desc).map (fun d => d.parameters.length) = some 2 := by decide +kernel
set_option maxHeartbeats 4000000 in
set_option maxRecDepth 100000 in
theorem c_X1_sumAt (l : Launch) (D : va_G) (cA cB : ClassId) (h0 a0 b0 k : Nat) (F : Nat → BitVec 8) (g : Nat → Bool) (i : Nat) (z : Bool) (hi : i < 64) (hk : k ≤ 14) : Met l yX1_sumAt wsX1_sumAt rmX1_sumAt (va_Pc [.ref h0, .int (nI i), .int (tw_bI z)] (tw_B D (tw_M cA cB h0 a0 b0 k F g) (tw_tM cA cB))) (vp_Si (fun r => r = tq_eb (tw_sm z (tw_ml g (tq_col F i)) k))) 0 0 (fun _ => False) := by
  refine tw_metR (by decide) rfl rfl (Nat.le_of_ble_eq_true rfl) ?_
  intro p e s m args below meth c Q ls hx hb hml hown hts hP hK hend hl
  have hown : s.vm.findClass RX1 = some m.cls := hown
  have hl : lv_has ls 6 [(0, .ref h0), (1, .int (nI i)), (2, .int (tw_bI z))] := hl
  have loop : ∀ (n j : Nat) (ls : Array Slot), j + n = k → lv_has ls 6 [(0, .ref h0), (1, .int (nI i)), (2, .int (tw_bI z)), (3, .int (tq_eb (tw_sm z (tw_ml g (tq_col F i)) j))), (4, .int (nI j))] → W p l e rmX1_sumAt s m args below meth c s.heap [] 0 0 Q (F0 m 5 ls []) := by
    intro n
    induction n with
    | zero =>
      intro j ls hj hl
      refine lv_iload hx hb dX1_sumAt_5 (lv_at hl 4 rfl) ?_
      refine lv_aload_n hx hb dX1_sumAt_7 rfl (lv_at hl 0 rfl) ?_
      refine tw_rM ⟨hx, hb, hml, hown, hts⟩ hK hP (c_X1_p l D cA cB h0 a0 b0 k F g ) (cwV 0 hts gX1_sumAt_X1_p rfl rfl rfl kdX1_p ⟨Nat.le_of_ble_eq_true rfl, Nat.le_of_ble_eq_true rfl⟩) rfl hl.1 rfl (Nat.le_of_ble_eq_true rfl) dX1_sumAt_8 ⟨Nat.zero_le _, Nat.zero_le _⟩ ?_
      refine lv_icmp_ge (tgt := 72) hx hb dX1_sumAt_11 (by decide) (fun c_11 => ?_) (fun c_11 => ?_)
      · refine lv_iload_n hx hb dX1_sumAt_72 rfl (lv_at hl 3 rfl) ?_
        refine tw_topr (x' := tq_eb (tw_sm z (tw_ml g (tq_col F i)) k)) (by rw [show j = k by omega]) ?_
        exact hend _ _ dX1_sumAt_73
      · exact absurd (nI_le (by omega) (by omega)) c_11
    | succ n ih =>
      intro j ls hj hl
      refine lv_iload hx hb dX1_sumAt_5 (lv_at hl 4 rfl) ?_
      refine lv_aload_n hx hb dX1_sumAt_7 rfl (lv_at hl 0 rfl) ?_
      refine tw_rM ⟨hx, hb, hml, hown, hts⟩ hK hP (c_X1_p l D cA cB h0 a0 b0 k F g ) (cwV 0 hts gX1_sumAt_X1_p rfl rfl rfl kdX1_p ⟨Nat.le_of_ble_eq_true rfl, Nat.le_of_ble_eq_true rfl⟩) rfl hl.1 rfl (Nat.le_of_ble_eq_true rfl) dX1_sumAt_8 ⟨Nat.zero_le _, Nat.zero_le _⟩ ?_
      refine lv_icmp_ge (tgt := 72) hx hb dX1_sumAt_11 (by decide) (fun c_11 => ?_) (fun c_11 => ?_)
      · exact absurd c_11 (nI_ge (by omega) (by omega))
      · refine lv_aload_n hx hb dX1_sumAt_14 rfl (lv_at hl 0 rfl) ?_
        refine va_get (D := D) (ci := 1) (v := .ref b0) (C := RX1) (T := TX1) (N := 4) hx hb hts inX1_sumAt hown hK hP 0 rfl rfl 3 (by decide) (hts _ fX1_sumAt_13) (fun _ h9 => h9) rfl dX1_sumAt_15 ?_
        refine lv_iload hx hb dX1_sumAt_18 (lv_at hl 4 rfl) ?_
        refine tw_lz hx hb hK hP 2 1 rfl rfl (n := j) (rfl) (by omega) (by decide) dX1_sumAt_20 ?_
        refine lv_if_eq (tgt := 28) hx hb dX1_sumAt_21 (by decide) (fun c_21 => ?_) (fun c_21 => ?_)
        · refine lv_aload_n hx hb dX1_sumAt_28 rfl (lv_at hl 0 rfl) ?_
          refine va_get (D := D) (ci := 1) (v := .ref a0) (C := RX1) (T := TX1) (N := 4) hx hb hts inX1_sumAt hown hK hP 0 rfl rfl 2 (by decide) (hts _ fX1_sumAt_7) (fun _ h9 => h9) rfl dX1_sumAt_29 ?_
          refine lv_bipush (v := 64) hx hb dX1_sumAt_32 (by decide) ?_
          refine lv_iload hx hb dX1_sumAt_34 (lv_at hl 4 rfl) ?_
          refine lv_imul hx hb dX1_sumAt_36 ?_
          refine lv_iload_n hx hb dX1_sumAt_37 rfl (lv_at hl 1 rfl) ?_
          refine lv_iadd hx hb dX1_sumAt_38 ?_
          refine tw_ld hx hb hK hP 1 0 rfl rfl (n := 64 * j + i) (tw_ix' j i) (by omega) (by decide) dX1_sumAt_39 ?_
          refine tw_topr (x' := tq_eb ((tw_ml g (tq_col F i)) j)) (by first | (rw [tw_ml, if_pos (tw_bI1.mp c_21)]; rfl) | (rw [tw_ml, if_neg (by rw [tw_bI0.mp c_21]; decide)]; rfl)) ?_
          refine lv_istore (lv' := [(5, .int (tq_eb ((tw_ml g (tq_col F i)) j))), (0, .ref h0), (1, .int (nI i)), (2, .int (tw_bI z)), (3, .int (tq_eb (tw_sm z (tw_ml g (tq_col F i)) j))), (4, .int (nI j))]) hx hb dX1_sumAt_40 hl (by decide) rfl (fun ls hl => ?_)
          refine lv_iload_n hx hb dX1_sumAt_42 rfl (lv_at hl 4 rfl) ?_
          refine lv_iload_n hx hb dX1_sumAt_43 rfl (lv_at hl 3 rfl) ?_
          refine lv_if_eq (tgt := 62) hx hb dX1_sumAt_44 (by decide) (fun c_44 => ?_) (fun c_44 => ?_)
          · have hz9 : z = false := tw_bI0.mp c_44
            refine lv_iload hx hb dX1_sumAt_62 (lv_at hl 0 rfl) ?_
            refine lv_ixor hx hb dX1_sumAt_64 ?_
            refine tw_topr (x' := tq_eb (tw_sm z (tw_ml g (tq_col F i)) (j + 1))) (by first | (rw [tq_eb_xor, tq_mp (show j < 16 by omega), tw_sm, tw_sm, hz9]; rfl) | (rw [tq_eb_xor, tw_sm, tw_sm, hz9]; rfl)) ?_
            refine lv_istore_n (lv' := [(3, .int (tq_eb (tw_sm z (tw_ml g (tq_col F i)) (j + 1)))), (5, .int (tq_eb ((tw_ml g (tq_col F i)) j))), (0, .ref h0), (1, .int (nI i)), (2, .int (tw_bI z)), (4, .int (nI j))]) hx hb dX1_sumAt_65 rfl hl (by decide) rfl (fun ls hl => ?_)
            refine lv_iinc (v := nI (j + 1)) (lv' := [(4, .int (nI (j + 1))), (3, .int (tq_eb (tw_sm z (tw_ml g (tq_col F i)) (j + 1)))), (5, .int (tq_eb ((tw_ml g (tq_col F i)) j))), (0, .ref h0), (1, .int (nI i)), (2, .int (tw_bI z))]) hx hb dX1_sumAt_66 hl (k := 5) rfl (nI_1 j) (by decide) rfl (fun ls hl => ?_)
            refine lv_goto (tgt := 5) hx hb dX1_sumAt_69 (by decide) ?_
            exact ih (j + 1) ls (by omega) (lv_sub hl [3, 4, 5, 1, 0] rfl)
          · have hz9 : z = true := tw_bI1.mp c_44
            refine lv_aload_n hx hb dX1_sumAt_47 rfl (lv_at hl 1 rfl) ?_
            refine lv_iload hx hb dX1_sumAt_48 (lv_at hl 0 rfl) ?_
            refine lv_aload_n hx hb dX1_sumAt_50 rfl (lv_at hl 1 rfl) ?_
            refine lv_iload hx hb dX1_sumAt_51 (lv_at hl 5 rfl) ?_
            refine tw_rM ⟨hx, hb, hml, hown, hts⟩ hK hP (c_X1_twos l D cA cB h0 a0 b0 k F g j (by omega)) (cwV 1 hts gX1_sumAt_X1_twos rfl rfl rfl kdX1_twos ⟨Nat.le_of_ble_eq_true rfl, Nat.le_of_ble_eq_true rfl⟩) rfl hl.1 rfl (Nat.le_of_ble_eq_true rfl) dX1_sumAt_53 ⟨Nat.zero_le _, Nat.zero_le _⟩ ?_
            refine tw_rM ⟨hx, hb, hml, hown, hts⟩ hK hP (c_X1_times l D cA cB h0 a0 b0 k F g ((tw_ml g (tq_col F i)) j) (tq_p j 1#8)) (cwV 2 hts gX1_sumAt_X1_times rfl rfl rfl kdX1_times ⟨Nat.le_of_ble_eq_true rfl, Nat.le_of_ble_eq_true rfl⟩) rfl hl.1 rfl (Nat.le_of_ble_eq_true rfl) dX1_sumAt_56 ⟨Nat.zero_le _, Nat.zero_le _⟩ ?_
            refine lv_goto (tgt := 64) hx hb dX1_sumAt_59 (by decide) ?_
            refine lv_ixor hx hb dX1_sumAt_64 ?_
            refine tw_topr (x' := tq_eb (tw_sm z (tw_ml g (tq_col F i)) (j + 1))) (by first | (rw [tq_eb_xor, tq_mp (show j < 16 by omega), tw_sm, tw_sm, hz9]; rfl) | (rw [tq_eb_xor, tw_sm, tw_sm, hz9]; rfl)) ?_
            refine lv_istore_n (lv' := [(3, .int (tq_eb (tw_sm z (tw_ml g (tq_col F i)) (j + 1)))), (5, .int (tq_eb ((tw_ml g (tq_col F i)) j))), (0, .ref h0), (1, .int (nI i)), (2, .int (tw_bI z)), (4, .int (nI j))]) hx hb dX1_sumAt_65 rfl hl (by decide) rfl (fun ls hl => ?_)
            refine lv_iinc (v := nI (j + 1)) (lv' := [(4, .int (nI (j + 1))), (3, .int (tq_eb (tw_sm z (tw_ml g (tq_col F i)) (j + 1)))), (5, .int (tq_eb ((tw_ml g (tq_col F i)) j))), (0, .ref h0), (1, .int (nI i)), (2, .int (tw_bI z))]) hx hb dX1_sumAt_66 hl (k := 5) rfl (nI_1 j) (by decide) rfl (fun ls hl => ?_)
            refine lv_goto (tgt := 5) hx hb dX1_sumAt_69 (by decide) ?_
            exact ih (j + 1) ls (by omega) (lv_sub hl [3, 4, 5, 1, 0] rfl)
        · refine lv_iconst (v := 0) hx hb dX1_sumAt_24 (by decide) ?_
          refine lv_goto (tgt := 40) hx hb dX1_sumAt_25 (by decide) ?_
          refine tw_topr (x' := tq_eb ((tw_ml g (tq_col F i)) j)) (by first | (rw [tw_ml, if_pos (tw_bI1.mp c_21)]; rfl) | (rw [tw_ml, if_neg (by rw [tw_bI0.mp c_21]; decide)]; rfl)) ?_
          refine lv_istore (lv' := [(5, .int (tq_eb ((tw_ml g (tq_col F i)) j))), (0, .ref h0), (1, .int (nI i)), (2, .int (tw_bI z)), (3, .int (tq_eb (tw_sm z (tw_ml g (tq_col F i)) j))), (4, .int (nI j))]) hx hb dX1_sumAt_40 hl (by decide) rfl (fun ls hl => ?_)
          refine lv_iload_n hx hb dX1_sumAt_42 rfl (lv_at hl 4 rfl) ?_
          refine lv_iload_n hx hb dX1_sumAt_43 rfl (lv_at hl 3 rfl) ?_
          refine lv_if_eq (tgt := 62) hx hb dX1_sumAt_44 (by decide) (fun c_44 => ?_) (fun c_44 => ?_)
          · have hz9 : z = false := tw_bI0.mp c_44
            refine lv_iload hx hb dX1_sumAt_62 (lv_at hl 0 rfl) ?_
            refine lv_ixor hx hb dX1_sumAt_64 ?_
            refine tw_topr (x' := tq_eb (tw_sm z (tw_ml g (tq_col F i)) (j + 1))) (by first | (rw [tq_eb_xor, tq_mp (show j < 16 by omega), tw_sm, tw_sm, hz9]; rfl) | (rw [tq_eb_xor, tw_sm, tw_sm, hz9]; rfl)) ?_
            refine lv_istore_n (lv' := [(3, .int (tq_eb (tw_sm z (tw_ml g (tq_col F i)) (j + 1)))), (5, .int (tq_eb ((tw_ml g (tq_col F i)) j))), (0, .ref h0), (1, .int (nI i)), (2, .int (tw_bI z)), (4, .int (nI j))]) hx hb dX1_sumAt_65 rfl hl (by decide) rfl (fun ls hl => ?_)
            refine lv_iinc (v := nI (j + 1)) (lv' := [(4, .int (nI (j + 1))), (3, .int (tq_eb (tw_sm z (tw_ml g (tq_col F i)) (j + 1)))), (5, .int (tq_eb ((tw_ml g (tq_col F i)) j))), (0, .ref h0), (1, .int (nI i)), (2, .int (tw_bI z))]) hx hb dX1_sumAt_66 hl (k := 5) rfl (nI_1 j) (by decide) rfl (fun ls hl => ?_)
            refine lv_goto (tgt := 5) hx hb dX1_sumAt_69 (by decide) ?_
            exact ih (j + 1) ls (by omega) (lv_sub hl [3, 4, 5, 1, 0] rfl)
          · have hz9 : z = true := tw_bI1.mp c_44
            refine lv_aload_n hx hb dX1_sumAt_47 rfl (lv_at hl 1 rfl) ?_
            refine lv_iload hx hb dX1_sumAt_48 (lv_at hl 0 rfl) ?_
            refine lv_aload_n hx hb dX1_sumAt_50 rfl (lv_at hl 1 rfl) ?_
            refine lv_iload hx hb dX1_sumAt_51 (lv_at hl 5 rfl) ?_
            refine tw_rM ⟨hx, hb, hml, hown, hts⟩ hK hP (c_X1_twos l D cA cB h0 a0 b0 k F g j (by omega)) (cwV 1 hts gX1_sumAt_X1_twos rfl rfl rfl kdX1_twos ⟨Nat.le_of_ble_eq_true rfl, Nat.le_of_ble_eq_true rfl⟩) rfl hl.1 rfl (Nat.le_of_ble_eq_true rfl) dX1_sumAt_53 ⟨Nat.zero_le _, Nat.zero_le _⟩ ?_
            refine tw_rM ⟨hx, hb, hml, hown, hts⟩ hK hP (c_X1_times l D cA cB h0 a0 b0 k F g ((tw_ml g (tq_col F i)) j) (tq_p j 1#8)) (cwV 2 hts gX1_sumAt_X1_times rfl rfl rfl kdX1_times ⟨Nat.le_of_ble_eq_true rfl, Nat.le_of_ble_eq_true rfl⟩) rfl hl.1 rfl (Nat.le_of_ble_eq_true rfl) dX1_sumAt_56 ⟨Nat.zero_le _, Nat.zero_le _⟩ ?_
            refine lv_goto (tgt := 64) hx hb dX1_sumAt_59 (by decide) ?_
            refine lv_ixor hx hb dX1_sumAt_64 ?_
            refine tw_topr (x' := tq_eb (tw_sm z (tw_ml g (tq_col F i)) (j + 1))) (by first | (rw [tq_eb_xor, tq_mp (show j < 16 by omega), tw_sm, tw_sm, hz9]; rfl) | (rw [tq_eb_xor, tw_sm, tw_sm, hz9]; rfl)) ?_
            refine lv_istore_n (lv' := [(3, .int (tq_eb (tw_sm z (tw_ml g (tq_col F i)) (j + 1)))), (5, .int (tq_eb ((tw_ml g (tq_col F i)) j))), (0, .ref h0), (1, .int (nI i)), (2, .int (tw_bI z)), (4, .int (nI j))]) hx hb dX1_sumAt_65 rfl hl (by decide) rfl (fun ls hl => ?_)
            refine lv_iinc (v := nI (j + 1)) (lv' := [(4, .int (nI (j + 1))), (3, .int (tq_eb (tw_sm z (tw_ml g (tq_col F i)) (j + 1)))), (5, .int (tq_eb ((tw_ml g (tq_col F i)) j))), (0, .ref h0), (1, .int (nI i)), (2, .int (tw_bI z))]) hx hb dX1_sumAt_66 hl (k := 5) rfl (nI_1 j) (by decide) rfl (fun ls hl => ?_)
            refine lv_goto (tgt := 5) hx hb dX1_sumAt_69 (by decide) ?_
            exact ih (j + 1) ls (by omega) (lv_sub hl [3, 4, 5, 1, 0] rfl)
  refine lv_iconst (v := 0) hx hb dX1_sumAt_0 (by decide) ?_
  refine tw_topr (x' := tq_eb (tw_sm z (tw_ml g (tq_col F i)) 0)) (by cases z <;> rfl) ?_
  refine lv_istore_n (lv' := [(3, .int (tq_eb (tw_sm z (tw_ml g (tq_col F i)) 0))), (0, .ref h0), (1, .int (nI i)), (2, .int (tw_bI z))]) hx hb dX1_sumAt_1 rfl hl (by decide) rfl (fun ls hl => ?_)
  refine lv_iconst (v := 0) hx hb dX1_sumAt_2 (by decide) ?_
  refine lv_istore (lv' := [(4, .int 0), (3, .int (tq_eb (tw_sm z (tw_ml g (tq_col F i)) 0))), (0, .ref h0), (1, .int (nI i)), (2, .int (tw_bI z))]) hx hb dX1_sumAt_3 hl (by decide) rfl (fun ls hl => ?_)
  exact loop k 0 ls (by omega) (lv_sub hl [2, 3, 4, 1, 0] rfl)
abbrev rmX1_lowest : Room := { frames := 0, cells := 0, slots := 0, locals := 0 }
theorem inX1_lowest : ∀ w ∈ wsX10, w ∈ wsX1_lowest := fun _ h => List.mem_cons_of_mem _ (List.mem_append_right _ h)
theorem fX1_lowest_25 : Cond.fieldLink RX1 25 "TwinParityModel" "units" "I" ∈ wsX1_lowest := List.mem_of_getElem? (i := 1) rfl
theorem fX1_lowest_13 : Cond.fieldLink RX1 13 "TwinParityModel" "lost" "[Z" ∈ wsX1_lowest := List.mem_of_getElem? (i := 2) rfl
theorem kdX1_lowest : yX1_lowest.cls = RX1 ∧ yX1_lowest.cls ≠ "java/lang/invoke/MethodHandle" ∧ yX1_lowest.cls ≠ "java/lang/invoke/VarHandle" ∧ (parseMethodDescriptor yX1_lowest.desc).map (fun d => d.parameters.length) = some 1 := by decide +kernel
set_option maxHeartbeats 4000000 in
set_option maxRecDepth 100000 in
theorem c_X1_lowest (l : Launch) (D : va_G) (cA cB : ClassId) (h0 a0 b0 k : Nat) (F : Nat → BitVec 8) (g : Nat → Bool) (f : Nat) (hf : f ≤ k + 2) (hk : k ≤ 14) : Met l yX1_lowest wsX1_lowest rmX1_lowest (va_Pc [.ref h0, .int (nI f)] (tw_B D (tw_M cA cB h0 a0 b0 k F g) (tw_tM cA cB))) (vp_Si (fun r => r = nI (tw_low g f (k + 2 - f)))) 0 0 (fun _ => False) := by
  refine tw_metR (by decide) rfl rfl (Nat.le_of_ble_eq_true rfl) ?_
  intro p e s m args below meth c Q ls hx hb hml hown hts hP hK hend hl
  have hown : s.vm.findClass RX1 = some m.cls := hown
  have hl : lv_has ls 3 [(0, .ref h0), (1, .int (nI f))] := hl
  have loop : ∀ (n j : Nat) (ls : Array Slot), j + n = k + 2 → tw_low g f (k + 2 - f) = tw_low g j n → lv_has ls 3 [(0, .ref h0), (1, .int (nI f)), (2, .int (nI j))] → W p l e rmX1_lowest s m args below meth c s.heap [] 0 0 Q (F0 m 2 ls []) := by
    intro n
    induction n with
    | zero =>
      intro j ls hj hlow hl
      refine lv_iload_n hx hb dX1_lowest_2 rfl (lv_at hl 2 rfl) ?_
      refine lv_aload_n hx hb dX1_lowest_3 rfl (lv_at hl 0 rfl) ?_
      refine va_get (D := D) (ci := 1) (v := .int (nI (k + 2))) (C := RX1) (T := TX1) (N := 4) hx hb hts inX1_lowest hown hK hP 0 rfl rfl 1 (by decide) (hts _ fX1_lowest_25) (fun _ h9 => h9) rfl dX1_lowest_4 ?_
      refine lv_icmp_ge (tgt := 25) hx hb dX1_lowest_7 (by decide) (fun c_7 => ?_) (fun c_7 => ?_)
      · refine lv_iload_n hx hb dX1_lowest_25 rfl (lv_at hl 2 rfl) ?_
        refine tw_topr (x' := nI (tw_low g f (k + 2 - f))) (by rw [hlow]; rfl) ?_
        exact hend _ _ dX1_lowest_26
      · exact absurd (nI_le (by omega) (by omega)) c_7
    | succ n ih =>
      intro j ls hj hlow hl
      refine lv_iload_n hx hb dX1_lowest_2 rfl (lv_at hl 2 rfl) ?_
      refine lv_aload_n hx hb dX1_lowest_3 rfl (lv_at hl 0 rfl) ?_
      refine va_get (D := D) (ci := 1) (v := .int (nI (k + 2))) (C := RX1) (T := TX1) (N := 4) hx hb hts inX1_lowest hown hK hP 0 rfl rfl 1 (by decide) (hts _ fX1_lowest_25) (fun _ h9 => h9) rfl dX1_lowest_4 ?_
      refine lv_icmp_ge (tgt := 25) hx hb dX1_lowest_7 (by decide) (fun c_7 => ?_) (fun c_7 => ?_)
      · exact absurd c_7 (nI_ge (by omega) (by omega))
      · refine lv_aload_n hx hb dX1_lowest_10 rfl (lv_at hl 0 rfl) ?_
        refine va_get (D := D) (ci := 1) (v := .ref b0) (C := RX1) (T := TX1) (N := 4) hx hb hts inX1_lowest hown hK hP 0 rfl rfl 3 (by decide) (hts _ fX1_lowest_13) (fun _ h9 => h9) rfl dX1_lowest_11 ?_
        refine lv_iload_n hx hb dX1_lowest_14 rfl (lv_at hl 2 rfl) ?_
        refine tw_lz hx hb hK hP 2 1 rfl rfl (n := j) (rfl) (by omega) (by decide) dX1_lowest_15 ?_
        refine lv_if_ne (tgt := 25) hx hb dX1_lowest_16 (by decide) (fun c_16 => ?_) (fun c_16 => ?_)
        · refine lv_iload_n hx hb dX1_lowest_25 rfl (lv_at hl 2 rfl) ?_
          refine tw_topr (x' := nI (tw_low g f (k + 2 - f))) (by rw [hlow, tw_low, if_pos (tw_bI1.mp c_16)]) ?_
          exact hend _ _ dX1_lowest_26
        · refine lv_iinc (v := nI (j + 1)) (lv' := [(2, .int (nI (j + 1))), (0, .ref h0), (1, .int (nI f))]) hx hb dX1_lowest_19 hl (k := 2) rfl (nI_1 j) (by decide) rfl (fun ls hl => ?_)
          refine lv_goto (tgt := 2) hx hb dX1_lowest_22 (by decide) ?_
          exact ih (j + 1) ls (by omega) (by rw [hlow, tw_low, if_neg (by rw [tw_bI0.mp c_16]; decide)]) (lv_sub hl [1, 2, 0] rfl)
  refine lv_iload_n hx hb dX1_lowest_0 rfl (lv_at hl 1 rfl) ?_
  refine lv_istore_n (lv' := [(2, .int (nI f)), (0, .ref h0), (1, .int (nI f))]) hx hb dX1_lowest_1 rfl hl (by decide) rfl (fun ls hl => ?_)
  exact loop (k + 2 - f) f ls (by omega) rfl (lv_sub hl [1, 2, 0] rfl)
end
section
def tw_wf (k : Nat) (g : Nat → Bool) (c : Nat → BitVec 8) (S O : BitVec 8) (bk : Bool) : Bool := (g k || decide (S = c k)) && ((g (k + 1) || decide (O = c (k + 1))) || (bk && !g k))
theorem tw_upsame (F : Nat → BitVec 8) (n : Nat) : va_up F n (F n) = F := by
  funext j
  unfold va_up
  split
  · rename_i h; rw [h]
  · rfl
def tw_zz (k : Nat) (g : Nat → Bool) (F : Nat → BitVec 8) (i : Nat) (x : BitVec 8) : BitVec 8 := tq_xs (tw_ml g (tq_col F i)) k ^^^ x ^^^ F (64 * k + i)
abbrev rmX1_wouldFit : Room := { frames := 3, cells := 0, slots := 0, locals := 73 }
theorem inX1_wouldFit : ∀ w ∈ wsX10, w ∈ wsX1_wouldFit := fun _ h => List.mem_cons_of_mem _ (List.mem_append_right _ h)
theorem fX1_wouldFit_13 : Cond.fieldLink RX1 13 "TwinParityModel" "lost" "[Z" ∈ wsX1_wouldFit := List.mem_of_getElem? (i := 1) rfl
theorem fX1_wouldFit_7 : Cond.fieldLink RX1 7 "TwinParityModel" "bytes" "[I" ∈ wsX1_wouldFit := List.mem_of_getElem? (i := 2) rfl
theorem fX1_wouldFit_25 : Cond.fieldLink RX1 25 "TwinParityModel" "units" "I" ∈ wsX1_wouldFit := List.mem_of_getElem? (i := 12) rfl
theorem kdX1_wouldFit : yX1_wouldFit.cls = RX1 ∧ yX1_wouldFit.cls ≠ "java/lang/invoke/MethodHandle" ∧ yX1_wouldFit.cls ≠ "java/lang/invoke/VarHandle" ∧ (parseMethodDescriptor yX1_wouldFit.desc).map (fun d => d.parameters.length) = some 5 := by decide +kernel
set_option maxHeartbeats 4000000 in
set_option maxRecDepth 100000 in
theorem c_X1_wouldFit1 (l : Launch) (D : va_G) (cA cB : ClassId) (h0 a0 b0 k : Nat) (F : Nat → BitVec 8) (g : Nat → Bool) (i a : Nat) (x : BitVec 8) (hi : i < 64) (ha : a < k) (hk : k ≤ 14) : Met l yX1_wouldFit wsX1_wouldFit rmX1_wouldFit (va_Pc [.ref h0, .int (nI i), .int (nI a), .int (tq_eb x), .int (nI k), .int 0] (tw_B D (tw_M cA cB h0 a0 b0 k F g) (tw_tM cA cB))) (vp_Si (fun r => r = tw_bI (tw_wf k g (tq_col F i) (tq_xs (tw_ml g (tq_col F i)) k ^^^ x) (tq_qs (tw_ml g (tq_col F i)) k ^^^ tq_p a x) true))) 0 0 (fun _ => False) := by
  refine tw_metZ (by decide) rfl rfl (Nat.le_of_ble_eq_true rfl) ?_
  intro p e s m args below meth c Q ls hx hb hml hown hts hP hK hend hl
  have hown : s.vm.findClass RX1 = some m.cls := hown
  have hl : lv_has ls 10 [(0, .ref h0), (1, .int (nI i)), (2, .int (nI a)), (3, .int (tq_eb x)), (4, .int (nI k)), (5, .int 0)] := hl
  refine lv_aload_n hx hb dX1_wouldFit_0 rfl (lv_at hl 0 rfl) ?_
  refine lv_iload_n hx hb dX1_wouldFit_1 rfl (lv_at hl 1 rfl) ?_
  refine lv_iconst (v := 0) hx hb dX1_wouldFit_2 (by decide) ?_
  refine tw_rM ⟨hx, hb, hml, hown, hts⟩ hK hP (c_X1_sumAt l D cA cB h0 a0 b0 k F g i false hi hk) (cwV 2 hts gX1_wouldFit_X1_sumAt rfl rfl rfl kdX1_sumAt ⟨Nat.le_of_ble_eq_true rfl, Nat.le_of_ble_eq_true rfl⟩) rfl hl.1 rfl (Nat.le_of_ble_eq_true rfl) dX1_wouldFit_3 ⟨Nat.zero_le _, Nat.zero_le _⟩ ?_
  refine lv_iload_n hx hb dX1_wouldFit_6 rfl (lv_at hl 2 rfl) ?_
  refine lv_aload_n hx hb dX1_wouldFit_7 rfl (lv_at hl 0 rfl) ?_
  refine tw_rM ⟨hx, hb, hml, hown, hts⟩ hK hP (c_X1_p l D cA cB h0 a0 b0 k F g ) (cwV 0 hts gX1_wouldFit_X1_p rfl rfl rfl kdX1_p ⟨Nat.le_of_ble_eq_true rfl, Nat.le_of_ble_eq_true rfl⟩) rfl hl.1 rfl (Nat.le_of_ble_eq_true rfl) dX1_wouldFit_8 ⟨Nat.zero_le _, Nat.zero_le _⟩ ?_
  refine lv_icmp_ge (tgt := 18) hx hb dX1_wouldFit_11 (by decide) (fun c_11 => ?_) (fun c_11 => ?_)
  · exact absurd c_11 (nI_ge ha (by omega))
  · refine lv_iload_n hx hb dX1_wouldFit_14 rfl (lv_at hl 3 rfl) ?_
    refine lv_goto (tgt := 19) hx hb dX1_wouldFit_15 (by decide) ?_
    refine lv_ixor hx hb dX1_wouldFit_19 ?_
    refine lv_iload hx hb dX1_wouldFit_20 (lv_at hl 4 rfl) ?_
    refine lv_aload_n hx hb dX1_wouldFit_22 rfl (lv_at hl 0 rfl) ?_
    refine tw_rM ⟨hx, hb, hml, hown, hts⟩ hK hP (c_X1_p l D cA cB h0 a0 b0 k F g ) (cwV 0 hts gX1_wouldFit_X1_p rfl rfl rfl kdX1_p ⟨Nat.le_of_ble_eq_true rfl, Nat.le_of_ble_eq_true rfl⟩) rfl hl.1 rfl (Nat.le_of_ble_eq_true rfl) dX1_wouldFit_23 ⟨Nat.zero_le _, Nat.zero_le _⟩ ?_
    refine lv_icmp_ge (tgt := 34) hx hb dX1_wouldFit_26 (by decide) (fun c_26 => ?_) (fun c_26 => ?_)
    · refine lv_iconst (v := 0) hx hb dX1_wouldFit_34 (by decide) ?_
      refine lv_ixor hx hb dX1_wouldFit_35 ?_
      refine tw_topr (x' := tq_eb (tq_xs (tw_ml g (tq_col F i)) k ^^^ x)) (by rw [show (0 : Int32) = tq_eb 0#8 from rfl, tq_eb_xor, tq_eb_xor, BitVec.xor_zero]; rfl) ?_
      refine lv_istore (lv' := [(6, .int (tq_eb (tq_xs (tw_ml g (tq_col F i)) k ^^^ x))), (0, .ref h0), (1, .int (nI i)), (2, .int (nI a)), (3, .int (tq_eb x)), (4, .int (nI k)), (5, .int 0)]) hx hb dX1_wouldFit_36 hl (by decide) rfl (fun ls hl => ?_)
      refine lv_aload_n hx hb dX1_wouldFit_38 rfl (lv_at hl 1 rfl) ?_
      refine lv_iload_n hx hb dX1_wouldFit_39 rfl (lv_at hl 2 rfl) ?_
      refine lv_iconst (v := 1) hx hb dX1_wouldFit_40 (by decide) ?_
      refine tw_rM ⟨hx, hb, hml, hown, hts⟩ hK hP (c_X1_sumAt l D cA cB h0 a0 b0 k F g i true hi hk) (cwV 2 hts gX1_wouldFit_X1_sumAt rfl rfl rfl kdX1_sumAt ⟨Nat.le_of_ble_eq_true rfl, Nat.le_of_ble_eq_true rfl⟩) rfl hl.1 rfl (Nat.le_of_ble_eq_true rfl) dX1_wouldFit_41 ⟨Nat.zero_le _, Nat.zero_le _⟩ ?_
      refine lv_iload_n hx hb dX1_wouldFit_44 rfl (lv_at hl 3 rfl) ?_
      refine lv_aload_n hx hb dX1_wouldFit_45 rfl (lv_at hl 1 rfl) ?_
      refine tw_rM ⟨hx, hb, hml, hown, hts⟩ hK hP (c_X1_p l D cA cB h0 a0 b0 k F g ) (cwV 0 hts gX1_wouldFit_X1_p rfl rfl rfl kdX1_p ⟨Nat.le_of_ble_eq_true rfl, Nat.le_of_ble_eq_true rfl⟩) rfl hl.1 rfl (Nat.le_of_ble_eq_true rfl) dX1_wouldFit_46 ⟨Nat.zero_le _, Nat.zero_le _⟩ ?_
      refine lv_icmp_ge (tgt := 65) hx hb dX1_wouldFit_49 (by decide) (fun c_49 => ?_) (fun c_49 => ?_)
      · exact absurd c_49 (nI_ge ha (by omega))
      · refine lv_aload_n hx hb dX1_wouldFit_52 rfl (lv_at hl 1 rfl) ?_
        refine lv_iload_n hx hb dX1_wouldFit_53 rfl (lv_at hl 4 rfl) ?_
        refine lv_aload_n hx hb dX1_wouldFit_54 rfl (lv_at hl 1 rfl) ?_
        refine lv_iload_n hx hb dX1_wouldFit_55 rfl (lv_at hl 3 rfl) ?_
        refine tw_rM ⟨hx, hb, hml, hown, hts⟩ hK hP (c_X1_twos l D cA cB h0 a0 b0 k F g a (by omega)) (cwV 1 hts gX1_wouldFit_X1_twos rfl rfl rfl kdX1_twos ⟨Nat.le_of_ble_eq_true rfl, Nat.le_of_ble_eq_true rfl⟩) rfl hl.1 rfl (Nat.le_of_ble_eq_true rfl) dX1_wouldFit_56 ⟨Nat.zero_le _, Nat.zero_le _⟩ ?_
        refine tw_rM ⟨hx, hb, hml, hown, hts⟩ hK hP (c_X1_times l D cA cB h0 a0 b0 k F g x (tq_p a 1#8)) (cwV 2 hts gX1_wouldFit_X1_times rfl rfl rfl kdX1_times ⟨Nat.le_of_ble_eq_true rfl, Nat.le_of_ble_eq_true rfl⟩) rfl hl.1 rfl (Nat.le_of_ble_eq_true rfl) dX1_wouldFit_59 ⟨Nat.zero_le _, Nat.zero_le _⟩ ?_
        refine lv_goto (tgt := 66) hx hb dX1_wouldFit_62 (by decide) ?_
        refine lv_ixor hx hb dX1_wouldFit_66 ?_
        refine lv_iload hx hb dX1_wouldFit_67 (lv_at hl 5 rfl) ?_
        refine lv_aload_n hx hb dX1_wouldFit_69 rfl (lv_at hl 1 rfl) ?_
        refine tw_rM ⟨hx, hb, hml, hown, hts⟩ hK hP (c_X1_p l D cA cB h0 a0 b0 k F g ) (cwV 0 hts gX1_wouldFit_X1_p rfl rfl rfl kdX1_p ⟨Nat.le_of_ble_eq_true rfl, Nat.le_of_ble_eq_true rfl⟩) rfl hl.1 rfl (Nat.le_of_ble_eq_true rfl) dX1_wouldFit_70 ⟨Nat.zero_le _, Nat.zero_le _⟩ ?_
        refine lv_icmp_ge (tgt := 91) hx hb dX1_wouldFit_73 (by decide) (fun c_73 => ?_) (fun c_73 => ?_)
        · refine lv_iconst (v := 0) hx hb dX1_wouldFit_91 (by decide) ?_
          refine lv_ixor hx hb dX1_wouldFit_92 ?_
          refine tw_topr (x' := tq_eb (tq_qs (tw_ml g (tq_col F i)) k ^^^ tq_p a x)) (by rw [show (0 : Int32) = tq_eb 0#8 from rfl, tq_mp (show a < 16 by omega), tq_eb_xor, tq_eb_xor, BitVec.xor_zero]; rfl) ?_
          refine lv_istore (lv' := [(7, .int (tq_eb (tq_qs (tw_ml g (tq_col F i)) k ^^^ tq_p a x))), (6, .int (tq_eb (tq_xs (tw_ml g (tq_col F i)) k ^^^ x))), (0, .ref h0), (1, .int (nI i)), (2, .int (nI a)), (3, .int (tq_eb x)), (4, .int (nI k)), (5, .int 0)]) hx hb dX1_wouldFit_93 hl (by decide) rfl (fun ls hl => ?_)
          refine lv_aload_n hx hb dX1_wouldFit_95 rfl (lv_at hl 2 rfl) ?_
          refine va_get (D := D) (ci := 1) (v := .ref b0) (C := RX1) (T := TX1) (N := 4) hx hb hts inX1_wouldFit hown hK hP 0 rfl rfl 3 (by decide) (hts _ fX1_wouldFit_13) (fun _ h9 => h9) rfl dX1_wouldFit_96 ?_
          refine lv_aload_n hx hb dX1_wouldFit_99 rfl (lv_at hl 2 rfl) ?_
          refine tw_rM ⟨hx, hb, hml, hown, hts⟩ hK hP (c_X1_p l D cA cB h0 a0 b0 k F g ) (cwV 0 hts gX1_wouldFit_X1_p rfl rfl rfl kdX1_p ⟨Nat.le_of_ble_eq_true rfl, Nat.le_of_ble_eq_true rfl⟩) rfl hl.1 rfl (Nat.le_of_ble_eq_true rfl) dX1_wouldFit_100 ⟨Nat.zero_le _, Nat.zero_le _⟩ ?_
          refine tw_lz hx hb hK hP 2 1 rfl rfl (n := k) (rfl) (by omega) (by decide) dX1_wouldFit_103 ?_
          refine lv_if_ne (tgt := 126) hx hb dX1_wouldFit_104 (by decide) (fun c_104 => ?_) (fun c_104 => ?_)
          · rw [tw_bI1] at c_104
            refine lv_iconst (v := 1) hx hb dX1_wouldFit_126 (by decide) ?_
            refine lv_goto (tgt := 131) hx hb dX1_wouldFit_127 (by decide) ?_
            refine lv_istore (lv' := [(8, .int 1), (7, .int (tq_eb (tq_qs (tw_ml g (tq_col F i)) k ^^^ tq_p a x))), (6, .int (tq_eb (tq_xs (tw_ml g (tq_col F i)) k ^^^ x))), (0, .ref h0), (1, .int (nI i)), (2, .int (nI a)), (3, .int (tq_eb x)), (4, .int (nI k)), (5, .int 0)]) hx hb dX1_wouldFit_131 hl (by decide) rfl (fun ls hl => ?_)
            refine lv_aload_n hx hb dX1_wouldFit_133 rfl (lv_at hl 3 rfl) ?_
            refine va_get (D := D) (ci := 1) (v := .ref b0) (C := RX1) (T := TX1) (N := 4) hx hb hts inX1_wouldFit hown hK hP 0 rfl rfl 3 (by decide) (hts _ fX1_wouldFit_13) (fun _ h9 => h9) rfl dX1_wouldFit_134 ?_
            refine lv_aload_n hx hb dX1_wouldFit_137 rfl (lv_at hl 3 rfl) ?_
            refine tw_rM ⟨hx, hb, hml, hown, hts⟩ hK hP (c_X1_q l D cA cB h0 a0 b0 k F g ) (cwV 0 hts gX1_wouldFit_X1_q rfl rfl rfl kdX1_q ⟨Nat.le_of_ble_eq_true rfl, Nat.le_of_ble_eq_true rfl⟩) rfl hl.1 rfl (Nat.le_of_ble_eq_true rfl) dX1_wouldFit_138 ⟨Nat.zero_le _, Nat.zero_le _⟩ ?_
            refine tw_lz hx hb hK hP 2 1 rfl rfl (n := k + 1) (rfl) (by omega) (by decide) dX1_wouldFit_141 ?_
            refine lv_if_ne (tgt := 164) hx hb dX1_wouldFit_142 (by decide) (fun c_142 => ?_) (fun c_142 => ?_)
            · rw [tw_bI1] at c_142
              refine lv_iconst (v := 1) hx hb dX1_wouldFit_164 (by decide) ?_
              refine lv_goto (tgt := 169) hx hb dX1_wouldFit_165 (by decide) ?_
              refine lv_istore (lv' := [(9, .int 1), (8, .int 1), (7, .int (tq_eb (tq_qs (tw_ml g (tq_col F i)) k ^^^ tq_p a x))), (6, .int (tq_eb (tq_xs (tw_ml g (tq_col F i)) k ^^^ x))), (0, .ref h0), (1, .int (nI i)), (2, .int (nI a)), (3, .int (tq_eb x)), (4, .int (nI k)), (5, .int 0)]) hx hb dX1_wouldFit_169 hl (by decide) rfl (fun ls hl => ?_)
              refine lv_iload hx hb dX1_wouldFit_171 (lv_at hl 1 rfl) ?_
              refine lv_if_eq (tgt := 206) hx hb dX1_wouldFit_173 (by decide) (fun c_173 => ?_) (fun c_173 => ?_)
              · exact absurd c_173 (by decide)
              · refine lv_iload hx hb dX1_wouldFit_176 (lv_at hl 0 rfl) ?_
                refine lv_if_ne (tgt := 202) hx hb dX1_wouldFit_178 (by decide) (fun c_178 => ?_) (fun c_178 => ?_)
                · refine lv_iconst (v := 1) hx hb dX1_wouldFit_202 (by decide) ?_
                  refine lv_goto (tgt := 207) hx hb dX1_wouldFit_203 (by decide) ?_
                  refine tw_topr (x' := tw_bI (tw_wf k g (tq_col F i) (tq_xs (tw_ml g (tq_col F i)) k ^^^ x) (tq_qs (tw_ml g (tq_col F i)) k ^^^ tq_p a x) true)) (by first | (exact absurd (c_104.symm.trans c_199) (by decide)) | (unfold tw_wf; simp [tw_bI, tq_col, c_104, c_142]; done)) ?_
                  exact hend _ _ dX1_wouldFit_207
                · exact absurd c_178 (by decide)
            · rw [tw_bI0] at c_142
              refine lv_iload hx hb dX1_wouldFit_145 (lv_at hl 1 rfl) ?_
              refine lv_aload_n hx hb dX1_wouldFit_147 rfl (lv_at hl 3 rfl) ?_
              refine va_get (D := D) (ci := 1) (v := .ref a0) (C := RX1) (T := TX1) (N := 4) hx hb hts inX1_wouldFit hown hK hP 0 rfl rfl 2 (by decide) (hts _ fX1_wouldFit_7) (fun _ h9 => h9) rfl dX1_wouldFit_148 ?_
              refine lv_bipush (v := 64) hx hb dX1_wouldFit_151 (by decide) ?_
              refine lv_aload_n hx hb dX1_wouldFit_153 rfl (lv_at hl 3 rfl) ?_
              refine tw_rM ⟨hx, hb, hml, hown, hts⟩ hK hP (c_X1_q l D cA cB h0 a0 b0 k F g ) (cwV 0 hts gX1_wouldFit_X1_q rfl rfl rfl kdX1_q ⟨Nat.le_of_ble_eq_true rfl, Nat.le_of_ble_eq_true rfl⟩) rfl hl.1 rfl (Nat.le_of_ble_eq_true rfl) dX1_wouldFit_154 ⟨Nat.zero_le _, Nat.zero_le _⟩ ?_
              refine lv_imul hx hb dX1_wouldFit_157 ?_
              refine lv_iload_n hx hb dX1_wouldFit_158 rfl (lv_at hl 4 rfl) ?_
              refine lv_iadd hx hb dX1_wouldFit_159 ?_
              refine tw_ld hx hb hK hP 1 0 rfl rfl (n := 64 * (k + 1) + i) (tw_ix' (k + 1) i) (by omega) (by decide) dX1_wouldFit_160 ?_
              refine lv_icmp_ne (tgt := 168) hx hb dX1_wouldFit_161 (by decide) (fun c_161 => ?_) (fun c_161 => ?_)
              · rw [tq_eb_eq] at c_161
                refine lv_iconst (v := 0) hx hb dX1_wouldFit_168 (by decide) ?_
                refine lv_istore (lv' := [(9, .int 0), (8, .int 1), (7, .int (tq_eb (tq_qs (tw_ml g (tq_col F i)) k ^^^ tq_p a x))), (6, .int (tq_eb (tq_xs (tw_ml g (tq_col F i)) k ^^^ x))), (0, .ref h0), (1, .int (nI i)), (2, .int (nI a)), (3, .int (tq_eb x)), (4, .int (nI k)), (5, .int 0)]) hx hb dX1_wouldFit_169 hl (by decide) rfl (fun ls hl => ?_)
                refine lv_iload hx hb dX1_wouldFit_171 (lv_at hl 1 rfl) ?_
                refine lv_if_eq (tgt := 206) hx hb dX1_wouldFit_173 (by decide) (fun c_173 => ?_) (fun c_173 => ?_)
                · exact absurd c_173 (by decide)
                · refine lv_iload hx hb dX1_wouldFit_176 (lv_at hl 0 rfl) ?_
                  refine lv_if_ne (tgt := 202) hx hb dX1_wouldFit_178 (by decide) (fun c_178 => ?_) (fun c_178 => ?_)
                  · exact absurd rfl c_178
                  · refine lv_iload hx hb dX1_wouldFit_181 (lv_at hl 8 rfl) ?_
                    refine lv_aload_n hx hb dX1_wouldFit_183 rfl (lv_at hl 4 rfl) ?_
                    refine tw_rM ⟨hx, hb, hml, hown, hts⟩ hK hP (c_X1_p l D cA cB h0 a0 b0 k F g ) (cwV 0 hts gX1_wouldFit_X1_p rfl rfl rfl kdX1_p ⟨Nat.le_of_ble_eq_true rfl, Nat.le_of_ble_eq_true rfl⟩) rfl hl.1 rfl (Nat.le_of_ble_eq_true rfl) dX1_wouldFit_184 ⟨Nat.zero_le _, Nat.zero_le _⟩ ?_
                    refine lv_icmp_lt (tgt := 206) hx hb dX1_wouldFit_187 (by decide) (fun c_187 => ?_) (fun c_187 => ?_)
                    · exact absurd c_187 (nI_nlt (Nat.le_refl k) (by omega))
                    · refine lv_aload_n hx hb dX1_wouldFit_190 rfl (lv_at hl 4 rfl) ?_
                      refine va_get (D := D) (ci := 1) (v := .ref b0) (C := RX1) (T := TX1) (N := 4) hx hb hts inX1_wouldFit hown hK hP 0 rfl rfl 3 (by decide) (hts _ fX1_wouldFit_13) (fun _ h9 => h9) rfl dX1_wouldFit_191 ?_
                      refine lv_aload_n hx hb dX1_wouldFit_194 rfl (lv_at hl 4 rfl) ?_
                      refine tw_rM ⟨hx, hb, hml, hown, hts⟩ hK hP (c_X1_p l D cA cB h0 a0 b0 k F g ) (cwV 0 hts gX1_wouldFit_X1_p rfl rfl rfl kdX1_p ⟨Nat.le_of_ble_eq_true rfl, Nat.le_of_ble_eq_true rfl⟩) rfl hl.1 rfl (Nat.le_of_ble_eq_true rfl) dX1_wouldFit_195 ⟨Nat.zero_le _, Nat.zero_le _⟩ ?_
                      refine tw_lz hx hb hK hP 2 1 rfl rfl (n := k) (rfl) (by omega) (by decide) dX1_wouldFit_198 ?_
                      refine lv_if_ne (tgt := 206) hx hb dX1_wouldFit_199 (by decide) (fun c_199 => ?_) (fun c_199 => ?_)
                      · rw [tw_bI1] at c_199
                        refine lv_iconst (v := 0) hx hb dX1_wouldFit_206 (by decide) ?_
                        refine tw_topr (x' := tw_bI (tw_wf k g (tq_col F i) (tq_xs (tw_ml g (tq_col F i)) k ^^^ x) (tq_qs (tw_ml g (tq_col F i)) k ^^^ tq_p a x) true)) (by first | (exact absurd (c_104.symm.trans c_199) (by decide)) | (unfold tw_wf; simp [tw_bI, tq_col, c_104, c_142, c_161, c_199]; done)) ?_
                        exact hend _ _ dX1_wouldFit_207
                      · rw [tw_bI0] at c_199
                        refine lv_iconst (v := 1) hx hb dX1_wouldFit_202 (by decide) ?_
                        refine lv_goto (tgt := 207) hx hb dX1_wouldFit_203 (by decide) ?_
                        refine tw_topr (x' := tw_bI (tw_wf k g (tq_col F i) (tq_xs (tw_ml g (tq_col F i)) k ^^^ x) (tq_qs (tw_ml g (tq_col F i)) k ^^^ tq_p a x) true)) (by first | (exact absurd (c_104.symm.trans c_199) (by decide)) | (unfold tw_wf; simp [tw_bI, tq_col, c_104, c_142, c_161, c_199]; done)) ?_
                        exact hend _ _ dX1_wouldFit_207
              · rw [tq_eb_eq] at c_161
                refine lv_iconst (v := 1) hx hb dX1_wouldFit_164 (by decide) ?_
                refine lv_goto (tgt := 169) hx hb dX1_wouldFit_165 (by decide) ?_
                refine lv_istore (lv' := [(9, .int 1), (8, .int 1), (7, .int (tq_eb (tq_qs (tw_ml g (tq_col F i)) k ^^^ tq_p a x))), (6, .int (tq_eb (tq_xs (tw_ml g (tq_col F i)) k ^^^ x))), (0, .ref h0), (1, .int (nI i)), (2, .int (nI a)), (3, .int (tq_eb x)), (4, .int (nI k)), (5, .int 0)]) hx hb dX1_wouldFit_169 hl (by decide) rfl (fun ls hl => ?_)
                refine lv_iload hx hb dX1_wouldFit_171 (lv_at hl 1 rfl) ?_
                refine lv_if_eq (tgt := 206) hx hb dX1_wouldFit_173 (by decide) (fun c_173 => ?_) (fun c_173 => ?_)
                · exact absurd c_173 (by decide)
                · refine lv_iload hx hb dX1_wouldFit_176 (lv_at hl 0 rfl) ?_
                  refine lv_if_ne (tgt := 202) hx hb dX1_wouldFit_178 (by decide) (fun c_178 => ?_) (fun c_178 => ?_)
                  · refine lv_iconst (v := 1) hx hb dX1_wouldFit_202 (by decide) ?_
                    refine lv_goto (tgt := 207) hx hb dX1_wouldFit_203 (by decide) ?_
                    refine tw_topr (x' := tw_bI (tw_wf k g (tq_col F i) (tq_xs (tw_ml g (tq_col F i)) k ^^^ x) (tq_qs (tw_ml g (tq_col F i)) k ^^^ tq_p a x) true)) (by first | (exact absurd (c_104.symm.trans c_199) (by decide)) | (unfold tw_wf; simp [tw_bI, tq_col, c_104, c_142, c_161]; done)) ?_
                    exact hend _ _ dX1_wouldFit_207
                  · exact absurd c_178 (by decide)
          · rw [tw_bI0] at c_104
            refine lv_iload hx hb dX1_wouldFit_107 (lv_at hl 1 rfl) ?_
            refine lv_aload_n hx hb dX1_wouldFit_109 rfl (lv_at hl 2 rfl) ?_
            refine va_get (D := D) (ci := 1) (v := .ref a0) (C := RX1) (T := TX1) (N := 4) hx hb hts inX1_wouldFit hown hK hP 0 rfl rfl 2 (by decide) (hts _ fX1_wouldFit_7) (fun _ h9 => h9) rfl dX1_wouldFit_110 ?_
            refine lv_bipush (v := 64) hx hb dX1_wouldFit_113 (by decide) ?_
            refine lv_aload_n hx hb dX1_wouldFit_115 rfl (lv_at hl 2 rfl) ?_
            refine tw_rM ⟨hx, hb, hml, hown, hts⟩ hK hP (c_X1_p l D cA cB h0 a0 b0 k F g ) (cwV 0 hts gX1_wouldFit_X1_p rfl rfl rfl kdX1_p ⟨Nat.le_of_ble_eq_true rfl, Nat.le_of_ble_eq_true rfl⟩) rfl hl.1 rfl (Nat.le_of_ble_eq_true rfl) dX1_wouldFit_116 ⟨Nat.zero_le _, Nat.zero_le _⟩ ?_
            refine lv_imul hx hb dX1_wouldFit_119 ?_
            refine lv_iload_n hx hb dX1_wouldFit_120 rfl (lv_at hl 3 rfl) ?_
            refine lv_iadd hx hb dX1_wouldFit_121 ?_
            refine tw_ld hx hb hK hP 1 0 rfl rfl (n := 64 * k + i) (tw_ix' k i) (by omega) (by decide) dX1_wouldFit_122 ?_
            refine lv_icmp_ne (tgt := 130) hx hb dX1_wouldFit_123 (by decide) (fun c_123 => ?_) (fun c_123 => ?_)
            · rw [tq_eb_eq] at c_123
              refine lv_iconst (v := 0) hx hb dX1_wouldFit_130 (by decide) ?_
              refine lv_istore (lv' := [(8, .int 0), (7, .int (tq_eb (tq_qs (tw_ml g (tq_col F i)) k ^^^ tq_p a x))), (6, .int (tq_eb (tq_xs (tw_ml g (tq_col F i)) k ^^^ x))), (0, .ref h0), (1, .int (nI i)), (2, .int (nI a)), (3, .int (tq_eb x)), (4, .int (nI k)), (5, .int 0)]) hx hb dX1_wouldFit_131 hl (by decide) rfl (fun ls hl => ?_)
              refine lv_aload_n hx hb dX1_wouldFit_133 rfl (lv_at hl 3 rfl) ?_
              refine va_get (D := D) (ci := 1) (v := .ref b0) (C := RX1) (T := TX1) (N := 4) hx hb hts inX1_wouldFit hown hK hP 0 rfl rfl 3 (by decide) (hts _ fX1_wouldFit_13) (fun _ h9 => h9) rfl dX1_wouldFit_134 ?_
              refine lv_aload_n hx hb dX1_wouldFit_137 rfl (lv_at hl 3 rfl) ?_
              refine tw_rM ⟨hx, hb, hml, hown, hts⟩ hK hP (c_X1_q l D cA cB h0 a0 b0 k F g ) (cwV 0 hts gX1_wouldFit_X1_q rfl rfl rfl kdX1_q ⟨Nat.le_of_ble_eq_true rfl, Nat.le_of_ble_eq_true rfl⟩) rfl hl.1 rfl (Nat.le_of_ble_eq_true rfl) dX1_wouldFit_138 ⟨Nat.zero_le _, Nat.zero_le _⟩ ?_
              refine tw_lz hx hb hK hP 2 1 rfl rfl (n := k + 1) (rfl) (by omega) (by decide) dX1_wouldFit_141 ?_
              refine lv_if_ne (tgt := 164) hx hb dX1_wouldFit_142 (by decide) (fun c_142 => ?_) (fun c_142 => ?_)
              · rw [tw_bI1] at c_142
                refine lv_iconst (v := 1) hx hb dX1_wouldFit_164 (by decide) ?_
                refine lv_goto (tgt := 169) hx hb dX1_wouldFit_165 (by decide) ?_
                refine lv_istore (lv' := [(9, .int 1), (8, .int 0), (7, .int (tq_eb (tq_qs (tw_ml g (tq_col F i)) k ^^^ tq_p a x))), (6, .int (tq_eb (tq_xs (tw_ml g (tq_col F i)) k ^^^ x))), (0, .ref h0), (1, .int (nI i)), (2, .int (nI a)), (3, .int (tq_eb x)), (4, .int (nI k)), (5, .int 0)]) hx hb dX1_wouldFit_169 hl (by decide) rfl (fun ls hl => ?_)
                refine lv_iload hx hb dX1_wouldFit_171 (lv_at hl 1 rfl) ?_
                refine lv_if_eq (tgt := 206) hx hb dX1_wouldFit_173 (by decide) (fun c_173 => ?_) (fun c_173 => ?_)
                · refine lv_iconst (v := 0) hx hb dX1_wouldFit_206 (by decide) ?_
                  refine tw_topr (x' := tw_bI (tw_wf k g (tq_col F i) (tq_xs (tw_ml g (tq_col F i)) k ^^^ x) (tq_qs (tw_ml g (tq_col F i)) k ^^^ tq_p a x) true)) (by first | (exact absurd (c_104.symm.trans c_199) (by decide)) | (unfold tw_wf; simp [tw_bI, tq_col, c_104, c_123, c_142]; done)) ?_
                  exact hend _ _ dX1_wouldFit_207
                · exact absurd rfl c_173
              · rw [tw_bI0] at c_142
                refine lv_iload hx hb dX1_wouldFit_145 (lv_at hl 1 rfl) ?_
                refine lv_aload_n hx hb dX1_wouldFit_147 rfl (lv_at hl 3 rfl) ?_
                refine va_get (D := D) (ci := 1) (v := .ref a0) (C := RX1) (T := TX1) (N := 4) hx hb hts inX1_wouldFit hown hK hP 0 rfl rfl 2 (by decide) (hts _ fX1_wouldFit_7) (fun _ h9 => h9) rfl dX1_wouldFit_148 ?_
                refine lv_bipush (v := 64) hx hb dX1_wouldFit_151 (by decide) ?_
                refine lv_aload_n hx hb dX1_wouldFit_153 rfl (lv_at hl 3 rfl) ?_
                refine tw_rM ⟨hx, hb, hml, hown, hts⟩ hK hP (c_X1_q l D cA cB h0 a0 b0 k F g ) (cwV 0 hts gX1_wouldFit_X1_q rfl rfl rfl kdX1_q ⟨Nat.le_of_ble_eq_true rfl, Nat.le_of_ble_eq_true rfl⟩) rfl hl.1 rfl (Nat.le_of_ble_eq_true rfl) dX1_wouldFit_154 ⟨Nat.zero_le _, Nat.zero_le _⟩ ?_
                refine lv_imul hx hb dX1_wouldFit_157 ?_
                refine lv_iload_n hx hb dX1_wouldFit_158 rfl (lv_at hl 4 rfl) ?_
                refine lv_iadd hx hb dX1_wouldFit_159 ?_
                refine tw_ld hx hb hK hP 1 0 rfl rfl (n := 64 * (k + 1) + i) (tw_ix' (k + 1) i) (by omega) (by decide) dX1_wouldFit_160 ?_
                refine lv_icmp_ne (tgt := 168) hx hb dX1_wouldFit_161 (by decide) (fun c_161 => ?_) (fun c_161 => ?_)
                · rw [tq_eb_eq] at c_161
                  refine lv_iconst (v := 0) hx hb dX1_wouldFit_168 (by decide) ?_
                  refine lv_istore (lv' := [(9, .int 0), (8, .int 0), (7, .int (tq_eb (tq_qs (tw_ml g (tq_col F i)) k ^^^ tq_p a x))), (6, .int (tq_eb (tq_xs (tw_ml g (tq_col F i)) k ^^^ x))), (0, .ref h0), (1, .int (nI i)), (2, .int (nI a)), (3, .int (tq_eb x)), (4, .int (nI k)), (5, .int 0)]) hx hb dX1_wouldFit_169 hl (by decide) rfl (fun ls hl => ?_)
                  refine lv_iload hx hb dX1_wouldFit_171 (lv_at hl 1 rfl) ?_
                  refine lv_if_eq (tgt := 206) hx hb dX1_wouldFit_173 (by decide) (fun c_173 => ?_) (fun c_173 => ?_)
                  · refine lv_iconst (v := 0) hx hb dX1_wouldFit_206 (by decide) ?_
                    refine tw_topr (x' := tw_bI (tw_wf k g (tq_col F i) (tq_xs (tw_ml g (tq_col F i)) k ^^^ x) (tq_qs (tw_ml g (tq_col F i)) k ^^^ tq_p a x) true)) (by first | (exact absurd (c_104.symm.trans c_199) (by decide)) | (unfold tw_wf; simp [tw_bI, tq_col, c_104, c_123, c_142, c_161]; done)) ?_
                    exact hend _ _ dX1_wouldFit_207
                  · exact absurd rfl c_173
                · rw [tq_eb_eq] at c_161
                  refine lv_iconst (v := 1) hx hb dX1_wouldFit_164 (by decide) ?_
                  refine lv_goto (tgt := 169) hx hb dX1_wouldFit_165 (by decide) ?_
                  refine lv_istore (lv' := [(9, .int 1), (8, .int 0), (7, .int (tq_eb (tq_qs (tw_ml g (tq_col F i)) k ^^^ tq_p a x))), (6, .int (tq_eb (tq_xs (tw_ml g (tq_col F i)) k ^^^ x))), (0, .ref h0), (1, .int (nI i)), (2, .int (nI a)), (3, .int (tq_eb x)), (4, .int (nI k)), (5, .int 0)]) hx hb dX1_wouldFit_169 hl (by decide) rfl (fun ls hl => ?_)
                  refine lv_iload hx hb dX1_wouldFit_171 (lv_at hl 1 rfl) ?_
                  refine lv_if_eq (tgt := 206) hx hb dX1_wouldFit_173 (by decide) (fun c_173 => ?_) (fun c_173 => ?_)
                  · refine lv_iconst (v := 0) hx hb dX1_wouldFit_206 (by decide) ?_
                    refine tw_topr (x' := tw_bI (tw_wf k g (tq_col F i) (tq_xs (tw_ml g (tq_col F i)) k ^^^ x) (tq_qs (tw_ml g (tq_col F i)) k ^^^ tq_p a x) true)) (by first | (exact absurd (c_104.symm.trans c_199) (by decide)) | (unfold tw_wf; simp [tw_bI, tq_col, c_104, c_123, c_142, c_161]; done)) ?_
                    exact hend _ _ dX1_wouldFit_207
                  · exact absurd rfl c_173
            · rw [tq_eb_eq] at c_123
              refine lv_iconst (v := 1) hx hb dX1_wouldFit_126 (by decide) ?_
              refine lv_goto (tgt := 131) hx hb dX1_wouldFit_127 (by decide) ?_
              refine lv_istore (lv' := [(8, .int 1), (7, .int (tq_eb (tq_qs (tw_ml g (tq_col F i)) k ^^^ tq_p a x))), (6, .int (tq_eb (tq_xs (tw_ml g (tq_col F i)) k ^^^ x))), (0, .ref h0), (1, .int (nI i)), (2, .int (nI a)), (3, .int (tq_eb x)), (4, .int (nI k)), (5, .int 0)]) hx hb dX1_wouldFit_131 hl (by decide) rfl (fun ls hl => ?_)
              refine lv_aload_n hx hb dX1_wouldFit_133 rfl (lv_at hl 3 rfl) ?_
              refine va_get (D := D) (ci := 1) (v := .ref b0) (C := RX1) (T := TX1) (N := 4) hx hb hts inX1_wouldFit hown hK hP 0 rfl rfl 3 (by decide) (hts _ fX1_wouldFit_13) (fun _ h9 => h9) rfl dX1_wouldFit_134 ?_
              refine lv_aload_n hx hb dX1_wouldFit_137 rfl (lv_at hl 3 rfl) ?_
              refine tw_rM ⟨hx, hb, hml, hown, hts⟩ hK hP (c_X1_q l D cA cB h0 a0 b0 k F g ) (cwV 0 hts gX1_wouldFit_X1_q rfl rfl rfl kdX1_q ⟨Nat.le_of_ble_eq_true rfl, Nat.le_of_ble_eq_true rfl⟩) rfl hl.1 rfl (Nat.le_of_ble_eq_true rfl) dX1_wouldFit_138 ⟨Nat.zero_le _, Nat.zero_le _⟩ ?_
              refine tw_lz hx hb hK hP 2 1 rfl rfl (n := k + 1) (rfl) (by omega) (by decide) dX1_wouldFit_141 ?_
              refine lv_if_ne (tgt := 164) hx hb dX1_wouldFit_142 (by decide) (fun c_142 => ?_) (fun c_142 => ?_)
              · rw [tw_bI1] at c_142
                refine lv_iconst (v := 1) hx hb dX1_wouldFit_164 (by decide) ?_
                refine lv_goto (tgt := 169) hx hb dX1_wouldFit_165 (by decide) ?_
                refine lv_istore (lv' := [(9, .int 1), (8, .int 1), (7, .int (tq_eb (tq_qs (tw_ml g (tq_col F i)) k ^^^ tq_p a x))), (6, .int (tq_eb (tq_xs (tw_ml g (tq_col F i)) k ^^^ x))), (0, .ref h0), (1, .int (nI i)), (2, .int (nI a)), (3, .int (tq_eb x)), (4, .int (nI k)), (5, .int 0)]) hx hb dX1_wouldFit_169 hl (by decide) rfl (fun ls hl => ?_)
                refine lv_iload hx hb dX1_wouldFit_171 (lv_at hl 1 rfl) ?_
                refine lv_if_eq (tgt := 206) hx hb dX1_wouldFit_173 (by decide) (fun c_173 => ?_) (fun c_173 => ?_)
                · exact absurd c_173 (by decide)
                · refine lv_iload hx hb dX1_wouldFit_176 (lv_at hl 0 rfl) ?_
                  refine lv_if_ne (tgt := 202) hx hb dX1_wouldFit_178 (by decide) (fun c_178 => ?_) (fun c_178 => ?_)
                  · refine lv_iconst (v := 1) hx hb dX1_wouldFit_202 (by decide) ?_
                    refine lv_goto (tgt := 207) hx hb dX1_wouldFit_203 (by decide) ?_
                    refine tw_topr (x' := tw_bI (tw_wf k g (tq_col F i) (tq_xs (tw_ml g (tq_col F i)) k ^^^ x) (tq_qs (tw_ml g (tq_col F i)) k ^^^ tq_p a x) true)) (by first | (exact absurd (c_104.symm.trans c_199) (by decide)) | (unfold tw_wf; simp [tw_bI, tq_col, c_104, c_123, c_142]; done)) ?_
                    exact hend _ _ dX1_wouldFit_207
                  · exact absurd c_178 (by decide)
              · rw [tw_bI0] at c_142
                refine lv_iload hx hb dX1_wouldFit_145 (lv_at hl 1 rfl) ?_
                refine lv_aload_n hx hb dX1_wouldFit_147 rfl (lv_at hl 3 rfl) ?_
                refine va_get (D := D) (ci := 1) (v := .ref a0) (C := RX1) (T := TX1) (N := 4) hx hb hts inX1_wouldFit hown hK hP 0 rfl rfl 2 (by decide) (hts _ fX1_wouldFit_7) (fun _ h9 => h9) rfl dX1_wouldFit_148 ?_
                refine lv_bipush (v := 64) hx hb dX1_wouldFit_151 (by decide) ?_
                refine lv_aload_n hx hb dX1_wouldFit_153 rfl (lv_at hl 3 rfl) ?_
                refine tw_rM ⟨hx, hb, hml, hown, hts⟩ hK hP (c_X1_q l D cA cB h0 a0 b0 k F g ) (cwV 0 hts gX1_wouldFit_X1_q rfl rfl rfl kdX1_q ⟨Nat.le_of_ble_eq_true rfl, Nat.le_of_ble_eq_true rfl⟩) rfl hl.1 rfl (Nat.le_of_ble_eq_true rfl) dX1_wouldFit_154 ⟨Nat.zero_le _, Nat.zero_le _⟩ ?_
                refine lv_imul hx hb dX1_wouldFit_157 ?_
                refine lv_iload_n hx hb dX1_wouldFit_158 rfl (lv_at hl 4 rfl) ?_
                refine lv_iadd hx hb dX1_wouldFit_159 ?_
                refine tw_ld hx hb hK hP 1 0 rfl rfl (n := 64 * (k + 1) + i) (tw_ix' (k + 1) i) (by omega) (by decide) dX1_wouldFit_160 ?_
                refine lv_icmp_ne (tgt := 168) hx hb dX1_wouldFit_161 (by decide) (fun c_161 => ?_) (fun c_161 => ?_)
                · rw [tq_eb_eq] at c_161
                  refine lv_iconst (v := 0) hx hb dX1_wouldFit_168 (by decide) ?_
                  refine lv_istore (lv' := [(9, .int 0), (8, .int 1), (7, .int (tq_eb (tq_qs (tw_ml g (tq_col F i)) k ^^^ tq_p a x))), (6, .int (tq_eb (tq_xs (tw_ml g (tq_col F i)) k ^^^ x))), (0, .ref h0), (1, .int (nI i)), (2, .int (nI a)), (3, .int (tq_eb x)), (4, .int (nI k)), (5, .int 0)]) hx hb dX1_wouldFit_169 hl (by decide) rfl (fun ls hl => ?_)
                  refine lv_iload hx hb dX1_wouldFit_171 (lv_at hl 1 rfl) ?_
                  refine lv_if_eq (tgt := 206) hx hb dX1_wouldFit_173 (by decide) (fun c_173 => ?_) (fun c_173 => ?_)
                  · exact absurd c_173 (by decide)
                  · refine lv_iload hx hb dX1_wouldFit_176 (lv_at hl 0 rfl) ?_
                    refine lv_if_ne (tgt := 202) hx hb dX1_wouldFit_178 (by decide) (fun c_178 => ?_) (fun c_178 => ?_)
                    · exact absurd rfl c_178
                    · refine lv_iload hx hb dX1_wouldFit_181 (lv_at hl 8 rfl) ?_
                      refine lv_aload_n hx hb dX1_wouldFit_183 rfl (lv_at hl 4 rfl) ?_
                      refine tw_rM ⟨hx, hb, hml, hown, hts⟩ hK hP (c_X1_p l D cA cB h0 a0 b0 k F g ) (cwV 0 hts gX1_wouldFit_X1_p rfl rfl rfl kdX1_p ⟨Nat.le_of_ble_eq_true rfl, Nat.le_of_ble_eq_true rfl⟩) rfl hl.1 rfl (Nat.le_of_ble_eq_true rfl) dX1_wouldFit_184 ⟨Nat.zero_le _, Nat.zero_le _⟩ ?_
                      refine lv_icmp_lt (tgt := 206) hx hb dX1_wouldFit_187 (by decide) (fun c_187 => ?_) (fun c_187 => ?_)
                      · exact absurd c_187 (nI_nlt (Nat.le_refl k) (by omega))
                      · refine lv_aload_n hx hb dX1_wouldFit_190 rfl (lv_at hl 4 rfl) ?_
                        refine va_get (D := D) (ci := 1) (v := .ref b0) (C := RX1) (T := TX1) (N := 4) hx hb hts inX1_wouldFit hown hK hP 0 rfl rfl 3 (by decide) (hts _ fX1_wouldFit_13) (fun _ h9 => h9) rfl dX1_wouldFit_191 ?_
                        refine lv_aload_n hx hb dX1_wouldFit_194 rfl (lv_at hl 4 rfl) ?_
                        refine tw_rM ⟨hx, hb, hml, hown, hts⟩ hK hP (c_X1_p l D cA cB h0 a0 b0 k F g ) (cwV 0 hts gX1_wouldFit_X1_p rfl rfl rfl kdX1_p ⟨Nat.le_of_ble_eq_true rfl, Nat.le_of_ble_eq_true rfl⟩) rfl hl.1 rfl (Nat.le_of_ble_eq_true rfl) dX1_wouldFit_195 ⟨Nat.zero_le _, Nat.zero_le _⟩ ?_
                        refine tw_lz hx hb hK hP 2 1 rfl rfl (n := k) (rfl) (by omega) (by decide) dX1_wouldFit_198 ?_
                        refine lv_if_ne (tgt := 206) hx hb dX1_wouldFit_199 (by decide) (fun c_199 => ?_) (fun c_199 => ?_)
                        · rw [tw_bI1] at c_199
                          refine lv_iconst (v := 0) hx hb dX1_wouldFit_206 (by decide) ?_
                          refine tw_topr (x' := tw_bI (tw_wf k g (tq_col F i) (tq_xs (tw_ml g (tq_col F i)) k ^^^ x) (tq_qs (tw_ml g (tq_col F i)) k ^^^ tq_p a x) true)) (by first | (exact absurd (c_104.symm.trans c_199) (by decide)) | (unfold tw_wf; simp [tw_bI, tq_col, c_104, c_123, c_142, c_161, c_199]; done)) ?_
                          exact hend _ _ dX1_wouldFit_207
                        · rw [tw_bI0] at c_199
                          refine lv_iconst (v := 1) hx hb dX1_wouldFit_202 (by decide) ?_
                          refine lv_goto (tgt := 207) hx hb dX1_wouldFit_203 (by decide) ?_
                          refine tw_topr (x' := tw_bI (tw_wf k g (tq_col F i) (tq_xs (tw_ml g (tq_col F i)) k ^^^ x) (tq_qs (tw_ml g (tq_col F i)) k ^^^ tq_p a x) true)) (by first | (exact absurd (c_104.symm.trans c_199) (by decide)) | (unfold tw_wf; simp [tw_bI, tq_col, c_104, c_123, c_142, c_161, c_199]; done)) ?_
                          exact hend _ _ dX1_wouldFit_207
                · rw [tq_eb_eq] at c_161
                  refine lv_iconst (v := 1) hx hb dX1_wouldFit_164 (by decide) ?_
                  refine lv_goto (tgt := 169) hx hb dX1_wouldFit_165 (by decide) ?_
                  refine lv_istore (lv' := [(9, .int 1), (8, .int 1), (7, .int (tq_eb (tq_qs (tw_ml g (tq_col F i)) k ^^^ tq_p a x))), (6, .int (tq_eb (tq_xs (tw_ml g (tq_col F i)) k ^^^ x))), (0, .ref h0), (1, .int (nI i)), (2, .int (nI a)), (3, .int (tq_eb x)), (4, .int (nI k)), (5, .int 0)]) hx hb dX1_wouldFit_169 hl (by decide) rfl (fun ls hl => ?_)
                  refine lv_iload hx hb dX1_wouldFit_171 (lv_at hl 1 rfl) ?_
                  refine lv_if_eq (tgt := 206) hx hb dX1_wouldFit_173 (by decide) (fun c_173 => ?_) (fun c_173 => ?_)
                  · exact absurd c_173 (by decide)
                  · refine lv_iload hx hb dX1_wouldFit_176 (lv_at hl 0 rfl) ?_
                    refine lv_if_ne (tgt := 202) hx hb dX1_wouldFit_178 (by decide) (fun c_178 => ?_) (fun c_178 => ?_)
                    · refine lv_iconst (v := 1) hx hb dX1_wouldFit_202 (by decide) ?_
                      refine lv_goto (tgt := 207) hx hb dX1_wouldFit_203 (by decide) ?_
                      refine tw_topr (x' := tw_bI (tw_wf k g (tq_col F i) (tq_xs (tw_ml g (tq_col F i)) k ^^^ x) (tq_qs (tw_ml g (tq_col F i)) k ^^^ tq_p a x) true)) (by first | (exact absurd (c_104.symm.trans c_199) (by decide)) | (unfold tw_wf; simp [tw_bI, tq_col, c_104, c_123, c_142, c_161]; done)) ?_
                      exact hend _ _ dX1_wouldFit_207
                    · exact absurd c_178 (by decide)
        · exact absurd (nI_le (Nat.le_refl k) (by omega)) c_73
    · exact absurd (nI_le (Nat.le_refl k) (by omega)) c_26
set_option maxHeartbeats 4000000 in
set_option maxRecDepth 100000 in
theorem c_X1_wouldFit2 (l : Launch) (D : va_G) (cA cB : ClassId) (h0 a0 b0 k : Nat) (F : Nat → BitVec 8) (g : Nat → Bool) (i a : Nat) (x : BitVec 8) (b : Nat) (y : BitVec 8) (hi : i < 64) (ha : a < k) (hb9 : b < k) (hk : k ≤ 14) : Met l yX1_wouldFit wsX1_wouldFit rmX1_wouldFit (va_Pc [.ref h0, .int (nI i), .int (nI a), .int (tq_eb x), .int (nI b), .int (tq_eb y)] (tw_B D (tw_M cA cB h0 a0 b0 k F g) (tw_tM cA cB))) (vp_Si (fun r => r = tw_bI (tw_wf k g (tq_col F i) (tq_xs (tw_ml g (tq_col F i)) k ^^^ x ^^^ y) (tq_qs (tw_ml g (tq_col F i)) k ^^^ tq_p a x ^^^ tq_p b y) false))) 0 0 (fun _ => False) := by
  refine tw_metZ (by decide) rfl rfl (Nat.le_of_ble_eq_true rfl) ?_
  intro p e s m args below meth c Q ls hx hb hml hown hts hP hK hend hl
  have hown : s.vm.findClass RX1 = some m.cls := hown
  have hl : lv_has ls 10 [(0, .ref h0), (1, .int (nI i)), (2, .int (nI a)), (3, .int (tq_eb x)), (4, .int (nI b)), (5, .int (tq_eb y))] := hl
  refine lv_aload_n hx hb dX1_wouldFit_0 rfl (lv_at hl 0 rfl) ?_
  refine lv_iload_n hx hb dX1_wouldFit_1 rfl (lv_at hl 1 rfl) ?_
  refine lv_iconst (v := 0) hx hb dX1_wouldFit_2 (by decide) ?_
  refine tw_rM ⟨hx, hb, hml, hown, hts⟩ hK hP (c_X1_sumAt l D cA cB h0 a0 b0 k F g i false hi hk) (cwV 2 hts gX1_wouldFit_X1_sumAt rfl rfl rfl kdX1_sumAt ⟨Nat.le_of_ble_eq_true rfl, Nat.le_of_ble_eq_true rfl⟩) rfl hl.1 rfl (Nat.le_of_ble_eq_true rfl) dX1_wouldFit_3 ⟨Nat.zero_le _, Nat.zero_le _⟩ ?_
  refine lv_iload_n hx hb dX1_wouldFit_6 rfl (lv_at hl 2 rfl) ?_
  refine lv_aload_n hx hb dX1_wouldFit_7 rfl (lv_at hl 0 rfl) ?_
  refine tw_rM ⟨hx, hb, hml, hown, hts⟩ hK hP (c_X1_p l D cA cB h0 a0 b0 k F g ) (cwV 0 hts gX1_wouldFit_X1_p rfl rfl rfl kdX1_p ⟨Nat.le_of_ble_eq_true rfl, Nat.le_of_ble_eq_true rfl⟩) rfl hl.1 rfl (Nat.le_of_ble_eq_true rfl) dX1_wouldFit_8 ⟨Nat.zero_le _, Nat.zero_le _⟩ ?_
  refine lv_icmp_ge (tgt := 18) hx hb dX1_wouldFit_11 (by decide) (fun c_11 => ?_) (fun c_11 => ?_)
  · exact absurd c_11 (nI_ge ha (by omega))
  · refine lv_iload_n hx hb dX1_wouldFit_14 rfl (lv_at hl 3 rfl) ?_
    refine lv_goto (tgt := 19) hx hb dX1_wouldFit_15 (by decide) ?_
    refine lv_ixor hx hb dX1_wouldFit_19 ?_
    refine lv_iload hx hb dX1_wouldFit_20 (lv_at hl 4 rfl) ?_
    refine lv_aload_n hx hb dX1_wouldFit_22 rfl (lv_at hl 0 rfl) ?_
    refine tw_rM ⟨hx, hb, hml, hown, hts⟩ hK hP (c_X1_p l D cA cB h0 a0 b0 k F g ) (cwV 0 hts gX1_wouldFit_X1_p rfl rfl rfl kdX1_p ⟨Nat.le_of_ble_eq_true rfl, Nat.le_of_ble_eq_true rfl⟩) rfl hl.1 rfl (Nat.le_of_ble_eq_true rfl) dX1_wouldFit_23 ⟨Nat.zero_le _, Nat.zero_le _⟩ ?_
    refine lv_icmp_ge (tgt := 34) hx hb dX1_wouldFit_26 (by decide) (fun c_26 => ?_) (fun c_26 => ?_)
    · exact absurd c_26 (nI_ge hb9 (by omega))
    · refine lv_iload hx hb dX1_wouldFit_29 (lv_at hl 5 rfl) ?_
      refine lv_goto (tgt := 35) hx hb dX1_wouldFit_31 (by decide) ?_
      refine lv_ixor hx hb dX1_wouldFit_35 ?_
      refine tw_topr (x' := tq_eb (tq_xs (tw_ml g (tq_col F i)) k ^^^ x ^^^ y)) (by rw [tq_eb_xor, tq_eb_xor]; rfl) ?_
      refine lv_istore (lv' := [(6, .int (tq_eb (tq_xs (tw_ml g (tq_col F i)) k ^^^ x ^^^ y))), (0, .ref h0), (1, .int (nI i)), (2, .int (nI a)), (3, .int (tq_eb x)), (4, .int (nI b)), (5, .int (tq_eb y))]) hx hb dX1_wouldFit_36 hl (by decide) rfl (fun ls hl => ?_)
      refine lv_aload_n hx hb dX1_wouldFit_38 rfl (lv_at hl 1 rfl) ?_
      refine lv_iload_n hx hb dX1_wouldFit_39 rfl (lv_at hl 2 rfl) ?_
      refine lv_iconst (v := 1) hx hb dX1_wouldFit_40 (by decide) ?_
      refine tw_rM ⟨hx, hb, hml, hown, hts⟩ hK hP (c_X1_sumAt l D cA cB h0 a0 b0 k F g i true hi hk) (cwV 2 hts gX1_wouldFit_X1_sumAt rfl rfl rfl kdX1_sumAt ⟨Nat.le_of_ble_eq_true rfl, Nat.le_of_ble_eq_true rfl⟩) rfl hl.1 rfl (Nat.le_of_ble_eq_true rfl) dX1_wouldFit_41 ⟨Nat.zero_le _, Nat.zero_le _⟩ ?_
      refine lv_iload_n hx hb dX1_wouldFit_44 rfl (lv_at hl 3 rfl) ?_
      refine lv_aload_n hx hb dX1_wouldFit_45 rfl (lv_at hl 1 rfl) ?_
      refine tw_rM ⟨hx, hb, hml, hown, hts⟩ hK hP (c_X1_p l D cA cB h0 a0 b0 k F g ) (cwV 0 hts gX1_wouldFit_X1_p rfl rfl rfl kdX1_p ⟨Nat.le_of_ble_eq_true rfl, Nat.le_of_ble_eq_true rfl⟩) rfl hl.1 rfl (Nat.le_of_ble_eq_true rfl) dX1_wouldFit_46 ⟨Nat.zero_le _, Nat.zero_le _⟩ ?_
      refine lv_icmp_ge (tgt := 65) hx hb dX1_wouldFit_49 (by decide) (fun c_49 => ?_) (fun c_49 => ?_)
      · exact absurd c_49 (nI_ge ha (by omega))
      · refine lv_aload_n hx hb dX1_wouldFit_52 rfl (lv_at hl 1 rfl) ?_
        refine lv_iload_n hx hb dX1_wouldFit_53 rfl (lv_at hl 4 rfl) ?_
        refine lv_aload_n hx hb dX1_wouldFit_54 rfl (lv_at hl 1 rfl) ?_
        refine lv_iload_n hx hb dX1_wouldFit_55 rfl (lv_at hl 3 rfl) ?_
        refine tw_rM ⟨hx, hb, hml, hown, hts⟩ hK hP (c_X1_twos l D cA cB h0 a0 b0 k F g a (by omega)) (cwV 1 hts gX1_wouldFit_X1_twos rfl rfl rfl kdX1_twos ⟨Nat.le_of_ble_eq_true rfl, Nat.le_of_ble_eq_true rfl⟩) rfl hl.1 rfl (Nat.le_of_ble_eq_true rfl) dX1_wouldFit_56 ⟨Nat.zero_le _, Nat.zero_le _⟩ ?_
        refine tw_rM ⟨hx, hb, hml, hown, hts⟩ hK hP (c_X1_times l D cA cB h0 a0 b0 k F g x (tq_p a 1#8)) (cwV 2 hts gX1_wouldFit_X1_times rfl rfl rfl kdX1_times ⟨Nat.le_of_ble_eq_true rfl, Nat.le_of_ble_eq_true rfl⟩) rfl hl.1 rfl (Nat.le_of_ble_eq_true rfl) dX1_wouldFit_59 ⟨Nat.zero_le _, Nat.zero_le _⟩ ?_
        refine lv_goto (tgt := 66) hx hb dX1_wouldFit_62 (by decide) ?_
        refine lv_ixor hx hb dX1_wouldFit_66 ?_
        refine lv_iload hx hb dX1_wouldFit_67 (lv_at hl 5 rfl) ?_
        refine lv_aload_n hx hb dX1_wouldFit_69 rfl (lv_at hl 1 rfl) ?_
        refine tw_rM ⟨hx, hb, hml, hown, hts⟩ hK hP (c_X1_p l D cA cB h0 a0 b0 k F g ) (cwV 0 hts gX1_wouldFit_X1_p rfl rfl rfl kdX1_p ⟨Nat.le_of_ble_eq_true rfl, Nat.le_of_ble_eq_true rfl⟩) rfl hl.1 rfl (Nat.le_of_ble_eq_true rfl) dX1_wouldFit_70 ⟨Nat.zero_le _, Nat.zero_le _⟩ ?_
        refine lv_icmp_ge (tgt := 91) hx hb dX1_wouldFit_73 (by decide) (fun c_73 => ?_) (fun c_73 => ?_)
        · exact absurd c_73 (nI_ge hb9 (by omega))
        · refine lv_aload_n hx hb dX1_wouldFit_76 rfl (lv_at hl 1 rfl) ?_
          refine lv_iload hx hb dX1_wouldFit_77 (lv_at hl 6 rfl) ?_
          refine lv_aload_n hx hb dX1_wouldFit_79 rfl (lv_at hl 1 rfl) ?_
          refine lv_iload hx hb dX1_wouldFit_80 (lv_at hl 5 rfl) ?_
          refine tw_rM ⟨hx, hb, hml, hown, hts⟩ hK hP (c_X1_twos l D cA cB h0 a0 b0 k F g b (by omega)) (cwV 1 hts gX1_wouldFit_X1_twos rfl rfl rfl kdX1_twos ⟨Nat.le_of_ble_eq_true rfl, Nat.le_of_ble_eq_true rfl⟩) rfl hl.1 rfl (Nat.le_of_ble_eq_true rfl) dX1_wouldFit_82 ⟨Nat.zero_le _, Nat.zero_le _⟩ ?_
          refine tw_rM ⟨hx, hb, hml, hown, hts⟩ hK hP (c_X1_times l D cA cB h0 a0 b0 k F g y (tq_p b 1#8)) (cwV 2 hts gX1_wouldFit_X1_times rfl rfl rfl kdX1_times ⟨Nat.le_of_ble_eq_true rfl, Nat.le_of_ble_eq_true rfl⟩) rfl hl.1 rfl (Nat.le_of_ble_eq_true rfl) dX1_wouldFit_85 ⟨Nat.zero_le _, Nat.zero_le _⟩ ?_
          refine lv_goto (tgt := 92) hx hb dX1_wouldFit_88 (by decide) ?_
          refine lv_ixor hx hb dX1_wouldFit_92 ?_
          refine tw_topr (x' := tq_eb (tq_qs (tw_ml g (tq_col F i)) k ^^^ tq_p a x ^^^ tq_p b y)) (by rw [tq_mp (show a < 16 by omega), tq_mp (show b < 16 by omega), tq_eb_xor, tq_eb_xor]; rfl) ?_
          refine lv_istore (lv' := [(7, .int (tq_eb (tq_qs (tw_ml g (tq_col F i)) k ^^^ tq_p a x ^^^ tq_p b y))), (6, .int (tq_eb (tq_xs (tw_ml g (tq_col F i)) k ^^^ x ^^^ y))), (0, .ref h0), (1, .int (nI i)), (2, .int (nI a)), (3, .int (tq_eb x)), (4, .int (nI b)), (5, .int (tq_eb y))]) hx hb dX1_wouldFit_93 hl (by decide) rfl (fun ls hl => ?_)
          refine lv_aload_n hx hb dX1_wouldFit_95 rfl (lv_at hl 2 rfl) ?_
          refine va_get (D := D) (ci := 1) (v := .ref b0) (C := RX1) (T := TX1) (N := 4) hx hb hts inX1_wouldFit hown hK hP 0 rfl rfl 3 (by decide) (hts _ fX1_wouldFit_13) (fun _ h9 => h9) rfl dX1_wouldFit_96 ?_
          refine lv_aload_n hx hb dX1_wouldFit_99 rfl (lv_at hl 2 rfl) ?_
          refine tw_rM ⟨hx, hb, hml, hown, hts⟩ hK hP (c_X1_p l D cA cB h0 a0 b0 k F g ) (cwV 0 hts gX1_wouldFit_X1_p rfl rfl rfl kdX1_p ⟨Nat.le_of_ble_eq_true rfl, Nat.le_of_ble_eq_true rfl⟩) rfl hl.1 rfl (Nat.le_of_ble_eq_true rfl) dX1_wouldFit_100 ⟨Nat.zero_le _, Nat.zero_le _⟩ ?_
          refine tw_lz hx hb hK hP 2 1 rfl rfl (n := k) (rfl) (by omega) (by decide) dX1_wouldFit_103 ?_
          refine lv_if_ne (tgt := 126) hx hb dX1_wouldFit_104 (by decide) (fun c_104 => ?_) (fun c_104 => ?_)
          · rw [tw_bI1] at c_104
            refine lv_iconst (v := 1) hx hb dX1_wouldFit_126 (by decide) ?_
            refine lv_goto (tgt := 131) hx hb dX1_wouldFit_127 (by decide) ?_
            refine lv_istore (lv' := [(8, .int 1), (7, .int (tq_eb (tq_qs (tw_ml g (tq_col F i)) k ^^^ tq_p a x ^^^ tq_p b y))), (6, .int (tq_eb (tq_xs (tw_ml g (tq_col F i)) k ^^^ x ^^^ y))), (0, .ref h0), (1, .int (nI i)), (2, .int (nI a)), (3, .int (tq_eb x)), (4, .int (nI b)), (5, .int (tq_eb y))]) hx hb dX1_wouldFit_131 hl (by decide) rfl (fun ls hl => ?_)
            refine lv_aload_n hx hb dX1_wouldFit_133 rfl (lv_at hl 3 rfl) ?_
            refine va_get (D := D) (ci := 1) (v := .ref b0) (C := RX1) (T := TX1) (N := 4) hx hb hts inX1_wouldFit hown hK hP 0 rfl rfl 3 (by decide) (hts _ fX1_wouldFit_13) (fun _ h9 => h9) rfl dX1_wouldFit_134 ?_
            refine lv_aload_n hx hb dX1_wouldFit_137 rfl (lv_at hl 3 rfl) ?_
            refine tw_rM ⟨hx, hb, hml, hown, hts⟩ hK hP (c_X1_q l D cA cB h0 a0 b0 k F g ) (cwV 0 hts gX1_wouldFit_X1_q rfl rfl rfl kdX1_q ⟨Nat.le_of_ble_eq_true rfl, Nat.le_of_ble_eq_true rfl⟩) rfl hl.1 rfl (Nat.le_of_ble_eq_true rfl) dX1_wouldFit_138 ⟨Nat.zero_le _, Nat.zero_le _⟩ ?_
            refine tw_lz hx hb hK hP 2 1 rfl rfl (n := k + 1) (rfl) (by omega) (by decide) dX1_wouldFit_141 ?_
            refine lv_if_ne (tgt := 164) hx hb dX1_wouldFit_142 (by decide) (fun c_142 => ?_) (fun c_142 => ?_)
            · rw [tw_bI1] at c_142
              refine lv_iconst (v := 1) hx hb dX1_wouldFit_164 (by decide) ?_
              refine lv_goto (tgt := 169) hx hb dX1_wouldFit_165 (by decide) ?_
              refine lv_istore (lv' := [(9, .int 1), (8, .int 1), (7, .int (tq_eb (tq_qs (tw_ml g (tq_col F i)) k ^^^ tq_p a x ^^^ tq_p b y))), (6, .int (tq_eb (tq_xs (tw_ml g (tq_col F i)) k ^^^ x ^^^ y))), (0, .ref h0), (1, .int (nI i)), (2, .int (nI a)), (3, .int (tq_eb x)), (4, .int (nI b)), (5, .int (tq_eb y))]) hx hb dX1_wouldFit_169 hl (by decide) rfl (fun ls hl => ?_)
              refine lv_iload hx hb dX1_wouldFit_171 (lv_at hl 1 rfl) ?_
              refine lv_if_eq (tgt := 206) hx hb dX1_wouldFit_173 (by decide) (fun c_173 => ?_) (fun c_173 => ?_)
              · exact absurd c_173 (by decide)
              · refine lv_iload hx hb dX1_wouldFit_176 (lv_at hl 0 rfl) ?_
                refine lv_if_ne (tgt := 202) hx hb dX1_wouldFit_178 (by decide) (fun c_178 => ?_) (fun c_178 => ?_)
                · refine lv_iconst (v := 1) hx hb dX1_wouldFit_202 (by decide) ?_
                  refine lv_goto (tgt := 207) hx hb dX1_wouldFit_203 (by decide) ?_
                  refine tw_topr (x' := tw_bI (tw_wf k g (tq_col F i) (tq_xs (tw_ml g (tq_col F i)) k ^^^ x ^^^ y) (tq_qs (tw_ml g (tq_col F i)) k ^^^ tq_p a x ^^^ tq_p b y) false)) (by first | (exact absurd (c_104.symm.trans c_199) (by decide)) | (unfold tw_wf; simp [tw_bI, tq_col, c_104, c_142]; done)) ?_
                  exact hend _ _ dX1_wouldFit_207
                · exact absurd c_178 (by decide)
            · rw [tw_bI0] at c_142
              refine lv_iload hx hb dX1_wouldFit_145 (lv_at hl 1 rfl) ?_
              refine lv_aload_n hx hb dX1_wouldFit_147 rfl (lv_at hl 3 rfl) ?_
              refine va_get (D := D) (ci := 1) (v := .ref a0) (C := RX1) (T := TX1) (N := 4) hx hb hts inX1_wouldFit hown hK hP 0 rfl rfl 2 (by decide) (hts _ fX1_wouldFit_7) (fun _ h9 => h9) rfl dX1_wouldFit_148 ?_
              refine lv_bipush (v := 64) hx hb dX1_wouldFit_151 (by decide) ?_
              refine lv_aload_n hx hb dX1_wouldFit_153 rfl (lv_at hl 3 rfl) ?_
              refine tw_rM ⟨hx, hb, hml, hown, hts⟩ hK hP (c_X1_q l D cA cB h0 a0 b0 k F g ) (cwV 0 hts gX1_wouldFit_X1_q rfl rfl rfl kdX1_q ⟨Nat.le_of_ble_eq_true rfl, Nat.le_of_ble_eq_true rfl⟩) rfl hl.1 rfl (Nat.le_of_ble_eq_true rfl) dX1_wouldFit_154 ⟨Nat.zero_le _, Nat.zero_le _⟩ ?_
              refine lv_imul hx hb dX1_wouldFit_157 ?_
              refine lv_iload_n hx hb dX1_wouldFit_158 rfl (lv_at hl 4 rfl) ?_
              refine lv_iadd hx hb dX1_wouldFit_159 ?_
              refine tw_ld hx hb hK hP 1 0 rfl rfl (n := 64 * (k + 1) + i) (tw_ix' (k + 1) i) (by omega) (by decide) dX1_wouldFit_160 ?_
              refine lv_icmp_ne (tgt := 168) hx hb dX1_wouldFit_161 (by decide) (fun c_161 => ?_) (fun c_161 => ?_)
              · rw [tq_eb_eq] at c_161
                refine lv_iconst (v := 0) hx hb dX1_wouldFit_168 (by decide) ?_
                refine lv_istore (lv' := [(9, .int 0), (8, .int 1), (7, .int (tq_eb (tq_qs (tw_ml g (tq_col F i)) k ^^^ tq_p a x ^^^ tq_p b y))), (6, .int (tq_eb (tq_xs (tw_ml g (tq_col F i)) k ^^^ x ^^^ y))), (0, .ref h0), (1, .int (nI i)), (2, .int (nI a)), (3, .int (tq_eb x)), (4, .int (nI b)), (5, .int (tq_eb y))]) hx hb dX1_wouldFit_169 hl (by decide) rfl (fun ls hl => ?_)
                refine lv_iload hx hb dX1_wouldFit_171 (lv_at hl 1 rfl) ?_
                refine lv_if_eq (tgt := 206) hx hb dX1_wouldFit_173 (by decide) (fun c_173 => ?_) (fun c_173 => ?_)
                · exact absurd c_173 (by decide)
                · refine lv_iload hx hb dX1_wouldFit_176 (lv_at hl 0 rfl) ?_
                  refine lv_if_ne (tgt := 202) hx hb dX1_wouldFit_178 (by decide) (fun c_178 => ?_) (fun c_178 => ?_)
                  · exact absurd rfl c_178
                  · refine lv_iload hx hb dX1_wouldFit_181 (lv_at hl 8 rfl) ?_
                    refine lv_aload_n hx hb dX1_wouldFit_183 rfl (lv_at hl 4 rfl) ?_
                    refine tw_rM ⟨hx, hb, hml, hown, hts⟩ hK hP (c_X1_p l D cA cB h0 a0 b0 k F g ) (cwV 0 hts gX1_wouldFit_X1_p rfl rfl rfl kdX1_p ⟨Nat.le_of_ble_eq_true rfl, Nat.le_of_ble_eq_true rfl⟩) rfl hl.1 rfl (Nat.le_of_ble_eq_true rfl) dX1_wouldFit_184 ⟨Nat.zero_le _, Nat.zero_le _⟩ ?_
                    refine lv_icmp_lt (tgt := 206) hx hb dX1_wouldFit_187 (by decide) (fun c_187 => ?_) (fun c_187 => ?_)
                    · refine lv_iconst (v := 0) hx hb dX1_wouldFit_206 (by decide) ?_
                      refine tw_topr (x' := tw_bI (tw_wf k g (tq_col F i) (tq_xs (tw_ml g (tq_col F i)) k ^^^ x ^^^ y) (tq_qs (tw_ml g (tq_col F i)) k ^^^ tq_p a x ^^^ tq_p b y) false)) (by first | (exact absurd (c_104.symm.trans c_199) (by decide)) | (unfold tw_wf; simp [tw_bI, tq_col, c_104, c_142, c_161]; done)) ?_
                      exact hend _ _ dX1_wouldFit_207
                    · exact absurd (nI_lt hb9 (by omega)) c_187
              · rw [tq_eb_eq] at c_161
                refine lv_iconst (v := 1) hx hb dX1_wouldFit_164 (by decide) ?_
                refine lv_goto (tgt := 169) hx hb dX1_wouldFit_165 (by decide) ?_
                refine lv_istore (lv' := [(9, .int 1), (8, .int 1), (7, .int (tq_eb (tq_qs (tw_ml g (tq_col F i)) k ^^^ tq_p a x ^^^ tq_p b y))), (6, .int (tq_eb (tq_xs (tw_ml g (tq_col F i)) k ^^^ x ^^^ y))), (0, .ref h0), (1, .int (nI i)), (2, .int (nI a)), (3, .int (tq_eb x)), (4, .int (nI b)), (5, .int (tq_eb y))]) hx hb dX1_wouldFit_169 hl (by decide) rfl (fun ls hl => ?_)
                refine lv_iload hx hb dX1_wouldFit_171 (lv_at hl 1 rfl) ?_
                refine lv_if_eq (tgt := 206) hx hb dX1_wouldFit_173 (by decide) (fun c_173 => ?_) (fun c_173 => ?_)
                · exact absurd c_173 (by decide)
                · refine lv_iload hx hb dX1_wouldFit_176 (lv_at hl 0 rfl) ?_
                  refine lv_if_ne (tgt := 202) hx hb dX1_wouldFit_178 (by decide) (fun c_178 => ?_) (fun c_178 => ?_)
                  · refine lv_iconst (v := 1) hx hb dX1_wouldFit_202 (by decide) ?_
                    refine lv_goto (tgt := 207) hx hb dX1_wouldFit_203 (by decide) ?_
                    refine tw_topr (x' := tw_bI (tw_wf k g (tq_col F i) (tq_xs (tw_ml g (tq_col F i)) k ^^^ x ^^^ y) (tq_qs (tw_ml g (tq_col F i)) k ^^^ tq_p a x ^^^ tq_p b y) false)) (by first | (exact absurd (c_104.symm.trans c_199) (by decide)) | (unfold tw_wf; simp [tw_bI, tq_col, c_104, c_142, c_161]; done)) ?_
                    exact hend _ _ dX1_wouldFit_207
                  · exact absurd c_178 (by decide)
          · rw [tw_bI0] at c_104
            refine lv_iload hx hb dX1_wouldFit_107 (lv_at hl 1 rfl) ?_
            refine lv_aload_n hx hb dX1_wouldFit_109 rfl (lv_at hl 2 rfl) ?_
            refine va_get (D := D) (ci := 1) (v := .ref a0) (C := RX1) (T := TX1) (N := 4) hx hb hts inX1_wouldFit hown hK hP 0 rfl rfl 2 (by decide) (hts _ fX1_wouldFit_7) (fun _ h9 => h9) rfl dX1_wouldFit_110 ?_
            refine lv_bipush (v := 64) hx hb dX1_wouldFit_113 (by decide) ?_
            refine lv_aload_n hx hb dX1_wouldFit_115 rfl (lv_at hl 2 rfl) ?_
            refine tw_rM ⟨hx, hb, hml, hown, hts⟩ hK hP (c_X1_p l D cA cB h0 a0 b0 k F g ) (cwV 0 hts gX1_wouldFit_X1_p rfl rfl rfl kdX1_p ⟨Nat.le_of_ble_eq_true rfl, Nat.le_of_ble_eq_true rfl⟩) rfl hl.1 rfl (Nat.le_of_ble_eq_true rfl) dX1_wouldFit_116 ⟨Nat.zero_le _, Nat.zero_le _⟩ ?_
            refine lv_imul hx hb dX1_wouldFit_119 ?_
            refine lv_iload_n hx hb dX1_wouldFit_120 rfl (lv_at hl 3 rfl) ?_
            refine lv_iadd hx hb dX1_wouldFit_121 ?_
            refine tw_ld hx hb hK hP 1 0 rfl rfl (n := 64 * k + i) (tw_ix' k i) (by omega) (by decide) dX1_wouldFit_122 ?_
            refine lv_icmp_ne (tgt := 130) hx hb dX1_wouldFit_123 (by decide) (fun c_123 => ?_) (fun c_123 => ?_)
            · rw [tq_eb_eq] at c_123
              refine lv_iconst (v := 0) hx hb dX1_wouldFit_130 (by decide) ?_
              refine lv_istore (lv' := [(8, .int 0), (7, .int (tq_eb (tq_qs (tw_ml g (tq_col F i)) k ^^^ tq_p a x ^^^ tq_p b y))), (6, .int (tq_eb (tq_xs (tw_ml g (tq_col F i)) k ^^^ x ^^^ y))), (0, .ref h0), (1, .int (nI i)), (2, .int (nI a)), (3, .int (tq_eb x)), (4, .int (nI b)), (5, .int (tq_eb y))]) hx hb dX1_wouldFit_131 hl (by decide) rfl (fun ls hl => ?_)
              refine lv_aload_n hx hb dX1_wouldFit_133 rfl (lv_at hl 3 rfl) ?_
              refine va_get (D := D) (ci := 1) (v := .ref b0) (C := RX1) (T := TX1) (N := 4) hx hb hts inX1_wouldFit hown hK hP 0 rfl rfl 3 (by decide) (hts _ fX1_wouldFit_13) (fun _ h9 => h9) rfl dX1_wouldFit_134 ?_
              refine lv_aload_n hx hb dX1_wouldFit_137 rfl (lv_at hl 3 rfl) ?_
              refine tw_rM ⟨hx, hb, hml, hown, hts⟩ hK hP (c_X1_q l D cA cB h0 a0 b0 k F g ) (cwV 0 hts gX1_wouldFit_X1_q rfl rfl rfl kdX1_q ⟨Nat.le_of_ble_eq_true rfl, Nat.le_of_ble_eq_true rfl⟩) rfl hl.1 rfl (Nat.le_of_ble_eq_true rfl) dX1_wouldFit_138 ⟨Nat.zero_le _, Nat.zero_le _⟩ ?_
              refine tw_lz hx hb hK hP 2 1 rfl rfl (n := k + 1) (rfl) (by omega) (by decide) dX1_wouldFit_141 ?_
              refine lv_if_ne (tgt := 164) hx hb dX1_wouldFit_142 (by decide) (fun c_142 => ?_) (fun c_142 => ?_)
              · rw [tw_bI1] at c_142
                refine lv_iconst (v := 1) hx hb dX1_wouldFit_164 (by decide) ?_
                refine lv_goto (tgt := 169) hx hb dX1_wouldFit_165 (by decide) ?_
                refine lv_istore (lv' := [(9, .int 1), (8, .int 0), (7, .int (tq_eb (tq_qs (tw_ml g (tq_col F i)) k ^^^ tq_p a x ^^^ tq_p b y))), (6, .int (tq_eb (tq_xs (tw_ml g (tq_col F i)) k ^^^ x ^^^ y))), (0, .ref h0), (1, .int (nI i)), (2, .int (nI a)), (3, .int (tq_eb x)), (4, .int (nI b)), (5, .int (tq_eb y))]) hx hb dX1_wouldFit_169 hl (by decide) rfl (fun ls hl => ?_)
                refine lv_iload hx hb dX1_wouldFit_171 (lv_at hl 1 rfl) ?_
                refine lv_if_eq (tgt := 206) hx hb dX1_wouldFit_173 (by decide) (fun c_173 => ?_) (fun c_173 => ?_)
                · refine lv_iconst (v := 0) hx hb dX1_wouldFit_206 (by decide) ?_
                  refine tw_topr (x' := tw_bI (tw_wf k g (tq_col F i) (tq_xs (tw_ml g (tq_col F i)) k ^^^ x ^^^ y) (tq_qs (tw_ml g (tq_col F i)) k ^^^ tq_p a x ^^^ tq_p b y) false)) (by first | (exact absurd (c_104.symm.trans c_199) (by decide)) | (unfold tw_wf; simp [tw_bI, tq_col, c_104, c_123, c_142]; done)) ?_
                  exact hend _ _ dX1_wouldFit_207
                · exact absurd rfl c_173
              · rw [tw_bI0] at c_142
                refine lv_iload hx hb dX1_wouldFit_145 (lv_at hl 1 rfl) ?_
                refine lv_aload_n hx hb dX1_wouldFit_147 rfl (lv_at hl 3 rfl) ?_
                refine va_get (D := D) (ci := 1) (v := .ref a0) (C := RX1) (T := TX1) (N := 4) hx hb hts inX1_wouldFit hown hK hP 0 rfl rfl 2 (by decide) (hts _ fX1_wouldFit_7) (fun _ h9 => h9) rfl dX1_wouldFit_148 ?_
                refine lv_bipush (v := 64) hx hb dX1_wouldFit_151 (by decide) ?_
                refine lv_aload_n hx hb dX1_wouldFit_153 rfl (lv_at hl 3 rfl) ?_
                refine tw_rM ⟨hx, hb, hml, hown, hts⟩ hK hP (c_X1_q l D cA cB h0 a0 b0 k F g ) (cwV 0 hts gX1_wouldFit_X1_q rfl rfl rfl kdX1_q ⟨Nat.le_of_ble_eq_true rfl, Nat.le_of_ble_eq_true rfl⟩) rfl hl.1 rfl (Nat.le_of_ble_eq_true rfl) dX1_wouldFit_154 ⟨Nat.zero_le _, Nat.zero_le _⟩ ?_
                refine lv_imul hx hb dX1_wouldFit_157 ?_
                refine lv_iload_n hx hb dX1_wouldFit_158 rfl (lv_at hl 4 rfl) ?_
                refine lv_iadd hx hb dX1_wouldFit_159 ?_
                refine tw_ld hx hb hK hP 1 0 rfl rfl (n := 64 * (k + 1) + i) (tw_ix' (k + 1) i) (by omega) (by decide) dX1_wouldFit_160 ?_
                refine lv_icmp_ne (tgt := 168) hx hb dX1_wouldFit_161 (by decide) (fun c_161 => ?_) (fun c_161 => ?_)
                · rw [tq_eb_eq] at c_161
                  refine lv_iconst (v := 0) hx hb dX1_wouldFit_168 (by decide) ?_
                  refine lv_istore (lv' := [(9, .int 0), (8, .int 0), (7, .int (tq_eb (tq_qs (tw_ml g (tq_col F i)) k ^^^ tq_p a x ^^^ tq_p b y))), (6, .int (tq_eb (tq_xs (tw_ml g (tq_col F i)) k ^^^ x ^^^ y))), (0, .ref h0), (1, .int (nI i)), (2, .int (nI a)), (3, .int (tq_eb x)), (4, .int (nI b)), (5, .int (tq_eb y))]) hx hb dX1_wouldFit_169 hl (by decide) rfl (fun ls hl => ?_)
                  refine lv_iload hx hb dX1_wouldFit_171 (lv_at hl 1 rfl) ?_
                  refine lv_if_eq (tgt := 206) hx hb dX1_wouldFit_173 (by decide) (fun c_173 => ?_) (fun c_173 => ?_)
                  · refine lv_iconst (v := 0) hx hb dX1_wouldFit_206 (by decide) ?_
                    refine tw_topr (x' := tw_bI (tw_wf k g (tq_col F i) (tq_xs (tw_ml g (tq_col F i)) k ^^^ x ^^^ y) (tq_qs (tw_ml g (tq_col F i)) k ^^^ tq_p a x ^^^ tq_p b y) false)) (by first | (exact absurd (c_104.symm.trans c_199) (by decide)) | (unfold tw_wf; simp [tw_bI, tq_col, c_104, c_123, c_142, c_161]; done)) ?_
                    exact hend _ _ dX1_wouldFit_207
                  · exact absurd rfl c_173
                · rw [tq_eb_eq] at c_161
                  refine lv_iconst (v := 1) hx hb dX1_wouldFit_164 (by decide) ?_
                  refine lv_goto (tgt := 169) hx hb dX1_wouldFit_165 (by decide) ?_
                  refine lv_istore (lv' := [(9, .int 1), (8, .int 0), (7, .int (tq_eb (tq_qs (tw_ml g (tq_col F i)) k ^^^ tq_p a x ^^^ tq_p b y))), (6, .int (tq_eb (tq_xs (tw_ml g (tq_col F i)) k ^^^ x ^^^ y))), (0, .ref h0), (1, .int (nI i)), (2, .int (nI a)), (3, .int (tq_eb x)), (4, .int (nI b)), (5, .int (tq_eb y))]) hx hb dX1_wouldFit_169 hl (by decide) rfl (fun ls hl => ?_)
                  refine lv_iload hx hb dX1_wouldFit_171 (lv_at hl 1 rfl) ?_
                  refine lv_if_eq (tgt := 206) hx hb dX1_wouldFit_173 (by decide) (fun c_173 => ?_) (fun c_173 => ?_)
                  · refine lv_iconst (v := 0) hx hb dX1_wouldFit_206 (by decide) ?_
                    refine tw_topr (x' := tw_bI (tw_wf k g (tq_col F i) (tq_xs (tw_ml g (tq_col F i)) k ^^^ x ^^^ y) (tq_qs (tw_ml g (tq_col F i)) k ^^^ tq_p a x ^^^ tq_p b y) false)) (by first | (exact absurd (c_104.symm.trans c_199) (by decide)) | (unfold tw_wf; simp [tw_bI, tq_col, c_104, c_123, c_142, c_161]; done)) ?_
                    exact hend _ _ dX1_wouldFit_207
                  · exact absurd rfl c_173
            · rw [tq_eb_eq] at c_123
              refine lv_iconst (v := 1) hx hb dX1_wouldFit_126 (by decide) ?_
              refine lv_goto (tgt := 131) hx hb dX1_wouldFit_127 (by decide) ?_
              refine lv_istore (lv' := [(8, .int 1), (7, .int (tq_eb (tq_qs (tw_ml g (tq_col F i)) k ^^^ tq_p a x ^^^ tq_p b y))), (6, .int (tq_eb (tq_xs (tw_ml g (tq_col F i)) k ^^^ x ^^^ y))), (0, .ref h0), (1, .int (nI i)), (2, .int (nI a)), (3, .int (tq_eb x)), (4, .int (nI b)), (5, .int (tq_eb y))]) hx hb dX1_wouldFit_131 hl (by decide) rfl (fun ls hl => ?_)
              refine lv_aload_n hx hb dX1_wouldFit_133 rfl (lv_at hl 3 rfl) ?_
              refine va_get (D := D) (ci := 1) (v := .ref b0) (C := RX1) (T := TX1) (N := 4) hx hb hts inX1_wouldFit hown hK hP 0 rfl rfl 3 (by decide) (hts _ fX1_wouldFit_13) (fun _ h9 => h9) rfl dX1_wouldFit_134 ?_
              refine lv_aload_n hx hb dX1_wouldFit_137 rfl (lv_at hl 3 rfl) ?_
              refine tw_rM ⟨hx, hb, hml, hown, hts⟩ hK hP (c_X1_q l D cA cB h0 a0 b0 k F g ) (cwV 0 hts gX1_wouldFit_X1_q rfl rfl rfl kdX1_q ⟨Nat.le_of_ble_eq_true rfl, Nat.le_of_ble_eq_true rfl⟩) rfl hl.1 rfl (Nat.le_of_ble_eq_true rfl) dX1_wouldFit_138 ⟨Nat.zero_le _, Nat.zero_le _⟩ ?_
              refine tw_lz hx hb hK hP 2 1 rfl rfl (n := k + 1) (rfl) (by omega) (by decide) dX1_wouldFit_141 ?_
              refine lv_if_ne (tgt := 164) hx hb dX1_wouldFit_142 (by decide) (fun c_142 => ?_) (fun c_142 => ?_)
              · rw [tw_bI1] at c_142
                refine lv_iconst (v := 1) hx hb dX1_wouldFit_164 (by decide) ?_
                refine lv_goto (tgt := 169) hx hb dX1_wouldFit_165 (by decide) ?_
                refine lv_istore (lv' := [(9, .int 1), (8, .int 1), (7, .int (tq_eb (tq_qs (tw_ml g (tq_col F i)) k ^^^ tq_p a x ^^^ tq_p b y))), (6, .int (tq_eb (tq_xs (tw_ml g (tq_col F i)) k ^^^ x ^^^ y))), (0, .ref h0), (1, .int (nI i)), (2, .int (nI a)), (3, .int (tq_eb x)), (4, .int (nI b)), (5, .int (tq_eb y))]) hx hb dX1_wouldFit_169 hl (by decide) rfl (fun ls hl => ?_)
                refine lv_iload hx hb dX1_wouldFit_171 (lv_at hl 1 rfl) ?_
                refine lv_if_eq (tgt := 206) hx hb dX1_wouldFit_173 (by decide) (fun c_173 => ?_) (fun c_173 => ?_)
                · exact absurd c_173 (by decide)
                · refine lv_iload hx hb dX1_wouldFit_176 (lv_at hl 0 rfl) ?_
                  refine lv_if_ne (tgt := 202) hx hb dX1_wouldFit_178 (by decide) (fun c_178 => ?_) (fun c_178 => ?_)
                  · refine lv_iconst (v := 1) hx hb dX1_wouldFit_202 (by decide) ?_
                    refine lv_goto (tgt := 207) hx hb dX1_wouldFit_203 (by decide) ?_
                    refine tw_topr (x' := tw_bI (tw_wf k g (tq_col F i) (tq_xs (tw_ml g (tq_col F i)) k ^^^ x ^^^ y) (tq_qs (tw_ml g (tq_col F i)) k ^^^ tq_p a x ^^^ tq_p b y) false)) (by first | (exact absurd (c_104.symm.trans c_199) (by decide)) | (unfold tw_wf; simp [tw_bI, tq_col, c_104, c_123, c_142]; done)) ?_
                    exact hend _ _ dX1_wouldFit_207
                  · exact absurd c_178 (by decide)
              · rw [tw_bI0] at c_142
                refine lv_iload hx hb dX1_wouldFit_145 (lv_at hl 1 rfl) ?_
                refine lv_aload_n hx hb dX1_wouldFit_147 rfl (lv_at hl 3 rfl) ?_
                refine va_get (D := D) (ci := 1) (v := .ref a0) (C := RX1) (T := TX1) (N := 4) hx hb hts inX1_wouldFit hown hK hP 0 rfl rfl 2 (by decide) (hts _ fX1_wouldFit_7) (fun _ h9 => h9) rfl dX1_wouldFit_148 ?_
                refine lv_bipush (v := 64) hx hb dX1_wouldFit_151 (by decide) ?_
                refine lv_aload_n hx hb dX1_wouldFit_153 rfl (lv_at hl 3 rfl) ?_
                refine tw_rM ⟨hx, hb, hml, hown, hts⟩ hK hP (c_X1_q l D cA cB h0 a0 b0 k F g ) (cwV 0 hts gX1_wouldFit_X1_q rfl rfl rfl kdX1_q ⟨Nat.le_of_ble_eq_true rfl, Nat.le_of_ble_eq_true rfl⟩) rfl hl.1 rfl (Nat.le_of_ble_eq_true rfl) dX1_wouldFit_154 ⟨Nat.zero_le _, Nat.zero_le _⟩ ?_
                refine lv_imul hx hb dX1_wouldFit_157 ?_
                refine lv_iload_n hx hb dX1_wouldFit_158 rfl (lv_at hl 4 rfl) ?_
                refine lv_iadd hx hb dX1_wouldFit_159 ?_
                refine tw_ld hx hb hK hP 1 0 rfl rfl (n := 64 * (k + 1) + i) (tw_ix' (k + 1) i) (by omega) (by decide) dX1_wouldFit_160 ?_
                refine lv_icmp_ne (tgt := 168) hx hb dX1_wouldFit_161 (by decide) (fun c_161 => ?_) (fun c_161 => ?_)
                · rw [tq_eb_eq] at c_161
                  refine lv_iconst (v := 0) hx hb dX1_wouldFit_168 (by decide) ?_
                  refine lv_istore (lv' := [(9, .int 0), (8, .int 1), (7, .int (tq_eb (tq_qs (tw_ml g (tq_col F i)) k ^^^ tq_p a x ^^^ tq_p b y))), (6, .int (tq_eb (tq_xs (tw_ml g (tq_col F i)) k ^^^ x ^^^ y))), (0, .ref h0), (1, .int (nI i)), (2, .int (nI a)), (3, .int (tq_eb x)), (4, .int (nI b)), (5, .int (tq_eb y))]) hx hb dX1_wouldFit_169 hl (by decide) rfl (fun ls hl => ?_)
                  refine lv_iload hx hb dX1_wouldFit_171 (lv_at hl 1 rfl) ?_
                  refine lv_if_eq (tgt := 206) hx hb dX1_wouldFit_173 (by decide) (fun c_173 => ?_) (fun c_173 => ?_)
                  · exact absurd c_173 (by decide)
                  · refine lv_iload hx hb dX1_wouldFit_176 (lv_at hl 0 rfl) ?_
                    refine lv_if_ne (tgt := 202) hx hb dX1_wouldFit_178 (by decide) (fun c_178 => ?_) (fun c_178 => ?_)
                    · exact absurd rfl c_178
                    · refine lv_iload hx hb dX1_wouldFit_181 (lv_at hl 8 rfl) ?_
                      refine lv_aload_n hx hb dX1_wouldFit_183 rfl (lv_at hl 4 rfl) ?_
                      refine tw_rM ⟨hx, hb, hml, hown, hts⟩ hK hP (c_X1_p l D cA cB h0 a0 b0 k F g ) (cwV 0 hts gX1_wouldFit_X1_p rfl rfl rfl kdX1_p ⟨Nat.le_of_ble_eq_true rfl, Nat.le_of_ble_eq_true rfl⟩) rfl hl.1 rfl (Nat.le_of_ble_eq_true rfl) dX1_wouldFit_184 ⟨Nat.zero_le _, Nat.zero_le _⟩ ?_
                      refine lv_icmp_lt (tgt := 206) hx hb dX1_wouldFit_187 (by decide) (fun c_187 => ?_) (fun c_187 => ?_)
                      · refine lv_iconst (v := 0) hx hb dX1_wouldFit_206 (by decide) ?_
                        refine tw_topr (x' := tw_bI (tw_wf k g (tq_col F i) (tq_xs (tw_ml g (tq_col F i)) k ^^^ x ^^^ y) (tq_qs (tw_ml g (tq_col F i)) k ^^^ tq_p a x ^^^ tq_p b y) false)) (by first | (exact absurd (c_104.symm.trans c_199) (by decide)) | (unfold tw_wf; simp [tw_bI, tq_col, c_104, c_123, c_142, c_161]; done)) ?_
                        exact hend _ _ dX1_wouldFit_207
                      · exact absurd (nI_lt hb9 (by omega)) c_187
                · rw [tq_eb_eq] at c_161
                  refine lv_iconst (v := 1) hx hb dX1_wouldFit_164 (by decide) ?_
                  refine lv_goto (tgt := 169) hx hb dX1_wouldFit_165 (by decide) ?_
                  refine lv_istore (lv' := [(9, .int 1), (8, .int 1), (7, .int (tq_eb (tq_qs (tw_ml g (tq_col F i)) k ^^^ tq_p a x ^^^ tq_p b y))), (6, .int (tq_eb (tq_xs (tw_ml g (tq_col F i)) k ^^^ x ^^^ y))), (0, .ref h0), (1, .int (nI i)), (2, .int (nI a)), (3, .int (tq_eb x)), (4, .int (nI b)), (5, .int (tq_eb y))]) hx hb dX1_wouldFit_169 hl (by decide) rfl (fun ls hl => ?_)
                  refine lv_iload hx hb dX1_wouldFit_171 (lv_at hl 1 rfl) ?_
                  refine lv_if_eq (tgt := 206) hx hb dX1_wouldFit_173 (by decide) (fun c_173 => ?_) (fun c_173 => ?_)
                  · exact absurd c_173 (by decide)
                  · refine lv_iload hx hb dX1_wouldFit_176 (lv_at hl 0 rfl) ?_
                    refine lv_if_ne (tgt := 202) hx hb dX1_wouldFit_178 (by decide) (fun c_178 => ?_) (fun c_178 => ?_)
                    · refine lv_iconst (v := 1) hx hb dX1_wouldFit_202 (by decide) ?_
                      refine lv_goto (tgt := 207) hx hb dX1_wouldFit_203 (by decide) ?_
                      refine tw_topr (x' := tw_bI (tw_wf k g (tq_col F i) (tq_xs (tw_ml g (tq_col F i)) k ^^^ x ^^^ y) (tq_qs (tw_ml g (tq_col F i)) k ^^^ tq_p a x ^^^ tq_p b y) false)) (by first | (exact absurd (c_104.symm.trans c_199) (by decide)) | (unfold tw_wf; simp [tw_bI, tq_col, c_104, c_123, c_142, c_161]; done)) ?_
                      exact hend _ _ dX1_wouldFit_207
                    · exact absurd c_178 (by decide)
abbrev rmX1_find : Room := { frames := 4, cells := 0, slots := 0, locals := 102 }
theorem inX1_find : ∀ w ∈ wsX10, w ∈ wsX1_find := fun _ h => List.mem_cons_of_mem _ (List.mem_append_right _ h)
theorem fX1_find_7 : Cond.fieldLink RX1 7 "TwinParityModel" "bytes" "[I" ∈ wsX1_find := List.mem_of_getElem? (i := 1) rfl
theorem fX1_find_25 : Cond.fieldLink RX1 25 "TwinParityModel" "units" "I" ∈ wsX1_find := List.mem_of_getElem? (i := 7) rfl
theorem fX1_find_13 : Cond.fieldLink RX1 13 "TwinParityModel" "lost" "[Z" ∈ wsX1_find := List.mem_of_getElem? (i := 12) rfl
theorem kdX1_find : yX1_find.cls = RX1 ∧ yX1_find.cls ≠ "java/lang/invoke/MethodHandle" ∧ yX1_find.cls ≠ "java/lang/invoke/VarHandle" ∧ (parseMethodDescriptor yX1_find.desc).map (fun d => d.parameters.length) = some 3 := by decide +kernel
set_option maxHeartbeats 4000000 in
set_option maxRecDepth 100000 in
theorem c_X1_find1 (l : Launch) (D : va_G) (cA cB : ClassId) (h0 a0 b0 k : Nat) (F : Nat → BitVec 8) (g : Nat → Bool) (sz : Nat) (i a : Nat) (x0 : BitVec 8) (hi : i < 64) (ha : a < k) (hk : k ≤ 14) (hs : tw_wf k g (tq_col F i) (tq_xs (tw_ml g (tq_col F i)) k ^^^ x0) (tq_qs (tw_ml g (tq_col F i)) k ^^^ tq_p a x0) true = true) (hu : ∀ x, tw_wf k g (tq_col F i) (tq_xs (tw_ml g (tq_col F i)) k ^^^ x) (tq_qs (tw_ml g (tq_col F i)) k ^^^ tq_p a x) true = true → x = x0) : Met l yX1_find wsX1_find rmX1_find (va_Pc [.ref h0, .int (nI i), .int (nI a), .int (nI k)] (tw_Pw D (tw_M cA cB h0 a0 b0 k F g) (tw_tM cA cB) sz)) (va_Qv (fun _ : Unit => True) (tw_Qw D (fun _ : Unit => (tw_M cA cB h0 a0 b0 k (va_up F (64 * a + i) x0) g)) (tw_tM cA cB) (va_A (tw_M cA cB h0 a0 b0 k F g) sz)) (va_A (tw_M cA cB h0 a0 b0 k F g) sz)) 0 0 (va_A (tw_M cA cB h0 a0 b0 k F g) sz) := by
  refine tw_metV (by decide) rfl rfl (Nat.le_of_ble_eq_true rfl) ?_
  intro p e s m args below meth c Q ls A hx hb hml hown hts hP hK hD hS hA hend hl
  have hown : s.vm.findClass RX1 = some m.cls := hown
  have hl : lv_has ls 7 [(0, .ref h0), (1, .int (nI i)), (2, .int (nI a)), (3, .int (nI k))] := hl
  have hJ : x0.toNat < 2 ^ 8 := x0.isLt
  have loop : ∀ (n j : Nat) (ls : Array Slot), j + n = x0.toNat → lv_has ls 7 [(0, .ref h0), (1, .int (nI i)), (2, .int (nI a)), (3, .int (nI k)), (4, .int (nI j))] → W p l e rmX1_find s m args below meth c s.heap [] 0 0 Q (F0 m 3 ls []) := by
    intro n
    induction n with
    | zero =>
      intro j ls hj hl
      have hjx : BitVec.ofNat 8 j = x0 := by apply BitVec.eq_of_toNat_eq; rw [BitVec.toNat_ofNat, Nat.mod_eq_of_lt (by omega)]; exact hj
      refine lv_iload hx hb dX1_find_3 (lv_at hl 4 rfl) ?_
      refine lv_iload_n hx hb dX1_find_5 rfl (lv_at hl 2 rfl) ?_
      refine lv_aload_n hx hb dX1_find_6 rfl (lv_at hl 0 rfl) ?_
      refine tw_rM ⟨hx, hb, hml, hown, hts⟩ hK hP (c_X1_p l D cA cB h0 a0 b0 k F g ) (cwV 0 hts gX1_find_X1_p rfl rfl rfl kdX1_p ⟨Nat.le_of_ble_eq_true rfl, Nat.le_of_ble_eq_true rfl⟩) rfl hl.1 rfl (Nat.le_of_ble_eq_true rfl) dX1_find_7 ⟨Nat.zero_le _, Nat.zero_le _⟩ ?_
      refine lv_icmp_ge (tgt := 19) hx hb dX1_find_10 (by decide) (fun c_10 => ?_) (fun c_10 => ?_)
      · exact absurd c_10 (nI_ge ha (by omega))
      · refine lv_sipush (v := 256) hx hb dX1_find_13 (by decide) ?_
        refine lv_goto (tgt := 20) hx hb dX1_find_16 (by decide) ?_
        refine lv_icmp_ge (tgt := 205) hx hb dX1_find_20 (by decide) (fun c_20 => ?_) (fun c_20 => ?_)
        · exact absurd c_20 (nI_ge (b := 256) (by omega) (by omega))
        · refine lv_iconst (v := 0) hx hb dX1_find_23 (by decide) ?_
          refine lv_istore (lv' := [(5, .int 0), (0, .ref h0), (1, .int (nI i)), (2, .int (nI a)), (3, .int (nI k)), (4, .int (nI j))]) hx hb dX1_find_24 hl (by decide) rfl (fun ls hl => ?_)
          refine lv_iload hx hb dX1_find_26 (lv_at hl 0 rfl) ?_
          refine lv_iload_n hx hb dX1_find_28 rfl (lv_at hl 4 rfl) ?_
          refine lv_aload_n hx hb dX1_find_29 rfl (lv_at hl 1 rfl) ?_
          refine tw_rM ⟨hx, hb, hml, hown, hts⟩ hK hP (c_X1_p l D cA cB h0 a0 b0 k F g ) (cwV 0 hts gX1_find_X1_p rfl rfl rfl kdX1_p ⟨Nat.le_of_ble_eq_true rfl, Nat.le_of_ble_eq_true rfl⟩) rfl hl.1 rfl (Nat.le_of_ble_eq_true rfl) dX1_find_30 ⟨Nat.zero_le _, Nat.zero_le _⟩ ?_
          refine lv_icmp_ge (tgt := 42) hx hb dX1_find_33 (by decide) (fun c_33 => ?_) (fun c_33 => ?_)
          · refine lv_iconst (v := 1) hx hb dX1_find_42 (by decide) ?_
            refine lv_icmp_ge (tgt := 199) hx hb dX1_find_43 (by decide) (fun c_43 => ?_) (fun c_43 => ?_)
            · exact absurd c_43 (by decide)
            · refine lv_iload_n hx hb dX1_find_46 rfl (lv_at hl 4 rfl) ?_
              refine lv_aload_n hx hb dX1_find_47 rfl (lv_at hl 1 rfl) ?_
              refine tw_rM ⟨hx, hb, hml, hown, hts⟩ hK hP (c_X1_p l D cA cB h0 a0 b0 k F g ) (cwV 0 hts gX1_find_X1_p rfl rfl rfl kdX1_p ⟨Nat.le_of_ble_eq_true rfl, Nat.le_of_ble_eq_true rfl⟩) rfl hl.1 rfl (Nat.le_of_ble_eq_true rfl) dX1_find_48 ⟨Nat.zero_le _, Nat.zero_le _⟩ ?_
              refine lv_icmp_ge (tgt := 81) hx hb dX1_find_51 (by decide) (fun c_51 => ?_) (fun c_51 => ?_)
              · refine lv_iconst (v := 0) hx hb dX1_find_81 (by decide) ?_
                refine lv_istore (lv' := [(6, .int 0), (5, .int 0), (0, .ref h0), (1, .int (nI i)), (2, .int (nI a)), (3, .int (nI k)), (4, .int (nI j))]) hx hb dX1_find_82 hl (by decide) rfl (fun ls hl => ?_)
                refine lv_aload_n hx hb dX1_find_84 rfl (lv_at hl 2 rfl) ?_
                refine lv_iload_n hx hb dX1_find_85 rfl (lv_at hl 3 rfl) ?_
                refine lv_iload_n hx hb dX1_find_86 rfl (lv_at hl 4 rfl) ?_
                refine lv_iload hx hb dX1_find_87 (lv_at hl 6 rfl) ?_
                refine tw_topr (x' := tq_eb (BitVec.ofNat 8 j)) (tq_nI (by omega)) ?_
                refine lv_iload_n hx hb dX1_find_89 rfl (lv_at hl 5 rfl) ?_
                refine lv_iload_n hx hb dX1_find_90 rfl (lv_at hl 5 rfl) ?_
                refine lv_aload_n hx hb dX1_find_91 rfl (lv_at hl 2 rfl) ?_
                refine tw_rM ⟨hx, hb, hml, hown, hts⟩ hK hP (c_X1_p l D cA cB h0 a0 b0 k F g ) (cwV 0 hts gX1_find_X1_p rfl rfl rfl kdX1_p ⟨Nat.le_of_ble_eq_true rfl, Nat.le_of_ble_eq_true rfl⟩) rfl hl.1 rfl (Nat.le_of_ble_eq_true rfl) dX1_find_92 ⟨Nat.zero_le _, Nat.zero_le _⟩ ?_
                refine lv_icmp_ge (tgt := 103) hx hb dX1_find_95 (by decide) (fun c_95 => ?_) (fun c_95 => ?_)
                · refine lv_iload hx hb dX1_find_103 (lv_at hl 1 rfl) ?_
                  refine tw_rM ⟨hx, hb, hml, hown, hts⟩ hK hP (c_X1_wouldFit1 l D cA cB h0 a0 b0 k F g i a (BitVec.ofNat 8 j) hi ha hk) (cwV 5 hts gX1_find_X1_wouldFit rfl rfl rfl kdX1_wouldFit ⟨Nat.le_of_ble_eq_true rfl, Nat.le_of_ble_eq_true rfl⟩) rfl hl.1 rfl (Nat.le_of_ble_eq_true rfl) dX1_find_105 ⟨Nat.zero_le _, Nat.zero_le _⟩ ?_
                  refine lv_if_eq (tgt := 182) hx hb dX1_find_108 (by decide) (fun c_108 => ?_) (fun c_108 => ?_)
                  · rw [tw_bI0, hjx, hs] at c_108
                    exact absurd c_108 (by decide)
                  · refine lv_aload_n hx hb dX1_find_111 rfl (lv_at hl 2 rfl) ?_
                    refine va_get (D := D) (ci := 1) (v := .ref a0) (C := RX1) (T := TX1) (N := 4) hx hb hts inX1_find hown hK hP 0 rfl rfl 2 (by decide) (hts _ fX1_find_7) (fun _ h9 => h9) rfl dX1_find_112 ?_
                    refine lv_bipush (v := 64) hx hb dX1_find_115 (by decide) ?_
                    refine lv_iload_n hx hb dX1_find_117 rfl (lv_at hl 4 rfl) ?_
                    refine lv_imul hx hb dX1_find_118 ?_
                    refine lv_iload_n hx hb dX1_find_119 rfl (lv_at hl 3 rfl) ?_
                    refine lv_iadd hx hb dX1_find_120 ?_
                    refine tw_topr (x' := nI (64 * a + i)) (tw_ix' a i) ?_
                    refine lv_iload_n hx hb dX1_find_121 rfl (lv_at hl 4 rfl) ?_
                    refine lv_aload_n hx hb dX1_find_122 rfl (lv_at hl 2 rfl) ?_
                    refine tw_rM ⟨hx, hb, hml, hown, hts⟩ hK hP (c_X1_p l D cA cB h0 a0 b0 k F g ) (cwV 0 hts gX1_find_X1_p rfl rfl rfl kdX1_p ⟨Nat.le_of_ble_eq_true rfl, Nat.le_of_ble_eq_true rfl⟩) rfl hl.1 rfl (Nat.le_of_ble_eq_true rfl) dX1_find_123 ⟨Nat.zero_le _, Nat.zero_le _⟩ ?_
                    refine lv_icmp_ge (tgt := 134) hx hb dX1_find_126 (by decide) (fun c_126 => ?_) (fun c_126 => ?_)
                    · exact absurd c_126 (nI_ge ha (by omega))
                    · refine lv_iload hx hb dX1_find_129 (lv_at hl 6 rfl) ?_
                      refine lv_goto (tgt := 145) hx hb dX1_find_131 (by decide) ?_
                      refine tw_st hx hb hK hP hD hS 1 0 rfl rfl (n := 64 * a + i) (v := x0) (rfl) (by rw [tq_ebN]; congr 1) (by omega) (by decide) dX1_find_145 (fun H locs hP hD hS => ?_)
                      have hP : va_P D vwCl (tw_M cA cB h0 a0 b0 k (va_up F (64 * a + i) (x0)) g) H := hP
                      have hD : va_D A (tw_M cA cB h0 a0 b0 k (va_up F (64 * a + i) (x0)) g) := hD
                      refine lv_aload_n hx hb dX1_find_146 rfl (lv_at hl 2 rfl) ?_
                      refine va_get (D := D) (ci := 1) (v := .ref a0) (C := RX1) (T := TX1) (N := 4) hx hb hts inX1_find hown hK hP 0 rfl rfl 2 (by decide) (hts _ fX1_find_7) (fun _ h9 => h9) rfl dX1_find_147 ?_
                      refine lv_bipush (v := 64) hx hb dX1_find_150 (by decide) ?_
                      refine lv_iload_n hx hb dX1_find_152 rfl (lv_at hl 5 rfl) ?_
                      refine lv_imul hx hb dX1_find_153 ?_
                      refine lv_iload_n hx hb dX1_find_154 rfl (lv_at hl 3 rfl) ?_
                      refine lv_iadd hx hb dX1_find_155 ?_
                      refine tw_topr (x' := nI (64 * k + i)) (tw_ix' k i) ?_
                      refine lv_iload_n hx hb dX1_find_156 rfl (lv_at hl 5 rfl) ?_
                      refine lv_aload_n hx hb dX1_find_157 rfl (lv_at hl 2 rfl) ?_
                      refine tw_rM ⟨hx, hb, hml, hown, hts⟩ hK hP (c_X1_p l D cA cB h0 a0 b0 k (va_up F (64 * a + i) (x0)) g ) (cwV 0 hts gX1_find_X1_p rfl rfl rfl kdX1_p ⟨Nat.le_of_ble_eq_true rfl, Nat.le_of_ble_eq_true rfl⟩) rfl hl.1 rfl (Nat.le_of_ble_eq_true rfl) dX1_find_158 ⟨Nat.zero_le _, Nat.zero_le _⟩ ?_
                      refine lv_icmp_ge (tgt := 169) hx hb dX1_find_161 (by decide) (fun c_161 => ?_) (fun c_161 => ?_)
                      · refine lv_aload_n hx hb dX1_find_169 rfl (lv_at hl 2 rfl) ?_
                        refine va_get (D := D) (ci := 1) (v := .ref a0) (C := RX1) (T := TX1) (N := 4) hx hb hts inX1_find hown hK hP 0 rfl rfl 2 (by decide) (hts _ fX1_find_7) (fun _ h9 => h9) rfl dX1_find_170 ?_
                        refine lv_bipush (v := 64) hx hb dX1_find_173 (by decide) ?_
                        refine lv_iload_n hx hb dX1_find_175 rfl (lv_at hl 5 rfl) ?_
                        refine lv_imul hx hb dX1_find_176 ?_
                        refine lv_iload_n hx hb dX1_find_177 rfl (lv_at hl 3 rfl) ?_
                        refine lv_iadd hx hb dX1_find_178 ?_
                        refine tw_ld hx hb hK hP 1 0 rfl rfl (n := 64 * k + i) (tw_ix' k i) (by omega) (by decide) dX1_find_179 ?_
                        refine tw_st hx hb hK hP hD hS 1 0 rfl rfl (n := 64 * k + i) (v := (va_up F (64 * a + i) x0) (64 * k + i)) (rfl) (rfl) (by omega) (by decide) dX1_find_180 (fun H locs hP hD hS => ?_)
                        have hP : va_P D vwCl (tw_M cA cB h0 a0 b0 k (va_up (va_up F (64 * a + i) (x0)) (64 * k + i) ((va_up F (64 * a + i) x0) (64 * k + i))) g) H := hP
                        have hD : va_D A (tw_M cA cB h0 a0 b0 k (va_up (va_up F (64 * a + i) (x0)) (64 * k + i) ((va_up F (64 * a + i) x0) (64 * k + i))) g) := hD
                        rw [show va_up (va_up F (64 * a + i) (x0)) (64 * k + i) ((va_up F (64 * a + i) x0) (64 * k + i)) = va_up F (64 * a + i) x0 from tw_upsame _ _] at hP hD
                        exact hend _ _ _ _ dX1_find_181 hP hD hS
                      · exact absurd (nI_le (Nat.le_refl k) (by omega)) c_161
                · exact absurd (nI_le (Nat.le_refl k) (by omega)) c_95
              · exact absurd (nI_le (Nat.le_refl k) (by omega)) c_51
          · exact absurd (nI_le (Nat.le_refl k) (by omega)) c_33
    | succ n ih =>
      intro j ls hj hl
      refine lv_iload hx hb dX1_find_3 (lv_at hl 4 rfl) ?_
      refine lv_iload_n hx hb dX1_find_5 rfl (lv_at hl 2 rfl) ?_
      refine lv_aload_n hx hb dX1_find_6 rfl (lv_at hl 0 rfl) ?_
      refine tw_rM ⟨hx, hb, hml, hown, hts⟩ hK hP (c_X1_p l D cA cB h0 a0 b0 k F g ) (cwV 0 hts gX1_find_X1_p rfl rfl rfl kdX1_p ⟨Nat.le_of_ble_eq_true rfl, Nat.le_of_ble_eq_true rfl⟩) rfl hl.1 rfl (Nat.le_of_ble_eq_true rfl) dX1_find_7 ⟨Nat.zero_le _, Nat.zero_le _⟩ ?_
      refine lv_icmp_ge (tgt := 19) hx hb dX1_find_10 (by decide) (fun c_10 => ?_) (fun c_10 => ?_)
      · exact absurd c_10 (nI_ge ha (by omega))
      · refine lv_sipush (v := 256) hx hb dX1_find_13 (by decide) ?_
        refine lv_goto (tgt := 20) hx hb dX1_find_16 (by decide) ?_
        refine lv_icmp_ge (tgt := 205) hx hb dX1_find_20 (by decide) (fun c_20 => ?_) (fun c_20 => ?_)
        · exact absurd c_20 (nI_ge (b := 256) (by omega) (by omega))
        · refine lv_iconst (v := 0) hx hb dX1_find_23 (by decide) ?_
          refine lv_istore (lv' := [(5, .int 0), (0, .ref h0), (1, .int (nI i)), (2, .int (nI a)), (3, .int (nI k)), (4, .int (nI j))]) hx hb dX1_find_24 hl (by decide) rfl (fun ls hl => ?_)
          refine lv_iload hx hb dX1_find_26 (lv_at hl 0 rfl) ?_
          refine lv_iload_n hx hb dX1_find_28 rfl (lv_at hl 4 rfl) ?_
          refine lv_aload_n hx hb dX1_find_29 rfl (lv_at hl 1 rfl) ?_
          refine tw_rM ⟨hx, hb, hml, hown, hts⟩ hK hP (c_X1_p l D cA cB h0 a0 b0 k F g ) (cwV 0 hts gX1_find_X1_p rfl rfl rfl kdX1_p ⟨Nat.le_of_ble_eq_true rfl, Nat.le_of_ble_eq_true rfl⟩) rfl hl.1 rfl (Nat.le_of_ble_eq_true rfl) dX1_find_30 ⟨Nat.zero_le _, Nat.zero_le _⟩ ?_
          refine lv_icmp_ge (tgt := 42) hx hb dX1_find_33 (by decide) (fun c_33 => ?_) (fun c_33 => ?_)
          · refine lv_iconst (v := 1) hx hb dX1_find_42 (by decide) ?_
            refine lv_icmp_ge (tgt := 199) hx hb dX1_find_43 (by decide) (fun c_43 => ?_) (fun c_43 => ?_)
            · exact absurd c_43 (by decide)
            · refine lv_iload_n hx hb dX1_find_46 rfl (lv_at hl 4 rfl) ?_
              refine lv_aload_n hx hb dX1_find_47 rfl (lv_at hl 1 rfl) ?_
              refine tw_rM ⟨hx, hb, hml, hown, hts⟩ hK hP (c_X1_p l D cA cB h0 a0 b0 k F g ) (cwV 0 hts gX1_find_X1_p rfl rfl rfl kdX1_p ⟨Nat.le_of_ble_eq_true rfl, Nat.le_of_ble_eq_true rfl⟩) rfl hl.1 rfl (Nat.le_of_ble_eq_true rfl) dX1_find_48 ⟨Nat.zero_le _, Nat.zero_le _⟩ ?_
              refine lv_icmp_ge (tgt := 81) hx hb dX1_find_51 (by decide) (fun c_51 => ?_) (fun c_51 => ?_)
              · refine lv_iconst (v := 0) hx hb dX1_find_81 (by decide) ?_
                refine lv_istore (lv' := [(6, .int 0), (5, .int 0), (0, .ref h0), (1, .int (nI i)), (2, .int (nI a)), (3, .int (nI k)), (4, .int (nI j))]) hx hb dX1_find_82 hl (by decide) rfl (fun ls hl => ?_)
                refine lv_aload_n hx hb dX1_find_84 rfl (lv_at hl 2 rfl) ?_
                refine lv_iload_n hx hb dX1_find_85 rfl (lv_at hl 3 rfl) ?_
                refine lv_iload_n hx hb dX1_find_86 rfl (lv_at hl 4 rfl) ?_
                refine lv_iload hx hb dX1_find_87 (lv_at hl 6 rfl) ?_
                refine tw_topr (x' := tq_eb (BitVec.ofNat 8 j)) (tq_nI (by omega)) ?_
                refine lv_iload_n hx hb dX1_find_89 rfl (lv_at hl 5 rfl) ?_
                refine lv_iload_n hx hb dX1_find_90 rfl (lv_at hl 5 rfl) ?_
                refine lv_aload_n hx hb dX1_find_91 rfl (lv_at hl 2 rfl) ?_
                refine tw_rM ⟨hx, hb, hml, hown, hts⟩ hK hP (c_X1_p l D cA cB h0 a0 b0 k F g ) (cwV 0 hts gX1_find_X1_p rfl rfl rfl kdX1_p ⟨Nat.le_of_ble_eq_true rfl, Nat.le_of_ble_eq_true rfl⟩) rfl hl.1 rfl (Nat.le_of_ble_eq_true rfl) dX1_find_92 ⟨Nat.zero_le _, Nat.zero_le _⟩ ?_
                refine lv_icmp_ge (tgt := 103) hx hb dX1_find_95 (by decide) (fun c_95 => ?_) (fun c_95 => ?_)
                · refine lv_iload hx hb dX1_find_103 (lv_at hl 1 rfl) ?_
                  refine tw_rM ⟨hx, hb, hml, hown, hts⟩ hK hP (c_X1_wouldFit1 l D cA cB h0 a0 b0 k F g i a (BitVec.ofNat 8 j) hi ha hk) (cwV 5 hts gX1_find_X1_wouldFit rfl rfl rfl kdX1_wouldFit ⟨Nat.le_of_ble_eq_true rfl, Nat.le_of_ble_eq_true rfl⟩) rfl hl.1 rfl (Nat.le_of_ble_eq_true rfl) dX1_find_105 ⟨Nat.zero_le _, Nat.zero_le _⟩ ?_
                  refine lv_if_eq (tgt := 182) hx hb dX1_find_108 (by decide) (fun c_108 => ?_) (fun c_108 => ?_)
                  · refine lv_iload_n hx hb dX1_find_182 rfl (lv_at hl 5 rfl) ?_
                    refine lv_aload_n hx hb dX1_find_183 rfl (lv_at hl 2 rfl) ?_
                    refine tw_rM ⟨hx, hb, hml, hown, hts⟩ hK hP (c_X1_p l D cA cB h0 a0 b0 k F g ) (cwV 0 hts gX1_find_X1_p rfl rfl rfl kdX1_p ⟨Nat.le_of_ble_eq_true rfl, Nat.le_of_ble_eq_true rfl⟩) rfl hl.1 rfl (Nat.le_of_ble_eq_true rfl) dX1_find_184 ⟨Nat.zero_le _, Nat.zero_le _⟩ ?_
                    refine lv_icmp_ge (tgt := 193) hx hb dX1_find_187 (by decide) (fun c_187 => ?_) (fun c_187 => ?_)
                    · refine lv_iinc (v := 1) (lv' := [(5, .int 1), (6, .int 0), (0, .ref h0), (1, .int (nI i)), (2, .int (nI a)), (3, .int (nI k)), (4, .int (nI j))]) hx hb dX1_find_193 hl (k := 1) rfl (by decide) (by decide) rfl (fun ls hl => ?_)
                      refine lv_goto (tgt := 26) hx hb dX1_find_196 (by decide) ?_
                      refine lv_iload hx hb dX1_find_26 (lv_at hl 0 rfl) ?_
                      refine lv_iload_n hx hb dX1_find_28 rfl (lv_at hl 5 rfl) ?_
                      refine lv_aload_n hx hb dX1_find_29 rfl (lv_at hl 2 rfl) ?_
                      refine tw_rM ⟨hx, hb, hml, hown, hts⟩ hK hP (c_X1_p l D cA cB h0 a0 b0 k F g ) (cwV 0 hts gX1_find_X1_p rfl rfl rfl kdX1_p ⟨Nat.le_of_ble_eq_true rfl, Nat.le_of_ble_eq_true rfl⟩) rfl hl.1 rfl (Nat.le_of_ble_eq_true rfl) dX1_find_30 ⟨Nat.zero_le _, Nat.zero_le _⟩ ?_
                      refine lv_icmp_ge (tgt := 42) hx hb dX1_find_33 (by decide) (fun c_33 => ?_) (fun c_33 => ?_)
                      · refine lv_iconst (v := 1) hx hb dX1_find_42 (by decide) ?_
                        refine lv_icmp_ge (tgt := 199) hx hb dX1_find_43 (by decide) (fun c_43 => ?_) (fun c_43 => ?_)
                        · refine lv_iinc (v := nI (j + 1)) (lv' := [(4, .int (nI (j + 1))), (5, .int 1), (6, .int 0), (0, .ref h0), (1, .int (nI i)), (2, .int (nI a)), (3, .int (nI k))]) hx hb dX1_find_199 hl (k := 6) rfl (nI_1 j) (by decide) rfl (fun ls hl => ?_)
                          refine lv_goto (tgt := 3) hx hb dX1_find_202 (by decide) ?_
                          exact ih (j + 1) ls (by omega) (lv_sub hl [3, 4, 5, 6, 0] rfl)
                        · exact absurd (by decide) c_43
                      · exact absurd (nI_le (Nat.le_refl k) (by omega)) c_33
                    · exact absurd (nI_le (Nat.le_refl k) (by omega)) c_187
                  · have e9 := hu _ (tw_bI1.mp c_108)
                    have e8 := congrArg BitVec.toNat e9
                    rw [BitVec.toNat_ofNat, Nat.mod_eq_of_lt (by omega)] at e8
                    omega
                · exact absurd (nI_le (Nat.le_refl k) (by omega)) c_95
              · exact absurd (nI_le (Nat.le_refl k) (by omega)) c_51
          · exact absurd (nI_le (Nat.le_refl k) (by omega)) c_33
  refine lv_iconst (v := 0) hx hb dX1_find_0 (by decide) ?_
  refine lv_istore (lv' := [(4, .int 0), (0, .ref h0), (1, .int (nI i)), (2, .int (nI a)), (3, .int (nI k))]) hx hb dX1_find_1 hl (by decide) rfl (fun ls hl => ?_)
  exact loop _ 0 ls (Nat.zero_add _) (lv_sub hl [1, 2, 3, 4, 0] rfl)
set_option maxHeartbeats 4000000 in
set_option maxRecDepth 100000 in
theorem c_X1_find2 (l : Launch) (D : va_G) (cA cB : ClassId) (h0 a0 b0 k : Nat) (F : Nat → BitVec 8) (g : Nat → Bool) (sz : Nat) (i a : Nat) (b : Nat) (x0 : BitVec 8) (hi : i < 64) (ha : a < k) (hb9 : b < k) (hk : k ≤ 14) (hs : tw_wf k g (tq_col F i) (tq_xs (tw_ml g (tq_col F i)) k ^^^ x0 ^^^ tw_zz k g F i x0) (tq_qs (tw_ml g (tq_col F i)) k ^^^ tq_p a x0 ^^^ tq_p b (tw_zz k g F i x0)) false = true) (hu : ∀ x, tw_wf k g (tq_col F i) (tq_xs (tw_ml g (tq_col F i)) k ^^^ x ^^^ tw_zz k g F i x) (tq_qs (tw_ml g (tq_col F i)) k ^^^ tq_p a x ^^^ tq_p b (tw_zz k g F i x)) false = true → x = x0) : Met l yX1_find wsX1_find rmX1_find (va_Pc [.ref h0, .int (nI i), .int (nI a), .int (nI b)] (tw_Pw D (tw_M cA cB h0 a0 b0 k F g) (tw_tM cA cB) sz)) (va_Qv (fun _ : Unit => True) (tw_Qw D (fun _ : Unit => (tw_M cA cB h0 a0 b0 k (va_up (va_up F (64 * a + i) x0) (64 * b + i) (tw_zz k g F i x0)) g)) (tw_tM cA cB) (va_A (tw_M cA cB h0 a0 b0 k F g) sz)) (va_A (tw_M cA cB h0 a0 b0 k F g) sz)) 0 0 (va_A (tw_M cA cB h0 a0 b0 k F g) sz) := by
  refine tw_metV (by decide) rfl rfl (Nat.le_of_ble_eq_true rfl) ?_
  intro p e s m args below meth c Q ls A hx hb hml hown hts hP hK hD hS hA hend hl
  have hown : s.vm.findClass RX1 = some m.cls := hown
  have hl : lv_has ls 7 [(0, .ref h0), (1, .int (nI i)), (2, .int (nI a)), (3, .int (nI b))] := hl
  have hJ : x0.toNat < 2 ^ 8 := x0.isLt
  have loop : ∀ (n j : Nat) (ls : Array Slot), j + n = x0.toNat → lv_has ls 7 [(0, .ref h0), (1, .int (nI i)), (2, .int (nI a)), (3, .int (nI b)), (4, .int (nI j))] → W p l e rmX1_find s m args below meth c s.heap [] 0 0 Q (F0 m 3 ls []) := by
    intro n
    induction n with
    | zero =>
      intro j ls hj hl
      have hjx : BitVec.ofNat 8 j = x0 := by apply BitVec.eq_of_toNat_eq; rw [BitVec.toNat_ofNat, Nat.mod_eq_of_lt (by omega)]; exact hj
      refine lv_iload hx hb dX1_find_3 (lv_at hl 4 rfl) ?_
      refine lv_iload_n hx hb dX1_find_5 rfl (lv_at hl 2 rfl) ?_
      refine lv_aload_n hx hb dX1_find_6 rfl (lv_at hl 0 rfl) ?_
      refine tw_rM ⟨hx, hb, hml, hown, hts⟩ hK hP (c_X1_p l D cA cB h0 a0 b0 k F g ) (cwV 0 hts gX1_find_X1_p rfl rfl rfl kdX1_p ⟨Nat.le_of_ble_eq_true rfl, Nat.le_of_ble_eq_true rfl⟩) rfl hl.1 rfl (Nat.le_of_ble_eq_true rfl) dX1_find_7 ⟨Nat.zero_le _, Nat.zero_le _⟩ ?_
      refine lv_icmp_ge (tgt := 19) hx hb dX1_find_10 (by decide) (fun c_10 => ?_) (fun c_10 => ?_)
      · exact absurd c_10 (nI_ge ha (by omega))
      · refine lv_sipush (v := 256) hx hb dX1_find_13 (by decide) ?_
        refine lv_goto (tgt := 20) hx hb dX1_find_16 (by decide) ?_
        refine lv_icmp_ge (tgt := 205) hx hb dX1_find_20 (by decide) (fun c_20 => ?_) (fun c_20 => ?_)
        · exact absurd c_20 (nI_ge (b := 256) (by omega) (by omega))
        · refine lv_iconst (v := 0) hx hb dX1_find_23 (by decide) ?_
          refine lv_istore (lv' := [(5, .int 0), (0, .ref h0), (1, .int (nI i)), (2, .int (nI a)), (3, .int (nI b)), (4, .int (nI j))]) hx hb dX1_find_24 hl (by decide) rfl (fun ls hl => ?_)
          refine lv_iload hx hb dX1_find_26 (lv_at hl 0 rfl) ?_
          refine lv_iload_n hx hb dX1_find_28 rfl (lv_at hl 4 rfl) ?_
          refine lv_aload_n hx hb dX1_find_29 rfl (lv_at hl 1 rfl) ?_
          refine tw_rM ⟨hx, hb, hml, hown, hts⟩ hK hP (c_X1_p l D cA cB h0 a0 b0 k F g ) (cwV 0 hts gX1_find_X1_p rfl rfl rfl kdX1_p ⟨Nat.le_of_ble_eq_true rfl, Nat.le_of_ble_eq_true rfl⟩) rfl hl.1 rfl (Nat.le_of_ble_eq_true rfl) dX1_find_30 ⟨Nat.zero_le _, Nat.zero_le _⟩ ?_
          refine lv_icmp_ge (tgt := 42) hx hb dX1_find_33 (by decide) (fun c_33 => ?_) (fun c_33 => ?_)
          · exact absurd c_33 (nI_ge hb9 (by omega))
          · refine lv_sipush (v := 256) hx hb dX1_find_36 (by decide) ?_
            refine lv_goto (tgt := 43) hx hb dX1_find_39 (by decide) ?_
            refine lv_icmp_ge (tgt := 199) hx hb dX1_find_43 (by decide) (fun c_43 => ?_) (fun c_43 => ?_)
            · exact absurd c_43 (by decide)
            · refine lv_iload_n hx hb dX1_find_46 rfl (lv_at hl 4 rfl) ?_
              refine lv_aload_n hx hb dX1_find_47 rfl (lv_at hl 1 rfl) ?_
              refine tw_rM ⟨hx, hb, hml, hown, hts⟩ hK hP (c_X1_p l D cA cB h0 a0 b0 k F g ) (cwV 0 hts gX1_find_X1_p rfl rfl rfl kdX1_p ⟨Nat.le_of_ble_eq_true rfl, Nat.le_of_ble_eq_true rfl⟩) rfl hl.1 rfl (Nat.le_of_ble_eq_true rfl) dX1_find_48 ⟨Nat.zero_le _, Nat.zero_le _⟩ ?_
              refine lv_icmp_ge (tgt := 81) hx hb dX1_find_51 (by decide) (fun c_51 => ?_) (fun c_51 => ?_)
              · exact absurd c_51 (nI_ge hb9 (by omega))
              · refine lv_aload_n hx hb dX1_find_54 rfl (lv_at hl 1 rfl) ?_
                refine lv_iload_n hx hb dX1_find_55 rfl (lv_at hl 2 rfl) ?_
                refine lv_iconst (v := 0) hx hb dX1_find_56 (by decide) ?_
                refine tw_rM ⟨hx, hb, hml, hown, hts⟩ hK hP (c_X1_sumAt l D cA cB h0 a0 b0 k F g i false hi hk) (cwV 2 hts gX1_find_X1_sumAt rfl rfl rfl kdX1_sumAt ⟨Nat.le_of_ble_eq_true rfl, Nat.le_of_ble_eq_true rfl⟩) rfl hl.1 rfl (Nat.le_of_ble_eq_true rfl) dX1_find_57 ⟨Nat.zero_le _, Nat.zero_le _⟩ ?_
                refine lv_iload hx hb dX1_find_60 (lv_at hl 5 rfl) ?_
                refine tw_topr (x' := tq_eb (BitVec.ofNat 8 j)) (tq_nI (by omega)) ?_
                refine lv_ixor hx hb dX1_find_62 ?_
                refine lv_aload_n hx hb dX1_find_63 rfl (lv_at hl 1 rfl) ?_
                refine va_get (D := D) (ci := 1) (v := .ref a0) (C := RX1) (T := TX1) (N := 4) hx hb hts inX1_find hown hK hP 0 rfl rfl 2 (by decide) (hts _ fX1_find_7) (fun _ h9 => h9) rfl dX1_find_64 ?_
                refine lv_bipush (v := 64) hx hb dX1_find_67 (by decide) ?_
                refine lv_aload_n hx hb dX1_find_69 rfl (lv_at hl 1 rfl) ?_
                refine tw_rM ⟨hx, hb, hml, hown, hts⟩ hK hP (c_X1_p l D cA cB h0 a0 b0 k F g ) (cwV 0 hts gX1_find_X1_p rfl rfl rfl kdX1_p ⟨Nat.le_of_ble_eq_true rfl, Nat.le_of_ble_eq_true rfl⟩) rfl hl.1 rfl (Nat.le_of_ble_eq_true rfl) dX1_find_70 ⟨Nat.zero_le _, Nat.zero_le _⟩ ?_
                refine lv_imul hx hb dX1_find_73 ?_
                refine lv_iload_n hx hb dX1_find_74 rfl (lv_at hl 2 rfl) ?_
                refine lv_iadd hx hb dX1_find_75 ?_
                refine tw_ld hx hb hK hP 1 0 rfl rfl (n := 64 * k + i) (tw_ix' k i) (by omega) (by decide) dX1_find_76 ?_
                refine lv_ixor hx hb dX1_find_77 ?_
                refine lv_goto (tgt := 82) hx hb dX1_find_78 (by decide) ?_
                refine tw_topr (x' := tq_eb (tw_zz k g F i (BitVec.ofNat 8 j))) (by rw [tq_eb_xor, tq_eb_xor]; rfl) ?_
                refine lv_istore (lv' := [(6, .int (tq_eb (tw_zz k g F i (BitVec.ofNat 8 j)))), (5, .int 0), (0, .ref h0), (1, .int (nI i)), (2, .int (nI a)), (3, .int (nI b)), (4, .int (nI j))]) hx hb dX1_find_82 hl (by decide) rfl (fun ls hl => ?_)
                refine lv_aload_n hx hb dX1_find_84 rfl (lv_at hl 2 rfl) ?_
                refine lv_iload_n hx hb dX1_find_85 rfl (lv_at hl 3 rfl) ?_
                refine lv_iload_n hx hb dX1_find_86 rfl (lv_at hl 4 rfl) ?_
                refine lv_iload hx hb dX1_find_87 (lv_at hl 6 rfl) ?_
                refine tw_topr (x' := tq_eb (BitVec.ofNat 8 j)) (tq_nI (by omega)) ?_
                refine lv_iload_n hx hb dX1_find_89 rfl (lv_at hl 5 rfl) ?_
                refine lv_iload_n hx hb dX1_find_90 rfl (lv_at hl 5 rfl) ?_
                refine lv_aload_n hx hb dX1_find_91 rfl (lv_at hl 2 rfl) ?_
                refine tw_rM ⟨hx, hb, hml, hown, hts⟩ hK hP (c_X1_p l D cA cB h0 a0 b0 k F g ) (cwV 0 hts gX1_find_X1_p rfl rfl rfl kdX1_p ⟨Nat.le_of_ble_eq_true rfl, Nat.le_of_ble_eq_true rfl⟩) rfl hl.1 rfl (Nat.le_of_ble_eq_true rfl) dX1_find_92 ⟨Nat.zero_le _, Nat.zero_le _⟩ ?_
                refine lv_icmp_ge (tgt := 103) hx hb dX1_find_95 (by decide) (fun c_95 => ?_) (fun c_95 => ?_)
                · exact absurd c_95 (nI_ge hb9 (by omega))
                · refine lv_iload hx hb dX1_find_98 (lv_at hl 0 rfl) ?_
                  refine lv_goto (tgt := 105) hx hb dX1_find_100 (by decide) ?_
                  refine tw_rM ⟨hx, hb, hml, hown, hts⟩ hK hP (c_X1_wouldFit2 l D cA cB h0 a0 b0 k F g i a (BitVec.ofNat 8 j) b (tw_zz k g F i (BitVec.ofNat 8 j)) hi ha hb9 hk) (cwV 5 hts gX1_find_X1_wouldFit rfl rfl rfl kdX1_wouldFit ⟨Nat.le_of_ble_eq_true rfl, Nat.le_of_ble_eq_true rfl⟩) rfl hl.1 rfl (Nat.le_of_ble_eq_true rfl) dX1_find_105 ⟨Nat.zero_le _, Nat.zero_le _⟩ ?_
                  refine lv_if_eq (tgt := 182) hx hb dX1_find_108 (by decide) (fun c_108 => ?_) (fun c_108 => ?_)
                  · rw [tw_bI0, hjx, hs] at c_108
                    exact absurd c_108 (by decide)
                  · refine lv_aload_n hx hb dX1_find_111 rfl (lv_at hl 2 rfl) ?_
                    refine va_get (D := D) (ci := 1) (v := .ref a0) (C := RX1) (T := TX1) (N := 4) hx hb hts inX1_find hown hK hP 0 rfl rfl 2 (by decide) (hts _ fX1_find_7) (fun _ h9 => h9) rfl dX1_find_112 ?_
                    refine lv_bipush (v := 64) hx hb dX1_find_115 (by decide) ?_
                    refine lv_iload_n hx hb dX1_find_117 rfl (lv_at hl 4 rfl) ?_
                    refine lv_imul hx hb dX1_find_118 ?_
                    refine lv_iload_n hx hb dX1_find_119 rfl (lv_at hl 3 rfl) ?_
                    refine lv_iadd hx hb dX1_find_120 ?_
                    refine tw_topr (x' := nI (64 * a + i)) (tw_ix' a i) ?_
                    refine lv_iload_n hx hb dX1_find_121 rfl (lv_at hl 4 rfl) ?_
                    refine lv_aload_n hx hb dX1_find_122 rfl (lv_at hl 2 rfl) ?_
                    refine tw_rM ⟨hx, hb, hml, hown, hts⟩ hK hP (c_X1_p l D cA cB h0 a0 b0 k F g ) (cwV 0 hts gX1_find_X1_p rfl rfl rfl kdX1_p ⟨Nat.le_of_ble_eq_true rfl, Nat.le_of_ble_eq_true rfl⟩) rfl hl.1 rfl (Nat.le_of_ble_eq_true rfl) dX1_find_123 ⟨Nat.zero_le _, Nat.zero_le _⟩ ?_
                    refine lv_icmp_ge (tgt := 134) hx hb dX1_find_126 (by decide) (fun c_126 => ?_) (fun c_126 => ?_)
                    · exact absurd c_126 (nI_ge ha (by omega))
                    · refine lv_iload hx hb dX1_find_129 (lv_at hl 6 rfl) ?_
                      refine lv_goto (tgt := 145) hx hb dX1_find_131 (by decide) ?_
                      refine tw_st hx hb hK hP hD hS 1 0 rfl rfl (n := 64 * a + i) (v := x0) (rfl) (by rw [tq_ebN]; congr 1) (by omega) (by decide) dX1_find_145 (fun H locs hP hD hS => ?_)
                      have hP : va_P D vwCl (tw_M cA cB h0 a0 b0 k (va_up F (64 * a + i) (x0)) g) H := hP
                      have hD : va_D A (tw_M cA cB h0 a0 b0 k (va_up F (64 * a + i) (x0)) g) := hD
                      refine lv_aload_n hx hb dX1_find_146 rfl (lv_at hl 2 rfl) ?_
                      refine va_get (D := D) (ci := 1) (v := .ref a0) (C := RX1) (T := TX1) (N := 4) hx hb hts inX1_find hown hK hP 0 rfl rfl 2 (by decide) (hts _ fX1_find_7) (fun _ h9 => h9) rfl dX1_find_147 ?_
                      refine lv_bipush (v := 64) hx hb dX1_find_150 (by decide) ?_
                      refine lv_iload_n hx hb dX1_find_152 rfl (lv_at hl 5 rfl) ?_
                      refine lv_imul hx hb dX1_find_153 ?_
                      refine lv_iload_n hx hb dX1_find_154 rfl (lv_at hl 3 rfl) ?_
                      refine lv_iadd hx hb dX1_find_155 ?_
                      refine tw_topr (x' := nI (64 * b + i)) (tw_ix' b i) ?_
                      refine lv_iload_n hx hb dX1_find_156 rfl (lv_at hl 5 rfl) ?_
                      refine lv_aload_n hx hb dX1_find_157 rfl (lv_at hl 2 rfl) ?_
                      refine tw_rM ⟨hx, hb, hml, hown, hts⟩ hK hP (c_X1_p l D cA cB h0 a0 b0 k (va_up F (64 * a + i) (x0)) g ) (cwV 0 hts gX1_find_X1_p rfl rfl rfl kdX1_p ⟨Nat.le_of_ble_eq_true rfl, Nat.le_of_ble_eq_true rfl⟩) rfl hl.1 rfl (Nat.le_of_ble_eq_true rfl) dX1_find_158 ⟨Nat.zero_le _, Nat.zero_le _⟩ ?_
                      refine lv_icmp_ge (tgt := 169) hx hb dX1_find_161 (by decide) (fun c_161 => ?_) (fun c_161 => ?_)
                      · exact absurd c_161 (nI_ge hb9 (by omega))
                      · refine lv_iload hx hb dX1_find_164 (lv_at hl 0 rfl) ?_
                        refine lv_goto (tgt := 180) hx hb dX1_find_166 (by decide) ?_
                        refine tw_st hx hb hK hP hD hS 1 0 rfl rfl (n := 64 * b + i) (v := tw_zz k g F i x0) (rfl) (by rw [hjx]) (by omega) (by decide) dX1_find_180 (fun H locs hP hD hS => ?_)
                        have hP : va_P D vwCl (tw_M cA cB h0 a0 b0 k (va_up (va_up F (64 * a + i) (x0)) (64 * b + i) (tw_zz k g F i x0)) g) H := hP
                        have hD : va_D A (tw_M cA cB h0 a0 b0 k (va_up (va_up F (64 * a + i) (x0)) (64 * b + i) (tw_zz k g F i x0)) g) := hD
                        exact hend _ _ _ _ dX1_find_181 hP hD hS
    | succ n ih =>
      intro j ls hj hl
      refine lv_iload hx hb dX1_find_3 (lv_at hl 4 rfl) ?_
      refine lv_iload_n hx hb dX1_find_5 rfl (lv_at hl 2 rfl) ?_
      refine lv_aload_n hx hb dX1_find_6 rfl (lv_at hl 0 rfl) ?_
      refine tw_rM ⟨hx, hb, hml, hown, hts⟩ hK hP (c_X1_p l D cA cB h0 a0 b0 k F g ) (cwV 0 hts gX1_find_X1_p rfl rfl rfl kdX1_p ⟨Nat.le_of_ble_eq_true rfl, Nat.le_of_ble_eq_true rfl⟩) rfl hl.1 rfl (Nat.le_of_ble_eq_true rfl) dX1_find_7 ⟨Nat.zero_le _, Nat.zero_le _⟩ ?_
      refine lv_icmp_ge (tgt := 19) hx hb dX1_find_10 (by decide) (fun c_10 => ?_) (fun c_10 => ?_)
      · exact absurd c_10 (nI_ge ha (by omega))
      · refine lv_sipush (v := 256) hx hb dX1_find_13 (by decide) ?_
        refine lv_goto (tgt := 20) hx hb dX1_find_16 (by decide) ?_
        refine lv_icmp_ge (tgt := 205) hx hb dX1_find_20 (by decide) (fun c_20 => ?_) (fun c_20 => ?_)
        · exact absurd c_20 (nI_ge (b := 256) (by omega) (by omega))
        · refine lv_iconst (v := 0) hx hb dX1_find_23 (by decide) ?_
          refine lv_istore (lv' := [(5, .int 0), (0, .ref h0), (1, .int (nI i)), (2, .int (nI a)), (3, .int (nI b)), (4, .int (nI j))]) hx hb dX1_find_24 hl (by decide) rfl (fun ls hl => ?_)
          refine lv_iload hx hb dX1_find_26 (lv_at hl 0 rfl) ?_
          refine lv_iload_n hx hb dX1_find_28 rfl (lv_at hl 4 rfl) ?_
          refine lv_aload_n hx hb dX1_find_29 rfl (lv_at hl 1 rfl) ?_
          refine tw_rM ⟨hx, hb, hml, hown, hts⟩ hK hP (c_X1_p l D cA cB h0 a0 b0 k F g ) (cwV 0 hts gX1_find_X1_p rfl rfl rfl kdX1_p ⟨Nat.le_of_ble_eq_true rfl, Nat.le_of_ble_eq_true rfl⟩) rfl hl.1 rfl (Nat.le_of_ble_eq_true rfl) dX1_find_30 ⟨Nat.zero_le _, Nat.zero_le _⟩ ?_
          refine lv_icmp_ge (tgt := 42) hx hb dX1_find_33 (by decide) (fun c_33 => ?_) (fun c_33 => ?_)
          · exact absurd c_33 (nI_ge hb9 (by omega))
          · refine lv_sipush (v := 256) hx hb dX1_find_36 (by decide) ?_
            refine lv_goto (tgt := 43) hx hb dX1_find_39 (by decide) ?_
            refine lv_icmp_ge (tgt := 199) hx hb dX1_find_43 (by decide) (fun c_43 => ?_) (fun c_43 => ?_)
            · exact absurd c_43 (by decide)
            · refine lv_iload_n hx hb dX1_find_46 rfl (lv_at hl 4 rfl) ?_
              refine lv_aload_n hx hb dX1_find_47 rfl (lv_at hl 1 rfl) ?_
              refine tw_rM ⟨hx, hb, hml, hown, hts⟩ hK hP (c_X1_p l D cA cB h0 a0 b0 k F g ) (cwV 0 hts gX1_find_X1_p rfl rfl rfl kdX1_p ⟨Nat.le_of_ble_eq_true rfl, Nat.le_of_ble_eq_true rfl⟩) rfl hl.1 rfl (Nat.le_of_ble_eq_true rfl) dX1_find_48 ⟨Nat.zero_le _, Nat.zero_le _⟩ ?_
              refine lv_icmp_ge (tgt := 81) hx hb dX1_find_51 (by decide) (fun c_51 => ?_) (fun c_51 => ?_)
              · exact absurd c_51 (nI_ge hb9 (by omega))
              · refine lv_aload_n hx hb dX1_find_54 rfl (lv_at hl 1 rfl) ?_
                refine lv_iload_n hx hb dX1_find_55 rfl (lv_at hl 2 rfl) ?_
                refine lv_iconst (v := 0) hx hb dX1_find_56 (by decide) ?_
                refine tw_rM ⟨hx, hb, hml, hown, hts⟩ hK hP (c_X1_sumAt l D cA cB h0 a0 b0 k F g i false hi hk) (cwV 2 hts gX1_find_X1_sumAt rfl rfl rfl kdX1_sumAt ⟨Nat.le_of_ble_eq_true rfl, Nat.le_of_ble_eq_true rfl⟩) rfl hl.1 rfl (Nat.le_of_ble_eq_true rfl) dX1_find_57 ⟨Nat.zero_le _, Nat.zero_le _⟩ ?_
                refine lv_iload hx hb dX1_find_60 (lv_at hl 5 rfl) ?_
                refine tw_topr (x' := tq_eb (BitVec.ofNat 8 j)) (tq_nI (by omega)) ?_
                refine lv_ixor hx hb dX1_find_62 ?_
                refine lv_aload_n hx hb dX1_find_63 rfl (lv_at hl 1 rfl) ?_
                refine va_get (D := D) (ci := 1) (v := .ref a0) (C := RX1) (T := TX1) (N := 4) hx hb hts inX1_find hown hK hP 0 rfl rfl 2 (by decide) (hts _ fX1_find_7) (fun _ h9 => h9) rfl dX1_find_64 ?_
                refine lv_bipush (v := 64) hx hb dX1_find_67 (by decide) ?_
                refine lv_aload_n hx hb dX1_find_69 rfl (lv_at hl 1 rfl) ?_
                refine tw_rM ⟨hx, hb, hml, hown, hts⟩ hK hP (c_X1_p l D cA cB h0 a0 b0 k F g ) (cwV 0 hts gX1_find_X1_p rfl rfl rfl kdX1_p ⟨Nat.le_of_ble_eq_true rfl, Nat.le_of_ble_eq_true rfl⟩) rfl hl.1 rfl (Nat.le_of_ble_eq_true rfl) dX1_find_70 ⟨Nat.zero_le _, Nat.zero_le _⟩ ?_
                refine lv_imul hx hb dX1_find_73 ?_
                refine lv_iload_n hx hb dX1_find_74 rfl (lv_at hl 2 rfl) ?_
                refine lv_iadd hx hb dX1_find_75 ?_
                refine tw_ld hx hb hK hP 1 0 rfl rfl (n := 64 * k + i) (tw_ix' k i) (by omega) (by decide) dX1_find_76 ?_
                refine lv_ixor hx hb dX1_find_77 ?_
                refine lv_goto (tgt := 82) hx hb dX1_find_78 (by decide) ?_
                refine tw_topr (x' := tq_eb (tw_zz k g F i (BitVec.ofNat 8 j))) (by rw [tq_eb_xor, tq_eb_xor]; rfl) ?_
                refine lv_istore (lv' := [(6, .int (tq_eb (tw_zz k g F i (BitVec.ofNat 8 j)))), (5, .int 0), (0, .ref h0), (1, .int (nI i)), (2, .int (nI a)), (3, .int (nI b)), (4, .int (nI j))]) hx hb dX1_find_82 hl (by decide) rfl (fun ls hl => ?_)
                refine lv_aload_n hx hb dX1_find_84 rfl (lv_at hl 2 rfl) ?_
                refine lv_iload_n hx hb dX1_find_85 rfl (lv_at hl 3 rfl) ?_
                refine lv_iload_n hx hb dX1_find_86 rfl (lv_at hl 4 rfl) ?_
                refine lv_iload hx hb dX1_find_87 (lv_at hl 6 rfl) ?_
                refine tw_topr (x' := tq_eb (BitVec.ofNat 8 j)) (tq_nI (by omega)) ?_
                refine lv_iload_n hx hb dX1_find_89 rfl (lv_at hl 5 rfl) ?_
                refine lv_iload_n hx hb dX1_find_90 rfl (lv_at hl 5 rfl) ?_
                refine lv_aload_n hx hb dX1_find_91 rfl (lv_at hl 2 rfl) ?_
                refine tw_rM ⟨hx, hb, hml, hown, hts⟩ hK hP (c_X1_p l D cA cB h0 a0 b0 k F g ) (cwV 0 hts gX1_find_X1_p rfl rfl rfl kdX1_p ⟨Nat.le_of_ble_eq_true rfl, Nat.le_of_ble_eq_true rfl⟩) rfl hl.1 rfl (Nat.le_of_ble_eq_true rfl) dX1_find_92 ⟨Nat.zero_le _, Nat.zero_le _⟩ ?_
                refine lv_icmp_ge (tgt := 103) hx hb dX1_find_95 (by decide) (fun c_95 => ?_) (fun c_95 => ?_)
                · exact absurd c_95 (nI_ge hb9 (by omega))
                · refine lv_iload hx hb dX1_find_98 (lv_at hl 0 rfl) ?_
                  refine lv_goto (tgt := 105) hx hb dX1_find_100 (by decide) ?_
                  refine tw_rM ⟨hx, hb, hml, hown, hts⟩ hK hP (c_X1_wouldFit2 l D cA cB h0 a0 b0 k F g i a (BitVec.ofNat 8 j) b (tw_zz k g F i (BitVec.ofNat 8 j)) hi ha hb9 hk) (cwV 5 hts gX1_find_X1_wouldFit rfl rfl rfl kdX1_wouldFit ⟨Nat.le_of_ble_eq_true rfl, Nat.le_of_ble_eq_true rfl⟩) rfl hl.1 rfl (Nat.le_of_ble_eq_true rfl) dX1_find_105 ⟨Nat.zero_le _, Nat.zero_le _⟩ ?_
                  refine lv_if_eq (tgt := 182) hx hb dX1_find_108 (by decide) (fun c_108 => ?_) (fun c_108 => ?_)
                  · refine lv_iload_n hx hb dX1_find_182 rfl (lv_at hl 5 rfl) ?_
                    refine lv_aload_n hx hb dX1_find_183 rfl (lv_at hl 2 rfl) ?_
                    refine tw_rM ⟨hx, hb, hml, hown, hts⟩ hK hP (c_X1_p l D cA cB h0 a0 b0 k F g ) (cwV 0 hts gX1_find_X1_p rfl rfl rfl kdX1_p ⟨Nat.le_of_ble_eq_true rfl, Nat.le_of_ble_eq_true rfl⟩) rfl hl.1 rfl (Nat.le_of_ble_eq_true rfl) dX1_find_184 ⟨Nat.zero_le _, Nat.zero_le _⟩ ?_
                    refine lv_icmp_ge (tgt := 193) hx hb dX1_find_187 (by decide) (fun c_187 => ?_) (fun c_187 => ?_)
                    · exact absurd c_187 (nI_ge hb9 (by omega))
                    · refine lv_goto (tgt := 199) hx hb dX1_find_190 (by decide) ?_
                      refine lv_iinc (v := nI (j + 1)) (lv' := [(4, .int (nI (j + 1))), (6, .int (tq_eb (tw_zz k g F i (BitVec.ofNat 8 j)))), (5, .int 0), (0, .ref h0), (1, .int (nI i)), (2, .int (nI a)), (3, .int (nI b))]) hx hb dX1_find_199 hl (k := 6) rfl (nI_1 j) (by decide) rfl (fun ls hl => ?_)
                      refine lv_goto (tgt := 3) hx hb dX1_find_202 (by decide) ?_
                      exact ih (j + 1) ls (by omega) (lv_sub hl [3, 4, 5, 6, 0] rfl)
                  · have e9 := hu _ (tw_bI1.mp c_108)
                    have e8 := congrArg BitVec.toNat e9
                    rw [BitVec.toNat_ofNat, Nat.mod_eq_of_lt (by omega)] at e8
                    omega
  refine lv_iconst (v := 0) hx hb dX1_find_0 (by decide) ?_
  refine lv_istore (lv' := [(4, .int 0), (0, .ref h0), (1, .int (nI i)), (2, .int (nI a)), (3, .int (nI b))]) hx hb dX1_find_1 hl (by decide) rfl (fun ls hl => ?_)
  exact loop _ 0 ls (Nat.zero_add _) (lv_sub hl [1, 2, 3, 4, 0] rfl)
def tw_all (f : Nat → Bool) : Nat → Bool
  | 0 => true
  | n + 1 => tw_all f n && f n
def tw_aP (k : Nat) (g : Nat → Bool) (F : Nat → BitVec 8) (i : Nat) : Bool := decide (tq_xs (tw_ml g (tq_col F i)) k = F (64 * k + i))
def tw_aQ (k : Nat) (g : Nat → Bool) (F : Nat → BitVec 8) (i : Nat) : Bool := decide (tq_qs (tw_ml g (tq_col F i)) k = F (64 * (k + 1) + i))
def tw_aU (k : Nat) (g : Nat → Bool) (F : Nat → BitVec 8) (u i : Nat) : Bool := decide (tq_qs (tw_ml g (tq_col F i)) k ^^^ F (64 * (k + 1) + i) = tq_p u (tq_xs (tw_ml g (tq_col F i)) k ^^^ F (64 * k + i)))
def tw_fu2 (f : Nat → Bool) : Nat → Nat → Int32
  | _, 0 => -3
  | u, n + 1 => if f u then nI u else tw_fu2 f (u + 1) n
def tw_mo (k : Nat) (g : Nat → Bool) (F : Nat → BitVec 8) : Int32 :=
  if tw_all (tw_aP k g F) 64 || tw_all (tw_aQ k g F) 64 then (if tw_all (tw_aP k g F) 64 && tw_all (tw_aQ k g F) 64 then -2 else if tw_all (tw_aP k g F) 64 then nI (k + 1) else nI k)
  else tw_fu2 (fun u => tw_all (tw_aU k g F u) 64) 0 k
theorem tw_all_f {f : Nat → Bool} {j : Nat} (h : tw_all f j = false) : ∀ n, tw_all f (j + n) = false := by
  intro n
  induction n with
  | zero => exact h
  | succ n ih => show (tw_all f (j + n) && f (j + n)) = false; rw [ih]; rfl
abbrev rmX1_off : Room := { frames := 3, cells := 0, slots := 0, locals := 73 }
theorem inX1_off : ∀ w ∈ wsX10, w ∈ wsX1_off := fun _ h => List.mem_cons_of_mem _ (List.mem_append_right _ h)
theorem fX1_off_7 : Cond.fieldLink RX1 7 "TwinParityModel" "bytes" "[I" ∈ wsX1_off := List.mem_of_getElem? (i := 1) rfl
theorem fX1_off_13 : Cond.fieldLink RX1 13 "TwinParityModel" "lost" "[Z" ∈ wsX1_off := List.mem_of_getElem? (i := 7) rfl
theorem fX1_off_25 : Cond.fieldLink RX1 25 "TwinParityModel" "units" "I" ∈ wsX1_off := List.mem_of_getElem? (i := 12) rfl
theorem kdX1_off : yX1_off.cls = RX1 ∧ yX1_off.cls ≠ "java/lang/invoke/MethodHandle" ∧ yX1_off.cls ≠ "java/lang/invoke/VarHandle" ∧ (parseMethodDescriptor yX1_off.desc).map (fun d => d.parameters.length) = some 0 := by decide +kernel
set_option maxHeartbeats 4000000 in
set_option maxRecDepth 100000 in
theorem c_X1_off (l : Launch) (D : va_G) (cA cB : ClassId) (h0 a0 b0 k : Nat) (F : Nat → BitVec 8) (g : Nat → Bool) (hk : k ≤ 14) : Met l yX1_off wsX1_off rmX1_off (va_Pc [.ref h0] (tw_B D (tw_M cA cB h0 a0 b0 k F g) (tw_tM cA cB))) (vp_Si (fun r => r = tw_mo k g F)) 0 0 (fun _ => False) := by
  refine tw_metR (by decide) rfl rfl (Nat.le_of_ble_eq_true rfl) ?_
  intro p e s m args below meth c Q ls hx hb hml hown hts hP hK hend hl
  have hown : s.vm.findClass RX1 = some m.cls := hown
  have hl : lv_has ls 7 [(0, .ref h0)] := hl
  have inner : ∀ u : Nat, u < k → ∀ (n j : Nat) (ls : Array Slot), j + n = 64 → lv_has ls 7 [(0, .ref h0), (3, .int (nI u)), (4, .int (tw_bI (tw_all (tw_aU k g F u) j))), (5, .int (nI j))] → (∀ ls : Array Slot, lv_has ls 7 [(0, .ref h0), (3, .int (nI u)), (4, .int (tw_bI (tw_all (tw_aU k g F u) 64)))] → W p l e rmX1_off s m args below meth c s.heap [] 0 0 Q (F0 m 224 ls [])) → W p l e rmX1_off s m args below meth c s.heap [] 0 0 Q (F0 m 137 ls []) := by
    intro u hu
    intro n
    induction n with
    | zero =>
      intro j ls hj hl kont
      refine lv_iload hx hb dX1_off_137 (lv_at hl 3 rfl) ?_
      refine lv_bipush (v := 64) hx hb dX1_off_139 (by decide) ?_
      refine lv_icmp_ge (tgt := 224) hx hb dX1_off_141 (by decide) (fun c_141 => ?_) (fun c_141 => ?_)
      · rw [show j = 64 by omega] at hl
        exact kont ls (lv_sub hl [0, 1, 2] rfl)
      · exact absurd (nI_le (a := 64) (by omega) (by omega)) c_141
    | succ n ih =>
      intro j ls hj hl kont
      refine lv_iload hx hb dX1_off_137 (lv_at hl 3 rfl) ?_
      refine lv_bipush (v := 64) hx hb dX1_off_139 (by decide) ?_
      refine lv_icmp_ge (tgt := 224) hx hb dX1_off_141 (by decide) (fun c_141 => ?_) (fun c_141 => ?_)
      · exact absurd c_141 (nI_ge (b := 64) (by omega) (by omega))
      · refine lv_iload hx hb dX1_off_144 (lv_at hl 2 rfl) ?_
        refine lv_if_eq (tgt := 224) hx hb dX1_off_146 (by decide) (fun c_146 => ?_) (fun c_146 => ?_)
        · rw [tw_bI0] at c_146
          rw [show tw_all (tw_aU k g F u) j = tw_all (tw_aU k g F u) 64 from by rw [c_146, show 64 = j + (n + 1) by omega, tw_all_f c_146]] at hl
          exact kont ls (lv_sub hl [0, 1, 2] rfl)
        · rw [tw_bI1] at c_146
          refine lv_aload_n hx hb dX1_off_149 rfl (lv_at hl 0 rfl) ?_
          refine lv_iload hx hb dX1_off_150 (lv_at hl 3 rfl) ?_
          refine lv_iconst (v := 0) hx hb dX1_off_152 (by decide) ?_
          refine tw_rM ⟨hx, hb, hml, hown, hts⟩ hK hP (c_X1_sumAt l D cA cB h0 a0 b0 k F g j false (by omega) hk) (cwV 2 hts gX1_off_X1_sumAt rfl rfl rfl kdX1_sumAt ⟨Nat.le_of_ble_eq_true rfl, Nat.le_of_ble_eq_true rfl⟩) rfl hl.1 rfl (Nat.le_of_ble_eq_true rfl) dX1_off_153 ⟨Nat.zero_le _, Nat.zero_le _⟩ ?_
          refine lv_aload_n hx hb dX1_off_156 rfl (lv_at hl 0 rfl) ?_
          refine va_get (D := D) (ci := 1) (v := .ref a0) (C := RX1) (T := TX1) (N := 4) hx hb hts inX1_off hown hK hP 0 rfl rfl 2 (by decide) (hts _ fX1_off_7) (fun _ h9 => h9) rfl dX1_off_157 ?_
          refine lv_bipush (v := 64) hx hb dX1_off_160 (by decide) ?_
          refine lv_aload_n hx hb dX1_off_162 rfl (lv_at hl 0 rfl) ?_
          refine tw_rM ⟨hx, hb, hml, hown, hts⟩ hK hP (c_X1_p l D cA cB h0 a0 b0 k F g ) (cwV 0 hts gX1_off_X1_p rfl rfl rfl kdX1_p ⟨Nat.le_of_ble_eq_true rfl, Nat.le_of_ble_eq_true rfl⟩) rfl hl.1 rfl (Nat.le_of_ble_eq_true rfl) dX1_off_163 ⟨Nat.zero_le _, Nat.zero_le _⟩ ?_
          refine lv_imul hx hb dX1_off_166 ?_
          refine lv_iload hx hb dX1_off_167 (lv_at hl 3 rfl) ?_
          refine lv_iadd hx hb dX1_off_169 ?_
          refine tw_ld hx hb hK hP 1 0 rfl rfl (n := 64 * k + j) (tw_ix' k j) (by omega) (by decide) dX1_off_170 ?_
          refine lv_ixor hx hb dX1_off_171 ?_
          refine tw_topr (x' := tq_eb (tq_xs (tw_ml g (tq_col F j)) k ^^^ F (64 * k + j))) (tq_eb_xor _ _) ?_
          refine lv_istore (lv' := [(6, .int (tq_eb (tq_xs (tw_ml g (tq_col F j)) k ^^^ F (64 * k + j)))), (0, .ref h0), (3, .int (nI u)), (4, .int (tw_bI (tw_all (tw_aU k g F u) j))), (5, .int (nI j))]) hx hb dX1_off_172 hl (by decide) rfl (fun ls hl => ?_)
          refine lv_aload_n hx hb dX1_off_174 rfl (lv_at hl 1 rfl) ?_
          refine lv_iload hx hb dX1_off_175 (lv_at hl 4 rfl) ?_
          refine lv_iconst (v := 1) hx hb dX1_off_177 (by decide) ?_
          refine tw_rM ⟨hx, hb, hml, hown, hts⟩ hK hP (c_X1_sumAt l D cA cB h0 a0 b0 k F g j true (by omega) hk) (cwV 2 hts gX1_off_X1_sumAt rfl rfl rfl kdX1_sumAt ⟨Nat.le_of_ble_eq_true rfl, Nat.le_of_ble_eq_true rfl⟩) rfl hl.1 rfl (Nat.le_of_ble_eq_true rfl) dX1_off_178 ⟨Nat.zero_le _, Nat.zero_le _⟩ ?_
          refine lv_aload_n hx hb dX1_off_181 rfl (lv_at hl 1 rfl) ?_
          refine va_get (D := D) (ci := 1) (v := .ref a0) (C := RX1) (T := TX1) (N := 4) hx hb hts inX1_off hown hK hP 0 rfl rfl 2 (by decide) (hts _ fX1_off_7) (fun _ h9 => h9) rfl dX1_off_182 ?_
          refine lv_bipush (v := 64) hx hb dX1_off_185 (by decide) ?_
          refine lv_aload_n hx hb dX1_off_187 rfl (lv_at hl 1 rfl) ?_
          refine tw_rM ⟨hx, hb, hml, hown, hts⟩ hK hP (c_X1_q l D cA cB h0 a0 b0 k F g ) (cwV 0 hts gX1_off_X1_q rfl rfl rfl kdX1_q ⟨Nat.le_of_ble_eq_true rfl, Nat.le_of_ble_eq_true rfl⟩) rfl hl.1 rfl (Nat.le_of_ble_eq_true rfl) dX1_off_188 ⟨Nat.zero_le _, Nat.zero_le _⟩ ?_
          refine lv_imul hx hb dX1_off_191 ?_
          refine lv_iload hx hb dX1_off_192 (lv_at hl 4 rfl) ?_
          refine lv_iadd hx hb dX1_off_194 ?_
          refine tw_ld hx hb hK hP 1 0 rfl rfl (n := 64 * (k + 1) + j) (tw_ix' (k + 1) j) (by omega) (by decide) dX1_off_195 ?_
          refine lv_ixor hx hb dX1_off_196 ?_
          refine tw_topr (x' := tq_eb (tq_qs (tw_ml g (tq_col F j)) k ^^^ F (64 * (k + 1) + j))) (tq_eb_xor _ _) ?_
          refine lv_aload_n hx hb dX1_off_197 rfl (lv_at hl 1 rfl) ?_
          refine lv_iload hx hb dX1_off_198 (lv_at hl 0 rfl) ?_
          refine lv_aload_n hx hb dX1_off_200 rfl (lv_at hl 1 rfl) ?_
          refine lv_iload_n hx hb dX1_off_201 rfl (lv_at hl 2 rfl) ?_
          refine tw_rM ⟨hx, hb, hml, hown, hts⟩ hK hP (c_X1_twos l D cA cB h0 a0 b0 k F g u (by omega)) (cwV 1 hts gX1_off_X1_twos rfl rfl rfl kdX1_twos ⟨Nat.le_of_ble_eq_true rfl, Nat.le_of_ble_eq_true rfl⟩) rfl hl.1 rfl (Nat.le_of_ble_eq_true rfl) dX1_off_202 ⟨Nat.zero_le _, Nat.zero_le _⟩ ?_
          refine tw_rM ⟨hx, hb, hml, hown, hts⟩ hK hP (c_X1_times l D cA cB h0 a0 b0 k F g (tq_xs (tw_ml g (tq_col F j)) k ^^^ F (64 * k + j)) (tq_p u 1#8)) (cwV 2 hts gX1_off_X1_times rfl rfl rfl kdX1_times ⟨Nat.le_of_ble_eq_true rfl, Nat.le_of_ble_eq_true rfl⟩) rfl hl.1 rfl (Nat.le_of_ble_eq_true rfl) dX1_off_205 ⟨Nat.zero_le _, Nat.zero_le _⟩ ?_
          refine lv_icmp_ne (tgt := 215) hx hb dX1_off_208 (by decide) (fun c_208 => ?_) (fun c_208 => ?_)
          · have c_208 : ¬ (tq_qs (tw_ml g (tq_col F j)) k ^^^ F (64 * (k + 1) + j)) = tq_p u (tq_xs (tw_ml g (tq_col F j)) k ^^^ F (64 * k + j)) := fun q9 => c_208 (by rw [q9, tq_mp (show u < 16 by omega)])
            refine lv_iconst (v := 0) hx hb dX1_off_215 (by decide) ?_
            refine tw_topr (x' := tw_bI (tw_all (tw_aU k g F u) (j + 1))) (by simp [tw_all, tw_aU, tw_bI, c_146, c_208]) ?_
            refine lv_istore (lv' := [(4, .int (tw_bI (tw_all (tw_aU k g F u) (j + 1)))), (6, .int (tq_eb (tq_xs (tw_ml g (tq_col F j)) k ^^^ F (64 * k + j)))), (0, .ref h0), (3, .int (nI u)), (5, .int (nI j))]) hx hb dX1_off_216 hl (by decide) rfl (fun ls hl => ?_)
            refine lv_iinc (v := nI (j + 1)) (lv' := [(5, .int (nI (j + 1))), (4, .int (tw_bI (tw_all (tw_aU k g F u) (j + 1)))), (6, .int (tq_eb (tq_xs (tw_ml g (tq_col F j)) k ^^^ F (64 * k + j)))), (0, .ref h0), (3, .int (nI u))]) hx hb dX1_off_218 hl (k := 4) rfl (nI_1 j) (by decide) rfl (fun ls hl => ?_)
            refine lv_goto (tgt := 137) hx hb dX1_off_221 (by decide) ?_
            exact ih (j + 1) ls (by omega) (lv_sub hl [3, 4, 1, 0] rfl) kont
          · have c_208 : (tq_qs (tw_ml g (tq_col F j)) k ^^^ F (64 * (k + 1) + j)) = tq_p u (tq_xs (tw_ml g (tq_col F j)) k ^^^ F (64 * k + j)) := by have h9 := tq_eb_inj c_208; rwa [tq_mp (show u < 16 by omega)] at h9
            refine lv_iconst (v := 1) hx hb dX1_off_211 (by decide) ?_
            refine lv_goto (tgt := 216) hx hb dX1_off_212 (by decide) ?_
            refine tw_topr (x' := tw_bI (tw_all (tw_aU k g F u) (j + 1))) (by simp [tw_all, tw_aU, tw_bI, c_146, c_208]) ?_
            refine lv_istore (lv' := [(4, .int (tw_bI (tw_all (tw_aU k g F u) (j + 1)))), (6, .int (tq_eb (tq_xs (tw_ml g (tq_col F j)) k ^^^ F (64 * k + j)))), (0, .ref h0), (3, .int (nI u)), (5, .int (nI j))]) hx hb dX1_off_216 hl (by decide) rfl (fun ls hl => ?_)
            refine lv_iinc (v := nI (j + 1)) (lv' := [(5, .int (nI (j + 1))), (4, .int (tw_bI (tw_all (tw_aU k g F u) (j + 1)))), (6, .int (tq_eb (tq_xs (tw_ml g (tq_col F j)) k ^^^ F (64 * k + j)))), (0, .ref h0), (3, .int (nI u))]) hx hb dX1_off_218 hl (k := 4) rfl (nI_1 j) (by decide) rfl (fun ls hl => ?_)
            refine lv_goto (tgt := 137) hx hb dX1_off_221 (by decide) ?_
            exact ih (j + 1) ls (by omega) (lv_sub hl [3, 4, 1, 0] rfl) kont
  have outer : ∀ (n u : Nat) (ls : Array Slot), u + n = k → tw_mo k g F = tw_fu2 (fun u => tw_all (tw_aU k g F u) 64) u n → lv_has ls 7 [(0, .ref h0), (3, .int (nI u))] → W p l e rmX1_off s m args below meth c s.heap [] 0 0 Q (F0 m 123 ls []) := by
    intro n
    induction n with
    | zero =>
      intro u ls hj hfu hl
      refine lv_iload_n hx hb dX1_off_123 rfl (lv_at hl 1 rfl) ?_
      refine lv_aload_n hx hb dX1_off_124 rfl (lv_at hl 0 rfl) ?_
      refine tw_rM ⟨hx, hb, hml, hown, hts⟩ hK hP (c_X1_p l D cA cB h0 a0 b0 k F g ) (cwV 0 hts gX1_off_X1_p rfl rfl rfl kdX1_p ⟨Nat.le_of_ble_eq_true rfl, Nat.le_of_ble_eq_true rfl⟩) rfl hl.1 rfl (Nat.le_of_ble_eq_true rfl) dX1_off_125 ⟨Nat.zero_le _, Nat.zero_le _⟩ ?_
      refine lv_icmp_ge (tgt := 237) hx hb dX1_off_128 (by decide) (fun c_128 => ?_) (fun c_128 => ?_)
      · refine lv_bipush (v := (-3)) hx hb dX1_off_237 (by decide) ?_
        refine tw_topr (x' := tw_mo k g F) (by rw [hfu]; rfl) ?_
        exact hend _ _ dX1_off_239
      · exact absurd (nI_le (by omega) (by omega)) c_128
    | succ n ih =>
      intro u ls hj hfu hl
      refine lv_iload_n hx hb dX1_off_123 rfl (lv_at hl 1 rfl) ?_
      refine lv_aload_n hx hb dX1_off_124 rfl (lv_at hl 0 rfl) ?_
      refine tw_rM ⟨hx, hb, hml, hown, hts⟩ hK hP (c_X1_p l D cA cB h0 a0 b0 k F g ) (cwV 0 hts gX1_off_X1_p rfl rfl rfl kdX1_p ⟨Nat.le_of_ble_eq_true rfl, Nat.le_of_ble_eq_true rfl⟩) rfl hl.1 rfl (Nat.le_of_ble_eq_true rfl) dX1_off_125 ⟨Nat.zero_le _, Nat.zero_le _⟩ ?_
      refine lv_icmp_ge (tgt := 237) hx hb dX1_off_128 (by decide) (fun c_128 => ?_) (fun c_128 => ?_)
      · exact absurd c_128 (nI_ge (by omega) (by omega))
      · refine lv_iconst (v := 1) hx hb dX1_off_131 (by decide) ?_
        refine lv_istore (lv' := [(4, .int 1), (0, .ref h0), (3, .int (nI u))]) hx hb dX1_off_132 hl (by decide) rfl (fun ls hl => ?_)
        refine lv_iconst (v := 0) hx hb dX1_off_134 (by decide) ?_
        refine lv_istore (lv' := [(5, .int 0), (4, .int 1), (0, .ref h0), (3, .int (nI u))]) hx hb dX1_off_135 hl (by decide) rfl (fun ls hl => ?_)
        refine inner u (by omega) 64 0 ls (by omega) (lv_sub hl [2, 3, 1, 0] rfl) (fun ls hl => ?_)
        refine lv_iload hx hb dX1_off_224 (lv_at hl 2 rfl) ?_
        refine lv_if_eq (tgt := 231) hx hb dX1_off_226 (by decide) (fun c_226 => ?_) (fun c_226 => ?_)
        · rw [tw_bI0] at c_226
          refine lv_iinc (v := nI (u + 1)) (lv' := [(3, .int (nI (u + 1))), (0, .ref h0), (4, .int (tw_bI (tw_all (tw_aU k g F u) 64)))]) hx hb dX1_off_231 hl (k := 1) rfl (nI_1 u) (by decide) rfl (fun ls hl => ?_)
          refine lv_goto (tgt := 123) hx hb dX1_off_234 (by decide) ?_
          exact ih (u + 1) ls (by omega) (by rw [hfu, tw_fu2, if_neg (by rw [c_226]; decide)]) (lv_sub hl [1, 0] rfl)
        · rw [tw_bI1] at c_226
          refine lv_iload_n hx hb dX1_off_229 rfl (lv_at hl 1 rfl) ?_
          refine tw_topr (x' := tw_mo k g F) (by rw [hfu, tw_fu2, if_pos c_226]) ?_
          exact hend _ _ dX1_off_230
  have loop : ∀ (n j : Nat) (ls : Array Slot), j + n = 64 → lv_has ls 7 [(0, .ref h0), (1, .int (tw_bI (tw_all (tw_aP k g F) j))), (2, .int (tw_bI (tw_all (tw_aQ k g F) j))), (3, .int (nI j))] → W p l e rmX1_off s m args below meth c s.heap [] 0 0 Q (F0 m 6 ls []) := by
    intro n
    induction n with
    | zero =>
      intro j ls hj hl
      refine lv_iload_n hx hb dX1_off_6 rfl (lv_at hl 3 rfl) ?_
      refine lv_bipush (v := 64) hx hb dX1_off_7 (by decide) ?_
      refine lv_icmp_ge (tgt := 84) hx hb dX1_off_9 (by decide) (fun c_9 => ?_) (fun c_9 => ?_)
      · rw [show j = 64 by omega] at hl
        refine lv_iload_n hx hb dX1_off_84 rfl (lv_at hl 1 rfl) ?_
        refine lv_if_ne (tgt := 92) hx hb dX1_off_85 (by decide) (fun c_85 => ?_) (fun c_85 => ?_)
        · rw [tw_bI1] at c_85
          refine lv_iload_n hx hb dX1_off_92 rfl (lv_at hl 1 rfl) ?_
          refine lv_if_eq (tgt := 105) hx hb dX1_off_93 (by decide) (fun c_93 => ?_) (fun c_93 => ?_)
          · rw [tw_bI0] at c_93
            refine lv_iload_n hx hb dX1_off_105 rfl (lv_at hl 1 rfl) ?_
            refine lv_if_eq (tgt := 116) hx hb dX1_off_106 (by decide) (fun c_106 => ?_) (fun c_106 => ?_)
            · rw [tw_bI0] at c_106
              refine lv_aload_n hx hb dX1_off_116 rfl (lv_at hl 0 rfl) ?_
              refine tw_rM ⟨hx, hb, hml, hown, hts⟩ hK hP (c_X1_p l D cA cB h0 a0 b0 k F g ) (cwV 0 hts gX1_off_X1_p rfl rfl rfl kdX1_p ⟨Nat.le_of_ble_eq_true rfl, Nat.le_of_ble_eq_true rfl⟩) rfl hl.1 rfl (Nat.le_of_ble_eq_true rfl) dX1_off_117 ⟨Nat.zero_le _, Nat.zero_le _⟩ ?_
              refine tw_topr (x' := tw_mo k g F) (by first | (exact absurd (c_85.symm.trans c_93) (by decide)) | (exact absurd (c_85.symm.trans c_106) (by decide)) | (exact absurd (c_93.symm.trans c_85) (by decide)) | (exact absurd (c_93.symm.trans c_106) (by decide)) | (unfold tw_mo; simp [c_85, c_93, c_106]; done)) ?_
              exact hend _ _ dX1_off_120
            · rw [tw_bI1] at c_106
              refine lv_aload_n hx hb dX1_off_109 rfl (lv_at hl 0 rfl) ?_
              refine tw_rM ⟨hx, hb, hml, hown, hts⟩ hK hP (c_X1_q l D cA cB h0 a0 b0 k F g ) (cwV 0 hts gX1_off_X1_q rfl rfl rfl kdX1_q ⟨Nat.le_of_ble_eq_true rfl, Nat.le_of_ble_eq_true rfl⟩) rfl hl.1 rfl (Nat.le_of_ble_eq_true rfl) dX1_off_110 ⟨Nat.zero_le _, Nat.zero_le _⟩ ?_
              refine lv_goto (tgt := 120) hx hb dX1_off_113 (by decide) ?_
              refine tw_topr (x' := tw_mo k g F) (by first | (exact absurd (c_85.symm.trans c_93) (by decide)) | (exact absurd (c_85.symm.trans c_106) (by decide)) | (exact absurd (c_93.symm.trans c_85) (by decide)) | (exact absurd (c_93.symm.trans c_106) (by decide)) | (unfold tw_mo; simp [c_85, c_93, c_106]; done)) ?_
              exact hend _ _ dX1_off_120
          · rw [tw_bI1] at c_93
            refine lv_iload_n hx hb dX1_off_96 rfl (lv_at hl 2 rfl) ?_
            refine lv_if_eq (tgt := 105) hx hb dX1_off_97 (by decide) (fun c_97 => ?_) (fun c_97 => ?_)
            · rw [tw_bI0] at c_97
              refine lv_iload_n hx hb dX1_off_105 rfl (lv_at hl 1 rfl) ?_
              refine lv_if_eq (tgt := 116) hx hb dX1_off_106 (by decide) (fun c_106 => ?_) (fun c_106 => ?_)
              · rw [tw_bI0] at c_106
                refine lv_aload_n hx hb dX1_off_116 rfl (lv_at hl 0 rfl) ?_
                refine tw_rM ⟨hx, hb, hml, hown, hts⟩ hK hP (c_X1_p l D cA cB h0 a0 b0 k F g ) (cwV 0 hts gX1_off_X1_p rfl rfl rfl kdX1_p ⟨Nat.le_of_ble_eq_true rfl, Nat.le_of_ble_eq_true rfl⟩) rfl hl.1 rfl (Nat.le_of_ble_eq_true rfl) dX1_off_117 ⟨Nat.zero_le _, Nat.zero_le _⟩ ?_
                refine tw_topr (x' := tw_mo k g F) (by first | (exact absurd (c_85.symm.trans c_93) (by decide)) | (exact absurd (c_85.symm.trans c_106) (by decide)) | (exact absurd (c_93.symm.trans c_85) (by decide)) | (exact absurd (c_93.symm.trans c_106) (by decide)) | (unfold tw_mo; simp [c_85, c_93, c_97, c_106]; done)) ?_
                exact hend _ _ dX1_off_120
              · rw [tw_bI1] at c_106
                refine lv_aload_n hx hb dX1_off_109 rfl (lv_at hl 0 rfl) ?_
                refine tw_rM ⟨hx, hb, hml, hown, hts⟩ hK hP (c_X1_q l D cA cB h0 a0 b0 k F g ) (cwV 0 hts gX1_off_X1_q rfl rfl rfl kdX1_q ⟨Nat.le_of_ble_eq_true rfl, Nat.le_of_ble_eq_true rfl⟩) rfl hl.1 rfl (Nat.le_of_ble_eq_true rfl) dX1_off_110 ⟨Nat.zero_le _, Nat.zero_le _⟩ ?_
                refine lv_goto (tgt := 120) hx hb dX1_off_113 (by decide) ?_
                refine tw_topr (x' := tw_mo k g F) (by first | (exact absurd (c_85.symm.trans c_93) (by decide)) | (exact absurd (c_85.symm.trans c_106) (by decide)) | (exact absurd (c_93.symm.trans c_85) (by decide)) | (exact absurd (c_93.symm.trans c_106) (by decide)) | (unfold tw_mo; simp [c_85, c_93, c_97, c_106]; done)) ?_
                exact hend _ _ dX1_off_120
            · rw [tw_bI1] at c_97
              refine lv_bipush (v := (-2)) hx hb dX1_off_100 (by decide) ?_
              refine lv_goto (tgt := 120) hx hb dX1_off_102 (by decide) ?_
              refine tw_topr (x' := tw_mo k g F) (by first | (exact absurd (c_85.symm.trans c_93) (by decide)) | (exact absurd (c_85.symm.trans c_106) (by decide)) | (exact absurd (c_93.symm.trans c_85) (by decide)) | (exact absurd (c_93.symm.trans c_106) (by decide)) | (unfold tw_mo; simp [c_85, c_93, c_97]; done)) ?_
              exact hend _ _ dX1_off_120
        · rw [tw_bI0] at c_85
          refine lv_iload_n hx hb dX1_off_88 rfl (lv_at hl 2 rfl) ?_
          refine lv_if_eq (tgt := 121) hx hb dX1_off_89 (by decide) (fun c_89 => ?_) (fun c_89 => ?_)
          · rw [tw_bI0] at c_89
            refine lv_iconst (v := 0) hx hb dX1_off_121 (by decide) ?_
            refine lv_istore_n (lv' := [(3, .int 0), (0, .ref h0), (1, .int (tw_bI (tw_all (tw_aP k g F) 64))), (2, .int (tw_bI (tw_all (tw_aQ k g F) 64)))]) hx hb dX1_off_122 rfl hl (by decide) rfl (fun ls hl => ?_)
            exact outer k 0 ls (by omega) (by unfold tw_mo; rw [c_85, c_89]; rfl) (lv_sub hl [1, 0] rfl)
          · rw [tw_bI1] at c_89
            refine lv_iload_n hx hb dX1_off_92 rfl (lv_at hl 1 rfl) ?_
            refine lv_if_eq (tgt := 105) hx hb dX1_off_93 (by decide) (fun c_93 => ?_) (fun c_93 => ?_)
            · rw [tw_bI0] at c_93
              refine lv_iload_n hx hb dX1_off_105 rfl (lv_at hl 1 rfl) ?_
              refine lv_if_eq (tgt := 116) hx hb dX1_off_106 (by decide) (fun c_106 => ?_) (fun c_106 => ?_)
              · rw [tw_bI0] at c_106
                refine lv_aload_n hx hb dX1_off_116 rfl (lv_at hl 0 rfl) ?_
                refine tw_rM ⟨hx, hb, hml, hown, hts⟩ hK hP (c_X1_p l D cA cB h0 a0 b0 k F g ) (cwV 0 hts gX1_off_X1_p rfl rfl rfl kdX1_p ⟨Nat.le_of_ble_eq_true rfl, Nat.le_of_ble_eq_true rfl⟩) rfl hl.1 rfl (Nat.le_of_ble_eq_true rfl) dX1_off_117 ⟨Nat.zero_le _, Nat.zero_le _⟩ ?_
                refine tw_topr (x' := tw_mo k g F) (by first | (exact absurd (c_85.symm.trans c_93) (by decide)) | (exact absurd (c_85.symm.trans c_106) (by decide)) | (exact absurd (c_93.symm.trans c_85) (by decide)) | (exact absurd (c_93.symm.trans c_106) (by decide)) | (unfold tw_mo; simp [c_85, c_89, c_93, c_106]; done)) ?_
                exact hend _ _ dX1_off_120
              · rw [tw_bI1] at c_106
                refine lv_aload_n hx hb dX1_off_109 rfl (lv_at hl 0 rfl) ?_
                refine tw_rM ⟨hx, hb, hml, hown, hts⟩ hK hP (c_X1_q l D cA cB h0 a0 b0 k F g ) (cwV 0 hts gX1_off_X1_q rfl rfl rfl kdX1_q ⟨Nat.le_of_ble_eq_true rfl, Nat.le_of_ble_eq_true rfl⟩) rfl hl.1 rfl (Nat.le_of_ble_eq_true rfl) dX1_off_110 ⟨Nat.zero_le _, Nat.zero_le _⟩ ?_
                refine lv_goto (tgt := 120) hx hb dX1_off_113 (by decide) ?_
                refine tw_topr (x' := tw_mo k g F) (by first | (exact absurd (c_85.symm.trans c_93) (by decide)) | (exact absurd (c_85.symm.trans c_106) (by decide)) | (exact absurd (c_93.symm.trans c_85) (by decide)) | (exact absurd (c_93.symm.trans c_106) (by decide)) | (unfold tw_mo; simp [c_85, c_89, c_93, c_106]; done)) ?_
                exact hend _ _ dX1_off_120
            · rw [tw_bI1] at c_93
              refine lv_iload_n hx hb dX1_off_96 rfl (lv_at hl 2 rfl) ?_
              refine lv_if_eq (tgt := 105) hx hb dX1_off_97 (by decide) (fun c_97 => ?_) (fun c_97 => ?_)
              · rw [tw_bI0] at c_97
                refine lv_iload_n hx hb dX1_off_105 rfl (lv_at hl 1 rfl) ?_
                refine lv_if_eq (tgt := 116) hx hb dX1_off_106 (by decide) (fun c_106 => ?_) (fun c_106 => ?_)
                · rw [tw_bI0] at c_106
                  refine lv_aload_n hx hb dX1_off_116 rfl (lv_at hl 0 rfl) ?_
                  refine tw_rM ⟨hx, hb, hml, hown, hts⟩ hK hP (c_X1_p l D cA cB h0 a0 b0 k F g ) (cwV 0 hts gX1_off_X1_p rfl rfl rfl kdX1_p ⟨Nat.le_of_ble_eq_true rfl, Nat.le_of_ble_eq_true rfl⟩) rfl hl.1 rfl (Nat.le_of_ble_eq_true rfl) dX1_off_117 ⟨Nat.zero_le _, Nat.zero_le _⟩ ?_
                  refine tw_topr (x' := tw_mo k g F) (by first | (exact absurd (c_85.symm.trans c_93) (by decide)) | (exact absurd (c_85.symm.trans c_106) (by decide)) | (exact absurd (c_93.symm.trans c_85) (by decide)) | (exact absurd (c_93.symm.trans c_106) (by decide)) | (unfold tw_mo; simp [c_85, c_89, c_93, c_97, c_106]; done)) ?_
                  exact hend _ _ dX1_off_120
                · rw [tw_bI1] at c_106
                  refine lv_aload_n hx hb dX1_off_109 rfl (lv_at hl 0 rfl) ?_
                  refine tw_rM ⟨hx, hb, hml, hown, hts⟩ hK hP (c_X1_q l D cA cB h0 a0 b0 k F g ) (cwV 0 hts gX1_off_X1_q rfl rfl rfl kdX1_q ⟨Nat.le_of_ble_eq_true rfl, Nat.le_of_ble_eq_true rfl⟩) rfl hl.1 rfl (Nat.le_of_ble_eq_true rfl) dX1_off_110 ⟨Nat.zero_le _, Nat.zero_le _⟩ ?_
                  refine lv_goto (tgt := 120) hx hb dX1_off_113 (by decide) ?_
                  refine tw_topr (x' := tw_mo k g F) (by first | (exact absurd (c_85.symm.trans c_93) (by decide)) | (exact absurd (c_85.symm.trans c_106) (by decide)) | (exact absurd (c_93.symm.trans c_85) (by decide)) | (exact absurd (c_93.symm.trans c_106) (by decide)) | (unfold tw_mo; simp [c_85, c_89, c_93, c_97, c_106]; done)) ?_
                  exact hend _ _ dX1_off_120
              · rw [tw_bI1] at c_97
                refine lv_bipush (v := (-2)) hx hb dX1_off_100 (by decide) ?_
                refine lv_goto (tgt := 120) hx hb dX1_off_102 (by decide) ?_
                refine tw_topr (x' := tw_mo k g F) (by first | (exact absurd (c_85.symm.trans c_93) (by decide)) | (exact absurd (c_85.symm.trans c_106) (by decide)) | (exact absurd (c_93.symm.trans c_85) (by decide)) | (exact absurd (c_93.symm.trans c_106) (by decide)) | (unfold tw_mo; simp [c_85, c_89, c_93, c_97]; done)) ?_
                exact hend _ _ dX1_off_120
      · exact absurd (nI_le (a := 64) (by omega) (by omega)) c_9
    | succ n ih =>
      intro j ls hj hl
      refine lv_iload_n hx hb dX1_off_6 rfl (lv_at hl 3 rfl) ?_
      refine lv_bipush (v := 64) hx hb dX1_off_7 (by decide) ?_
      refine lv_icmp_ge (tgt := 84) hx hb dX1_off_9 (by decide) (fun c_9 => ?_) (fun c_9 => ?_)
      · exact absurd c_9 (nI_ge (b := 64) (by omega) (by omega))
      · refine lv_iload_n hx hb dX1_off_12 rfl (lv_at hl 1 rfl) ?_
        refine lv_if_eq (tgt := 43) hx hb dX1_off_13 (by decide) (fun c_13 => ?_) (fun c_13 => ?_)
        · rw [tw_bI0] at c_13
          refine lv_iconst (v := 0) hx hb dX1_off_43 (by decide) ?_
          refine tw_topr (x' := tw_bI (tw_all (tw_aP k g F) (j + 1))) (by simp [tw_all, tw_aP, tw_bI, c_13]) ?_
          refine lv_istore_n (lv' := [(1, .int (tw_bI (tw_all (tw_aP k g F) (j + 1)))), (0, .ref h0), (2, .int (tw_bI (tw_all (tw_aQ k g F) j))), (3, .int (nI j))]) hx hb dX1_off_44 rfl hl (by decide) rfl (fun ls hl => ?_)
          refine lv_iload_n hx hb dX1_off_45 rfl (lv_at hl 2 rfl) ?_
          refine lv_if_eq (tgt := 76) hx hb dX1_off_46 (by decide) (fun c_46 => ?_) (fun c_46 => ?_)
          · rw [tw_bI0] at c_46
            refine lv_iconst (v := 0) hx hb dX1_off_76 (by decide) ?_
            refine tw_topr (x' := tw_bI (tw_all (tw_aQ k g F) (j + 1))) (by simp [tw_all, tw_aQ, tw_bI, c_46]) ?_
            refine lv_istore_n (lv' := [(2, .int (tw_bI (tw_all (tw_aQ k g F) (j + 1)))), (1, .int (tw_bI (tw_all (tw_aP k g F) (j + 1)))), (0, .ref h0), (3, .int (nI j))]) hx hb dX1_off_77 rfl hl (by decide) rfl (fun ls hl => ?_)
            refine lv_iinc (v := nI (j + 1)) (lv' := [(3, .int (nI (j + 1))), (2, .int (tw_bI (tw_all (tw_aQ k g F) (j + 1)))), (1, .int (tw_bI (tw_all (tw_aP k g F) (j + 1)))), (0, .ref h0)]) hx hb dX1_off_78 hl (k := 3) rfl (nI_1 j) (by decide) rfl (fun ls hl => ?_)
            refine lv_goto (tgt := 6) hx hb dX1_off_81 (by decide) ?_
            exact ih (j + 1) ls (by omega) (lv_sub hl [3, 2, 1, 0] rfl)
          · rw [tw_bI1] at c_46
            refine lv_aload_n hx hb dX1_off_49 rfl (lv_at hl 1 rfl) ?_
            refine lv_iload_n hx hb dX1_off_50 rfl (lv_at hl 3 rfl) ?_
            refine lv_iconst (v := 1) hx hb dX1_off_51 (by decide) ?_
            refine tw_rM ⟨hx, hb, hml, hown, hts⟩ hK hP (c_X1_sumAt l D cA cB h0 a0 b0 k F g j true (by omega) hk) (cwV 2 hts gX1_off_X1_sumAt rfl rfl rfl kdX1_sumAt ⟨Nat.le_of_ble_eq_true rfl, Nat.le_of_ble_eq_true rfl⟩) rfl hl.1 rfl (Nat.le_of_ble_eq_true rfl) dX1_off_52 ⟨Nat.zero_le _, Nat.zero_le _⟩ ?_
            refine lv_aload_n hx hb dX1_off_55 rfl (lv_at hl 1 rfl) ?_
            refine va_get (D := D) (ci := 1) (v := .ref a0) (C := RX1) (T := TX1) (N := 4) hx hb hts inX1_off hown hK hP 0 rfl rfl 2 (by decide) (hts _ fX1_off_7) (fun _ h9 => h9) rfl dX1_off_56 ?_
            refine lv_bipush (v := 64) hx hb dX1_off_59 (by decide) ?_
            refine lv_aload_n hx hb dX1_off_61 rfl (lv_at hl 1 rfl) ?_
            refine tw_rM ⟨hx, hb, hml, hown, hts⟩ hK hP (c_X1_q l D cA cB h0 a0 b0 k F g ) (cwV 0 hts gX1_off_X1_q rfl rfl rfl kdX1_q ⟨Nat.le_of_ble_eq_true rfl, Nat.le_of_ble_eq_true rfl⟩) rfl hl.1 rfl (Nat.le_of_ble_eq_true rfl) dX1_off_62 ⟨Nat.zero_le _, Nat.zero_le _⟩ ?_
            refine lv_imul hx hb dX1_off_65 ?_
            refine lv_iload_n hx hb dX1_off_66 rfl (lv_at hl 3 rfl) ?_
            refine lv_iadd hx hb dX1_off_67 ?_
            refine tw_ld hx hb hK hP 1 0 rfl rfl (n := 64 * (k + 1) + j) (tw_ix' (k + 1) j) (by omega) (by decide) dX1_off_68 ?_
            refine lv_icmp_ne (tgt := 76) hx hb dX1_off_69 (by decide) (fun c_69 => ?_) (fun c_69 => ?_)
            · have c_69 : ¬ tq_qs (tw_ml g (tq_col F j)) k = F (64 * (k + 1) + j) := fun q9 => c_69 (congrArg tq_eb q9)
              refine lv_iconst (v := 0) hx hb dX1_off_76 (by decide) ?_
              refine tw_topr (x' := tw_bI (tw_all (tw_aQ k g F) (j + 1))) (by simp [tw_all, tw_aQ, tw_bI, c_46, c_69]) ?_
              refine lv_istore_n (lv' := [(2, .int (tw_bI (tw_all (tw_aQ k g F) (j + 1)))), (1, .int (tw_bI (tw_all (tw_aP k g F) (j + 1)))), (0, .ref h0), (3, .int (nI j))]) hx hb dX1_off_77 rfl hl (by decide) rfl (fun ls hl => ?_)
              refine lv_iinc (v := nI (j + 1)) (lv' := [(3, .int (nI (j + 1))), (2, .int (tw_bI (tw_all (tw_aQ k g F) (j + 1)))), (1, .int (tw_bI (tw_all (tw_aP k g F) (j + 1)))), (0, .ref h0)]) hx hb dX1_off_78 hl (k := 3) rfl (nI_1 j) (by decide) rfl (fun ls hl => ?_)
              refine lv_goto (tgt := 6) hx hb dX1_off_81 (by decide) ?_
              exact ih (j + 1) ls (by omega) (lv_sub hl [3, 2, 1, 0] rfl)
            · have c_69 : tq_qs (tw_ml g (tq_col F j)) k = F (64 * (k + 1) + j) := tq_eb_inj c_69
              refine lv_iconst (v := 1) hx hb dX1_off_72 (by decide) ?_
              refine lv_goto (tgt := 77) hx hb dX1_off_73 (by decide) ?_
              refine tw_topr (x' := tw_bI (tw_all (tw_aQ k g F) (j + 1))) (by simp [tw_all, tw_aQ, tw_bI, c_46, c_69]) ?_
              refine lv_istore_n (lv' := [(2, .int (tw_bI (tw_all (tw_aQ k g F) (j + 1)))), (1, .int (tw_bI (tw_all (tw_aP k g F) (j + 1)))), (0, .ref h0), (3, .int (nI j))]) hx hb dX1_off_77 rfl hl (by decide) rfl (fun ls hl => ?_)
              refine lv_iinc (v := nI (j + 1)) (lv' := [(3, .int (nI (j + 1))), (2, .int (tw_bI (tw_all (tw_aQ k g F) (j + 1)))), (1, .int (tw_bI (tw_all (tw_aP k g F) (j + 1)))), (0, .ref h0)]) hx hb dX1_off_78 hl (k := 3) rfl (nI_1 j) (by decide) rfl (fun ls hl => ?_)
              refine lv_goto (tgt := 6) hx hb dX1_off_81 (by decide) ?_
              exact ih (j + 1) ls (by omega) (lv_sub hl [3, 2, 1, 0] rfl)
        · rw [tw_bI1] at c_13
          refine lv_aload_n hx hb dX1_off_16 rfl (lv_at hl 0 rfl) ?_
          refine lv_iload_n hx hb dX1_off_17 rfl (lv_at hl 3 rfl) ?_
          refine lv_iconst (v := 0) hx hb dX1_off_18 (by decide) ?_
          refine tw_rM ⟨hx, hb, hml, hown, hts⟩ hK hP (c_X1_sumAt l D cA cB h0 a0 b0 k F g j false (by omega) hk) (cwV 2 hts gX1_off_X1_sumAt rfl rfl rfl kdX1_sumAt ⟨Nat.le_of_ble_eq_true rfl, Nat.le_of_ble_eq_true rfl⟩) rfl hl.1 rfl (Nat.le_of_ble_eq_true rfl) dX1_off_19 ⟨Nat.zero_le _, Nat.zero_le _⟩ ?_
          refine lv_aload_n hx hb dX1_off_22 rfl (lv_at hl 0 rfl) ?_
          refine va_get (D := D) (ci := 1) (v := .ref a0) (C := RX1) (T := TX1) (N := 4) hx hb hts inX1_off hown hK hP 0 rfl rfl 2 (by decide) (hts _ fX1_off_7) (fun _ h9 => h9) rfl dX1_off_23 ?_
          refine lv_bipush (v := 64) hx hb dX1_off_26 (by decide) ?_
          refine lv_aload_n hx hb dX1_off_28 rfl (lv_at hl 0 rfl) ?_
          refine tw_rM ⟨hx, hb, hml, hown, hts⟩ hK hP (c_X1_p l D cA cB h0 a0 b0 k F g ) (cwV 0 hts gX1_off_X1_p rfl rfl rfl kdX1_p ⟨Nat.le_of_ble_eq_true rfl, Nat.le_of_ble_eq_true rfl⟩) rfl hl.1 rfl (Nat.le_of_ble_eq_true rfl) dX1_off_29 ⟨Nat.zero_le _, Nat.zero_le _⟩ ?_
          refine lv_imul hx hb dX1_off_32 ?_
          refine lv_iload_n hx hb dX1_off_33 rfl (lv_at hl 3 rfl) ?_
          refine lv_iadd hx hb dX1_off_34 ?_
          refine tw_ld hx hb hK hP 1 0 rfl rfl (n := 64 * k + j) (tw_ix' k j) (by omega) (by decide) dX1_off_35 ?_
          refine lv_icmp_ne (tgt := 43) hx hb dX1_off_36 (by decide) (fun c_36 => ?_) (fun c_36 => ?_)
          · have c_36 : ¬ tq_xs (tw_ml g (tq_col F j)) k = F (64 * k + j) := fun q9 => c_36 (congrArg tq_eb q9)
            refine lv_iconst (v := 0) hx hb dX1_off_43 (by decide) ?_
            refine tw_topr (x' := tw_bI (tw_all (tw_aP k g F) (j + 1))) (by simp [tw_all, tw_aP, tw_bI, c_13, c_36]) ?_
            refine lv_istore_n (lv' := [(1, .int (tw_bI (tw_all (tw_aP k g F) (j + 1)))), (0, .ref h0), (2, .int (tw_bI (tw_all (tw_aQ k g F) j))), (3, .int (nI j))]) hx hb dX1_off_44 rfl hl (by decide) rfl (fun ls hl => ?_)
            refine lv_iload_n hx hb dX1_off_45 rfl (lv_at hl 2 rfl) ?_
            refine lv_if_eq (tgt := 76) hx hb dX1_off_46 (by decide) (fun c_46 => ?_) (fun c_46 => ?_)
            · rw [tw_bI0] at c_46
              refine lv_iconst (v := 0) hx hb dX1_off_76 (by decide) ?_
              refine tw_topr (x' := tw_bI (tw_all (tw_aQ k g F) (j + 1))) (by simp [tw_all, tw_aQ, tw_bI, c_46]) ?_
              refine lv_istore_n (lv' := [(2, .int (tw_bI (tw_all (tw_aQ k g F) (j + 1)))), (1, .int (tw_bI (tw_all (tw_aP k g F) (j + 1)))), (0, .ref h0), (3, .int (nI j))]) hx hb dX1_off_77 rfl hl (by decide) rfl (fun ls hl => ?_)
              refine lv_iinc (v := nI (j + 1)) (lv' := [(3, .int (nI (j + 1))), (2, .int (tw_bI (tw_all (tw_aQ k g F) (j + 1)))), (1, .int (tw_bI (tw_all (tw_aP k g F) (j + 1)))), (0, .ref h0)]) hx hb dX1_off_78 hl (k := 3) rfl (nI_1 j) (by decide) rfl (fun ls hl => ?_)
              refine lv_goto (tgt := 6) hx hb dX1_off_81 (by decide) ?_
              exact ih (j + 1) ls (by omega) (lv_sub hl [3, 2, 1, 0] rfl)
            · rw [tw_bI1] at c_46
              refine lv_aload_n hx hb dX1_off_49 rfl (lv_at hl 1 rfl) ?_
              refine lv_iload_n hx hb dX1_off_50 rfl (lv_at hl 3 rfl) ?_
              refine lv_iconst (v := 1) hx hb dX1_off_51 (by decide) ?_
              refine tw_rM ⟨hx, hb, hml, hown, hts⟩ hK hP (c_X1_sumAt l D cA cB h0 a0 b0 k F g j true (by omega) hk) (cwV 2 hts gX1_off_X1_sumAt rfl rfl rfl kdX1_sumAt ⟨Nat.le_of_ble_eq_true rfl, Nat.le_of_ble_eq_true rfl⟩) rfl hl.1 rfl (Nat.le_of_ble_eq_true rfl) dX1_off_52 ⟨Nat.zero_le _, Nat.zero_le _⟩ ?_
              refine lv_aload_n hx hb dX1_off_55 rfl (lv_at hl 1 rfl) ?_
              refine va_get (D := D) (ci := 1) (v := .ref a0) (C := RX1) (T := TX1) (N := 4) hx hb hts inX1_off hown hK hP 0 rfl rfl 2 (by decide) (hts _ fX1_off_7) (fun _ h9 => h9) rfl dX1_off_56 ?_
              refine lv_bipush (v := 64) hx hb dX1_off_59 (by decide) ?_
              refine lv_aload_n hx hb dX1_off_61 rfl (lv_at hl 1 rfl) ?_
              refine tw_rM ⟨hx, hb, hml, hown, hts⟩ hK hP (c_X1_q l D cA cB h0 a0 b0 k F g ) (cwV 0 hts gX1_off_X1_q rfl rfl rfl kdX1_q ⟨Nat.le_of_ble_eq_true rfl, Nat.le_of_ble_eq_true rfl⟩) rfl hl.1 rfl (Nat.le_of_ble_eq_true rfl) dX1_off_62 ⟨Nat.zero_le _, Nat.zero_le _⟩ ?_
              refine lv_imul hx hb dX1_off_65 ?_
              refine lv_iload_n hx hb dX1_off_66 rfl (lv_at hl 3 rfl) ?_
              refine lv_iadd hx hb dX1_off_67 ?_
              refine tw_ld hx hb hK hP 1 0 rfl rfl (n := 64 * (k + 1) + j) (tw_ix' (k + 1) j) (by omega) (by decide) dX1_off_68 ?_
              refine lv_icmp_ne (tgt := 76) hx hb dX1_off_69 (by decide) (fun c_69 => ?_) (fun c_69 => ?_)
              · have c_69 : ¬ tq_qs (tw_ml g (tq_col F j)) k = F (64 * (k + 1) + j) := fun q9 => c_69 (congrArg tq_eb q9)
                refine lv_iconst (v := 0) hx hb dX1_off_76 (by decide) ?_
                refine tw_topr (x' := tw_bI (tw_all (tw_aQ k g F) (j + 1))) (by simp [tw_all, tw_aQ, tw_bI, c_46, c_69]) ?_
                refine lv_istore_n (lv' := [(2, .int (tw_bI (tw_all (tw_aQ k g F) (j + 1)))), (1, .int (tw_bI (tw_all (tw_aP k g F) (j + 1)))), (0, .ref h0), (3, .int (nI j))]) hx hb dX1_off_77 rfl hl (by decide) rfl (fun ls hl => ?_)
                refine lv_iinc (v := nI (j + 1)) (lv' := [(3, .int (nI (j + 1))), (2, .int (tw_bI (tw_all (tw_aQ k g F) (j + 1)))), (1, .int (tw_bI (tw_all (tw_aP k g F) (j + 1)))), (0, .ref h0)]) hx hb dX1_off_78 hl (k := 3) rfl (nI_1 j) (by decide) rfl (fun ls hl => ?_)
                refine lv_goto (tgt := 6) hx hb dX1_off_81 (by decide) ?_
                exact ih (j + 1) ls (by omega) (lv_sub hl [3, 2, 1, 0] rfl)
              · have c_69 : tq_qs (tw_ml g (tq_col F j)) k = F (64 * (k + 1) + j) := tq_eb_inj c_69
                refine lv_iconst (v := 1) hx hb dX1_off_72 (by decide) ?_
                refine lv_goto (tgt := 77) hx hb dX1_off_73 (by decide) ?_
                refine tw_topr (x' := tw_bI (tw_all (tw_aQ k g F) (j + 1))) (by simp [tw_all, tw_aQ, tw_bI, c_46, c_69]) ?_
                refine lv_istore_n (lv' := [(2, .int (tw_bI (tw_all (tw_aQ k g F) (j + 1)))), (1, .int (tw_bI (tw_all (tw_aP k g F) (j + 1)))), (0, .ref h0), (3, .int (nI j))]) hx hb dX1_off_77 rfl hl (by decide) rfl (fun ls hl => ?_)
                refine lv_iinc (v := nI (j + 1)) (lv' := [(3, .int (nI (j + 1))), (2, .int (tw_bI (tw_all (tw_aQ k g F) (j + 1)))), (1, .int (tw_bI (tw_all (tw_aP k g F) (j + 1)))), (0, .ref h0)]) hx hb dX1_off_78 hl (k := 3) rfl (nI_1 j) (by decide) rfl (fun ls hl => ?_)
                refine lv_goto (tgt := 6) hx hb dX1_off_81 (by decide) ?_
                exact ih (j + 1) ls (by omega) (lv_sub hl [3, 2, 1, 0] rfl)
          · have c_36 : tq_xs (tw_ml g (tq_col F j)) k = F (64 * k + j) := tq_eb_inj c_36
            refine lv_iconst (v := 1) hx hb dX1_off_39 (by decide) ?_
            refine lv_goto (tgt := 44) hx hb dX1_off_40 (by decide) ?_
            refine tw_topr (x' := tw_bI (tw_all (tw_aP k g F) (j + 1))) (by simp [tw_all, tw_aP, tw_bI, c_13, c_36]) ?_
            refine lv_istore_n (lv' := [(1, .int (tw_bI (tw_all (tw_aP k g F) (j + 1)))), (0, .ref h0), (2, .int (tw_bI (tw_all (tw_aQ k g F) j))), (3, .int (nI j))]) hx hb dX1_off_44 rfl hl (by decide) rfl (fun ls hl => ?_)
            refine lv_iload_n hx hb dX1_off_45 rfl (lv_at hl 2 rfl) ?_
            refine lv_if_eq (tgt := 76) hx hb dX1_off_46 (by decide) (fun c_46 => ?_) (fun c_46 => ?_)
            · rw [tw_bI0] at c_46
              refine lv_iconst (v := 0) hx hb dX1_off_76 (by decide) ?_
              refine tw_topr (x' := tw_bI (tw_all (tw_aQ k g F) (j + 1))) (by simp [tw_all, tw_aQ, tw_bI, c_46]) ?_
              refine lv_istore_n (lv' := [(2, .int (tw_bI (tw_all (tw_aQ k g F) (j + 1)))), (1, .int (tw_bI (tw_all (tw_aP k g F) (j + 1)))), (0, .ref h0), (3, .int (nI j))]) hx hb dX1_off_77 rfl hl (by decide) rfl (fun ls hl => ?_)
              refine lv_iinc (v := nI (j + 1)) (lv' := [(3, .int (nI (j + 1))), (2, .int (tw_bI (tw_all (tw_aQ k g F) (j + 1)))), (1, .int (tw_bI (tw_all (tw_aP k g F) (j + 1)))), (0, .ref h0)]) hx hb dX1_off_78 hl (k := 3) rfl (nI_1 j) (by decide) rfl (fun ls hl => ?_)
              refine lv_goto (tgt := 6) hx hb dX1_off_81 (by decide) ?_
              exact ih (j + 1) ls (by omega) (lv_sub hl [3, 2, 1, 0] rfl)
            · rw [tw_bI1] at c_46
              refine lv_aload_n hx hb dX1_off_49 rfl (lv_at hl 1 rfl) ?_
              refine lv_iload_n hx hb dX1_off_50 rfl (lv_at hl 3 rfl) ?_
              refine lv_iconst (v := 1) hx hb dX1_off_51 (by decide) ?_
              refine tw_rM ⟨hx, hb, hml, hown, hts⟩ hK hP (c_X1_sumAt l D cA cB h0 a0 b0 k F g j true (by omega) hk) (cwV 2 hts gX1_off_X1_sumAt rfl rfl rfl kdX1_sumAt ⟨Nat.le_of_ble_eq_true rfl, Nat.le_of_ble_eq_true rfl⟩) rfl hl.1 rfl (Nat.le_of_ble_eq_true rfl) dX1_off_52 ⟨Nat.zero_le _, Nat.zero_le _⟩ ?_
              refine lv_aload_n hx hb dX1_off_55 rfl (lv_at hl 1 rfl) ?_
              refine va_get (D := D) (ci := 1) (v := .ref a0) (C := RX1) (T := TX1) (N := 4) hx hb hts inX1_off hown hK hP 0 rfl rfl 2 (by decide) (hts _ fX1_off_7) (fun _ h9 => h9) rfl dX1_off_56 ?_
              refine lv_bipush (v := 64) hx hb dX1_off_59 (by decide) ?_
              refine lv_aload_n hx hb dX1_off_61 rfl (lv_at hl 1 rfl) ?_
              refine tw_rM ⟨hx, hb, hml, hown, hts⟩ hK hP (c_X1_q l D cA cB h0 a0 b0 k F g ) (cwV 0 hts gX1_off_X1_q rfl rfl rfl kdX1_q ⟨Nat.le_of_ble_eq_true rfl, Nat.le_of_ble_eq_true rfl⟩) rfl hl.1 rfl (Nat.le_of_ble_eq_true rfl) dX1_off_62 ⟨Nat.zero_le _, Nat.zero_le _⟩ ?_
              refine lv_imul hx hb dX1_off_65 ?_
              refine lv_iload_n hx hb dX1_off_66 rfl (lv_at hl 3 rfl) ?_
              refine lv_iadd hx hb dX1_off_67 ?_
              refine tw_ld hx hb hK hP 1 0 rfl rfl (n := 64 * (k + 1) + j) (tw_ix' (k + 1) j) (by omega) (by decide) dX1_off_68 ?_
              refine lv_icmp_ne (tgt := 76) hx hb dX1_off_69 (by decide) (fun c_69 => ?_) (fun c_69 => ?_)
              · have c_69 : ¬ tq_qs (tw_ml g (tq_col F j)) k = F (64 * (k + 1) + j) := fun q9 => c_69 (congrArg tq_eb q9)
                refine lv_iconst (v := 0) hx hb dX1_off_76 (by decide) ?_
                refine tw_topr (x' := tw_bI (tw_all (tw_aQ k g F) (j + 1))) (by simp [tw_all, tw_aQ, tw_bI, c_46, c_69]) ?_
                refine lv_istore_n (lv' := [(2, .int (tw_bI (tw_all (tw_aQ k g F) (j + 1)))), (1, .int (tw_bI (tw_all (tw_aP k g F) (j + 1)))), (0, .ref h0), (3, .int (nI j))]) hx hb dX1_off_77 rfl hl (by decide) rfl (fun ls hl => ?_)
                refine lv_iinc (v := nI (j + 1)) (lv' := [(3, .int (nI (j + 1))), (2, .int (tw_bI (tw_all (tw_aQ k g F) (j + 1)))), (1, .int (tw_bI (tw_all (tw_aP k g F) (j + 1)))), (0, .ref h0)]) hx hb dX1_off_78 hl (k := 3) rfl (nI_1 j) (by decide) rfl (fun ls hl => ?_)
                refine lv_goto (tgt := 6) hx hb dX1_off_81 (by decide) ?_
                exact ih (j + 1) ls (by omega) (lv_sub hl [3, 2, 1, 0] rfl)
              · have c_69 : tq_qs (tw_ml g (tq_col F j)) k = F (64 * (k + 1) + j) := tq_eb_inj c_69
                refine lv_iconst (v := 1) hx hb dX1_off_72 (by decide) ?_
                refine lv_goto (tgt := 77) hx hb dX1_off_73 (by decide) ?_
                refine tw_topr (x' := tw_bI (tw_all (tw_aQ k g F) (j + 1))) (by simp [tw_all, tw_aQ, tw_bI, c_46, c_69]) ?_
                refine lv_istore_n (lv' := [(2, .int (tw_bI (tw_all (tw_aQ k g F) (j + 1)))), (1, .int (tw_bI (tw_all (tw_aP k g F) (j + 1)))), (0, .ref h0), (3, .int (nI j))]) hx hb dX1_off_77 rfl hl (by decide) rfl (fun ls hl => ?_)
                refine lv_iinc (v := nI (j + 1)) (lv' := [(3, .int (nI (j + 1))), (2, .int (tw_bI (tw_all (tw_aQ k g F) (j + 1)))), (1, .int (tw_bI (tw_all (tw_aP k g F) (j + 1)))), (0, .ref h0)]) hx hb dX1_off_78 hl (k := 3) rfl (nI_1 j) (by decide) rfl (fun ls hl => ?_)
                refine lv_goto (tgt := 6) hx hb dX1_off_81 (by decide) ?_
                exact ih (j + 1) ls (by omega) (lv_sub hl [3, 2, 1, 0] rfl)
  refine lv_iconst (v := 1) hx hb dX1_off_0 (by decide) ?_
  refine lv_istore_n (lv' := [(1, .int 1), (0, .ref h0)]) hx hb dX1_off_1 rfl hl (by decide) rfl (fun ls hl => ?_)
  refine lv_iconst (v := 1) hx hb dX1_off_2 (by decide) ?_
  refine lv_istore_n (lv' := [(2, .int 1), (1, .int 1), (0, .ref h0)]) hx hb dX1_off_3 rfl hl (by decide) rfl (fun ls hl => ?_)
  refine lv_iconst (v := 0) hx hb dX1_off_4 (by decide) ?_
  refine lv_istore_n (lv' := [(3, .int 0), (2, .int 1), (1, .int 1), (0, .ref h0)]) hx hb dX1_off_5 rfl hl (by decide) rfl (fun ls hl => ?_)
  exact loop 64 0 ls (by omega) (lv_sub hl [3, 2, 1, 0] rfl)
end
section
def tw_gl (g : Nat → Bool) (n : Nat) : Nat → Bool := fun j => if j < n then false else g j
theorem tw_gl_0 (g : Nat → Bool) : tw_gl g 0 = g := by funext j; simp [tw_gl]
theorem tw_gl_s (g : Nat → Bool) (n : Nat) : va_up (tw_gl g n) n false = tw_gl g (n + 1) := by
  funext j
  unfold va_up tw_gl
  by_cases h : j = n
  · simp [h]
  · rw [if_neg h]
    by_cases h2 : j < n
    · rw [if_pos h2, if_pos (by omega)]
    · rw [if_neg h2, if_neg (by omega)]
theorem tw_el_a {a : Int32} (h1 : ¬ a < 0) (h2 : ¬ 255 < a) : tw_el a = true := by
  have h3 : ¬ 256 ≤ a := by
    rw [Int32.le_iff_toInt_le]
    rw [Int32.lt_iff_toInt_lt] at h2
    have e0 : (255 : Int32).toInt = 255 := by decide
    have e2 : (256 : Int32).toInt = 256 := by decide
    omega
  simp [tw_el, h1, h3]
theorem tw_el_b {a : Int32} (h2 : 255 < a) : tw_el a = false := by
  have h3 : 256 ≤ a := by
    rw [Int32.le_iff_toInt_le]
    rw [Int32.lt_iff_toInt_lt] at h2
    have e0 : (255 : Int32).toInt = 255 := by decide
    have e2 : (256 : Int32).toInt = 256 := by decide
    omega
  simp [tw_el, h3]
theorem tw_el_c {a : Int32} (h2 : a < 0) : tw_el a = false := by simp [tw_el, h2]
theorem tw_nuD {k : Nat} {x : Int32} (hk : k ≤ 14) (h : tw_nu k x = false) : ∃ u : Nat, u < k + 2 ∧ x = nI u := by
  simp only [tw_nu, Bool.or_eq_false_iff, decide_eq_false_iff_not, Bool.not_eq_false', decide_eq_true_eq] at h
  obtain ⟨u, hu, rfl⟩ := nI_of h.1
  exact ⟨u, (nI_ltI hu (by omega)).mp h.2, rfl⟩
theorem tw_nuI {k u : Nat} (hk : k ≤ 14) (hu : u < k + 2) : tw_nu k (nI u) = false := by
  have h1 : ¬ nI u < 0 := nI_pos (by omega)
  have h2 : nI u < nI (k + 2) := nI_lt hu (by omega)
  simp [tw_nu, h1, h2]
def tw_mbegin (k : Nat) (F : Nat → BitVec 8) (g : Nat → Bool) (x : Int32) : Int32 × (Nat × (Nat → BitVec 8) × (Nat → Bool)) := if x < 2 ∨ ¬ x ≤ 14 then (-1, (k, F, g)) else (x + 2, (x.toNatClampNeg, tw_fl F 1024, tw_gl g 16))
abbrev rmX1_begin : Room := { frames := 0, cells := 0, slots := 0, locals := 0 }
theorem inX1_begin : ∀ w ∈ wsX10, w ∈ wsX1_begin := fun _ h => List.mem_cons_of_mem _ (List.mem_append_right _ h)
theorem fX1_begin_21 : Cond.fieldLink RX1 21 "TwinParityModel" "thrown" "I" ∈ wsX1_begin := List.mem_of_getElem? (i := 1) rfl
theorem fX1_begin_25 : Cond.fieldLink RX1 25 "TwinParityModel" "units" "I" ∈ wsX1_begin := List.mem_of_getElem? (i := 2) rfl
theorem fX1_begin_7 : Cond.fieldLink RX1 7 "TwinParityModel" "bytes" "[I" ∈ wsX1_begin := List.mem_of_getElem? (i := 3) rfl
theorem fX1_begin_13 : Cond.fieldLink RX1 13 "TwinParityModel" "lost" "[Z" ∈ wsX1_begin := List.mem_of_getElem? (i := 4) rfl
theorem kdX1_begin : yX1_begin.cls = RX1 ∧ yX1_begin.cls ≠ "java/lang/invoke/MethodHandle" ∧ yX1_begin.cls ≠ "java/lang/invoke/VarHandle" ∧ (parseMethodDescriptor yX1_begin.desc).map (fun d => d.parameters.length) = some 1 := by decide +kernel
set_option maxHeartbeats 4000000 in
set_option maxRecDepth 100000 in
theorem c_X1_begin (l : Launch) (D : va_G) (cA cB : ClassId) (h0 a0 b0 k : Nat) (F : Nat → BitVec 8) (g : Nat → Bool) (sz : Nat) (x : Int32) : Met l yX1_begin wsX1_begin rmX1_begin (va_Pc [.ref h0, .int x] (tw_Pw D (tw_M cA cB h0 a0 b0 k F g) (tw_tM cA cB) sz)) (va_Qi (fun (r : Int32) (u : Nat × (Nat → BitVec 8) × (Nat → Bool)) => (r, u) = tw_mbegin k F g x) (tw_Qw D (fun u : Nat × (Nat → BitVec 8) × (Nat → Bool) => tw_M cA cB h0 a0 b0 u.1 u.2.1 u.2.2) (tw_tM cA cB) (va_A (tw_M cA cB h0 a0 b0 k F g) sz)) (va_A (tw_M cA cB h0 a0 b0 k F g) sz)) 0 0 (va_A (tw_M cA cB h0 a0 b0 k F g) sz) := by
  refine tw_metW (by decide) rfl rfl (Nat.le_of_ble_eq_true rfl) ?_
  intro p e s m args below meth c Q ls A hx hb hml hown hts hP hK hD hS hA hend hl
  have hown : s.vm.findClass RX1 = some m.cls := hown
  have hl : lv_has ls 3 [(0, .ref h0), (1, .int x)] := hl
  generalize hE : tw_mbegin k F g x = E at hend
  refine lv_aload_n hx hb dX1_begin_0 rfl (lv_at hl 0 rfl) ?_
  refine lv_iconst (v := 0) hx hb dX1_begin_1 (by decide) ?_
  refine va_put (D := D) (ci := 1) (v := .int 0) (ty := .int) (C := RX1) (T := TX1) (N := 4) hx hb hts inX1_begin tyX1 tyX1_ok nmX1 hown hK hP hD hS 0 rfl rfl 0 (by decide) (hts _ fX1_begin_21) (fun _ h9 => h9) rfl (by decide +kernel) rfl rfl (Nat.le_of_ble_eq_true rfl) dX1_begin_2 (fun H locs hP hD hS => ?_)
  have hP : va_P D vwCl (tw_M cA cB h0 a0 b0 k F g) H := hP
  have hD : va_D A (tw_M cA cB h0 a0 b0 k F g) := hD
  refine lv_iload_n hx hb dX1_begin_5 rfl (lv_at hl 1 rfl) ?_
  refine lv_iconst (v := 2) hx hb dX1_begin_6 (by decide) ?_
  refine lv_icmp_lt (tgt := 16) hx hb dX1_begin_7 (by decide) (fun c_7 => ?_) (fun c_7 => ?_)
  · refine lv_iconst (v := (-1)) hx hb dX1_begin_16 (by decide) ?_
    exact hend _ _ _ (k, F, g) _ _ dX1_begin_17 (by rw [← hE, tw_mbegin, if_pos (by first | exact Or.inl c_7 | exact Or.inr c_13)]) hP hD hS
  · refine lv_iload_n hx hb dX1_begin_10 rfl (lv_at hl 1 rfl) ?_
    refine lv_bipush (v := 14) hx hb dX1_begin_11 (by decide) ?_
    refine lv_icmp_le (tgt := 18) hx hb dX1_begin_13 (by decide) (fun c_13 => ?_) (fun c_13 => ?_)
    · obtain ⟨j, hj31, rfl⟩ := nI_of (tw_nneg c_7)
      have hj14 : j ≤ 14 := (nI_leI hj31 (by decide)).mp (show nI j ≤ nI 14 from c_13)
      refine lv_aload_n hx hb dX1_begin_18 rfl (lv_at hl 0 rfl) ?_
      refine lv_iload_n hx hb dX1_begin_19 rfl (lv_at hl 1 rfl) ?_
      refine lv_iconst (v := 2) hx hb dX1_begin_20 (by decide) ?_
      refine lv_iadd hx hb dX1_begin_21 ?_
      refine tw_topr (x' := nI (j + 2)) (nI_add j 2) ?_
      refine va_put (D := D) (ci := 1) (v := .int (nI (j + 2))) (ty := .int) (C := RX1) (T := TX1) (N := 4) hx hb hts inX1_begin tyX1 tyX1_ok nmX1 hown hK hP hD hS 0 rfl rfl 1 (by decide) (hts _ fX1_begin_25) (fun _ h9 => h9) rfl (by decide +kernel) rfl rfl (Nat.le_of_ble_eq_true rfl) dX1_begin_22 (fun H locs hP hD hS => ?_)
      have hP : va_P D vwCl (tw_M cA cB h0 a0 b0 j F g) H := hP
      have hD : va_D A (tw_M cA cB h0 a0 b0 j F g) := hD
      have loop2 : ∀ (n i : Nat) (ls : Array Slot) (H : Heap) (locs : List Loc), i + n = 16 → va_P D vwCl (tw_M cA cB h0 a0 b0 j (tw_fl F 1024) (tw_gl g i)) H → va_D A (tw_M cA cB h0 a0 b0 j (tw_fl F 1024) (tw_gl g i)) → va_S A s.heap H locs → lv_has ls 3 [(0, .ref h0), (2, .int (nI i))] → W p l e rmX1_begin s m args below meth c H locs 0 0 Q (F0 m 49 ls []) := by
        intro n
        induction n with
        | zero =>
          intro i ls H locs hj hP hD hS hl
          refine lv_iload_n hx hb dX1_begin_49 rfl (lv_at hl 1 rfl) ?_
          refine lv_bipush (v := 16) hx hb dX1_begin_50 (by decide) ?_
          refine lv_icmp_ge (tgt := 68) hx hb dX1_begin_52 (by decide) (fun c_52 => ?_) (fun c_52 => ?_)
          · rw [show i = 16 by omega] at hP hD
            refine lv_aload_n hx hb dX1_begin_68 rfl (lv_at hl 0 rfl) ?_
            refine va_get (D := D) (ci := 1) (v := .int (nI (j + 2))) (C := RX1) (T := TX1) (N := 4) hx hb hts inX1_begin hown hK hP 0 rfl rfl 1 (by decide) (hts _ fX1_begin_25) (fun _ h9 => h9) rfl dX1_begin_69 ?_
            exact hend _ _ _ (j, tw_fl F 1024, tw_gl g 16) _ _ dX1_begin_72 (by rw [← hE, tw_mbegin, if_neg (fun q9 => q9.elim c_7 (fun q8 => q8 c_13)), nI_clamp hj31, show nI j + 2 = nI (j + 2) from nI_add j 2]) hP hD hS
          · exact absurd (nI_le (a := 16) (by omega) (by omega)) c_52
        | succ n ih =>
          intro i ls H locs hj hP hD hS hl
          refine lv_iload_n hx hb dX1_begin_49 rfl (lv_at hl 1 rfl) ?_
          refine lv_bipush (v := 16) hx hb dX1_begin_50 (by decide) ?_
          refine lv_icmp_ge (tgt := 68) hx hb dX1_begin_52 (by decide) (fun c_52 => ?_) (fun c_52 => ?_)
          · exact absurd c_52 (nI_ge (b := 16) (by omega) (by omega))
          · refine lv_aload_n hx hb dX1_begin_55 rfl (lv_at hl 0 rfl) ?_
            refine va_get (D := D) (ci := 1) (v := .ref b0) (C := RX1) (T := TX1) (N := 4) hx hb hts inX1_begin hown hK hP 0 rfl rfl 3 (by decide) (hts _ fX1_begin_13) (fun _ h9 => h9) rfl dX1_begin_56 ?_
            refine lv_iload_n hx hb dX1_begin_59 rfl (lv_at hl 1 rfl) ?_
            refine lv_iconst (v := 0) hx hb dX1_begin_60 (by decide) ?_
            refine tw_sz hx hb hK hP hD hS 2 1 rfl rfl (n := i) (v := false) (rfl) (rfl) (by omega) (by decide) dX1_begin_61 (fun H locs hP hD hS => ?_)
            have hP : va_P D vwCl (tw_M cA cB h0 a0 b0 j (tw_fl F 1024) (va_up (tw_gl g i) (i) (false))) H := hP
            have hD : va_D A (tw_M cA cB h0 a0 b0 j (tw_fl F 1024) (va_up (tw_gl g i) (i) (false))) := hD
            rw [show va_up (tw_gl g i) (i) (false) = tw_gl g (i + 1) from tw_gl_s g i] at hP hD
            refine lv_iinc (v := nI (i + 1)) (lv' := [(2, .int (nI (i + 1))), (0, .ref h0)]) hx hb dX1_begin_62 hl (k := 1) rfl (nI_1 i) (by decide) rfl (fun ls hl => ?_)
            refine lv_goto (tgt := 49) hx hb dX1_begin_65 (by decide) ?_
            exact ih (i + 1) ls H locs (by omega) hP hD hS (lv_sub hl [1, 0] rfl)
      have loop1 : ∀ (n i : Nat) (ls : Array Slot) (H : Heap) (locs : List Loc), i + n = 1024 → va_P D vwCl (tw_M cA cB h0 a0 b0 j (tw_fl F i) g) H → va_D A (tw_M cA cB h0 a0 b0 j (tw_fl F i) g) → va_S A s.heap H locs → lv_has ls 3 [(0, .ref h0), (2, .int (nI i))] → W p l e rmX1_begin s m args below meth c H locs 0 0 Q (F0 m 27 ls []) := by
        intro n
        induction n with
        | zero =>
          intro i ls H locs hj hP hD hS hl
          refine lv_iload_n hx hb dX1_begin_27 rfl (lv_at hl 1 rfl) ?_
          refine lv_sipush (v := 1024) hx hb dX1_begin_28 (by decide) ?_
          refine lv_icmp_ge (tgt := 47) hx hb dX1_begin_31 (by decide) (fun c_31 => ?_) (fun c_31 => ?_)
          · rw [show i = 1024 by omega] at hP hD
            refine lv_iconst (v := 0) hx hb dX1_begin_47 (by decide) ?_
            refine lv_istore_n (lv' := [(2, .int 0), (0, .ref h0)]) hx hb dX1_begin_48 rfl hl (by decide) rfl (fun ls hl => ?_)
            have hP : va_P D vwCl (tw_M cA cB h0 a0 b0 j (tw_fl F 1024) (tw_gl g 0)) H := by rw [tw_gl_0]; exact hP
            have hD : va_D A (tw_M cA cB h0 a0 b0 j (tw_fl F 1024) (tw_gl g 0)) := by rw [tw_gl_0]; exact hD
            exact loop2 16 0 ls H locs (by omega) hP hD hS (lv_sub hl [1, 0] rfl)
          · exact absurd (nI_le (a := 1024) (by omega) (by omega)) c_31
        | succ n ih =>
          intro i ls H locs hj hP hD hS hl
          refine lv_iload_n hx hb dX1_begin_27 rfl (lv_at hl 1 rfl) ?_
          refine lv_sipush (v := 1024) hx hb dX1_begin_28 (by decide) ?_
          refine lv_icmp_ge (tgt := 47) hx hb dX1_begin_31 (by decide) (fun c_31 => ?_) (fun c_31 => ?_)
          · exact absurd c_31 (nI_ge (b := 1024) (by omega) (by omega))
          · refine lv_aload_n hx hb dX1_begin_34 rfl (lv_at hl 0 rfl) ?_
            refine va_get (D := D) (ci := 1) (v := .ref a0) (C := RX1) (T := TX1) (N := 4) hx hb hts inX1_begin hown hK hP 0 rfl rfl 2 (by decide) (hts _ fX1_begin_7) (fun _ h9 => h9) rfl dX1_begin_35 ?_
            refine lv_iload_n hx hb dX1_begin_38 rfl (lv_at hl 1 rfl) ?_
            refine lv_iconst (v := 0) hx hb dX1_begin_39 (by decide) ?_
            refine tw_st hx hb hK hP hD hS 1 0 rfl rfl (n := i) (v := 0#8) (rfl) (rfl) (by omega) (by decide) dX1_begin_40 (fun H locs hP hD hS => ?_)
            have hP : va_P D vwCl (tw_M cA cB h0 a0 b0 j (va_up (tw_fl F i) (i) (0#8)) g) H := hP
            have hD : va_D A (tw_M cA cB h0 a0 b0 j (va_up (tw_fl F i) (i) (0#8)) g) := hD
            rw [show va_up (tw_fl F i) (i) (0#8) = tw_fl F (i + 1) from tw_fl_s F i] at hP hD
            refine lv_iinc (v := nI (i + 1)) (lv' := [(2, .int (nI (i + 1))), (0, .ref h0)]) hx hb dX1_begin_41 hl (k := 1) rfl (nI_1 i) (by decide) rfl (fun ls hl => ?_)
            refine lv_goto (tgt := 27) hx hb dX1_begin_44 (by decide) ?_
            exact ih (i + 1) ls H locs (by omega) hP hD hS (lv_sub hl [1, 0] rfl)
      refine lv_iconst (v := 0) hx hb dX1_begin_25 (by decide) ?_
      refine lv_istore_n (lv' := [(2, .int 0), (0, .ref h0), (1, .int (nI j))]) hx hb dX1_begin_26 rfl hl (by decide) rfl (fun ls hl => ?_)
      have hP : va_P D vwCl (tw_M cA cB h0 a0 b0 j (tw_fl F 0) g) H := by rw [tw_fl_0]; exact hP
      have hD : va_D A (tw_M cA cB h0 a0 b0 j (tw_fl F 0) g) := by rw [tw_fl_0]; exact hD
      exact loop1 1024 0 ls H locs (by omega) hP hD hS (lv_sub hl [1, 0] rfl)
    · refine lv_iconst (v := (-1)) hx hb dX1_begin_16 (by decide) ?_
      exact hend _ _ _ (k, F, g) _ _ dX1_begin_17 (by rw [← hE, tw_mbegin, if_pos (by first | exact Or.inl c_7 | exact Or.inr c_13)]) hP hD hS
abbrev rmX1_product : Room := { frames := 2, cells := 0, slots := 0, locals := 48 }
theorem inX1_product : ∀ w ∈ wsX10, w ∈ wsX1_product := fun _ h => List.mem_cons_of_mem _ (List.mem_append_right _ h)
theorem fX1_product_21 : Cond.fieldLink RX1 21 "TwinParityModel" "thrown" "I" ∈ wsX1_product := List.mem_of_getElem? (i := 1) rfl
theorem kdX1_product : yX1_product.cls = RX1 ∧ yX1_product.cls ≠ "java/lang/invoke/MethodHandle" ∧ yX1_product.cls ≠ "java/lang/invoke/VarHandle" ∧ (parseMethodDescriptor yX1_product.desc).map (fun d => d.parameters.length) = some 3 := by decide +kernel
set_option maxHeartbeats 4000000 in
set_option maxRecDepth 100000 in
theorem c_X1_product (l : Launch) (D : va_G) (cA cB : ClassId) (h0 a0 b0 k : Nat) (F : Nat → BitVec 8) (g : Nat → Bool) (sz : Nat) (a b z : Int32) : Met l yX1_product wsX1_product rmX1_product (va_Pc [.ref h0, .int a, .int b, .int z] (tw_Pw D (tw_M cA cB h0 a0 b0 k F g) (tw_tM cA cB) sz)) (va_Qi (fun (r : Int32) (u : Nat × (Nat → BitVec 8) × (Nat → Bool)) => (r, u) = (tw_pr a b z, (k, F, g))) (tw_Qw D (fun u : Nat × (Nat → BitVec 8) × (Nat → Bool) => tw_M cA cB h0 a0 b0 u.1 u.2.1 u.2.2) (tw_tM cA cB) (va_A (tw_M cA cB h0 a0 b0 k F g) sz)) (va_A (tw_M cA cB h0 a0 b0 k F g) sz)) 0 0 (va_A (tw_M cA cB h0 a0 b0 k F g) sz) := by
  refine tw_metW (by decide) rfl rfl (Nat.le_of_ble_eq_true rfl) ?_
  intro p e s m args below meth c Q ls A hx hb hml hown hts hP hK hD hS hA hend hl
  have hown : s.vm.findClass RX1 = some m.cls := hown
  have hl : lv_has ls 4 [(0, .ref h0), (1, .int a), (2, .int b), (3, .int z)] := hl
  generalize hE : tw_pr a b z = E at hend
  refine lv_aload_n hx hb dX1_product_0 rfl (lv_at hl 0 rfl) ?_
  refine lv_iconst (v := 0) hx hb dX1_product_1 (by decide) ?_
  refine va_put (D := D) (ci := 1) (v := .int 0) (ty := .int) (C := RX1) (T := TX1) (N := 4) hx hb hts inX1_product tyX1 tyX1_ok nmX1 hown hK hP hD hS 0 rfl rfl 0 (by decide) (hts _ fX1_product_21) (fun _ h9 => h9) rfl (by decide +kernel) rfl rfl (Nat.le_of_ble_eq_true rfl) dX1_product_2 (fun H locs hP hD hS => ?_)
  have hP : va_P D vwCl (tw_M cA cB h0 a0 b0 k F g) H := hP
  have hD : va_D A (tw_M cA cB h0 a0 b0 k F g) := hD
  refine lv_iload_n hx hb dX1_product_5 rfl (lv_at hl 1 rfl) ?_
  refine lv_if_lt (tgt := 35) hx hb dX1_product_6 (by decide) (fun c_6 => ?_) (fun c_6 => ?_)
  · refine lv_iconst (v := (-1)) hx hb dX1_product_35 (by decide) ?_
    exact hend _ _ _ (k, F, g) _ _ dX1_product_36 (by rw [← hE, tw_pr]; first | (rw [tw_el_c c_6]; rfl) | (rw [tw_el_b c_13]; rfl) | (rw [tw_el_c c_17, Bool.false_and, Bool.and_false]; rfl) | (rw [tw_el_b c_24, Bool.false_and, Bool.and_false]; rfl) | (simp [c_28, c_32]; done)) hP hD hS
  · refine lv_iload_n hx hb dX1_product_9 rfl (lv_at hl 1 rfl) ?_
    refine lv_sipush (v := 255) hx hb dX1_product_10 (by decide) ?_
    refine lv_icmp_gt (tgt := 35) hx hb dX1_product_13 (by decide) (fun c_13 => ?_) (fun c_13 => ?_)
    · refine lv_iconst (v := (-1)) hx hb dX1_product_35 (by decide) ?_
      exact hend _ _ _ (k, F, g) _ _ dX1_product_36 (by rw [← hE, tw_pr]; first | (rw [tw_el_c c_6]; rfl) | (rw [tw_el_b c_13]; rfl) | (rw [tw_el_c c_17, Bool.false_and, Bool.and_false]; rfl) | (rw [tw_el_b c_24, Bool.false_and, Bool.and_false]; rfl) | (simp [c_28, c_32]; done)) hP hD hS
    · refine lv_iload_n hx hb dX1_product_16 rfl (lv_at hl 2 rfl) ?_
      refine lv_if_lt (tgt := 35) hx hb dX1_product_17 (by decide) (fun c_17 => ?_) (fun c_17 => ?_)
      · refine lv_iconst (v := (-1)) hx hb dX1_product_35 (by decide) ?_
        exact hend _ _ _ (k, F, g) _ _ dX1_product_36 (by rw [← hE, tw_pr]; first | (rw [tw_el_c c_6]; rfl) | (rw [tw_el_b c_13]; rfl) | (rw [tw_el_c c_17, Bool.false_and, Bool.and_false]; rfl) | (rw [tw_el_b c_24, Bool.false_and, Bool.and_false]; rfl) | (simp [c_28, c_32]; done)) hP hD hS
      · refine lv_iload_n hx hb dX1_product_20 rfl (lv_at hl 2 rfl) ?_
        refine lv_sipush (v := 255) hx hb dX1_product_21 (by decide) ?_
        refine lv_icmp_gt (tgt := 35) hx hb dX1_product_24 (by decide) (fun c_24 => ?_) (fun c_24 => ?_)
        · refine lv_iconst (v := (-1)) hx hb dX1_product_35 (by decide) ?_
          exact hend _ _ _ (k, F, g) _ _ dX1_product_36 (by rw [← hE, tw_pr]; first | (rw [tw_el_c c_6]; rfl) | (rw [tw_el_b c_13]; rfl) | (rw [tw_el_c c_17, Bool.false_and, Bool.and_false]; rfl) | (rw [tw_el_b c_24, Bool.false_and, Bool.and_false]; rfl) | (simp [c_28, c_32]; done)) hP hD hS
        · refine lv_iload_n hx hb dX1_product_27 rfl (lv_at hl 3 rfl) ?_
          refine lv_if_eq (tgt := 37) hx hb dX1_product_28 (by decide) (fun c_28 => ?_) (fun c_28 => ?_)
          · have ea : tw_el a = true := tw_el_a c_6 c_13
            have eb : tw_el b = true := tw_el_a c_17 c_24
            obtain ⟨a2, rfl⟩ := tw_elD ea
            obtain ⟨b2, rfl⟩ := tw_elD eb
            refine lv_iload_n hx hb dX1_product_37 rfl (lv_at hl 3 rfl) ?_
            refine lv_if_eq (tgt := 50) hx hb dX1_product_38 (by decide) (fun c_38 => ?_) (fun c_38 => ?_)
            · refine lv_aload_n hx hb dX1_product_50 rfl (lv_at hl 0 rfl) ?_
              refine lv_iload_n hx hb dX1_product_51 rfl (lv_at hl 1 rfl) ?_
              refine lv_iload_n hx hb dX1_product_52 rfl (lv_at hl 2 rfl) ?_
              refine tw_rM ⟨hx, hb, hml, hown, hts⟩ hK hP (c_X1_times l D cA cB h0 a0 b0 k F g a2 b2) (cwV 2 hts gX1_product_X1_times rfl rfl rfl kdX1_times ⟨Nat.le_of_ble_eq_true rfl, Nat.le_of_ble_eq_true rfl⟩) rfl hl.1 rfl (Nat.le_of_ble_eq_true rfl) dX1_product_53 ⟨Nat.zero_le _, Nat.zero_le _⟩ ?_
              exact hend _ _ _ (k, F, g) _ _ dX1_product_56 (by first | (exact absurd c_28 c_38) | (exact absurd c_38 c_28) | (rw [← hE, tw_pr, ea, eb, tq_bv_eb, tq_bv_eb]; first | (simp [c_28]; done) | (simp [c_28, c_32]; done))) hP hD hS
            · refine lv_aload_n hx hb dX1_product_41 rfl (lv_at hl 0 rfl) ?_
              refine lv_iload_n hx hb dX1_product_42 rfl (lv_at hl 1 rfl) ?_
              refine lv_iload_n hx hb dX1_product_43 rfl (lv_at hl 2 rfl) ?_
              refine tw_rM ⟨hx, hb, hml, hown, hts⟩ hK hP (c_X1_part l D cA cB h0 a0 b0 k F g a2 b2 (by first | (exact absurd c_28 c_38) | (intro h9; exact c_32 (by rw [h9]; rfl)))) (cwV 2 hts gX1_product_X1_part rfl rfl rfl kdX1_part ⟨Nat.le_of_ble_eq_true rfl, Nat.le_of_ble_eq_true rfl⟩) rfl hl.1 rfl (Nat.le_of_ble_eq_true rfl) dX1_product_44 ⟨Nat.zero_le _, Nat.zero_le _⟩ ?_
              refine lv_goto (tgt := 56) hx hb dX1_product_47 (by decide) ?_
              exact hend _ _ _ (k, F, g) _ _ dX1_product_56 (by first | (exact absurd c_28 c_38) | (exact absurd c_38 c_28) | (rw [← hE, tw_pr, ea, eb, tq_bv_eb, tq_bv_eb]; first | (simp [c_28]; done) | (simp [c_28, c_32]; done))) hP hD hS
          · refine lv_iload_n hx hb dX1_product_31 rfl (lv_at hl 2 rfl) ?_
            refine lv_if_ne (tgt := 37) hx hb dX1_product_32 (by decide) (fun c_32 => ?_) (fun c_32 => ?_)
            · have ea : tw_el a = true := tw_el_a c_6 c_13
              have eb : tw_el b = true := tw_el_a c_17 c_24
              obtain ⟨a2, rfl⟩ := tw_elD ea
              obtain ⟨b2, rfl⟩ := tw_elD eb
              refine lv_iload_n hx hb dX1_product_37 rfl (lv_at hl 3 rfl) ?_
              refine lv_if_eq (tgt := 50) hx hb dX1_product_38 (by decide) (fun c_38 => ?_) (fun c_38 => ?_)
              · refine lv_aload_n hx hb dX1_product_50 rfl (lv_at hl 0 rfl) ?_
                refine lv_iload_n hx hb dX1_product_51 rfl (lv_at hl 1 rfl) ?_
                refine lv_iload_n hx hb dX1_product_52 rfl (lv_at hl 2 rfl) ?_
                refine tw_rM ⟨hx, hb, hml, hown, hts⟩ hK hP (c_X1_times l D cA cB h0 a0 b0 k F g a2 b2) (cwV 2 hts gX1_product_X1_times rfl rfl rfl kdX1_times ⟨Nat.le_of_ble_eq_true rfl, Nat.le_of_ble_eq_true rfl⟩) rfl hl.1 rfl (Nat.le_of_ble_eq_true rfl) dX1_product_53 ⟨Nat.zero_le _, Nat.zero_le _⟩ ?_
                exact hend _ _ _ (k, F, g) _ _ dX1_product_56 (by first | (exact absurd c_28 c_38) | (exact absurd c_38 c_28) | (rw [← hE, tw_pr, ea, eb, tq_bv_eb, tq_bv_eb]; first | (simp [c_28]; done) | (simp [c_28, c_32]; done))) hP hD hS
              · refine lv_aload_n hx hb dX1_product_41 rfl (lv_at hl 0 rfl) ?_
                refine lv_iload_n hx hb dX1_product_42 rfl (lv_at hl 1 rfl) ?_
                refine lv_iload_n hx hb dX1_product_43 rfl (lv_at hl 2 rfl) ?_
                refine tw_rM ⟨hx, hb, hml, hown, hts⟩ hK hP (c_X1_part l D cA cB h0 a0 b0 k F g a2 b2 (by first | (exact absurd c_28 c_38) | (intro h9; exact c_32 (by rw [h9]; rfl)))) (cwV 2 hts gX1_product_X1_part rfl rfl rfl kdX1_part ⟨Nat.le_of_ble_eq_true rfl, Nat.le_of_ble_eq_true rfl⟩) rfl hl.1 rfl (Nat.le_of_ble_eq_true rfl) dX1_product_44 ⟨Nat.zero_le _, Nat.zero_le _⟩ ?_
                refine lv_goto (tgt := 56) hx hb dX1_product_47 (by decide) ?_
                exact hend _ _ _ (k, F, g) _ _ dX1_product_56 (by first | (exact absurd c_28 c_38) | (exact absurd c_38 c_28) | (rw [← hE, tw_pr, ea, eb, tq_bv_eb, tq_bv_eb]; first | (simp [c_28]; done) | (simp [c_28, c_32]; done))) hP hD hS
            · refine lv_iconst (v := (-1)) hx hb dX1_product_35 (by decide) ?_
              exact hend _ _ _ (k, F, g) _ _ dX1_product_36 (by rw [← hE, tw_pr]; first | (rw [tw_el_c c_6]; rfl) | (rw [tw_el_b c_13]; rfl) | (rw [tw_el_c c_17, Bool.false_and, Bool.and_false]; rfl) | (rw [tw_el_b c_24, Bool.false_and, Bool.and_false]; rfl) | (simp [c_28, c_32]; done)) hP hD hS
abbrev rmX1_power : Room := { frames := 2, cells := 0, slots := 0, locals := 48 }
theorem inX1_power : ∀ w ∈ wsX10, w ∈ wsX1_power := fun _ h => List.mem_cons_of_mem _ (List.mem_append_right _ h)
theorem fX1_power_21 : Cond.fieldLink RX1 21 "TwinParityModel" "thrown" "I" ∈ wsX1_power := List.mem_of_getElem? (i := 1) rfl
theorem kdX1_power : yX1_power.cls = RX1 ∧ yX1_power.cls ≠ "java/lang/invoke/MethodHandle" ∧ yX1_power.cls ≠ "java/lang/invoke/VarHandle" ∧ (parseMethodDescriptor yX1_power.desc).map (fun d => d.parameters.length) = some 1 := by decide +kernel
set_option maxHeartbeats 4000000 in
set_option maxRecDepth 100000 in
theorem c_X1_power (l : Launch) (D : va_G) (cA cB : ClassId) (h0 a0 b0 k : Nat) (F : Nat → BitVec 8) (g : Nat → Bool) (sz : Nat) (x : Int32) : Met l yX1_power wsX1_power rmX1_power (va_Pc [.ref h0, .int x] (tw_Pw D (tw_M cA cB h0 a0 b0 k F g) (tw_tM cA cB) sz)) (va_Qi (fun (r : Int32) (u : Nat × (Nat → BitVec 8) × (Nat → Bool)) => (r, u) = (tq_eb (tq_p (tw_fm x) 1#8), (k, F, g))) (tw_Qw D (fun u : Nat × (Nat → BitVec 8) × (Nat → Bool) => tw_M cA cB h0 a0 b0 u.1 u.2.1 u.2.2) (tw_tM cA cB) (va_A (tw_M cA cB h0 a0 b0 k F g) sz)) (va_A (tw_M cA cB h0 a0 b0 k F g) sz)) 0 0 (va_A (tw_M cA cB h0 a0 b0 k F g) sz) := by
  refine tw_metW (by decide) rfl rfl (Nat.le_of_ble_eq_true rfl) ?_
  intro p e s m args below meth c Q ls A hx hb hml hown hts hP hK hD hS hA hend hl
  have hown : s.vm.findClass RX1 = some m.cls := hown
  have hl : lv_has ls 3 [(0, .ref h0), (1, .int x)] := hl
  refine lv_aload_n hx hb dX1_power_0 rfl (lv_at hl 0 rfl) ?_
  refine lv_iconst (v := 0) hx hb dX1_power_1 (by decide) ?_
  refine va_put (D := D) (ci := 1) (v := .int 0) (ty := .int) (C := RX1) (T := TX1) (N := 4) hx hb hts inX1_power tyX1 tyX1_ok nmX1 hown hK hP hD hS 0 rfl rfl 0 (by decide) (hts _ fX1_power_21) (fun _ h9 => h9) rfl (by decide +kernel) rfl rfl (Nat.le_of_ble_eq_true rfl) dX1_power_2 (fun H locs hP hD hS => ?_)
  have hP : va_P D vwCl (tw_M cA cB h0 a0 b0 k F g) H := hP
  have hD : va_D A (tw_M cA cB h0 a0 b0 k F g) := hD
  refine lv_iload_n hx hb dX1_power_5 rfl (lv_at hl 1 rfl) ?_
  refine lv_sipush (v := 255) hx hb dX1_power_6 (by decide) ?_
  refine lv_irem hx hb dX1_power_9 (by decide) ?_
  refine lv_topi (fun x2_10 ex2_10 => ?_)
  refine lv_istore_n (lv' := [(2, .int x2_10), (0, .ref h0), (1, .int x)]) hx hb dX1_power_10 rfl hl (by decide) rfl (fun ls hl => ?_)
  refine lv_aload_n hx hb dX1_power_11 rfl (lv_at hl 1 rfl) ?_
  refine lv_iload_n hx hb dX1_power_12 rfl (lv_at hl 0 rfl) ?_
  refine lv_if_ge (tgt := 24) hx hb dX1_power_13 (by decide) (fun c_13 => ?_) (fun c_13 => ?_)
  · refine lv_iload_n hx hb dX1_power_24 rfl (lv_at hl 0 rfl) ?_
    refine tw_topr (x' := nI (tw_fm x)) (by rw [ex2_10] at c_13 ⊢; first | exact tw_fmA (Int32.not_lt.mpr c_13) | exact tw_fmB (Int32.not_le.mp c_13)) ?_
    refine tw_rM ⟨hx, hb, hml, hown, hts⟩ hK hP (c_X1_twos l D cA cB h0 a0 b0 k F g (tw_fm x) (by have := tw_fm_lt x; omega)) (cwV 1 hts gX1_power_X1_twos rfl rfl rfl kdX1_twos ⟨Nat.le_of_ble_eq_true rfl, Nat.le_of_ble_eq_true rfl⟩) rfl hl.1 rfl (Nat.le_of_ble_eq_true rfl) dX1_power_25 ⟨Nat.zero_le _, Nat.zero_le _⟩ ?_
    exact hend _ _ _ (k, F, g) _ _ dX1_power_28 (rfl) hP hD hS
  · refine lv_iload_n hx hb dX1_power_16 rfl (lv_at hl 0 rfl) ?_
    refine lv_sipush (v := 255) hx hb dX1_power_17 (by decide) ?_
    refine lv_iadd hx hb dX1_power_20 ?_
    refine lv_goto (tgt := 25) hx hb dX1_power_21 (by decide) ?_
    refine tw_topr (x' := nI (tw_fm x)) (by rw [ex2_10] at c_13 ⊢; first | exact tw_fmA (Int32.not_lt.mpr c_13) | exact tw_fmB (Int32.not_le.mp c_13)) ?_
    refine tw_rM ⟨hx, hb, hml, hown, hts⟩ hK hP (c_X1_twos l D cA cB h0 a0 b0 k F g (tw_fm x) (by have := tw_fm_lt x; omega)) (cwV 1 hts gX1_power_X1_twos rfl rfl rfl kdX1_twos ⟨Nat.le_of_ble_eq_true rfl, Nat.le_of_ble_eq_true rfl⟩) rfl hl.1 rfl (Nat.le_of_ble_eq_true rfl) dX1_power_25 ⟨Nat.zero_le _, Nat.zero_le _⟩ ?_
    exact hend _ _ _ (k, F, g) _ _ dX1_power_28 (rfl) hP hD hS
def tw_mst (k u i : Nat) (now : BitVec 8) (G : Nat → BitVec 8) : Nat → BitVec 8 :=
  tw_ch (tw_ch (va_up G (64 * u + i) now) k i (G (64 * u + i) ^^^ now)) (k + 1) i (tq_p u (G (64 * u + i) ^^^ now))
def tw_mps (k u i : Nat) (v : Int64) (F : Nat → BitVec 8) : Nat → Nat → BitVec 8
  | 0 => F
  | j + 1 => tw_mst k u (i + j) (tw_by v j) (tw_mps k u i v F j)
def tw_mput (k : Nat) (F : Nat → BitVec 8) (g : Nat → Bool) (x z n : Int32) (v : Int64) : Int32 × (Nat × (Nat → BitVec 8) × (Nat → Bool)) := if !decide (x < 0) && (!decide (nI k ≤ x) && (!g x.toNatClampNeg && tw_sp z n 8)) then (n, (k, tw_mps k x.toNatClampNeg z.toNatClampNeg v F n.toNatClampNeg, g)) else (-1, (k, F, g))
abbrev rmX1_put : Room := { frames := 2, cells := 0, slots := 0, locals := 48 }
theorem inX1_put : ∀ w ∈ wsX10, w ∈ wsX1_put := fun _ h => List.mem_cons_of_mem _ (List.mem_append_right _ h)
theorem fX1_put_21 : Cond.fieldLink RX1 21 "TwinParityModel" "thrown" "I" ∈ wsX1_put := List.mem_of_getElem? (i := 1) rfl
theorem fX1_put_13 : Cond.fieldLink RX1 13 "TwinParityModel" "lost" "[Z" ∈ wsX1_put := List.mem_of_getElem? (i := 2) rfl
theorem fX1_put_42 : Cond.constantLong RX1 42 (255) ∈ wsX1_put := List.mem_of_getElem? (i := 3) rfl
theorem fX1_put_7 : Cond.fieldLink RX1 7 "TwinParityModel" "bytes" "[I" ∈ wsX1_put := List.mem_of_getElem? (i := 4) rfl
theorem fX1_put_25 : Cond.fieldLink RX1 25 "TwinParityModel" "units" "I" ∈ wsX1_put := List.mem_of_getElem? (i := 10) rfl
theorem kdX1_put : yX1_put.cls = RX1 ∧ yX1_put.cls ≠ "java/lang/invoke/MethodHandle" ∧ yX1_put.cls ≠ "java/lang/invoke/VarHandle" ∧ (parseMethodDescriptor yX1_put.desc).map (fun d => d.parameters.length) = some 4 := by decide +kernel
set_option maxHeartbeats 4000000 in
set_option maxRecDepth 100000 in
theorem c_X1_put (l : Launch) (D : va_G) (cA cB : ClassId) (h0 a0 b0 k : Nat) (F : Nat → BitVec 8) (g : Nat → Bool) (sz : Nat) (x z n : Int32) (v : Int64) (hk : k ≤ 14) : Met l yX1_put wsX1_put rmX1_put (va_Pc [.ref h0, .int x, .int z, .int n, .long v] (tw_Pw D (tw_M cA cB h0 a0 b0 k F g) (tw_tM cA cB) sz)) (va_Qi (fun (r : Int32) (u : Nat × (Nat → BitVec 8) × (Nat → Bool)) => (r, u) = tw_mput k F g x z n v) (tw_Qw D (fun u : Nat × (Nat → BitVec 8) × (Nat → Bool) => tw_M cA cB h0 a0 b0 u.1 u.2.1 u.2.2) (tw_tM cA cB) (va_A (tw_M cA cB h0 a0 b0 k F g) sz)) (va_A (tw_M cA cB h0 a0 b0 k F g) sz)) 0 0 (va_A (tw_M cA cB h0 a0 b0 k F g) sz) := by
  refine tw_metW (by decide) rfl rfl (Nat.le_of_ble_eq_true rfl) ?_
  intro p e s m args below meth c Q ls A hx hb hml hown hts hP hK hD hS hA hend hl
  have hown : s.vm.findClass RX1 = some m.cls := hown
  have hl : lv_has ls 10 [(0, .ref h0), (1, .int x), (2, .int z), (3, .int n), (4, .long v)] := hl
  generalize hE : tw_mput k F g x z n v = E at hend
  refine lv_aload_n hx hb dX1_put_0 rfl (lv_at hl 0 rfl) ?_
  refine lv_iconst (v := 0) hx hb dX1_put_1 (by decide) ?_
  refine va_put (D := D) (ci := 1) (v := .int 0) (ty := .int) (C := RX1) (T := TX1) (N := 4) hx hb hts inX1_put tyX1 tyX1_ok nmX1 hown hK hP hD hS 0 rfl rfl 0 (by decide) (hts _ fX1_put_21) (fun _ h9 => h9) rfl (by decide +kernel) rfl rfl (Nat.le_of_ble_eq_true rfl) dX1_put_2 (fun H locs hP hD hS => ?_)
  have hP : va_P D vwCl (tw_M cA cB h0 a0 b0 k F g) H := hP
  have hD : va_D A (tw_M cA cB h0 a0 b0 k F g) := hD
  refine lv_iload_n hx hb dX1_put_5 rfl (lv_at hl 1 rfl) ?_
  refine lv_if_lt (tgt := 49) hx hb dX1_put_6 (by decide) (fun c_6 => ?_) (fun c_6 => ?_)
  · refine lv_iconst (v := (-1)) hx hb dX1_put_49 (by decide) ?_
    exact hend _ _ _ (k, F, g) _ _ dX1_put_50 (by rw [← hE, tw_mput, if_neg (by first | (simp [c_6]; done) | (simp [c_14]; done) | (simp [hcu, c_23]; done) | (simp [tw_sp, c_28]; done) | (simp [tw_sp, c_34]; done) | (simp [tw_sp, c_38]; done) | (simp [tw_sp, Int32.not_le.mp c_46]; done))]) hP hD hS
  · refine lv_iload_n hx hb dX1_put_9 rfl (lv_at hl 1 rfl) ?_
    refine lv_aload_n hx hb dX1_put_10 rfl (lv_at hl 0 rfl) ?_
    refine tw_rM ⟨hx, hb, hml, hown, hts⟩ hK hP (c_X1_p l D cA cB h0 a0 b0 k F g ) (cwV 0 hts gX1_put_X1_p rfl rfl rfl kdX1_p ⟨Nat.le_of_ble_eq_true rfl, Nat.le_of_ble_eq_true rfl⟩) rfl hl.1 rfl (Nat.le_of_ble_eq_true rfl) dX1_put_11 ⟨Nat.zero_le _, Nat.zero_le _⟩ ?_
    refine lv_icmp_ge (tgt := 49) hx hb dX1_put_14 (by decide) (fun c_14 => ?_) (fun c_14 => ?_)
    · refine lv_iconst (v := (-1)) hx hb dX1_put_49 (by decide) ?_
      exact hend _ _ _ (k, F, g) _ _ dX1_put_50 (by rw [← hE, tw_mput, if_neg (by first | (simp [c_6]; done) | (simp [c_14]; done) | (simp [hcu, c_23]; done) | (simp [tw_sp, c_28]; done) | (simp [tw_sp, c_34]; done) | (simp [tw_sp, c_38]; done) | (simp [tw_sp, Int32.not_le.mp c_46]; done))]) hP hD hS
    · obtain ⟨u, hu0, rfl⟩ := nI_of c_6
      have huk : u < k := by rcases Nat.lt_or_ge u k with h9 | h9; exact h9; exact absurd (nI_le h9 (by omega)) c_14
      have hcu : (nI u).toNatClampNeg = u := nI_clamp (by omega)
      refine lv_aload_n hx hb dX1_put_17 rfl (lv_at hl 0 rfl) ?_
      refine va_get (D := D) (ci := 1) (v := .ref b0) (C := RX1) (T := TX1) (N := 4) hx hb hts inX1_put hown hK hP 0 rfl rfl 3 (by decide) (hts _ fX1_put_13) (fun _ h9 => h9) rfl dX1_put_18 ?_
      refine lv_iload_n hx hb dX1_put_21 rfl (lv_at hl 1 rfl) ?_
      refine tw_lz hx hb hK hP 2 1 rfl rfl (n := u) (rfl) (by omega) (by decide) dX1_put_22 ?_
      refine lv_if_ne (tgt := 49) hx hb dX1_put_23 (by decide) (fun c_23 => ?_) (fun c_23 => ?_)
      · rw [tw_bI1] at c_23
        refine lv_iconst (v := (-1)) hx hb dX1_put_49 (by decide) ?_
        exact hend _ _ _ (k, F, g) _ _ dX1_put_50 (by rw [← hE, tw_mput, if_neg (by first | (simp [c_6]; done) | (simp [c_14]; done) | (simp [hcu, c_23]; done) | (simp [tw_sp, c_28]; done) | (simp [tw_sp, c_34]; done) | (simp [tw_sp, c_38]; done) | (simp [tw_sp, Int32.not_le.mp c_46]; done))]) hP hD hS
      · rw [tw_bI0] at c_23
        refine lv_iload_n hx hb dX1_put_26 rfl (lv_at hl 3 rfl) ?_
        refine lv_iconst (v := 1) hx hb dX1_put_27 (by decide) ?_
        refine lv_icmp_lt (tgt := 49) hx hb dX1_put_28 (by decide) (fun c_28 => ?_) (fun c_28 => ?_)
        · refine lv_iconst (v := (-1)) hx hb dX1_put_49 (by decide) ?_
          exact hend _ _ _ (k, F, g) _ _ dX1_put_50 (by rw [← hE, tw_mput, if_neg (by first | (simp [c_6]; done) | (simp [c_14]; done) | (simp [hcu, c_23]; done) | (simp [tw_sp, c_28]; done) | (simp [tw_sp, c_34]; done) | (simp [tw_sp, c_38]; done) | (simp [tw_sp, Int32.not_le.mp c_46]; done))]) hP hD hS
        · refine lv_iload_n hx hb dX1_put_31 rfl (lv_at hl 3 rfl) ?_
          refine lv_bipush (v := 8) hx hb dX1_put_32 (by decide) ?_
          refine lv_icmp_gt (tgt := 49) hx hb dX1_put_34 (by decide) (fun c_34 => ?_) (fun c_34 => ?_)
          · refine lv_iconst (v := (-1)) hx hb dX1_put_49 (by decide) ?_
            exact hend _ _ _ (k, F, g) _ _ dX1_put_50 (by rw [← hE, tw_mput, if_neg (by first | (simp [c_6]; done) | (simp [c_14]; done) | (simp [hcu, c_23]; done) | (simp [tw_sp, c_28]; done) | (simp [tw_sp, c_34]; done) | (simp [tw_sp, c_38]; done) | (simp [tw_sp, Int32.not_le.mp c_46]; done))]) hP hD hS
          · refine lv_iload_n hx hb dX1_put_37 rfl (lv_at hl 2 rfl) ?_
            refine lv_if_lt (tgt := 49) hx hb dX1_put_38 (by decide) (fun c_38 => ?_) (fun c_38 => ?_)
            · refine lv_iconst (v := (-1)) hx hb dX1_put_49 (by decide) ?_
              exact hend _ _ _ (k, F, g) _ _ dX1_put_50 (by rw [← hE, tw_mput, if_neg (by first | (simp [c_6]; done) | (simp [c_14]; done) | (simp [hcu, c_23]; done) | (simp [tw_sp, c_28]; done) | (simp [tw_sp, c_34]; done) | (simp [tw_sp, c_38]; done) | (simp [tw_sp, Int32.not_le.mp c_46]; done))]) hP hD hS
            · refine lv_iload_n hx hb dX1_put_41 rfl (lv_at hl 2 rfl) ?_
              refine lv_bipush (v := 64) hx hb dX1_put_42 (by decide) ?_
              refine lv_iload_n hx hb dX1_put_44 rfl (lv_at hl 3 rfl) ?_
              refine lv_isub hx hb dX1_put_45 ?_
              refine lv_icmp_le (tgt := 51) hx hb dX1_put_46 (by decide) (fun c_46 => ?_) (fun c_46 => ?_)
              · have hsp : tw_sp z n 8 = true := by simp [tw_sp, c_28, c_34, c_38, Int32.not_lt.mpr c_46]
                have hsp2 := hsp
                obtain ⟨i, q, rfl, rfl, hq1, hq2, hiq⟩ := tw_spD (mm := 8) (by decide) hsp2
                have loop : ∀ (n j : Nat) (ls : Array Slot) (H : Heap) (locs : List Loc), j + n = q → va_P D vwCl (tw_M cA cB h0 a0 b0 k (tw_mps k u i v F j) g) H → va_D A (tw_M cA cB h0 a0 b0 k (tw_mps k u i v F j) g) → va_S A s.heap H locs → lv_has ls 10 [(0, .ref h0), (1, .int (nI u)), (2, .int (nI i)), (3, .int (nI q)), (4, .long v), (6, .int (nI j))] → W p l e rmX1_put s m args below meth c H locs 0 0 Q (F0 m 54 ls []) := by
                  intro n
                  induction n with
                  | zero =>
                    intro j ls H locs hj hP hD hS hl
                    refine lv_iload hx hb dX1_put_54 (lv_at hl 5 rfl) ?_
                    refine lv_iload_n hx hb dX1_put_56 rfl (lv_at hl 3 rfl) ?_
                    refine lv_icmp_ge (tgt := 167) hx hb dX1_put_57 (by decide) (fun c_57 => ?_) (fun c_57 => ?_)
                    · refine lv_iload_n hx hb dX1_put_167 rfl (lv_at hl 3 rfl) ?_
                      rw [show j = q by omega] at hP hD
                      exact hend _ _ _ (k, tw_mps k u i v F q, g) _ _ dX1_put_168 (by rw [← hE, tw_mput, hcu, hsp]; simp [c_6, c_14, c_23, nI_clamp (show i < 2 ^ 31 by omega), nI_clamp (show q < 2 ^ 31 by omega)]) hP hD hS
                    · exact absurd (nI_le (by omega) (by omega)) c_57
                  | succ n ih =>
                    intro j ls H locs hj hP hD hS hl
                    refine lv_iload hx hb dX1_put_54 (lv_at hl 5 rfl) ?_
                    refine lv_iload_n hx hb dX1_put_56 rfl (lv_at hl 3 rfl) ?_
                    refine lv_icmp_ge (tgt := 167) hx hb dX1_put_57 (by decide) (fun c_57 => ?_) (fun c_57 => ?_)
                    · exact absurd c_57 (nI_ge (by omega) (by omega))
                    · refine lv_iload_n hx hb dX1_put_60 rfl (lv_at hl 2 rfl) ?_
                      refine lv_iload hx hb dX1_put_61 (lv_at hl 5 rfl) ?_
                      refine lv_iadd hx hb dX1_put_63 ?_
                      refine tw_topr (x' := nI (i + j)) (nI_add i j) ?_
                      refine lv_istore (lv' := [(7, .int (nI (i + j))), (0, .ref h0), (1, .int (nI u)), (2, .int (nI i)), (3, .int (nI q)), (4, .long v), (6, .int (nI j))]) hx hb dX1_put_64 hl (by decide) rfl (fun ls hl => ?_)
                      refine lv_lload hx hb dX1_put_66 (lv_at hl 5 rfl) ?_
                      refine lv_bipush (v := 8) hx hb dX1_put_68 (by decide) ?_
                      refine lv_iload hx hb dX1_put_70 (lv_at hl 6 rfl) ?_
                      refine lv_imul hx hb dX1_put_72 ?_
                      refine lv_lshr hx hb dX1_put_73 rfl ?_
                      refine lv_ldc2 (v := 255) hx hb hown (hts _ fX1_put_42) dX1_put_74 ?_
                      refine lv_land hx hb dX1_put_77 ?_
                      refine lv_l2i hx hb dX1_put_78 rfl ?_
                      refine tw_topr (x' := tq_eb (tw_by v j)) (tw_by_m v j (by omega)) ?_
                      refine lv_istore (lv' := [(8, .int (tq_eb (tw_by v j))), (7, .int (nI (i + j))), (0, .ref h0), (1, .int (nI u)), (2, .int (nI i)), (3, .int (nI q)), (4, .long v), (6, .int (nI j))]) hx hb dX1_put_79 hl (by decide) rfl (fun ls hl => ?_)
                      refine lv_aload_n hx hb dX1_put_81 rfl (lv_at hl 2 rfl) ?_
                      refine va_get (D := D) (ci := 1) (v := .ref a0) (C := RX1) (T := TX1) (N := 4) hx hb hts inX1_put hown hK hP 0 rfl rfl 2 (by decide) (hts _ fX1_put_7) (fun _ h9 => h9) rfl dX1_put_82 ?_
                      refine lv_bipush (v := 64) hx hb dX1_put_85 (by decide) ?_
                      refine lv_iload_n hx hb dX1_put_87 rfl (lv_at hl 3 rfl) ?_
                      refine lv_imul hx hb dX1_put_88 ?_
                      refine lv_iload hx hb dX1_put_89 (lv_at hl 1 rfl) ?_
                      refine lv_iadd hx hb dX1_put_91 ?_
                      refine tw_ld hx hb hK hP 1 0 rfl rfl (n := 64 * u + (i + j)) (tw_ix' u (i + j)) (by omega) (by decide) dX1_put_92 ?_
                      refine lv_iload hx hb dX1_put_93 (lv_at hl 0 rfl) ?_
                      refine lv_ixor hx hb dX1_put_95 ?_
                      refine tw_topr (x' := tq_eb ((tw_mps k u i v F j) (64 * u + (i + j)) ^^^ tw_by v j)) (tq_eb_xor _ _) ?_
                      refine lv_istore (lv' := [(9, .int (tq_eb ((tw_mps k u i v F j) (64 * u + (i + j)) ^^^ tw_by v j))), (8, .int (tq_eb (tw_by v j))), (7, .int (nI (i + j))), (0, .ref h0), (1, .int (nI u)), (2, .int (nI i)), (3, .int (nI q)), (4, .long v), (6, .int (nI j))]) hx hb dX1_put_96 hl (by decide) rfl (fun ls hl => ?_)
                      refine lv_aload_n hx hb dX1_put_98 rfl (lv_at hl 3 rfl) ?_
                      refine va_get (D := D) (ci := 1) (v := .ref a0) (C := RX1) (T := TX1) (N := 4) hx hb hts inX1_put hown hK hP 0 rfl rfl 2 (by decide) (hts _ fX1_put_7) (fun _ h9 => h9) rfl dX1_put_99 ?_
                      refine lv_bipush (v := 64) hx hb dX1_put_102 (by decide) ?_
                      refine lv_iload_n hx hb dX1_put_104 rfl (lv_at hl 4 rfl) ?_
                      refine lv_imul hx hb dX1_put_105 ?_
                      refine lv_iload hx hb dX1_put_106 (lv_at hl 2 rfl) ?_
                      refine lv_iadd hx hb dX1_put_108 ?_
                      refine tw_topr (x' := nI (64 * u + (i + j))) (tw_ix' u (i + j)) ?_
                      refine lv_iload hx hb dX1_put_109 (lv_at hl 1 rfl) ?_
                      refine tw_st hx hb hK hP hD hS 1 0 rfl rfl (n := 64 * u + (i + j)) (v := tw_by v j) (rfl) (rfl) (by omega) (by decide) dX1_put_111 (fun H locs hP hD hS => ?_)
                      have hP : va_P D vwCl (tw_M cA cB h0 a0 b0 k (va_up (tw_mps k u i v F j) (64 * u + (i + j)) (tw_by v j)) g) H := hP
                      have hD : va_D A (tw_M cA cB h0 a0 b0 k (va_up (tw_mps k u i v F j) (64 * u + (i + j)) (tw_by v j)) g) := hD
                      refine lv_aload_n hx hb dX1_put_112 rfl (lv_at hl 3 rfl) ?_
                      refine va_get (D := D) (ci := 1) (v := .ref a0) (C := RX1) (T := TX1) (N := 4) hx hb hts inX1_put hown hK hP 0 rfl rfl 2 (by decide) (hts _ fX1_put_7) (fun _ h9 => h9) rfl dX1_put_113 ?_
                      refine lv_bipush (v := 64) hx hb dX1_put_116 (by decide) ?_
                      refine lv_aload_n hx hb dX1_put_118 rfl (lv_at hl 3 rfl) ?_
                      refine tw_rM ⟨hx, hb, hml, hown, hts⟩ hK hP (c_X1_p l D cA cB h0 a0 b0 k (va_up (tw_mps k u i v F j) (64 * u + (i + j)) (tw_by v j)) g ) (cwV 0 hts gX1_put_X1_p rfl rfl rfl kdX1_p ⟨Nat.le_of_ble_eq_true rfl, Nat.le_of_ble_eq_true rfl⟩) rfl hl.1 rfl (Nat.le_of_ble_eq_true rfl) dX1_put_119 ⟨Nat.zero_le _, Nat.zero_le _⟩ ?_
                      refine lv_imul hx hb dX1_put_122 ?_
                      refine lv_iload hx hb dX1_put_123 (lv_at hl 2 rfl) ?_
                      refine lv_iadd hx hb dX1_put_125 ?_
                      refine tw_topr (x' := nI (64 * k + (i + j))) (tw_ix' k (i + j)) ?_
                      refine lv_dup2_11 hx hb dX1_put_126 rfl rfl ?_
                      refine tw_ld hx hb hK hP 1 0 rfl rfl (n := 64 * k + (i + j)) (rfl) (by omega) (by decide) dX1_put_127 ?_
                      refine lv_iload hx hb dX1_put_128 (lv_at hl 0 rfl) ?_
                      refine lv_ixor hx hb dX1_put_130 ?_
                      refine tw_st hx hb hK hP hD hS 1 0 rfl rfl (n := 64 * k + (i + j)) (v := (va_up (tw_mps k u i v F j) (64 * u + (i + j)) (tw_by v j)) (64 * k + (i + j)) ^^^ ((tw_mps k u i v F j) (64 * u + (i + j)) ^^^ tw_by v j)) (rfl) (tq_eb_xor _ _) (by omega) (by decide) dX1_put_131 (fun H locs hP hD hS => ?_)
                      have hP : va_P D vwCl (tw_M cA cB h0 a0 b0 k (va_up (va_up (tw_mps k u i v F j) (64 * u + (i + j)) (tw_by v j)) (64 * k + (i + j)) ((va_up (tw_mps k u i v F j) (64 * u + (i + j)) (tw_by v j)) (64 * k + (i + j)) ^^^ ((tw_mps k u i v F j) (64 * u + (i + j)) ^^^ tw_by v j))) g) H := hP
                      have hD : va_D A (tw_M cA cB h0 a0 b0 k (va_up (va_up (tw_mps k u i v F j) (64 * u + (i + j)) (tw_by v j)) (64 * k + (i + j)) ((va_up (tw_mps k u i v F j) (64 * u + (i + j)) (tw_by v j)) (64 * k + (i + j)) ^^^ ((tw_mps k u i v F j) (64 * u + (i + j)) ^^^ tw_by v j))) g) := hD
                      refine lv_aload_n hx hb dX1_put_132 rfl (lv_at hl 3 rfl) ?_
                      refine va_get (D := D) (ci := 1) (v := .ref a0) (C := RX1) (T := TX1) (N := 4) hx hb hts inX1_put hown hK hP 0 rfl rfl 2 (by decide) (hts _ fX1_put_7) (fun _ h9 => h9) rfl dX1_put_133 ?_
                      refine lv_bipush (v := 64) hx hb dX1_put_136 (by decide) ?_
                      refine lv_aload_n hx hb dX1_put_138 rfl (lv_at hl 3 rfl) ?_
                      refine tw_rM ⟨hx, hb, hml, hown, hts⟩ hK hP (c_X1_q l D cA cB h0 a0 b0 k (va_up (va_up (tw_mps k u i v F j) (64 * u + (i + j)) (tw_by v j)) (64 * k + (i + j)) ((va_up (tw_mps k u i v F j) (64 * u + (i + j)) (tw_by v j)) (64 * k + (i + j)) ^^^ ((tw_mps k u i v F j) (64 * u + (i + j)) ^^^ tw_by v j))) g ) (cwV 0 hts gX1_put_X1_q rfl rfl rfl kdX1_q ⟨Nat.le_of_ble_eq_true rfl, Nat.le_of_ble_eq_true rfl⟩) rfl hl.1 rfl (Nat.le_of_ble_eq_true rfl) dX1_put_139 ⟨Nat.zero_le _, Nat.zero_le _⟩ ?_
                      refine lv_imul hx hb dX1_put_142 ?_
                      refine lv_iload hx hb dX1_put_143 (lv_at hl 2 rfl) ?_
                      refine lv_iadd hx hb dX1_put_145 ?_
                      refine tw_topr (x' := nI (64 * (k + 1) + (i + j))) (tw_ix' (k + 1) (i + j)) ?_
                      refine lv_dup2_11 hx hb dX1_put_146 rfl rfl ?_
                      refine tw_ld hx hb hK hP 1 0 rfl rfl (n := 64 * (k + 1) + (i + j)) (rfl) (by omega) (by decide) dX1_put_147 ?_
                      refine lv_aload_n hx hb dX1_put_148 rfl (lv_at hl 3 rfl) ?_
                      refine lv_iload hx hb dX1_put_149 (lv_at hl 0 rfl) ?_
                      refine lv_aload_n hx hb dX1_put_151 rfl (lv_at hl 3 rfl) ?_
                      refine lv_iload_n hx hb dX1_put_152 rfl (lv_at hl 4 rfl) ?_
                      refine tw_rM ⟨hx, hb, hml, hown, hts⟩ hK hP (c_X1_twos l D cA cB h0 a0 b0 k (va_up (va_up (tw_mps k u i v F j) (64 * u + (i + j)) (tw_by v j)) (64 * k + (i + j)) ((va_up (tw_mps k u i v F j) (64 * u + (i + j)) (tw_by v j)) (64 * k + (i + j)) ^^^ ((tw_mps k u i v F j) (64 * u + (i + j)) ^^^ tw_by v j))) g u (by omega)) (cwV 1 hts gX1_put_X1_twos rfl rfl rfl kdX1_twos ⟨Nat.le_of_ble_eq_true rfl, Nat.le_of_ble_eq_true rfl⟩) rfl hl.1 rfl (Nat.le_of_ble_eq_true rfl) dX1_put_153 ⟨Nat.zero_le _, Nat.zero_le _⟩ ?_
                      refine tw_rM ⟨hx, hb, hml, hown, hts⟩ hK hP (c_X1_times l D cA cB h0 a0 b0 k (va_up (va_up (tw_mps k u i v F j) (64 * u + (i + j)) (tw_by v j)) (64 * k + (i + j)) ((va_up (tw_mps k u i v F j) (64 * u + (i + j)) (tw_by v j)) (64 * k + (i + j)) ^^^ ((tw_mps k u i v F j) (64 * u + (i + j)) ^^^ tw_by v j))) g ((tw_mps k u i v F j) (64 * u + (i + j)) ^^^ tw_by v j) (tq_p u 1#8)) (cwV 2 hts gX1_put_X1_times rfl rfl rfl kdX1_times ⟨Nat.le_of_ble_eq_true rfl, Nat.le_of_ble_eq_true rfl⟩) rfl hl.1 rfl (Nat.le_of_ble_eq_true rfl) dX1_put_156 ⟨Nat.zero_le _, Nat.zero_le _⟩ ?_
                      refine lv_ixor hx hb dX1_put_159 ?_
                      refine tw_st hx hb hK hP hD hS 1 0 rfl rfl (n := 64 * (k + 1) + (i + j)) (v := (va_up (va_up (tw_mps k u i v F j) (64 * u + (i + j)) (tw_by v j)) (64 * k + (i + j)) ((va_up (tw_mps k u i v F j) (64 * u + (i + j)) (tw_by v j)) (64 * k + (i + j)) ^^^ ((tw_mps k u i v F j) (64 * u + (i + j)) ^^^ tw_by v j))) (64 * (k + 1) + (i + j)) ^^^ tq_p u ((tw_mps k u i v F j) (64 * u + (i + j)) ^^^ tw_by v j)) (rfl) (by rw [tq_mp (show u < 16 by omega), tq_eb_xor]) (by omega) (by decide) dX1_put_160 (fun H locs hP hD hS => ?_)
                      have hP : va_P D vwCl (tw_M cA cB h0 a0 b0 k (va_up (va_up (va_up (tw_mps k u i v F j) (64 * u + (i + j)) (tw_by v j)) (64 * k + (i + j)) ((va_up (tw_mps k u i v F j) (64 * u + (i + j)) (tw_by v j)) (64 * k + (i + j)) ^^^ ((tw_mps k u i v F j) (64 * u + (i + j)) ^^^ tw_by v j))) (64 * (k + 1) + (i + j)) ((va_up (va_up (tw_mps k u i v F j) (64 * u + (i + j)) (tw_by v j)) (64 * k + (i + j)) ((va_up (tw_mps k u i v F j) (64 * u + (i + j)) (tw_by v j)) (64 * k + (i + j)) ^^^ ((tw_mps k u i v F j) (64 * u + (i + j)) ^^^ tw_by v j))) (64 * (k + 1) + (i + j)) ^^^ tq_p u ((tw_mps k u i v F j) (64 * u + (i + j)) ^^^ tw_by v j))) g) H := hP
                      have hD : va_D A (tw_M cA cB h0 a0 b0 k (va_up (va_up (va_up (tw_mps k u i v F j) (64 * u + (i + j)) (tw_by v j)) (64 * k + (i + j)) ((va_up (tw_mps k u i v F j) (64 * u + (i + j)) (tw_by v j)) (64 * k + (i + j)) ^^^ ((tw_mps k u i v F j) (64 * u + (i + j)) ^^^ tw_by v j))) (64 * (k + 1) + (i + j)) ((va_up (va_up (tw_mps k u i v F j) (64 * u + (i + j)) (tw_by v j)) (64 * k + (i + j)) ((va_up (tw_mps k u i v F j) (64 * u + (i + j)) (tw_by v j)) (64 * k + (i + j)) ^^^ ((tw_mps k u i v F j) (64 * u + (i + j)) ^^^ tw_by v j))) (64 * (k + 1) + (i + j)) ^^^ tq_p u ((tw_mps k u i v F j) (64 * u + (i + j)) ^^^ tw_by v j))) g) := hD
                      rw [show va_up (va_up (va_up (tw_mps k u i v F j) (64 * u + (i + j)) (tw_by v j)) (64 * k + (i + j)) ((va_up (tw_mps k u i v F j) (64 * u + (i + j)) (tw_by v j)) (64 * k + (i + j)) ^^^ ((tw_mps k u i v F j) (64 * u + (i + j)) ^^^ tw_by v j))) (64 * (k + 1) + (i + j)) ((va_up (va_up (tw_mps k u i v F j) (64 * u + (i + j)) (tw_by v j)) (64 * k + (i + j)) ((va_up (tw_mps k u i v F j) (64 * u + (i + j)) (tw_by v j)) (64 * k + (i + j)) ^^^ ((tw_mps k u i v F j) (64 * u + (i + j)) ^^^ tw_by v j))) (64 * (k + 1) + (i + j)) ^^^ tq_p u ((tw_mps k u i v F j) (64 * u + (i + j)) ^^^ tw_by v j)) = tw_mps k u i v F (j + 1) from rfl] at hP hD
                      refine lv_iinc (v := nI (j + 1)) (lv' := [(6, .int (nI (j + 1))), (9, .int (tq_eb ((tw_mps k u i v F j) (64 * u + (i + j)) ^^^ tw_by v j))), (8, .int (tq_eb (tw_by v j))), (7, .int (nI (i + j))), (0, .ref h0), (1, .int (nI u)), (2, .int (nI i)), (3, .int (nI q)), (4, .long v)]) hx hb dX1_put_161 hl (k := 8) rfl (nI_1 j) (by decide) rfl (fun ls hl => ?_)
                      refine lv_goto (tgt := 54) hx hb dX1_put_164 (by decide) ?_
                      exact ih (j + 1) ls H locs (by omega) hP hD hS (lv_sub hl [4, 5, 6, 7, 8, 0] rfl)
                refine lv_iconst (v := 0) hx hb dX1_put_51 (by decide) ?_
                refine lv_istore (lv' := [(6, .int 0), (0, .ref h0), (1, .int (nI u)), (2, .int (nI i)), (3, .int (nI q)), (4, .long v)]) hx hb dX1_put_52 hl (by decide) rfl (fun ls hl => ?_)
                exact loop q 0 ls _ _ (by omega) hP hD hS (lv_sub hl [1, 2, 3, 4, 5, 0] rfl)
              · refine lv_iconst (v := (-1)) hx hb dX1_put_49 (by decide) ?_
                exact hend _ _ _ (k, F, g) _ _ dX1_put_50 (by rw [← hE, tw_mput, if_neg (by first | (simp [c_6]; done) | (simp [c_14]; done) | (simp [hcu, c_23]; done) | (simp [tw_sp, c_28]; done) | (simp [tw_sp, c_34]; done) | (simp [tw_sp, c_38]; done) | (simp [tw_sp, Int32.not_le.mp c_46]; done))]) hP hD hS
def tw_mss (u i : Nat) (sd : Int32) (F : Nat → BitVec 8) : Nat → Nat → BitVec 8
  | 0 => F
  | j + 1 => va_up (tw_mss u i sd F j) (64 * u + (i + j)) (tw_b16 (tw_lc sd (j + 1)))
def tw_mspoil (k : Nat) (F : Nat → BitVec 8) (g : Nat → Bool) (x z n sd : Int32) : Int32 × (Nat × (Nat → BitVec 8) × (Nat → Bool)) := if !tw_nu k x && (!g x.toNatClampNeg && tw_sp z n 64) then (n, (k, tw_mss x.toNatClampNeg z.toNatClampNeg sd F n.toNatClampNeg, g)) else (-1, (k, F, g))
abbrev rmX1_spoil : Room := { frames := 1, cells := 0, slots := 0, locals := 21 }
theorem inX1_spoil : ∀ w ∈ wsX10, w ∈ wsX1_spoil := fun _ h => List.mem_cons_of_mem _ (List.mem_append_right _ h)
theorem fX1_spoil_21 : Cond.fieldLink RX1 21 "TwinParityModel" "thrown" "I" ∈ wsX1_spoil := List.mem_of_getElem? (i := 1) rfl
theorem fX1_spoil_13 : Cond.fieldLink RX1 13 "TwinParityModel" "lost" "[Z" ∈ wsX1_spoil := List.mem_of_getElem? (i := 2) rfl
theorem fX1_spoil_51 : Cond.constant RX1 51 (1103515245) ∈ wsX1_spoil := List.mem_of_getElem? (i := 3) rfl
theorem fX1_spoil_7 : Cond.fieldLink RX1 7 "TwinParityModel" "bytes" "[I" ∈ wsX1_spoil := List.mem_of_getElem? (i := 4) rfl
theorem fX1_spoil_25 : Cond.fieldLink RX1 25 "TwinParityModel" "units" "I" ∈ wsX1_spoil := List.mem_of_getElem? (i := 10) rfl
theorem kdX1_spoil : yX1_spoil.cls = RX1 ∧ yX1_spoil.cls ≠ "java/lang/invoke/MethodHandle" ∧ yX1_spoil.cls ≠ "java/lang/invoke/VarHandle" ∧ (parseMethodDescriptor yX1_spoil.desc).map (fun d => d.parameters.length) = some 4 := by decide +kernel
set_option maxHeartbeats 4000000 in
set_option maxRecDepth 100000 in
theorem c_X1_spoil (l : Launch) (D : va_G) (cA cB : ClassId) (h0 a0 b0 k : Nat) (F : Nat → BitVec 8) (g : Nat → Bool) (sz : Nat) (x z n sd : Int32) (hk : k ≤ 14) : Met l yX1_spoil wsX1_spoil rmX1_spoil (va_Pc [.ref h0, .int x, .int z, .int n, .int sd] (tw_Pw D (tw_M cA cB h0 a0 b0 k F g) (tw_tM cA cB) sz)) (va_Qi (fun (r : Int32) (u : Nat × (Nat → BitVec 8) × (Nat → Bool)) => (r, u) = tw_mspoil k F g x z n sd) (tw_Qw D (fun u : Nat × (Nat → BitVec 8) × (Nat → Bool) => tw_M cA cB h0 a0 b0 u.1 u.2.1 u.2.2) (tw_tM cA cB) (va_A (tw_M cA cB h0 a0 b0 k F g) sz)) (va_A (tw_M cA cB h0 a0 b0 k F g) sz)) 0 0 (va_A (tw_M cA cB h0 a0 b0 k F g) sz) := by
  refine tw_metW (by decide) rfl rfl (Nat.le_of_ble_eq_true rfl) ?_
  intro p e s m args below meth c Q ls A hx hb hml hown hts hP hK hD hS hA hend hl
  have hown : s.vm.findClass RX1 = some m.cls := hown
  have hl : lv_has ls 7 [(0, .ref h0), (1, .int x), (2, .int z), (3, .int n), (4, .int sd)] := hl
  generalize hE : tw_mspoil k F g x z n sd = E at hend
  refine lv_aload_n hx hb dX1_spoil_0 rfl (lv_at hl 0 rfl) ?_
  refine lv_iconst (v := 0) hx hb dX1_spoil_1 (by decide) ?_
  refine va_put (D := D) (ci := 1) (v := .int 0) (ty := .int) (C := RX1) (T := TX1) (N := 4) hx hb hts inX1_spoil tyX1 tyX1_ok nmX1 hown hK hP hD hS 0 rfl rfl 0 (by decide) (hts _ fX1_spoil_21) (fun _ h9 => h9) rfl (by decide +kernel) rfl rfl (Nat.le_of_ble_eq_true rfl) dX1_spoil_2 (fun H locs hP hD hS => ?_)
  have hP : va_P D vwCl (tw_M cA cB h0 a0 b0 k F g) H := hP
  have hD : va_D A (tw_M cA cB h0 a0 b0 k F g) := hD
  refine lv_aload_n hx hb dX1_spoil_5 rfl (lv_at hl 0 rfl) ?_
  refine lv_iload_n hx hb dX1_spoil_6 rfl (lv_at hl 1 rfl) ?_
  refine tw_rM ⟨hx, hb, hml, hown, hts⟩ hK hP (c_X1_noUnit l D cA cB h0 a0 b0 k F g x) (cwV 1 hts gX1_spoil_X1_noUnit rfl rfl rfl kdX1_noUnit ⟨Nat.le_of_ble_eq_true rfl, Nat.le_of_ble_eq_true rfl⟩) rfl hl.1 rfl (Nat.le_of_ble_eq_true rfl) dX1_spoil_7 ⟨Nat.zero_le _, Nat.zero_le _⟩ ?_
  refine lv_if_ne (tgt := 45) hx hb dX1_spoil_10 (by decide) (fun c_10 => ?_) (fun c_10 => ?_)
  · rw [tw_bI1] at c_10
    refine lv_iconst (v := (-1)) hx hb dX1_spoil_45 (by decide) ?_
    exact hend _ _ _ (k, F, g) _ _ dX1_spoil_46 (by rw [← hE, tw_mspoil, if_neg (by first | (simp [c_10]; done) | (simp [hcu, c_19]; done) | (simp [tw_sp, c_24]; done) | (simp [tw_sp, c_30]; done) | (simp [tw_sp, c_34]; done) | (simp [tw_sp, Int32.not_le.mp c_42]; done))]) hP hD hS
  · rw [tw_bI0] at c_10
    obtain ⟨u, huk, rfl⟩ := tw_nuD hk c_10
    have hcu : (nI u).toNatClampNeg = u := nI_clamp (by omega)
    refine lv_aload_n hx hb dX1_spoil_13 rfl (lv_at hl 0 rfl) ?_
    refine va_get (D := D) (ci := 1) (v := .ref b0) (C := RX1) (T := TX1) (N := 4) hx hb hts inX1_spoil hown hK hP 0 rfl rfl 3 (by decide) (hts _ fX1_spoil_13) (fun _ h9 => h9) rfl dX1_spoil_14 ?_
    refine lv_iload_n hx hb dX1_spoil_17 rfl (lv_at hl 1 rfl) ?_
    refine tw_lz hx hb hK hP 2 1 rfl rfl (n := u) (rfl) (by omega) (by decide) dX1_spoil_18 ?_
    refine lv_if_ne (tgt := 45) hx hb dX1_spoil_19 (by decide) (fun c_19 => ?_) (fun c_19 => ?_)
    · rw [tw_bI1] at c_19
      refine lv_iconst (v := (-1)) hx hb dX1_spoil_45 (by decide) ?_
      exact hend _ _ _ (k, F, g) _ _ dX1_spoil_46 (by rw [← hE, tw_mspoil, if_neg (by first | (simp [c_10]; done) | (simp [hcu, c_19]; done) | (simp [tw_sp, c_24]; done) | (simp [tw_sp, c_30]; done) | (simp [tw_sp, c_34]; done) | (simp [tw_sp, Int32.not_le.mp c_42]; done))]) hP hD hS
    · rw [tw_bI0] at c_19
      refine lv_iload_n hx hb dX1_spoil_22 rfl (lv_at hl 3 rfl) ?_
      refine lv_iconst (v := 1) hx hb dX1_spoil_23 (by decide) ?_
      refine lv_icmp_lt (tgt := 45) hx hb dX1_spoil_24 (by decide) (fun c_24 => ?_) (fun c_24 => ?_)
      · refine lv_iconst (v := (-1)) hx hb dX1_spoil_45 (by decide) ?_
        exact hend _ _ _ (k, F, g) _ _ dX1_spoil_46 (by rw [← hE, tw_mspoil, if_neg (by first | (simp [c_10]; done) | (simp [hcu, c_19]; done) | (simp [tw_sp, c_24]; done) | (simp [tw_sp, c_30]; done) | (simp [tw_sp, c_34]; done) | (simp [tw_sp, Int32.not_le.mp c_42]; done))]) hP hD hS
      · refine lv_iload_n hx hb dX1_spoil_27 rfl (lv_at hl 3 rfl) ?_
        refine lv_bipush (v := 64) hx hb dX1_spoil_28 (by decide) ?_
        refine lv_icmp_gt (tgt := 45) hx hb dX1_spoil_30 (by decide) (fun c_30 => ?_) (fun c_30 => ?_)
        · refine lv_iconst (v := (-1)) hx hb dX1_spoil_45 (by decide) ?_
          exact hend _ _ _ (k, F, g) _ _ dX1_spoil_46 (by rw [← hE, tw_mspoil, if_neg (by first | (simp [c_10]; done) | (simp [hcu, c_19]; done) | (simp [tw_sp, c_24]; done) | (simp [tw_sp, c_30]; done) | (simp [tw_sp, c_34]; done) | (simp [tw_sp, Int32.not_le.mp c_42]; done))]) hP hD hS
        · refine lv_iload_n hx hb dX1_spoil_33 rfl (lv_at hl 2 rfl) ?_
          refine lv_if_lt (tgt := 45) hx hb dX1_spoil_34 (by decide) (fun c_34 => ?_) (fun c_34 => ?_)
          · refine lv_iconst (v := (-1)) hx hb dX1_spoil_45 (by decide) ?_
            exact hend _ _ _ (k, F, g) _ _ dX1_spoil_46 (by rw [← hE, tw_mspoil, if_neg (by first | (simp [c_10]; done) | (simp [hcu, c_19]; done) | (simp [tw_sp, c_24]; done) | (simp [tw_sp, c_30]; done) | (simp [tw_sp, c_34]; done) | (simp [tw_sp, Int32.not_le.mp c_42]; done))]) hP hD hS
          · refine lv_iload_n hx hb dX1_spoil_37 rfl (lv_at hl 2 rfl) ?_
            refine lv_bipush (v := 64) hx hb dX1_spoil_38 (by decide) ?_
            refine lv_iload_n hx hb dX1_spoil_40 rfl (lv_at hl 3 rfl) ?_
            refine lv_isub hx hb dX1_spoil_41 ?_
            refine lv_icmp_le (tgt := 47) hx hb dX1_spoil_42 (by decide) (fun c_42 => ?_) (fun c_42 => ?_)
            · have hsp : tw_sp z n 64 = true := by simp [tw_sp, c_24, c_30, c_34, Int32.not_lt.mpr c_42]
              have hsp2 := hsp
              obtain ⟨i, q, rfl, rfl, hq1, hq2, hiq⟩ := tw_spD (mm := 64) (by decide) hsp2
              have loop : ∀ (n j : Nat) (ls : Array Slot) (H : Heap) (locs : List Loc), j + n = q → va_P D vwCl (tw_M cA cB h0 a0 b0 k (tw_mss u i sd F j) g) H → va_D A (tw_M cA cB h0 a0 b0 k (tw_mss u i sd F j) g) → va_S A s.heap H locs → lv_has ls 7 [(0, .ref h0), (1, .int (nI u)), (2, .int (nI i)), (3, .int (nI q)), (5, .int (tw_lc sd j)), (6, .int (nI j))] → W p l e rmX1_spoil s m args below meth c H locs 0 0 Q (F0 m 54 ls []) := by
                intro n
                induction n with
                | zero =>
                  intro j ls H locs hj hP hD hS hl
                  refine lv_iload hx hb dX1_spoil_54 (lv_at hl 5 rfl) ?_
                  refine lv_iload_n hx hb dX1_spoil_56 rfl (lv_at hl 3 rfl) ?_
                  refine lv_icmp_ge (tgt := 100) hx hb dX1_spoil_57 (by decide) (fun c_57 => ?_) (fun c_57 => ?_)
                  · refine lv_iload_n hx hb dX1_spoil_100 rfl (lv_at hl 3 rfl) ?_
                    rw [show j = q by omega] at hP hD
                    exact hend _ _ _ (k, tw_mss u i sd F q, g) _ _ dX1_spoil_101 (by rw [← hE, tw_mspoil, hcu, hsp, c_10, c_19]; simp [nI_clamp (show i < 2 ^ 31 by omega), nI_clamp (show q < 2 ^ 31 by omega)]) hP hD hS
                  · exact absurd (nI_le (by omega) (by omega)) c_57
                | succ n ih =>
                  intro j ls H locs hj hP hD hS hl
                  refine lv_iload hx hb dX1_spoil_54 (lv_at hl 5 rfl) ?_
                  refine lv_iload_n hx hb dX1_spoil_56 rfl (lv_at hl 3 rfl) ?_
                  refine lv_icmp_ge (tgt := 100) hx hb dX1_spoil_57 (by decide) (fun c_57 => ?_) (fun c_57 => ?_)
                  · exact absurd c_57 (nI_ge (by omega) (by omega))
                  · refine lv_ldc (v := 1103515245) hx hb hown (hts _ fX1_spoil_51) dX1_spoil_60 ?_
                    refine lv_iload hx hb dX1_spoil_62 (lv_at hl 4 rfl) ?_
                    refine lv_imul hx hb dX1_spoil_64 ?_
                    refine lv_sipush (v := 12345) hx hb dX1_spoil_65 (by decide) ?_
                    refine lv_iadd hx hb dX1_spoil_68 ?_
                    refine tw_topr (x' := tw_lc sd (j + 1)) (rfl) ?_
                    refine lv_istore (lv' := [(5, .int (tw_lc sd (j + 1))), (0, .ref h0), (1, .int (nI u)), (2, .int (nI i)), (3, .int (nI q)), (6, .int (nI j))]) hx hb dX1_spoil_69 hl (by decide) rfl (fun ls hl => ?_)
                    refine lv_aload_n hx hb dX1_spoil_71 rfl (lv_at hl 1 rfl) ?_
                    refine va_get (D := D) (ci := 1) (v := .ref a0) (C := RX1) (T := TX1) (N := 4) hx hb hts inX1_spoil hown hK hP 0 rfl rfl 2 (by decide) (hts _ fX1_spoil_7) (fun _ h9 => h9) rfl dX1_spoil_72 ?_
                    refine lv_bipush (v := 64) hx hb dX1_spoil_75 (by decide) ?_
                    refine lv_iload_n hx hb dX1_spoil_77 rfl (lv_at hl 2 rfl) ?_
                    refine lv_imul hx hb dX1_spoil_78 ?_
                    refine lv_iload_n hx hb dX1_spoil_79 rfl (lv_at hl 3 rfl) ?_
                    refine lv_iadd hx hb dX1_spoil_80 ?_
                    refine tw_topr (x' := nI (64 * u + i)) (tw_ix' u i) ?_
                    refine lv_iload hx hb dX1_spoil_81 (lv_at hl 5 rfl) ?_
                    refine lv_iadd hx hb dX1_spoil_83 ?_
                    refine tw_topr (x' := nI (64 * u + (i + j))) (by rw [nI_add, Nat.add_assoc]) ?_
                    refine lv_iload hx hb dX1_spoil_84 (lv_at hl 0 rfl) ?_
                    refine lv_bipush (v := 16) hx hb dX1_spoil_86 (by decide) ?_
                    refine lv_ishr hx hb dX1_spoil_88 ?_
                    refine lv_sipush (v := 255) hx hb dX1_spoil_89 (by decide) ?_
                    refine lv_iand hx hb dX1_spoil_92 ?_
                    refine tw_st hx hb hK hP hD hS 1 0 rfl rfl (n := 64 * u + (i + j)) (v := tw_b16 (tw_lc sd (j + 1))) (rfl) (tw_b16_m _) (by omega) (by decide) dX1_spoil_93 (fun H locs hP hD hS => ?_)
                    have hP : va_P D vwCl (tw_M cA cB h0 a0 b0 k (va_up (tw_mss u i sd F j) (64 * u + (i + j)) (tw_b16 (tw_lc sd (j + 1)))) g) H := hP
                    have hD : va_D A (tw_M cA cB h0 a0 b0 k (va_up (tw_mss u i sd F j) (64 * u + (i + j)) (tw_b16 (tw_lc sd (j + 1)))) g) := hD
                    rw [show va_up (tw_mss u i sd F j) (64 * u + (i + j)) (tw_b16 (tw_lc sd (j + 1))) = tw_mss u i sd F (j + 1) from rfl] at hP hD
                    refine lv_iinc (v := nI (j + 1)) (lv' := [(6, .int (nI (j + 1))), (5, .int (tw_lc sd (j + 1))), (0, .ref h0), (1, .int (nI u)), (2, .int (nI i)), (3, .int (nI q))]) hx hb dX1_spoil_94 hl (k := 5) rfl (nI_1 j) (by decide) rfl (fun ls hl => ?_)
                    refine lv_goto (tgt := 54) hx hb dX1_spoil_97 (by decide) ?_
                    exact ih (j + 1) ls H locs (by omega) hP hD hS (lv_sub hl [2, 3, 4, 5, 1, 0] rfl)
              refine lv_iload hx hb dX1_spoil_47 (lv_at hl 4 rfl) ?_
              refine lv_istore (lv' := [(5, .int sd), (0, .ref h0), (1, .int (nI u)), (2, .int (nI i)), (3, .int (nI q)), (4, .int sd)]) hx hb dX1_spoil_49 hl (by decide) rfl (fun ls hl => ?_)
              refine lv_iconst (v := 0) hx hb dX1_spoil_51 (by decide) ?_
              refine lv_istore (lv' := [(6, .int 0), (5, .int sd), (0, .ref h0), (1, .int (nI u)), (2, .int (nI i)), (3, .int (nI q)), (4, .int sd)]) hx hb dX1_spoil_52 hl (by decide) rfl (fun ls hl => ?_)
              exact loop q 0 ls _ _ (by omega) hP hD hS (lv_sub hl [2, 3, 4, 5, 1, 0] rfl)
            · refine lv_iconst (v := (-1)) hx hb dX1_spoil_45 (by decide) ?_
              exact hend _ _ _ (k, F, g) _ _ dX1_spoil_46 (by rw [← hE, tw_mspoil, if_neg (by first | (simp [c_10]; done) | (simp [hcu, c_19]; done) | (simp [tw_sp, c_24]; done) | (simp [tw_sp, c_30]; done) | (simp [tw_sp, c_34]; done) | (simp [tw_sp, Int32.not_le.mp c_42]; done))]) hP hD hS
def tw_mk1 (k : Nat) (g : Nat → Bool) (G : Nat → BitVec 8) (n : Nat) : Nat → BitVec 8 := va_up G (64 * k + n) (tq_xs (tw_ml g (tq_col G n)) k)
def tw_mmk (k : Nat) (g : Nat → Bool) (F : Nat → BitVec 8) : Nat → Nat → BitVec 8
  | 0 => F
  | n + 1 => va_up (tw_mk1 k g (tw_mmk k g F n) n) (64 * (k + 1) + n) (tq_qs (tw_ml g (tq_col (tw_mk1 k g (tw_mmk k g F n) n) n)) k)
def tw_mmake (k : Nat) (F : Nat → BitVec 8) (g : Nat → Bool) : Int32 × (Nat × (Nat → BitVec 8) × (Nat → Bool)) := if tw_mc g (k + 2) = 0 then (0, (k, tw_mmk k g F 64, g)) else (-1, (k, F, g))
abbrev rmX1_make : Room := { frames := 3, cells := 0, slots := 0, locals := 73 }
theorem inX1_make : ∀ w ∈ wsX10, w ∈ wsX1_make := fun _ h => List.mem_cons_of_mem _ (List.mem_append_right _ h)
theorem fX1_make_21 : Cond.fieldLink RX1 21 "TwinParityModel" "thrown" "I" ∈ wsX1_make := List.mem_of_getElem? (i := 1) rfl
theorem fX1_make_7 : Cond.fieldLink RX1 7 "TwinParityModel" "bytes" "[I" ∈ wsX1_make := List.mem_of_getElem? (i := 2) rfl
theorem fX1_make_25 : Cond.fieldLink RX1 25 "TwinParityModel" "units" "I" ∈ wsX1_make := List.mem_of_getElem? (i := 8) rfl
theorem fX1_make_13 : Cond.fieldLink RX1 13 "TwinParityModel" "lost" "[Z" ∈ wsX1_make := List.mem_of_getElem? (i := 9) rfl
theorem kdX1_make : yX1_make.cls = RX1 ∧ yX1_make.cls ≠ "java/lang/invoke/MethodHandle" ∧ yX1_make.cls ≠ "java/lang/invoke/VarHandle" ∧ (parseMethodDescriptor yX1_make.desc).map (fun d => d.parameters.length) = some 0 := by decide +kernel
set_option maxHeartbeats 4000000 in
set_option maxRecDepth 100000 in
theorem c_X1_make (l : Launch) (D : va_G) (cA cB : ClassId) (h0 a0 b0 k : Nat) (F : Nat → BitVec 8) (g : Nat → Bool) (sz : Nat) (hk : k ≤ 14) : Met l yX1_make wsX1_make rmX1_make (va_Pc [.ref h0] (tw_Pw D (tw_M cA cB h0 a0 b0 k F g) (tw_tM cA cB) sz)) (va_Qi (fun (r : Int32) (u : Nat × (Nat → BitVec 8) × (Nat → Bool)) => (r, u) = tw_mmake k F g) (tw_Qw D (fun u : Nat × (Nat → BitVec 8) × (Nat → Bool) => tw_M cA cB h0 a0 b0 u.1 u.2.1 u.2.2) (tw_tM cA cB) (va_A (tw_M cA cB h0 a0 b0 k F g) sz)) (va_A (tw_M cA cB h0 a0 b0 k F g) sz)) 0 0 (va_A (tw_M cA cB h0 a0 b0 k F g) sz) := by
  refine tw_metW (by decide) rfl rfl (Nat.le_of_ble_eq_true rfl) ?_
  intro p e s m args below meth c Q ls A hx hb hml hown hts hP hK hD hS hA hend hl
  have hown : s.vm.findClass RX1 = some m.cls := hown
  have hl : lv_has ls 2 [(0, .ref h0)] := hl
  refine lv_aload_n hx hb dX1_make_0 rfl (lv_at hl 0 rfl) ?_
  refine lv_iconst (v := 0) hx hb dX1_make_1 (by decide) ?_
  refine va_put (D := D) (ci := 1) (v := .int 0) (ty := .int) (C := RX1) (T := TX1) (N := 4) hx hb hts inX1_make tyX1 tyX1_ok nmX1 hown hK hP hD hS 0 rfl rfl 0 (by decide) (hts _ fX1_make_21) (fun _ h9 => h9) rfl (by decide +kernel) rfl rfl (Nat.le_of_ble_eq_true rfl) dX1_make_2 (fun H locs hP hD hS => ?_)
  have hP : va_P D vwCl (tw_M cA cB h0 a0 b0 k F g) H := hP
  have hD : va_D A (tw_M cA cB h0 a0 b0 k F g) := hD
  refine lv_aload_n hx hb dX1_make_5 rfl (lv_at hl 0 rfl) ?_
  refine tw_rM ⟨hx, hb, hml, hown, hts⟩ hK hP (c_X1_manyLost l D cA cB h0 a0 b0 k F g hk) (cwV 0 hts gX1_make_X1_manyLost rfl rfl rfl kdX1_manyLost ⟨Nat.le_of_ble_eq_true rfl, Nat.le_of_ble_eq_true rfl⟩) rfl hl.1 rfl (Nat.le_of_ble_eq_true rfl) dX1_make_6 ⟨Nat.zero_le _, Nat.zero_le _⟩ ?_
  refine lv_if_le (tgt := 14) hx hb dX1_make_9 (by decide) (fun c_9 => ?_) (fun c_9 => ?_)
  · have hz : tw_mc g (k + 2) = 0 := by have h9 := tw_mc_le g (k + 2); rcases Nat.eq_zero_or_pos (tw_mc g (k + 2)) with h8 | h8; exact h8; exact absurd c_9 (nI_nle h8 (by omega))
    have loop : ∀ (n j : Nat) (ls : Array Slot) (H : Heap) (locs : List Loc), j + n = 64 → va_P D vwCl (tw_M cA cB h0 a0 b0 k (tw_mmk k g F j) g) H → va_D A (tw_M cA cB h0 a0 b0 k (tw_mmk k g F j) g) → va_S A s.heap H locs → lv_has ls 2 [(0, .ref h0), (1, .int (nI j))] → W p l e rmX1_make s m args below meth c H locs 0 0 Q (F0 m 16 ls []) := by
      intro n
      induction n with
      | zero =>
        intro j ls H locs hj hP hD hS hl
        refine lv_iload_n hx hb dX1_make_16 rfl (lv_at hl 1 rfl) ?_
        refine lv_bipush (v := 64) hx hb dX1_make_17 (by decide) ?_
        refine lv_icmp_ge (tgt := 68) hx hb dX1_make_19 (by decide) (fun c_19 => ?_) (fun c_19 => ?_)
        · refine lv_iconst (v := 0) hx hb dX1_make_68 (by decide) ?_
          rw [show j = 64 by omega] at hP hD
          exact hend _ _ _ (k, tw_mmk k g F 64, g) _ _ dX1_make_69 (by rw [tw_mmake, if_pos hz]) hP hD hS
        · exact absurd (nI_le (a := 64) (by omega) (by omega)) c_19
      | succ n ih =>
        intro j ls H locs hj hP hD hS hl
        refine lv_iload_n hx hb dX1_make_16 rfl (lv_at hl 1 rfl) ?_
        refine lv_bipush (v := 64) hx hb dX1_make_17 (by decide) ?_
        refine lv_icmp_ge (tgt := 68) hx hb dX1_make_19 (by decide) (fun c_19 => ?_) (fun c_19 => ?_)
        · exact absurd c_19 (nI_ge (b := 64) (by omega) (by omega))
        · refine lv_aload_n hx hb dX1_make_22 rfl (lv_at hl 0 rfl) ?_
          refine va_get (D := D) (ci := 1) (v := .ref a0) (C := RX1) (T := TX1) (N := 4) hx hb hts inX1_make hown hK hP 0 rfl rfl 2 (by decide) (hts _ fX1_make_7) (fun _ h9 => h9) rfl dX1_make_23 ?_
          refine lv_bipush (v := 64) hx hb dX1_make_26 (by decide) ?_
          refine lv_aload_n hx hb dX1_make_28 rfl (lv_at hl 0 rfl) ?_
          refine tw_rM ⟨hx, hb, hml, hown, hts⟩ hK hP (c_X1_p l D cA cB h0 a0 b0 k (tw_mmk k g F j) g ) (cwV 0 hts gX1_make_X1_p rfl rfl rfl kdX1_p ⟨Nat.le_of_ble_eq_true rfl, Nat.le_of_ble_eq_true rfl⟩) rfl hl.1 rfl (Nat.le_of_ble_eq_true rfl) dX1_make_29 ⟨Nat.zero_le _, Nat.zero_le _⟩ ?_
          refine lv_imul hx hb dX1_make_32 ?_
          refine lv_iload_n hx hb dX1_make_33 rfl (lv_at hl 1 rfl) ?_
          refine lv_iadd hx hb dX1_make_34 ?_
          refine tw_topr (x' := nI (64 * k + j)) (tw_ix' k j) ?_
          refine lv_aload_n hx hb dX1_make_35 rfl (lv_at hl 0 rfl) ?_
          refine lv_iload_n hx hb dX1_make_36 rfl (lv_at hl 1 rfl) ?_
          refine lv_iconst (v := 0) hx hb dX1_make_37 (by decide) ?_
          refine tw_rM ⟨hx, hb, hml, hown, hts⟩ hK hP (c_X1_sumAt l D cA cB h0 a0 b0 k (tw_mmk k g F j) g j false (by omega) hk) (cwV 2 hts gX1_make_X1_sumAt rfl rfl rfl kdX1_sumAt ⟨Nat.le_of_ble_eq_true rfl, Nat.le_of_ble_eq_true rfl⟩) rfl hl.1 rfl (Nat.le_of_ble_eq_true rfl) dX1_make_38 ⟨Nat.zero_le _, Nat.zero_le _⟩ ?_
          refine tw_st hx hb hK hP hD hS 1 0 rfl rfl (n := 64 * k + j) (v := tq_xs (tw_ml g (tq_col (tw_mmk k g F j) j)) k) (rfl) (rfl) (by omega) (by decide) dX1_make_41 (fun H locs hP hD hS => ?_)
          have hP : va_P D vwCl (tw_M cA cB h0 a0 b0 k (va_up (tw_mmk k g F j) (64 * k + j) (tq_xs (tw_ml g (tq_col (tw_mmk k g F j) j)) k)) g) H := hP
          have hD : va_D A (tw_M cA cB h0 a0 b0 k (va_up (tw_mmk k g F j) (64 * k + j) (tq_xs (tw_ml g (tq_col (tw_mmk k g F j) j)) k)) g) := hD
          rw [show va_up (tw_mmk k g F j) (64 * k + j) (tq_xs (tw_ml g (tq_col (tw_mmk k g F j) j)) k) = tw_mk1 k g (tw_mmk k g F j) j from rfl] at hP hD
          refine lv_aload_n hx hb dX1_make_42 rfl (lv_at hl 0 rfl) ?_
          refine va_get (D := D) (ci := 1) (v := .ref a0) (C := RX1) (T := TX1) (N := 4) hx hb hts inX1_make hown hK hP 0 rfl rfl 2 (by decide) (hts _ fX1_make_7) (fun _ h9 => h9) rfl dX1_make_43 ?_
          refine lv_bipush (v := 64) hx hb dX1_make_46 (by decide) ?_
          refine lv_aload_n hx hb dX1_make_48 rfl (lv_at hl 0 rfl) ?_
          refine tw_rM ⟨hx, hb, hml, hown, hts⟩ hK hP (c_X1_q l D cA cB h0 a0 b0 k (tw_mk1 k g (tw_mmk k g F j) j) g ) (cwV 0 hts gX1_make_X1_q rfl rfl rfl kdX1_q ⟨Nat.le_of_ble_eq_true rfl, Nat.le_of_ble_eq_true rfl⟩) rfl hl.1 rfl (Nat.le_of_ble_eq_true rfl) dX1_make_49 ⟨Nat.zero_le _, Nat.zero_le _⟩ ?_
          refine lv_imul hx hb dX1_make_52 ?_
          refine lv_iload_n hx hb dX1_make_53 rfl (lv_at hl 1 rfl) ?_
          refine lv_iadd hx hb dX1_make_54 ?_
          refine tw_topr (x' := nI (64 * (k + 1) + j)) (tw_ix' (k + 1) j) ?_
          refine lv_aload_n hx hb dX1_make_55 rfl (lv_at hl 0 rfl) ?_
          refine lv_iload_n hx hb dX1_make_56 rfl (lv_at hl 1 rfl) ?_
          refine lv_iconst (v := 1) hx hb dX1_make_57 (by decide) ?_
          refine tw_rM ⟨hx, hb, hml, hown, hts⟩ hK hP (c_X1_sumAt l D cA cB h0 a0 b0 k (tw_mk1 k g (tw_mmk k g F j) j) g j true (by omega) hk) (cwV 2 hts gX1_make_X1_sumAt rfl rfl rfl kdX1_sumAt ⟨Nat.le_of_ble_eq_true rfl, Nat.le_of_ble_eq_true rfl⟩) rfl hl.1 rfl (Nat.le_of_ble_eq_true rfl) dX1_make_58 ⟨Nat.zero_le _, Nat.zero_le _⟩ ?_
          refine tw_st hx hb hK hP hD hS 1 0 rfl rfl (n := 64 * (k + 1) + j) (v := tq_qs (tw_ml g (tq_col (tw_mk1 k g (tw_mmk k g F j) j) j)) k) (rfl) (rfl) (by omega) (by decide) dX1_make_61 (fun H locs hP hD hS => ?_)
          have hP : va_P D vwCl (tw_M cA cB h0 a0 b0 k (va_up (tw_mk1 k g (tw_mmk k g F j) j) (64 * (k + 1) + j) (tq_qs (tw_ml g (tq_col (tw_mk1 k g (tw_mmk k g F j) j) j)) k)) g) H := hP
          have hD : va_D A (tw_M cA cB h0 a0 b0 k (va_up (tw_mk1 k g (tw_mmk k g F j) j) (64 * (k + 1) + j) (tq_qs (tw_ml g (tq_col (tw_mk1 k g (tw_mmk k g F j) j) j)) k)) g) := hD
          rw [show va_up (tw_mk1 k g (tw_mmk k g F j) j) (64 * (k + 1) + j) (tq_qs (tw_ml g (tq_col (tw_mk1 k g (tw_mmk k g F j) j) j)) k) = tw_mmk k g F (j + 1) from rfl] at hP hD
          refine lv_iinc (v := nI (j + 1)) (lv' := [(1, .int (nI (j + 1))), (0, .ref h0)]) hx hb dX1_make_62 hl (k := 1) rfl (nI_1 j) (by decide) rfl (fun ls hl => ?_)
          refine lv_goto (tgt := 16) hx hb dX1_make_65 (by decide) ?_
          exact ih (j + 1) ls H locs (by omega) hP hD hS (lv_sub hl [1, 0] rfl)
    refine lv_iconst (v := 0) hx hb dX1_make_14 (by decide) ?_
    refine lv_istore_n (lv' := [(1, .int 0), (0, .ref h0)]) hx hb dX1_make_15 rfl hl (by decide) rfl (fun ls hl => ?_)
    exact loop 64 0 ls _ _ (by omega) hP hD hS (lv_sub hl [1, 0] rfl)
  · refine lv_iconst (v := (-1)) hx hb dX1_make_12 (by decide) ?_
    exact hend _ _ _ (k, F, g) _ _ dX1_make_13 (by rw [tw_mmake, if_neg (fun h9 => c_9 (by rw [h9]; decide))]) hP hD hS
def tw_mget (k : Nat) (F : Nat → BitVec 8) (g : Nat → Bool) (x z : Int32) : Int32 := if !tw_nu k x && (!g x.toNatClampNeg && (!decide (z < 0) && decide (z < 64))) then tq_eb (F (64 * x.toNatClampNeg + z.toNatClampNeg)) else -1
abbrev rmX1_get : Room := { frames := 1, cells := 0, slots := 0, locals := 21 }
theorem inX1_get : ∀ w ∈ wsX10, w ∈ wsX1_get := fun _ h => List.mem_cons_of_mem _ (List.mem_append_right _ h)
theorem fX1_get_21 : Cond.fieldLink RX1 21 "TwinParityModel" "thrown" "I" ∈ wsX1_get := List.mem_of_getElem? (i := 1) rfl
theorem fX1_get_13 : Cond.fieldLink RX1 13 "TwinParityModel" "lost" "[Z" ∈ wsX1_get := List.mem_of_getElem? (i := 2) rfl
theorem fX1_get_7 : Cond.fieldLink RX1 7 "TwinParityModel" "bytes" "[I" ∈ wsX1_get := List.mem_of_getElem? (i := 3) rfl
theorem fX1_get_25 : Cond.fieldLink RX1 25 "TwinParityModel" "units" "I" ∈ wsX1_get := List.mem_of_getElem? (i := 9) rfl
theorem kdX1_get : yX1_get.cls = RX1 ∧ yX1_get.cls ≠ "java/lang/invoke/MethodHandle" ∧ yX1_get.cls ≠ "java/lang/invoke/VarHandle" ∧ (parseMethodDescriptor yX1_get.desc).map (fun d => d.parameters.length) = some 2 := by decide +kernel
set_option maxHeartbeats 4000000 in
set_option maxRecDepth 100000 in
theorem c_X1_get (l : Launch) (D : va_G) (cA cB : ClassId) (h0 a0 b0 k : Nat) (F : Nat → BitVec 8) (g : Nat → Bool) (sz : Nat) (x z : Int32) (hk : k ≤ 14) : Met l yX1_get wsX1_get rmX1_get (va_Pc [.ref h0, .int x, .int z] (tw_Pw D (tw_M cA cB h0 a0 b0 k F g) (tw_tM cA cB) sz)) (va_Qi (fun (r : Int32) (u : Nat × (Nat → BitVec 8) × (Nat → Bool)) => (r, u) = (tw_mget k F g x z, (k, F, g))) (tw_Qw D (fun u : Nat × (Nat → BitVec 8) × (Nat → Bool) => tw_M cA cB h0 a0 b0 u.1 u.2.1 u.2.2) (tw_tM cA cB) (va_A (tw_M cA cB h0 a0 b0 k F g) sz)) (va_A (tw_M cA cB h0 a0 b0 k F g) sz)) 0 0 (va_A (tw_M cA cB h0 a0 b0 k F g) sz) := by
  refine tw_metW (by decide) rfl rfl (Nat.le_of_ble_eq_true rfl) ?_
  intro p e s m args below meth c Q ls A hx hb hml hown hts hP hK hD hS hA hend hl
  have hown : s.vm.findClass RX1 = some m.cls := hown
  have hl : lv_has ls 3 [(0, .ref h0), (1, .int x), (2, .int z)] := hl
  generalize hE : tw_mget k F g x z = E at hend
  refine lv_aload_n hx hb dX1_get_0 rfl (lv_at hl 0 rfl) ?_
  refine lv_iconst (v := 0) hx hb dX1_get_1 (by decide) ?_
  refine va_put (D := D) (ci := 1) (v := .int 0) (ty := .int) (C := RX1) (T := TX1) (N := 4) hx hb hts inX1_get tyX1 tyX1_ok nmX1 hown hK hP hD hS 0 rfl rfl 0 (by decide) (hts _ fX1_get_21) (fun _ h9 => h9) rfl (by decide +kernel) rfl rfl (Nat.le_of_ble_eq_true rfl) dX1_get_2 (fun H locs hP hD hS => ?_)
  have hP : va_P D vwCl (tw_M cA cB h0 a0 b0 k F g) H := hP
  have hD : va_D A (tw_M cA cB h0 a0 b0 k F g) := hD
  refine lv_aload_n hx hb dX1_get_5 rfl (lv_at hl 0 rfl) ?_
  refine lv_iload_n hx hb dX1_get_6 rfl (lv_at hl 1 rfl) ?_
  refine tw_rM ⟨hx, hb, hml, hown, hts⟩ hK hP (c_X1_noUnit l D cA cB h0 a0 b0 k F g x) (cwV 1 hts gX1_get_X1_noUnit rfl rfl rfl kdX1_noUnit ⟨Nat.le_of_ble_eq_true rfl, Nat.le_of_ble_eq_true rfl⟩) rfl hl.1 rfl (Nat.le_of_ble_eq_true rfl) dX1_get_7 ⟨Nat.zero_le _, Nat.zero_le _⟩ ?_
  refine lv_if_ne (tgt := 32) hx hb dX1_get_10 (by decide) (fun c_10 => ?_) (fun c_10 => ?_)
  · rw [tw_bI1] at c_10
    refine lv_iconst (v := (-1)) hx hb dX1_get_32 (by decide) ?_
    refine lv_goto (tgt := 47) hx hb dX1_get_33 (by decide) ?_
    exact hend _ _ _ (k, F, g) _ _ dX1_get_47 (by rw [← hE, tw_mget, if_neg (by first | (simp [c_10]; done) | (simp [hcu, c_19]; done) | (simp [c_23]; done) | (simp [c_29]; done))]) hP hD hS
  · rw [tw_bI0] at c_10
    obtain ⟨u, huk, rfl⟩ := tw_nuD hk c_10
    have hcu : (nI u).toNatClampNeg = u := nI_clamp (by omega)
    refine lv_aload_n hx hb dX1_get_13 rfl (lv_at hl 0 rfl) ?_
    refine va_get (D := D) (ci := 1) (v := .ref b0) (C := RX1) (T := TX1) (N := 4) hx hb hts inX1_get hown hK hP 0 rfl rfl 3 (by decide) (hts _ fX1_get_13) (fun _ h9 => h9) rfl dX1_get_14 ?_
    refine lv_iload_n hx hb dX1_get_17 rfl (lv_at hl 1 rfl) ?_
    refine tw_lz hx hb hK hP 2 1 rfl rfl (n := u) (rfl) (by omega) (by decide) dX1_get_18 ?_
    refine lv_if_ne (tgt := 32) hx hb dX1_get_19 (by decide) (fun c_19 => ?_) (fun c_19 => ?_)
    · rw [tw_bI1] at c_19
      refine lv_iconst (v := (-1)) hx hb dX1_get_32 (by decide) ?_
      refine lv_goto (tgt := 47) hx hb dX1_get_33 (by decide) ?_
      exact hend _ _ _ (k, F, g) _ _ dX1_get_47 (by rw [← hE, tw_mget, if_neg (by first | (simp [c_10]; done) | (simp [hcu, c_19]; done) | (simp [c_23]; done) | (simp [c_29]; done))]) hP hD hS
    · rw [tw_bI0] at c_19
      refine lv_iload_n hx hb dX1_get_22 rfl (lv_at hl 2 rfl) ?_
      refine lv_if_lt (tgt := 32) hx hb dX1_get_23 (by decide) (fun c_23 => ?_) (fun c_23 => ?_)
      · refine lv_iconst (v := (-1)) hx hb dX1_get_32 (by decide) ?_
        refine lv_goto (tgt := 47) hx hb dX1_get_33 (by decide) ?_
        exact hend _ _ _ (k, F, g) _ _ dX1_get_47 (by rw [← hE, tw_mget, if_neg (by first | (simp [c_10]; done) | (simp [hcu, c_19]; done) | (simp [c_23]; done) | (simp [c_29]; done))]) hP hD hS
      · refine lv_iload_n hx hb dX1_get_26 rfl (lv_at hl 2 rfl) ?_
        refine lv_bipush (v := 64) hx hb dX1_get_27 (by decide) ?_
        refine lv_icmp_lt (tgt := 36) hx hb dX1_get_29 (by decide) (fun c_29 => ?_) (fun c_29 => ?_)
        · obtain ⟨i, hi0, rfl⟩ := nI_of c_23
          have hi : i < 64 := (nI_ltI hi0 (by decide)).mp (show nI i < nI 64 from c_29)
          refine lv_aload_n hx hb dX1_get_36 rfl (lv_at hl 0 rfl) ?_
          refine va_get (D := D) (ci := 1) (v := .ref a0) (C := RX1) (T := TX1) (N := 4) hx hb hts inX1_get hown hK hP 0 rfl rfl 2 (by decide) (hts _ fX1_get_7) (fun _ h9 => h9) rfl dX1_get_37 ?_
          refine lv_bipush (v := 64) hx hb dX1_get_40 (by decide) ?_
          refine lv_iload_n hx hb dX1_get_42 rfl (lv_at hl 1 rfl) ?_
          refine lv_imul hx hb dX1_get_43 ?_
          refine lv_iload_n hx hb dX1_get_44 rfl (lv_at hl 2 rfl) ?_
          refine lv_iadd hx hb dX1_get_45 ?_
          refine tw_ld hx hb hK hP 1 0 rfl rfl (n := 64 * u + i) (tw_ix' u i) (by omega) (by decide) dX1_get_46 ?_
          exact hend _ _ _ (k, F, g) _ _ dX1_get_47 (by rw [← hE, tw_mget, hcu, nI_clamp (show i < 2 ^ 31 by omega)]; simp [c_10, c_19, c_23, c_29]) hP hD hS
        · refine lv_iconst (v := (-1)) hx hb dX1_get_32 (by decide) ?_
          refine lv_goto (tgt := 47) hx hb dX1_get_33 (by decide) ?_
          exact hend _ _ _ (k, F, g) _ _ dX1_get_47 (by rw [← hE, tw_mget, if_neg (by first | (simp [c_10]; done) | (simp [hcu, c_19]; done) | (simp [c_23]; done) | (simp [c_29]; done))]) hP hD hS
def tw_wg (k : Nat) (g : Nat → Bool) (x z : Int32) : Bool := !tw_nu k x && (!g x.toNatClampNeg && tw_w8 z)
def tw_mword (k : Nat) (F : Nat → BitVec 8) (g : Nat → Bool) (x z : Int32) : Int64 := if tw_wg k g x z then tw_wval F x.toNatClampNeg z.toNatClampNeg else 0
abbrev rmX1_word : Room := { frames := 1, cells := 0, slots := 0, locals := 21 }
theorem inX1_word : ∀ w ∈ wsX10, w ∈ wsX1_word := fun _ h => List.mem_cons_of_mem _ (List.mem_append_right _ h)
theorem fX1_word_21 : Cond.fieldLink RX1 21 "TwinParityModel" "thrown" "I" ∈ wsX1_word := List.mem_of_getElem? (i := 1) rfl
theorem fX1_word_13 : Cond.fieldLink RX1 13 "TwinParityModel" "lost" "[Z" ∈ wsX1_word := List.mem_of_getElem? (i := 2) rfl
theorem fX1_word_7 : Cond.fieldLink RX1 7 "TwinParityModel" "bytes" "[I" ∈ wsX1_word := List.mem_of_getElem? (i := 3) rfl
theorem fX1_word_25 : Cond.fieldLink RX1 25 "TwinParityModel" "units" "I" ∈ wsX1_word := List.mem_of_getElem? (i := 9) rfl
theorem kdX1_word : yX1_word.cls = RX1 ∧ yX1_word.cls ≠ "java/lang/invoke/MethodHandle" ∧ yX1_word.cls ≠ "java/lang/invoke/VarHandle" ∧ (parseMethodDescriptor yX1_word.desc).map (fun d => d.parameters.length) = some 2 := by decide +kernel
set_option maxHeartbeats 4000000 in
set_option maxRecDepth 100000 in
theorem c_X1_word (l : Launch) (D : va_G) (cA cB : ClassId) (h0 a0 b0 k : Nat) (F : Nat → BitVec 8) (g : Nat → Bool) (sz : Nat) (x z : Int32) (hk : k ≤ 14) : Met l yX1_word wsX1_word rmX1_word (va_Pc [.ref h0, .int x, .int z] (tw_Pw D (tw_M cA cB h0 a0 b0 k F g) (tw_tM cA cB) sz)) (va_Ql (fun (r : Int64) (u : Nat × (Nat → BitVec 8) × (Nat → Bool)) => (r, u) = (tw_mword k F g x z, (k, F, g))) (tw_Qw D (fun u : Nat × (Nat → BitVec 8) × (Nat → Bool) => tw_M cA cB h0 a0 b0 u.1 u.2.1 u.2.2) (tw_tM cA cB) (va_A (tw_M cA cB h0 a0 b0 k F g) sz)) (va_A (tw_M cA cB h0 a0 b0 k F g) sz)) 0 0 (va_A (tw_M cA cB h0 a0 b0 k F g) sz) := by
  refine tw_metWl (by decide) rfl rfl (Nat.le_of_ble_eq_true rfl) ?_
  intro p e s m args below meth c Q ls A hx hb hml hown hts hP hK hD hS hA hend hl
  have hown : s.vm.findClass RX1 = some m.cls := hown
  have hl : lv_has ls 6 [(0, .ref h0), (1, .int x), (2, .int z)] := hl
  generalize hE : tw_mword k F g x z = E at hend
  refine lv_aload_n hx hb dX1_word_0 rfl (lv_at hl 0 rfl) ?_
  refine lv_iconst (v := 0) hx hb dX1_word_1 (by decide) ?_
  refine va_put (D := D) (ci := 1) (v := .int 0) (ty := .int) (C := RX1) (T := TX1) (N := 4) hx hb hts inX1_word tyX1 tyX1_ok nmX1 hown hK hP hD hS 0 rfl rfl 0 (by decide) (hts _ fX1_word_21) (fun _ h9 => h9) rfl (by decide +kernel) rfl rfl (Nat.le_of_ble_eq_true rfl) dX1_word_2 (fun H locs hP hD hS => ?_)
  have hP : va_P D vwCl (tw_M cA cB h0 a0 b0 k F g) H := hP
  have hD : va_D A (tw_M cA cB h0 a0 b0 k F g) := hD
  refine lv_lconst (v := 0) hx hb dX1_word_5 (by decide) ?_
  refine lv_lstore_n (lv' := [(3, .long 0), (0, .ref h0), (1, .int x), (2, .int z)]) hx hb dX1_word_6 rfl hl (by decide) rfl (fun ls hl => ?_)
  refine lv_bipush (v := 7) hx hb dX1_word_7 (by decide) ?_
  refine lv_istore (lv' := [(5, .int 7), (3, .long 0), (0, .ref h0), (1, .int x), (2, .int z)]) hx hb dX1_word_9 hl (by decide) rfl (fun ls hl => ?_)
  cases hg : tw_wg k g x z with
  | false =>
    refine lv_iload hx hb dX1_word_11 (lv_at hl 0 rfl) ?_
    refine lv_if_lt (tgt := 73) hx hb dX1_word_13 (by decide) (fun c_13 => ?_) (fun c_13 => ?_)
    · exact absurd c_13 (by decide)
    · refine lv_aload_n hx hb dX1_word_16 rfl (lv_at hl 2 rfl) ?_
      refine lv_iload_n hx hb dX1_word_17 rfl (lv_at hl 3 rfl) ?_
      refine tw_rM ⟨hx, hb, hml, hown, hts⟩ hK hP (c_X1_noUnit l D cA cB h0 a0 b0 k F g x) (cwV 1 hts gX1_word_X1_noUnit rfl rfl rfl kdX1_noUnit ⟨Nat.le_of_ble_eq_true rfl, Nat.le_of_ble_eq_true rfl⟩) rfl hl.1 rfl (Nat.le_of_ble_eq_true rfl) dX1_word_18 ⟨Nat.zero_le _, Nat.zero_le _⟩ ?_
      refine lv_if_ne (tgt := 73) hx hb dX1_word_21 (by decide) (fun c_21 => ?_) (fun c_21 => ?_)
      · rw [tw_bI1] at c_21
        refine lv_lload_n hx hb dX1_word_73 rfl (lv_at hl 1 rfl) ?_
        exact hend _ _ _ (k, F, g) _ _ dX1_word_74 (by rw [← hE, tw_mword, hg]; rfl) hP hD hS
      · rw [tw_bI0] at c_21
        obtain ⟨u, huk, rfl⟩ := tw_nuD hk c_21
        have hcu : (nI u).toNatClampNeg = u := nI_clamp (by omega)
        refine lv_aload_n hx hb dX1_word_24 rfl (lv_at hl 2 rfl) ?_
        refine va_get (D := D) (ci := 1) (v := .ref b0) (C := RX1) (T := TX1) (N := 4) hx hb hts inX1_word hown hK hP 0 rfl rfl 3 (by decide) (hts _ fX1_word_13) (fun _ h9 => h9) rfl dX1_word_25 ?_
        refine lv_iload_n hx hb dX1_word_28 rfl (lv_at hl 3 rfl) ?_
        refine tw_lz hx hb hK hP 2 1 rfl rfl (n := u) (rfl) (by omega) (by decide) dX1_word_29 ?_
        refine lv_if_ne (tgt := 73) hx hb dX1_word_30 (by decide) (fun c_30 => ?_) (fun c_30 => ?_)
        · rw [tw_bI1] at c_30
          refine lv_lload_n hx hb dX1_word_73 rfl (lv_at hl 1 rfl) ?_
          exact hend _ _ _ (k, F, g) _ _ dX1_word_74 (by rw [← hE, tw_mword, hg]; rfl) hP hD hS
        · rw [tw_bI0] at c_30
          refine lv_iload_n hx hb dX1_word_33 rfl (lv_at hl 4 rfl) ?_
          refine lv_if_lt (tgt := 73) hx hb dX1_word_34 (by decide) (fun c_34 => ?_) (fun c_34 => ?_)
          · refine lv_lload_n hx hb dX1_word_73 rfl (lv_at hl 1 rfl) ?_
            exact hend _ _ _ (k, F, g) _ _ dX1_word_74 (by rw [← hE, tw_mword, hg]; rfl) hP hD hS
          · refine lv_iload_n hx hb dX1_word_37 rfl (lv_at hl 4 rfl) ?_
            refine lv_bipush (v := 8) hx hb dX1_word_38 (by decide) ?_
            refine lv_icmp_ge (tgt := 73) hx hb dX1_word_40 (by decide) (fun c_40 => ?_) (fun c_40 => ?_)
            · refine lv_lload_n hx hb dX1_word_73 rfl (lv_at hl 1 rfl) ?_
              exact hend _ _ _ (k, F, g) _ _ dX1_word_74 (by rw [← hE, tw_mword, hg]; rfl) hP hD hS
            · exact absurd hg (by simp [tw_wg, tw_w8, hcu, c_21, c_30, c_34, c_40])
  | true =>
    have hg2 := hg
    simp only [tw_wg, tw_w8, Bool.and_eq_true, Bool.not_eq_true', decide_eq_false_iff_not] at hg2
    obtain ⟨u, huk, rfl⟩ := tw_nuD hk hg2.1
    have hcu : (nI u).toNatClampNeg = u := nI_clamp (by omega)
    have hgu : g u = false := by rw [← hcu]; exact hg2.2.1
    obtain ⟨i, hi0, rfl⟩ := nI_of hg2.2.2.1
    have hi : i < 8 := by rcases Nat.lt_or_ge i 8 with q | q; exact q; exact absurd (nI_le (a := 8) q hi0) hg2.2.2.2
    have loop : ∀ (n : Nat) (ls : Array Slot), n ≤ 8 → lv_has ls 6 [(0, .ref h0), (1, .int (nI u)), (2, .int (nI i)), (3, .long (tq_wd (fun j => F (64 * u + (8 * i + j))) (8 - n))), (5, .int (nI n - 1))] → W p l e rmX1_word s m args below meth c H locs 0 0 Q (F0 m 11 ls []) := by
      intro n
      induction n with
      | zero =>
        intro ls hn hl
        have hl : lv_has ls 6 [(0, .ref h0), (1, .int (nI u)), (2, .int (nI i)), (3, .long (tq_wd (fun j => F (64 * u + (8 * i + j))) (8 - 0))), (5, .int ((-1)))] := hl
        refine lv_iload hx hb dX1_word_11 (lv_at hl 4 rfl) ?_
        refine lv_if_lt (tgt := 73) hx hb dX1_word_13 (by decide) (fun c_13 => ?_) (fun c_13 => ?_)
        · refine lv_lload_n hx hb dX1_word_73 rfl (lv_at hl 3 rfl) ?_
          exact hend _ _ _ (k, F, g) _ _ dX1_word_74 (by rw [← hE, tw_mword, hg, hcu, nI_clamp (show i < 2 ^ 31 by omega)]; rfl) hP hD hS
        · exact absurd (by decide) c_13
      | succ n ih =>
        intro ls hn hl
        rw [nI_pred] at hl
        refine lv_iload hx hb dX1_word_11 (lv_at hl 4 rfl) ?_
        refine lv_if_lt (tgt := 73) hx hb dX1_word_13 (by decide) (fun c_13 => ?_) (fun c_13 => ?_)
        · exact absurd c_13 (nI_pos (by omega))
        · refine lv_aload_n hx hb dX1_word_16 rfl (lv_at hl 0 rfl) ?_
          refine lv_iload_n hx hb dX1_word_17 rfl (lv_at hl 1 rfl) ?_
          refine tw_rM ⟨hx, hb, hml, hown, hts⟩ hK hP (c_X1_noUnit l D cA cB h0 a0 b0 k F g (nI u)) (cwV 1 hts gX1_word_X1_noUnit rfl rfl rfl kdX1_noUnit ⟨Nat.le_of_ble_eq_true rfl, Nat.le_of_ble_eq_true rfl⟩) rfl hl.1 rfl (Nat.le_of_ble_eq_true rfl) dX1_word_18 ⟨Nat.zero_le _, Nat.zero_le _⟩ ?_
          refine lv_if_ne (tgt := 73) hx hb dX1_word_21 (by decide) (fun c_21 => ?_) (fun c_21 => ?_)
          · exact absurd (tw_bI1.mp c_21) (by rw [tw_nuI hk huk]; decide)
          · refine lv_aload_n hx hb dX1_word_24 rfl (lv_at hl 0 rfl) ?_
            refine va_get (D := D) (ci := 1) (v := .ref b0) (C := RX1) (T := TX1) (N := 4) hx hb hts inX1_word hown hK hP 0 rfl rfl 3 (by decide) (hts _ fX1_word_13) (fun _ h9 => h9) rfl dX1_word_25 ?_
            refine lv_iload_n hx hb dX1_word_28 rfl (lv_at hl 1 rfl) ?_
            refine tw_lz hx hb hK hP 2 1 rfl rfl (n := u) (rfl) (by omega) (by decide) dX1_word_29 ?_
            refine lv_if_ne (tgt := 73) hx hb dX1_word_30 (by decide) (fun c_30 => ?_) (fun c_30 => ?_)
            · exact absurd (tw_bI1.mp c_30) (by rw [hgu]; decide)
            · refine lv_iload_n hx hb dX1_word_33 rfl (lv_at hl 2 rfl) ?_
              refine lv_if_lt (tgt := 73) hx hb dX1_word_34 (by decide) (fun c_34 => ?_) (fun c_34 => ?_)
              · exact absurd c_34 (nI_pos (by omega))
              · refine lv_iload_n hx hb dX1_word_37 rfl (lv_at hl 2 rfl) ?_
                refine lv_bipush (v := 8) hx hb dX1_word_38 (by decide) ?_
                refine lv_icmp_ge (tgt := 73) hx hb dX1_word_40 (by decide) (fun c_40 => ?_) (fun c_40 => ?_)
                · exact absurd c_40 (nI_ge (b := 8) (by omega) (by omega))
                · refine lv_lload_n hx hb dX1_word_43 rfl (lv_at hl 3 rfl) ?_
                  refine lv_bipush (v := 8) hx hb dX1_word_44 (by decide) ?_
                  refine lv_lshl hx hb dX1_word_46 rfl ?_
                  refine lv_aload_n hx hb dX1_word_47 rfl (lv_at hl 0 rfl) ?_
                  refine va_get (D := D) (ci := 1) (v := .ref a0) (C := RX1) (T := TX1) (N := 4) hx hb hts inX1_word hown hK hP 0 rfl rfl 2 (by decide) (hts _ fX1_word_7) (fun _ h9 => h9) rfl dX1_word_48 ?_
                  refine lv_bipush (v := 64) hx hb dX1_word_51 (by decide) ?_
                  refine lv_iload_n hx hb dX1_word_53 rfl (lv_at hl 1 rfl) ?_
                  refine lv_imul hx hb dX1_word_54 ?_
                  refine lv_bipush (v := 8) hx hb dX1_word_55 (by decide) ?_
                  refine lv_iload_n hx hb dX1_word_57 rfl (lv_at hl 2 rfl) ?_
                  refine lv_imul hx hb dX1_word_58 ?_
                  refine lv_iadd hx hb dX1_word_59 ?_
                  refine tw_topr (x' := nI (64 * u + 8 * i)) (by rw [show (8 : Int32) = nI 8 from rfl, show (64 : Int32) = nI 64 from rfl, pk_mul, pk_mul, nI_add]) ?_
                  refine lv_iload hx hb dX1_word_60 (lv_at hl 4 rfl) ?_
                  refine lv_iadd hx hb dX1_word_62 ?_
                  refine tw_ld hx hb hK hP 1 0 rfl rfl (n := 64 * u + (8 * i + n)) (by rw [nI_add, Nat.add_assoc]) (by omega) (by decide) dX1_word_63 ?_
                  refine lv_i2l hx hb dX1_word_64 rfl ?_
                  refine lv_lor hx hb dX1_word_65 ?_
                  refine tw_toprl (x' := tq_wd (fun j => F (64 * u + (8 * i + j))) (8 - n)) (by rw [show 8 - n = (8 - (n + 1)) + 1 by omega, tq_wd, show 7 - (8 - (n + 1)) = n by omega]) ?_
                  refine lv_lstore_n (lv' := [(3, .long (tq_wd (fun j => F (64 * u + (8 * i + j))) (8 - n))), (0, .ref h0), (1, .int (nI u)), (2, .int (nI i)), (5, .int (nI n))]) hx hb dX1_word_66 rfl hl (by decide) rfl (fun ls hl => ?_)
                  refine lv_iinc (v := nI n - 1) (lv' := [(5, .int (nI n - 1)), (3, .long (tq_wd (fun j => F (64 * u + (8 * i + j))) (8 - n))), (0, .ref h0), (1, .int (nI u)), (2, .int (nI i))]) hx hb dX1_word_67 hl (k := 4) rfl (tw_dec n) (by decide) rfl (fun ls hl => ?_)
                  refine lv_goto (tgt := 11) hx hb dX1_word_70 (by decide) ?_
                  exact ih ls (by omega) (lv_sub hl [2, 3, 4, 1, 0] rfl)
    exact loop 8 ls (Nat.le_refl 8) (lv_sub hl [2, 3, 4, 1, 0] rfl)
def tw_mlose (k : Nat) (F : Nat → BitVec 8) (g : Nat → Bool) (x : Int32) : Int32 × (Nat × (Nat → BitVec 8) × (Nat → Bool)) := if !tw_nu k x && !g x.toNatClampNeg then (if tw_mc g (k + 2) = 2 then (-3, (k, F, g)) else (nI (tw_mc (va_up g x.toNatClampNeg true) (k + 2)), (k, F, va_up g x.toNatClampNeg true))) else (-1, (k, F, g))
abbrev rmX1_lose : Room := { frames := 1, cells := 0, slots := 0, locals := 22 }
theorem inX1_lose : ∀ w ∈ wsX10, w ∈ wsX1_lose := fun _ h => List.mem_cons_of_mem _ (List.mem_append_right _ h)
theorem fX1_lose_21 : Cond.fieldLink RX1 21 "TwinParityModel" "thrown" "I" ∈ wsX1_lose := List.mem_of_getElem? (i := 1) rfl
theorem fX1_lose_13 : Cond.fieldLink RX1 13 "TwinParityModel" "lost" "[Z" ∈ wsX1_lose := List.mem_of_getElem? (i := 2) rfl
theorem fX1_lose_25 : Cond.fieldLink RX1 25 "TwinParityModel" "units" "I" ∈ wsX1_lose := List.mem_of_getElem? (i := 8) rfl
theorem kdX1_lose : yX1_lose.cls = RX1 ∧ yX1_lose.cls ≠ "java/lang/invoke/MethodHandle" ∧ yX1_lose.cls ≠ "java/lang/invoke/VarHandle" ∧ (parseMethodDescriptor yX1_lose.desc).map (fun d => d.parameters.length) = some 1 := by decide +kernel
set_option maxHeartbeats 4000000 in
set_option maxRecDepth 100000 in
theorem c_X1_lose (l : Launch) (D : va_G) (cA cB : ClassId) (h0 a0 b0 k : Nat) (F : Nat → BitVec 8) (g : Nat → Bool) (sz : Nat) (x : Int32) (hk : k ≤ 14) : Met l yX1_lose wsX1_lose rmX1_lose (va_Pc [.ref h0, .int x] (tw_Pw D (tw_M cA cB h0 a0 b0 k F g) (tw_tM cA cB) sz)) (va_Qi (fun (r : Int32) (u : Nat × (Nat → BitVec 8) × (Nat → Bool)) => (r, u) = tw_mlose k F g x) (tw_Qw D (fun u : Nat × (Nat → BitVec 8) × (Nat → Bool) => tw_M cA cB h0 a0 b0 u.1 u.2.1 u.2.2) (tw_tM cA cB) (va_A (tw_M cA cB h0 a0 b0 k F g) sz)) (va_A (tw_M cA cB h0 a0 b0 k F g) sz)) 0 0 (va_A (tw_M cA cB h0 a0 b0 k F g) sz) := by
  refine tw_metW (by decide) rfl rfl (Nat.le_of_ble_eq_true rfl) ?_
  intro p e s m args below meth c Q ls A hx hb hml hown hts hP hK hD hS hA hend hl
  have hown : s.vm.findClass RX1 = some m.cls := hown
  have hl : lv_has ls 2 [(0, .ref h0), (1, .int x)] := hl
  generalize hE : tw_mlose k F g x = E at hend
  refine lv_aload_n hx hb dX1_lose_0 rfl (lv_at hl 0 rfl) ?_
  refine lv_iconst (v := 0) hx hb dX1_lose_1 (by decide) ?_
  refine va_put (D := D) (ci := 1) (v := .int 0) (ty := .int) (C := RX1) (T := TX1) (N := 4) hx hb hts inX1_lose tyX1 tyX1_ok nmX1 hown hK hP hD hS 0 rfl rfl 0 (by decide) (hts _ fX1_lose_21) (fun _ h9 => h9) rfl (by decide +kernel) rfl rfl (Nat.le_of_ble_eq_true rfl) dX1_lose_2 (fun H locs hP hD hS => ?_)
  have hP : va_P D vwCl (tw_M cA cB h0 a0 b0 k F g) H := hP
  have hD : va_D A (tw_M cA cB h0 a0 b0 k F g) := hD
  refine lv_aload_n hx hb dX1_lose_5 rfl (lv_at hl 0 rfl) ?_
  refine lv_iload_n hx hb dX1_lose_6 rfl (lv_at hl 1 rfl) ?_
  refine tw_rM ⟨hx, hb, hml, hown, hts⟩ hK hP (c_X1_noUnit l D cA cB h0 a0 b0 k F g x) (cwV 1 hts gX1_lose_X1_noUnit rfl rfl rfl kdX1_noUnit ⟨Nat.le_of_ble_eq_true rfl, Nat.le_of_ble_eq_true rfl⟩) rfl hl.1 rfl (Nat.le_of_ble_eq_true rfl) dX1_lose_7 ⟨Nat.zero_le _, Nat.zero_le _⟩ ?_
  refine lv_if_ne (tgt := 22) hx hb dX1_lose_10 (by decide) (fun c_10 => ?_) (fun c_10 => ?_)
  · rw [tw_bI1] at c_10
    refine lv_iconst (v := (-1)) hx hb dX1_lose_22 (by decide) ?_
    exact hend _ _ _ (k, F, g) _ _ dX1_lose_23 (by rw [← hE, tw_mlose, if_neg (by first | (simp [c_10]; done) | (simp [hcu, c_19]; done))]) hP hD hS
  · rw [tw_bI0] at c_10
    obtain ⟨u, huk, rfl⟩ := tw_nuD hk c_10
    have hcu : (nI u).toNatClampNeg = u := nI_clamp (by omega)
    refine lv_aload_n hx hb dX1_lose_13 rfl (lv_at hl 0 rfl) ?_
    refine va_get (D := D) (ci := 1) (v := .ref b0) (C := RX1) (T := TX1) (N := 4) hx hb hts inX1_lose hown hK hP 0 rfl rfl 3 (by decide) (hts _ fX1_lose_13) (fun _ h9 => h9) rfl dX1_lose_14 ?_
    refine lv_iload_n hx hb dX1_lose_17 rfl (lv_at hl 1 rfl) ?_
    refine tw_lz hx hb hK hP 2 1 rfl rfl (n := u) (rfl) (by omega) (by decide) dX1_lose_18 ?_
    refine lv_if_eq (tgt := 24) hx hb dX1_lose_19 (by decide) (fun c_19 => ?_) (fun c_19 => ?_)
    · rw [tw_bI0] at c_19
      refine lv_aload_n hx hb dX1_lose_24 rfl (lv_at hl 0 rfl) ?_
      refine tw_rM ⟨hx, hb, hml, hown, hts⟩ hK hP (c_X1_manyLost l D cA cB h0 a0 b0 k F g hk) (cwV 0 hts gX1_lose_X1_manyLost rfl rfl rfl kdX1_manyLost ⟨Nat.le_of_ble_eq_true rfl, Nat.le_of_ble_eq_true rfl⟩) rfl hl.1 rfl (Nat.le_of_ble_eq_true rfl) dX1_lose_25 ⟨Nat.zero_le _, Nat.zero_le _⟩ ?_
      refine lv_iconst (v := 2) hx hb dX1_lose_28 (by decide) ?_
      refine lv_icmp_ne (tgt := 35) hx hb dX1_lose_29 (by decide) (fun c_29 => ?_) (fun c_29 => ?_)
      · refine lv_aload_n hx hb dX1_lose_35 rfl (lv_at hl 0 rfl) ?_
        refine va_get (D := D) (ci := 1) (v := .ref b0) (C := RX1) (T := TX1) (N := 4) hx hb hts inX1_lose hown hK hP 0 rfl rfl 3 (by decide) (hts _ fX1_lose_13) (fun _ h9 => h9) rfl dX1_lose_36 ?_
        refine lv_iload_n hx hb dX1_lose_39 rfl (lv_at hl 1 rfl) ?_
        refine lv_iconst (v := 1) hx hb dX1_lose_40 (by decide) ?_
        refine tw_sz hx hb hK hP hD hS 2 1 rfl rfl (n := u) (v := true) (rfl) (rfl) (by omega) (by decide) dX1_lose_41 (fun H locs hP hD hS => ?_)
        have hP : va_P D vwCl (tw_M cA cB h0 a0 b0 k F (va_up g (u) (true))) H := hP
        have hD : va_D A (tw_M cA cB h0 a0 b0 k F (va_up g (u) (true))) := hD
        refine lv_aload_n hx hb dX1_lose_42 rfl (lv_at hl 0 rfl) ?_
        refine tw_rM ⟨hx, hb, hml, hown, hts⟩ hK hP (c_X1_manyLost l D cA cB h0 a0 b0 k F (va_up g (u) (true)) hk) (cwV 0 hts gX1_lose_X1_manyLost rfl rfl rfl kdX1_manyLost ⟨Nat.le_of_ble_eq_true rfl, Nat.le_of_ble_eq_true rfl⟩) rfl hl.1 rfl (Nat.le_of_ble_eq_true rfl) dX1_lose_43 ⟨Nat.zero_le _, Nat.zero_le _⟩ ?_
        exact hend _ _ _ (k, F, va_up g u true) _ _ dX1_lose_46 (by rw [← hE, tw_mlose, hcu, c_10, c_19, if_neg (show ¬ tw_mc g (k + 2) = 2 from fun h9 => c_29 (by rw [h9]; rfl))]; rfl) hP hD hS
      · refine lv_bipush (v := (-3)) hx hb dX1_lose_32 (by decide) ?_
        exact hend _ _ _ (k, F, g) _ _ dX1_lose_34 (by have h9 := tw_mc_le g (k + 2); have h8 : tw_mc g (k + 2) = 2 := (nI_eq (by omega) (by decide)).mp c_29; rw [← hE, tw_mlose, hcu, c_10, c_19, h8]; rfl) hP hD hS
    · rw [tw_bI1] at c_19
      refine lv_iconst (v := (-1)) hx hb dX1_lose_22 (by decide) ?_
      exact hend _ _ _ (k, F, g) _ _ dX1_lose_23 (by rw [← hE, tw_mlose, if_neg (by first | (simp [c_10]; done) | (simp [hcu, c_19]; done))]) hP hD hS
def tw_mcheck (k : Nat) (F : Nat → BitVec 8) (g : Nat → Bool) : Int32 := if tw_mc g (k + 2) = 0 then tw_mo k g F else -1
abbrev rmX1_check : Room := { frames := 4, cells := 0, slots := 0, locals := 99 }
theorem inX1_check : ∀ w ∈ wsX10, w ∈ wsX1_check := fun _ h => List.mem_cons_of_mem _ (List.mem_append_right _ h)
theorem fX1_check_21 : Cond.fieldLink RX1 21 "TwinParityModel" "thrown" "I" ∈ wsX1_check := List.mem_of_getElem? (i := 1) rfl
theorem fX1_check_25 : Cond.fieldLink RX1 25 "TwinParityModel" "units" "I" ∈ wsX1_check := List.mem_of_getElem? (i := 7) rfl
theorem fX1_check_13 : Cond.fieldLink RX1 13 "TwinParityModel" "lost" "[Z" ∈ wsX1_check := List.mem_of_getElem? (i := 8) rfl
theorem fX1_check_7 : Cond.fieldLink RX1 7 "TwinParityModel" "bytes" "[I" ∈ wsX1_check := List.mem_of_getElem? (i := 13) rfl
theorem kdX1_check : yX1_check.cls = RX1 ∧ yX1_check.cls ≠ "java/lang/invoke/MethodHandle" ∧ yX1_check.cls ≠ "java/lang/invoke/VarHandle" ∧ (parseMethodDescriptor yX1_check.desc).map (fun d => d.parameters.length) = some 0 := by decide +kernel
set_option maxHeartbeats 4000000 in
set_option maxRecDepth 100000 in
theorem c_X1_check (l : Launch) (D : va_G) (cA cB : ClassId) (h0 a0 b0 k : Nat) (F : Nat → BitVec 8) (g : Nat → Bool) (sz : Nat) (hk : k ≤ 14) : Met l yX1_check wsX1_check rmX1_check (va_Pc [.ref h0] (tw_Pw D (tw_M cA cB h0 a0 b0 k F g) (tw_tM cA cB) sz)) (va_Qi (fun (r : Int32) (u : Nat × (Nat → BitVec 8) × (Nat → Bool)) => (r, u) = (tw_mcheck k F g, (k, F, g))) (tw_Qw D (fun u : Nat × (Nat → BitVec 8) × (Nat → Bool) => tw_M cA cB h0 a0 b0 u.1 u.2.1 u.2.2) (tw_tM cA cB) (va_A (tw_M cA cB h0 a0 b0 k F g) sz)) (va_A (tw_M cA cB h0 a0 b0 k F g) sz)) 0 0 (va_A (tw_M cA cB h0 a0 b0 k F g) sz) := by
  refine tw_metW (by decide) rfl rfl (Nat.le_of_ble_eq_true rfl) ?_
  intro p e s m args below meth c Q ls A hx hb hml hown hts hP hK hD hS hA hend hl
  have hown : s.vm.findClass RX1 = some m.cls := hown
  have hl : lv_has ls 1 [(0, .ref h0)] := hl
  refine lv_aload_n hx hb dX1_check_0 rfl (lv_at hl 0 rfl) ?_
  refine lv_iconst (v := 0) hx hb dX1_check_1 (by decide) ?_
  refine va_put (D := D) (ci := 1) (v := .int 0) (ty := .int) (C := RX1) (T := TX1) (N := 4) hx hb hts inX1_check tyX1 tyX1_ok nmX1 hown hK hP hD hS 0 rfl rfl 0 (by decide) (hts _ fX1_check_21) (fun _ h9 => h9) rfl (by decide +kernel) rfl rfl (Nat.le_of_ble_eq_true rfl) dX1_check_2 (fun H locs hP hD hS => ?_)
  have hP : va_P D vwCl (tw_M cA cB h0 a0 b0 k F g) H := hP
  have hD : va_D A (tw_M cA cB h0 a0 b0 k F g) := hD
  refine lv_aload_n hx hb dX1_check_5 rfl (lv_at hl 0 rfl) ?_
  refine tw_rM ⟨hx, hb, hml, hown, hts⟩ hK hP (c_X1_manyLost l D cA cB h0 a0 b0 k F g hk) (cwV 0 hts gX1_check_X1_manyLost rfl rfl rfl kdX1_manyLost ⟨Nat.le_of_ble_eq_true rfl, Nat.le_of_ble_eq_true rfl⟩) rfl hl.1 rfl (Nat.le_of_ble_eq_true rfl) dX1_check_6 ⟨Nat.zero_le _, Nat.zero_le _⟩ ?_
  refine lv_if_le (tgt := 16) hx hb dX1_check_9 (by decide) (fun c_9 => ?_) (fun c_9 => ?_)
  · refine lv_aload_n hx hb dX1_check_16 rfl (lv_at hl 0 rfl) ?_
    refine tw_rM ⟨hx, hb, hml, hown, hts⟩ hK hP (c_X1_off l D cA cB h0 a0 b0 k F g hk) (cwV 0 hts gX1_check_X1_off rfl rfl rfl kdX1_off ⟨Nat.le_of_ble_eq_true rfl, Nat.le_of_ble_eq_true rfl⟩) rfl hl.1 rfl (Nat.le_of_ble_eq_true rfl) dX1_check_17 ⟨Nat.zero_le _, Nat.zero_le _⟩ ?_
    exact hend _ _ _ (k, F, g) _ _ dX1_check_20 (by have h9 := tw_mc_le g (k + 2); rcases Nat.eq_zero_or_pos (tw_mc g (k + 2)) with h8 | h8; rw [tw_mcheck, if_pos h8]; exact absurd c_9 (nI_nle h8 (by omega))) hP hD hS
  · refine lv_iconst (v := (-1)) hx hb dX1_check_12 (by decide) ?_
    refine lv_goto (tgt := 20) hx hb dX1_check_13 (by decide) ?_
    exact hend _ _ _ (k, F, g) _ _ dX1_check_20 (by rw [tw_mcheck, if_neg (fun h9 => c_9 (by rw [h9]; decide))]) hP hD hS
def tw_mcnt (k : Nat) (g : Nat → Bool) (x : Int32) : Int32 := if x = 0 then nI (k + 2) else if x = 1 then nI (tw_mc g (k + 2)) else if x = 2 then (if tw_low g 0 (k + 2) = k + 2 then -1 else nI (tw_low g 0 (k + 2))) else -1
abbrev rmX1_count : Room := { frames := 1, cells := 0, slots := 0, locals := 22 }
theorem inX1_count : ∀ w ∈ wsX10, w ∈ wsX1_count := fun _ h => List.mem_cons_of_mem _ (List.mem_append_right _ h)
theorem fX1_count_21 : Cond.fieldLink RX1 21 "TwinParityModel" "thrown" "I" ∈ wsX1_count := List.mem_of_getElem? (i := 1) rfl
theorem fX1_count_25 : Cond.fieldLink RX1 25 "TwinParityModel" "units" "I" ∈ wsX1_count := List.mem_of_getElem? (i := 2) rfl
theorem fX1_count_13 : Cond.fieldLink RX1 13 "TwinParityModel" "lost" "[Z" ∈ wsX1_count := List.mem_of_getElem? (i := 8) rfl
theorem kdX1_count : yX1_count.cls = RX1 ∧ yX1_count.cls ≠ "java/lang/invoke/MethodHandle" ∧ yX1_count.cls ≠ "java/lang/invoke/VarHandle" ∧ (parseMethodDescriptor yX1_count.desc).map (fun d => d.parameters.length) = some 1 := by decide +kernel
set_option maxHeartbeats 4000000 in
set_option maxRecDepth 100000 in
theorem c_X1_count (l : Launch) (D : va_G) (cA cB : ClassId) (h0 a0 b0 k : Nat) (F : Nat → BitVec 8) (g : Nat → Bool) (sz : Nat) (x : Int32) (hk : k ≤ 14) : Met l yX1_count wsX1_count rmX1_count (va_Pc [.ref h0, .int x] (tw_Pw D (tw_M cA cB h0 a0 b0 k F g) (tw_tM cA cB) sz)) (va_Qi (fun (r : Int32) (u : Nat × (Nat → BitVec 8) × (Nat → Bool)) => (r, u) = (tw_mcnt k g x, (k, F, g))) (tw_Qw D (fun u : Nat × (Nat → BitVec 8) × (Nat → Bool) => tw_M cA cB h0 a0 b0 u.1 u.2.1 u.2.2) (tw_tM cA cB) (va_A (tw_M cA cB h0 a0 b0 k F g) sz)) (va_A (tw_M cA cB h0 a0 b0 k F g) sz)) 0 0 (va_A (tw_M cA cB h0 a0 b0 k F g) sz) := by
  refine tw_metW (by decide) rfl rfl (Nat.le_of_ble_eq_true rfl) ?_
  intro p e s m args below meth c Q ls A hx hb hml hown hts hP hK hD hS hA hend hl
  have hown : s.vm.findClass RX1 = some m.cls := hown
  have hl : lv_has ls 3 [(0, .ref h0), (1, .int x)] := hl
  refine lv_aload_n hx hb dX1_count_0 rfl (lv_at hl 0 rfl) ?_
  refine lv_iconst (v := 0) hx hb dX1_count_1 (by decide) ?_
  refine va_put (D := D) (ci := 1) (v := .int 0) (ty := .int) (C := RX1) (T := TX1) (N := 4) hx hb hts inX1_count tyX1 tyX1_ok nmX1 hown hK hP hD hS 0 rfl rfl 0 (by decide) (hts _ fX1_count_21) (fun _ h9 => h9) rfl (by decide +kernel) rfl rfl (Nat.le_of_ble_eq_true rfl) dX1_count_2 (fun H locs hP hD hS => ?_)
  have hP : va_P D vwCl (tw_M cA cB h0 a0 b0 k F g) H := hP
  have hD : va_D A (tw_M cA cB h0 a0 b0 k F g) := hD
  refine lv_aload_n hx hb dX1_count_5 rfl (lv_at hl 0 rfl) ?_
  refine lv_iconst (v := 0) hx hb dX1_count_6 (by decide) ?_
  refine tw_rM ⟨hx, hb, hml, hown, hts⟩ hK hP (c_X1_lowest l D cA cB h0 a0 b0 k F g 0 (Nat.zero_le _) hk) (cwV 1 hts gX1_count_X1_lowest rfl rfl rfl kdX1_lowest ⟨Nat.le_of_ble_eq_true rfl, Nat.le_of_ble_eq_true rfl⟩) rfl hl.1 rfl (Nat.le_of_ble_eq_true rfl) dX1_count_7 ⟨Nat.zero_le _, Nat.zero_le _⟩ ?_
  refine lv_istore_n (lv' := [(2, .int (nI (tw_low g 0 (k + 2 - 0)))), (0, .ref h0), (1, .int x)]) hx hb dX1_count_10 rfl hl (by decide) rfl (fun ls hl => ?_)
  refine lv_iload_n hx hb dX1_count_11 rfl (lv_at hl 2 rfl) ?_
  refine lv_if_ne (tgt := 22) hx hb dX1_count_12 (by decide) (fun c_12 => ?_) (fun c_12 => ?_)
  · refine lv_iload_n hx hb dX1_count_22 rfl (lv_at hl 2 rfl) ?_
    refine lv_iconst (v := 1) hx hb dX1_count_23 (by decide) ?_
    refine lv_icmp_ne (tgt := 34) hx hb dX1_count_24 (by decide) (fun c_24 => ?_) (fun c_24 => ?_)
    · refine lv_iload_n hx hb dX1_count_34 rfl (lv_at hl 2 rfl) ?_
      refine lv_iconst (v := 2) hx hb dX1_count_35 (by decide) ?_
      refine lv_icmp_ne (tgt := 51) hx hb dX1_count_36 (by decide) (fun c_36 => ?_) (fun c_36 => ?_)
      · refine lv_iconst (v := (-1)) hx hb dX1_count_51 (by decide) ?_
        exact hend _ _ _ (k, F, g) _ _ dX1_count_52 (by first | (simp [tw_mcnt, c_12]; done) | (rw [c_24, tw_mcnt]; rfl) | (simp [tw_mcnt, c_12, c_24, c_36]; done) | (have hb9 := tw_low_le g 0 (k + 2); rw [c_36, tw_mcnt]; simp only [show ¬ (2 : Int32) = 0 by decide, show ¬ (2 : Int32) = 1 by decide, if_false, if_true]; first | (have h8 : tw_low g 0 (k + 2) = k + 2 := by rcases Nat.lt_or_ge (tw_low g 0 (k + 2)) (k + 2) with h7 | h7; exact absurd c_44 (nI_ge h7 (by omega)); omega); (rw [if_pos h8]; done) | (rw [if_neg (fun h8 => c_44 (by show nI (k + 2) ≤ nI (tw_low g 0 (k + 2)); rw [h8]; exact nI_le (Nat.le_refl _) (by omega)))]; rfl))) hP hD hS
      · refine lv_iload_n hx hb dX1_count_39 rfl (lv_at hl 0 rfl) ?_
        refine lv_aload_n hx hb dX1_count_40 rfl (lv_at hl 1 rfl) ?_
        refine va_get (D := D) (ci := 1) (v := .int (nI (k + 2))) (C := RX1) (T := TX1) (N := 4) hx hb hts inX1_count hown hK hP 0 rfl rfl 1 (by decide) (hts _ fX1_count_25) (fun _ h9 => h9) rfl dX1_count_41 ?_
        refine lv_icmp_ge (tgt := 51) hx hb dX1_count_44 (by decide) (fun c_44 => ?_) (fun c_44 => ?_)
        · refine lv_iconst (v := (-1)) hx hb dX1_count_51 (by decide) ?_
          exact hend _ _ _ (k, F, g) _ _ dX1_count_52 (by first | (simp [tw_mcnt, c_12]; done) | (rw [c_24, tw_mcnt]; rfl) | (simp [tw_mcnt, c_12, c_24, c_36]; done) | (have hb9 := tw_low_le g 0 (k + 2); rw [c_36, tw_mcnt]; simp only [show ¬ (2 : Int32) = 0 by decide, show ¬ (2 : Int32) = 1 by decide, if_false, if_true]; first | (have h8 : tw_low g 0 (k + 2) = k + 2 := by rcases Nat.lt_or_ge (tw_low g 0 (k + 2)) (k + 2) with h7 | h7; exact absurd c_44 (nI_ge h7 (by omega)); omega); (rw [if_pos h8]; done) | (rw [if_neg (fun h8 => c_44 (by show nI (k + 2) ≤ nI (tw_low g 0 (k + 2)); rw [h8]; exact nI_le (Nat.le_refl _) (by omega)))]; rfl))) hP hD hS
        · refine lv_iload_n hx hb dX1_count_47 rfl (lv_at hl 0 rfl) ?_
          refine lv_goto (tgt := 52) hx hb dX1_count_48 (by decide) ?_
          exact hend _ _ _ (k, F, g) _ _ dX1_count_52 (by first | (simp [tw_mcnt, c_12]; done) | (rw [c_24, tw_mcnt]; rfl) | (simp [tw_mcnt, c_12, c_24, c_36]; done) | (have hb9 := tw_low_le g 0 (k + 2); rw [c_36, tw_mcnt]; simp only [show ¬ (2 : Int32) = 0 by decide, show ¬ (2 : Int32) = 1 by decide, if_false, if_true]; first | (have h8 : tw_low g 0 (k + 2) = k + 2 := by rcases Nat.lt_or_ge (tw_low g 0 (k + 2)) (k + 2) with h7 | h7; exact absurd c_44 (nI_ge h7 (by omega)); omega); (rw [if_pos h8]; done) | (rw [if_neg (fun h8 => c_44 (by show nI (k + 2) ≤ nI (tw_low g 0 (k + 2)); rw [h8]; exact nI_le (Nat.le_refl _) (by omega)))]; rfl))) hP hD hS
    · refine lv_aload_n hx hb dX1_count_27 rfl (lv_at hl 1 rfl) ?_
      refine tw_rM ⟨hx, hb, hml, hown, hts⟩ hK hP (c_X1_manyLost l D cA cB h0 a0 b0 k F g hk) (cwV 0 hts gX1_count_X1_manyLost rfl rfl rfl kdX1_manyLost ⟨Nat.le_of_ble_eq_true rfl, Nat.le_of_ble_eq_true rfl⟩) rfl hl.1 rfl (Nat.le_of_ble_eq_true rfl) dX1_count_28 ⟨Nat.zero_le _, Nat.zero_le _⟩ ?_
      refine lv_goto (tgt := 52) hx hb dX1_count_31 (by decide) ?_
      exact hend _ _ _ (k, F, g) _ _ dX1_count_52 (by first | (simp [tw_mcnt, c_12]; done) | (rw [c_24, tw_mcnt]; rfl) | (simp [tw_mcnt, c_12, c_24, c_36]; done) | (have hb9 := tw_low_le g 0 (k + 2); rw [c_36, tw_mcnt]; simp only [show ¬ (2 : Int32) = 0 by decide, show ¬ (2 : Int32) = 1 by decide, if_false, if_true]; first | (have h8 : tw_low g 0 (k + 2) = k + 2 := by rcases Nat.lt_or_ge (tw_low g 0 (k + 2)) (k + 2) with h7 | h7; exact absurd c_44 (nI_ge h7 (by omega)); omega); (rw [if_pos h8]; done) | (rw [if_neg (fun h8 => c_44 (by show nI (k + 2) ≤ nI (tw_low g 0 (k + 2)); rw [h8]; exact nI_le (Nat.le_refl _) (by omega)))]; rfl))) hP hD hS
  · refine lv_aload_n hx hb dX1_count_15 rfl (lv_at hl 1 rfl) ?_
    refine va_get (D := D) (ci := 1) (v := .int (nI (k + 2))) (C := RX1) (T := TX1) (N := 4) hx hb hts inX1_count hown hK hP 0 rfl rfl 1 (by decide) (hts _ fX1_count_25) (fun _ h9 => h9) rfl dX1_count_16 ?_
    refine lv_goto (tgt := 52) hx hb dX1_count_19 (by decide) ?_
    exact hend _ _ _ (k, F, g) _ _ dX1_count_52 (by first | (simp [tw_mcnt, c_12]; done) | (rw [c_24, tw_mcnt]; rfl) | (simp [tw_mcnt, c_12, c_24, c_36]; done) | (have hb9 := tw_low_le g 0 (k + 2); rw [c_36, tw_mcnt]; simp only [show ¬ (2 : Int32) = 0 by decide, show ¬ (2 : Int32) = 1 by decide, if_false, if_true]; first | (have h8 : tw_low g 0 (k + 2) = k + 2 := by rcases Nat.lt_or_ge (tw_low g 0 (k + 2)) (k + 2) with h7 | h7; exact absurd c_44 (nI_ge h7 (by omega)); omega); (rw [if_pos h8]; done) | (rw [if_neg (fun h8 => c_44 (by show nI (k + 2) ≤ nI (tw_low g 0 (k + 2)); rw [h8]; exact nI_le (Nat.le_refl _) (by omega)))]; rfl))) hP hD hS
end
