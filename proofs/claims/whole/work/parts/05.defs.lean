/-! ===== words for what the methods answer ===== -/
def tw_lb (lo : Int32) (u : Nat) : Bool := !decide (((lo >>> (nI u &&& 31)) &&& 1) = 0)
def tw_sp (z n most : Int32) : Bool := !decide (n < 1) && (!decide (most < n) && (!decide (z < 0) && !decide (64 - n < z)))
def tw_el (x : Int32) : Bool := !decide (x < 0) && !decide (256 ≤ x)
def tw_th (k : Nat) (lo x : Int32) : Bool := !decide (x < 0) && (!decide (nI (k + 2) ≤ x) && !tw_lb lo x.toNatClampNeg)
/-- the lowest place from u on, within n places, of which g holds; u + n if there is none -/
def tw_low (g : Nat → Bool) : Nat → Nat → Nat
  | u, 0 => u
  | u, n + 1 => if g u then u else tw_low g (u + 1) n
def tw_bc (x : Int32) : Int32 :=
  let a := x - ((x.toUInt32 >>> (Int32.toUInt32 1 &&& Int32.toUInt32 31)).toInt32 &&& 1431655765)
  let b := (a &&& 858993459) + ((a.toUInt32 >>> (Int32.toUInt32 2 &&& Int32.toUInt32 31)).toInt32 &&& 858993459)
  let c := (b + (b.toUInt32 >>> (Int32.toUInt32 4 &&& Int32.toUInt32 31)).toInt32) &&& 252645135
  let d := c + (c.toUInt32 >>> (Int32.toUInt32 8 &&& Int32.toUInt32 31)).toInt32
  let e := d + (d.toUInt32 >>> (Int32.toUInt32 16 &&& Int32.toUInt32 31)).toInt32
  e &&& 63
/-- a column: the bytes of all units at a place -/
def tq_col (F : Nat → BitVec 8) (i : Nat) (u : Nat) : BitVec 8 := F (64 * u + i)
def tq_xs (c : Nat → BitVec 8) : Nat → BitVec 8
  | 0 => 0#8
  | n + 1 => tq_xs c n ^^^ c n
def tq_qs (c : Nat → BitVec 8) : Nat → BitVec 8
  | 0 => 0#8
  | n + 1 => tq_qs c n ^^^ tq_p n (c n)
/-- Horner's way from the unit u on, n units -/
def tq_hs (c : Nat → BitVec 8) : Nat → Nat → BitVec 8
  | _, 0 => 0#8
  | u, n + 1 => tq_d (tq_hs c (u + 1) n) ^^^ c u
def tq_dP (k : Nat) (c : Nat → BitVec 8) : BitVec 8 := c k ^^^ tq_xs c k
def tq_dQ (k : Nat) (c : Nat → BitVec 8) : BitVec 8 := tq_hs c 0 k ^^^ c (k + 1)
def tq_fu (p q : BitVec 8) : Nat → Nat → Int32
  | _, 0 => -3
  | u, n + 1 => if tq_p u p = q then nI u else tq_fu p q (u + 1) n
def tq_off (k : Nat) (c : Nat → BitVec 8) : Int32 := if tq_dQ k c = 0#8 then (if tq_dP k c = 0#8 then -2 else nI k) else if tq_dP k c = 0#8 then nI (k + 1) else tq_fu (tq_dP k c) (tq_dQ k c) 0 k
def tq_ck (f : Nat → Int32) : Int32 → Nat → Nat → Int32
  | o, _, 0 => o
  | o, i, n + 1 => if f i ≠ -2 ∧ o ≠ -2 ∧ f i ≠ o then -3 else tq_ck f (if f i = -2 then o else f i) (i + 1) n
def tw_fm (x : Int32) : Nat := (x.toInt % 255).toNat
/-- eight bytes, from b 0 on, the lowest first; n of them, from the highest down -/
def tq_wd (b : Nat → BitVec 8) : Nat → Int64
  | 0 => 0
  | n + 1 => (tq_wd b n <<< (Int32.toInt64 8 &&& 63)) ||| Int32.toInt64 (tq_eb (b (7 - n)))
def tw_ch (F : Nat → BitVec 8) (u i : Nat) (d : BitVec 8) : Nat → BitVec 8 := va_up F (64 * u + i) (F (64 * u + i) ^^^ d)
def tw_cw (k : Nat) (lo : Int32) (F : Nat → BitVec 8) (u i : Nat) (d : BitVec 8) : Nat → BitVec 8 :=
  let F1 := tw_ch F u i d
  let F2 := if tw_lb lo k then F1 else tw_ch F1 k i d
  if tw_lb lo (k + 1) then F2 else tw_ch F2 (k + 1) i (tq_p u d)
theorem tw_ix (u i : Nat) : nI u * 64 + nI i = nI (64 * u + i) := by
  rw [show (64 : Int32) = nI 64 from rfl, pk_mul, nI_add, Nat.mul_comm]
theorem tw_ix' (u i : Nat) : 64 * nI u + nI i = nI (64 * u + i) := by
  rw [show (64 : Int32) = nI 64 from rfl, pk_mul, nI_add]
theorem tw_bI0 {b : Bool} : tw_bI b = 0 ↔ b = false := by cases b <;> decide
theorem tw_bI1 {b : Bool} : ¬ tw_bI b = 0 ↔ b = true := by cases b <;> decide
