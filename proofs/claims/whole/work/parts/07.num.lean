abbrev r32 (z : Int) : Prop := -2147483648 ≤ z ∧ z ≤ 2147483647
abbrev r64 (z : Int) : Prop := -9223372036854775808 ≤ z ∧ z ≤ 9223372036854775807
theorem jI_toInt {z : Int} (h : r32 z) : (jI z).toInt = z := Int32.toInt_ofInt_of_le (by omega) (by omega)
theorem jL_toInt {z : Int} (h : r64 z) : (jL z).toInt = z := Int64.toInt_ofInt_of_le (by omega) (by omega)
theorem jI_of (x : Int32) : ∃ z : Int, r32 z ∧ x = jI z := ⟨x.toInt, by
  have h1 := Int32.le_toInt x
  have h2 := Int32.toInt_lt x
  constructor <;> omega, (Int32.ofInt_toInt x).symm⟩
theorem jI_add (a b : Int) : jI a + jI b = jI (a + b) := (Int32.ofInt_add a b).symm
theorem jI_sub (a b : Int) : jI a - jI b = jI (a - b) := (Int32.ofInt_sub a b).symm
theorem jI_mul (a b : Int) : jI a * jI b = jI (a * b) := (Int32.ofInt_mul a b).symm
theorem jI_neg (a : Int) : -jI a = jI (-a) := (Int32.ofInt_neg a).symm
theorem jL_add (a b : Int) : jL a + jL b = jL (a + b) := (Int64.ofInt_add a b).symm
theorem jL_sub (a b : Int) : jL a - jL b = jL (a - b) := (Int64.ofInt_sub a b).symm
theorem jL_mul (a b : Int) : jL a * jL b = jL (a * b) := (Int64.ofInt_mul a b).symm
theorem jL_neg (a : Int) : -jL a = jL (-a) := (Int64.ofInt_neg a).symm
theorem jI_lt {a b : Int} (ha : r32 a) (hb : r32 b) : jI a < jI b ↔ a < b := by rw [Int32.lt_iff_toInt_lt, jI_toInt ha, jI_toInt hb]
theorem jI_le {a b : Int} (ha : r32 a) (hb : r32 b) : jI a ≤ jI b ↔ a ≤ b := by rw [Int32.le_iff_toInt_le, jI_toInt ha, jI_toInt hb]
theorem jI_eq {a b : Int} (ha : r32 a) (hb : r32 b) : jI a = jI b ↔ a = b := by rw [← Int32.toInt_inj, jI_toInt ha, jI_toInt hb]
theorem jL_lt {a b : Int} (ha : r64 a) (hb : r64 b) : jL a < jL b ↔ a < b := by rw [Int64.lt_iff_toInt_lt, jL_toInt ha, jL_toInt hb]
theorem jL_eq {a b : Int} (ha : r64 a) (hb : r64 b) : jL a = jL b ↔ a = b := by rw [← Int64.toInt_inj, jL_toInt ha, jL_toInt hb]
theorem jI_inj {a b : Int} (ha : r32 a) (hb : r32 b) (h : jI a = jI b) : a = b := (jI_eq ha hb).mp h
theorem jI_0 : jI 0 = 0 := rfl
theorem jL_0 : jL 0 = 0 := rfl
theorem jI_nI (n : Nat) : jI (n : Int) = nI n := by
  show Int32.ofInt (n : Int) = Int32.ofNat n
  exact Int32.ofInt_eq_ofNat
theorem jI_nat {z : Int} (h0 : 0 ≤ z) (h : z < 2147483648) : (jI z).toNatClampNeg = z.toNat := by
  show (jI z).toInt.toNat = z.toNat
  rw [jI_toInt ⟨by omega, by omega⟩]
theorem jI_in {z : Int} {n : Nat} (h0 : 0 ≤ z) (h : z < n) (hn : n < 2147483648) : vp_in (jI z) n := by
  rw [vp_in_iff, jI_toInt ⟨by omega, by omega⟩]
  exact ⟨h0, h⟩
theorem jI_div {a b : Int} (ha : r32 a) (hb : r32 b) (h0 : b ≠ 0) : jI a / jI b = jI (a.tdiv b) := by
  refine (Int32.ofInt_tdiv ?_ ?_ ?_ ?_).symm <;> first | (show (-2147483648 : Int) ≤ _; omega) | (show _ ≤ (2147483647 : Int); omega)
theorem jL_div {a b : Int} (ha : r64 a) (hb : r64 b) (h0 : b ≠ 0) : jL a / jL b = jL (a.tdiv b) := by
  refine (Int64.ofInt_tdiv ?_ ?_ ?_ ?_).symm <;> first | (show (-9223372036854775808 : Int) ≤ _; omega) | (show _ ≤ (9223372036854775807 : Int); omega)
theorem jI_rem {a b : Int} (ha : r32 a) (hb : r32 b) (h0 : b ≠ 0) : jI a - jI a / jI b * jI b = jI (a.tmod b) := by
  rw [jI_div ha hb h0, jI_mul, jI_sub, Int.tmod_def, Int.mul_comm]
theorem jL_rem {a b : Int} (ha : r64 a) (hb : r64 b) (h0 : b ≠ 0) : jL a - jL a / jL b * jL b = jL (a.tmod b) := by
  rw [jL_div ha hb h0, jL_mul, jL_sub, Int.tmod_def, Int.mul_comm]
theorem jI_ne0 {b : Int} (hb : r32 b) (h0 : b ≠ 0) : ¬ jI b = 0 := by
  rw [← jI_0, jI_eq hb ⟨by omega, by omega⟩]
  exact h0
theorem jL_ne0 {b : Int} (hb : r64 b) (h0 : b ≠ 0) : ¬ jL b = 0 := by
  rw [← jL_0, jL_eq hb ⟨by omega, by omega⟩]
  exact h0
theorem jI_l {z : Int} (h : r32 z) : (jI z).toInt64 = jL z := by
  rw [← Int64.toInt_inj, Int32.toInt_toInt64, jI_toInt h, jL_toInt ⟨by omega, by omega⟩]
theorem jL_i (z : Int) : (jL z).toInt32 = jI z := Int64.toInt32_ofInt
theorem jI_b (z : Int) : (jI z).toInt8.toInt32 = jI (z.bmod 256) := by
  rw [← Int32.toInt_inj]
  have h := Int.bmod_lt (x := z) (m := 256) (by omega)
  have h' := Int.le_bmod (x := z) (m := 256) (by omega)
  rw [jI_toInt ⟨by omega, by omega⟩]
  show (jI z).toInt8.toInt32.toInt = _
  rw [Int8.toInt_toInt32, show (jI z).toInt8 = Int8.ofInt z from Int32.toInt8_ofInt, Int8.toInt_ofInt]
theorem jI_cmp {x y : Int} (hx : r64 x) (hy : r64 y) : lg_cmp (jL x) (jL y) = jI (if y < x then 1 else if x = y then 0 else -1) := by
  unfold lg_cmp
  simp only [gt_iff_lt, jL_lt hy hx, jL_eq hx hy]
  split
  · rfl
  · split <;> rfl
theorem jI_lit8 {n : Int} (h : -128 ≤ n ∧ n ≤ 127) : (Int8.ofInt n).toInt32 = jI n := by
  rw [← Int32.toInt_inj, Int8.toInt_toInt32, jI_toInt ⟨by omega, by omega⟩, Int8.toInt_ofInt_of_le (by omega) (by omega)]
theorem jI_lit16 {n : Int} (h : -32768 ≤ n ∧ n ≤ 32767) : (Int16.ofInt n).toInt32 = jI n := by
  rw [← Int32.toInt_inj, Int16.toInt_toInt32, jI_toInt ⟨by omega, by omega⟩, Int16.toInt_ofInt_of_le (by omega) (by omega)]
