theorem dcL_all : ∀ q, q < 30 → (List.range 60).all (fun j => jChk code (60 * q + j) (tL_law (60 * q + j))) = true := fun q hq => by
  match q, hq with
  | 0, _ => exact dcL_0
  | 1, _ => exact dcL_1
  | 2, _ => exact dcL_2
  | 3, _ => exact dcL_3
  | 4, _ => exact dcL_4
  | 5, _ => exact dcL_5
  | 6, _ => exact dcL_6
  | 7, _ => exact dcL_7
  | 8, _ => exact dcL_8
  | 9, _ => exact dcL_9
  | 10, _ => exact dcL_10
  | 11, _ => exact dcL_11
  | 12, _ => exact dcL_12
  | 13, _ => exact dcL_13
  | 14, _ => exact dcL_14
  | 15, _ => exact dcL_15
  | 16, _ => exact dcL_16
  | 17, _ => exact dcL_17
  | 18, _ => exact dcL_18
  | 19, _ => exact dcL_19
  | 20, _ => exact dcL_20
  | 21, _ => exact dcL_21
  | 22, _ => exact dcL_22
  | 23, _ => exact dcL_23
  | 24, _ => exact dcL_24
  | 25, _ => exact dcL_25
  | 26, _ => exact dcL_26
  | 27, _ => exact dcL_27
  | 28, _ => exact dcL_28
  | 29, _ => exact dcL_29
  | q + 30, hq => omega
theorem decL_law : ∀ pc x, mL_law.cm pc = some x → decode code pc = .ok x := by
  intro pc x hx
  have hx : (bif Nat.blt pc 1799 then tL_law pc else none) = some x := hx
  cases hb : Nat.blt pc 1799 with
  | false => rw [hb] at hx; cases hx
  | true =>
    rw [hb, cond_true] at hx
    have hlt : pc < 1799 := Nat.le_of_ble_eq_true hb
    have h1 := List.all_eq_true.mp (dcL_all (pc / 60) (by omega)) (pc % 60) (List.mem_range.mpr (Nat.mod_lt _ (by decide)))
    rw [show 60 * (pc / 60) + pc % 60 = pc by omega, hx] at h1
    simpa [jChk] using h1

