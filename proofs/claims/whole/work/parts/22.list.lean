theorem jXor (x y : Int) : ∃ z, r32 z ∧ jI x ^^^ jI y = jI z ∧ (z = (jI x ^^^ jI y).toInt) := by
  obtain ⟨z, hz, e⟩ := jI_of (jI x ^^^ jI y)
  exact ⟨z, hz, e, by rw [e, jI_toInt hz]⟩
theorem jI_msb {x : Int} (hx : r32 x) : (jI x).toBitVec.msb = decide (x < 0) := by
  rw [BitVec.msb_eq_toInt]
  have h1 : (jI x).toBitVec.toInt = x := jI_toInt hx
  rw [h1]
theorem jXor_neg {x y z : Int} (hx : r32 x) (hy : r32 y) (hz : r32 z) (e : jI x ^^^ jI y = jI z) : (z < 0) ↔ ¬ (x < 0 ↔ y < 0) := by
  have h1 := congrArg (fun w : Int32 => w.toBitVec.msb) e
  simp only [Int32.toBitVec_xor, BitVec.msb_xor] at h1
  rw [jI_msb hx, jI_msb hy, jI_msb hz] at h1
  by_cases a : x < 0 <;> by_cases b : y < 0 <;> by_cases c : z < 0 <;> first | omega | (exfalso; revert h1; simp [a, b, c])
section AL
variable {γ : jG} {h : jM} {a e : Nat}
theorem ct_floorDiv {x y : Int} (hx : r32 x) (hy : r32 y) (h0 : 0 < y) : CT γ mJ9_floorDiv_7cf53 0 0 0 [.int (jI x), .int (jI y)] h (fun r h' => r = some (.int (jI (x / y))) ∧ h' = h) X0 := by
  refine CT.of MJ9_floorDiv_7cf53 (Nat.le_of_ble_eq_true rfl) ?_
  show J γ mJ9_floorDiv_7cf53 0 0 0 0 0 h 0 [(0, .int (jI x)), (1, .int (jI y))] [] _ _
  have e1 := Int.tdiv_eq_ediv (a := x) (b := y)
  have e2 := Int.mul_tdiv_add_tmod x y
  have e3 := Int.mul_ediv_add_emod x y
  have e4 := Int.emod_nonneg x (show y ≠ 0 by omega)
  have e5 := Int.emod_lt_of_pos x h0
  have hs : y.sign = 1 := Int.sign_eq_one_of_pos h0
  have hc : y * (x.tdiv y) = x.tdiv y * y := Int.mul_comm _ _
  obtain ⟨z, hz, ez, -⟩ := jXor x y
  have hzn := jXor_neg hx hy hz ez
  refine J.iload_n (pc' := 1) rfl rfl rfl ?_
  refine J.iload_n (pc' := 2) rfl rfl rfl ?_
  refine J.idiv (pc' := 3) rfl rfl (by first | omega | (simp only [jM.len_sI, jM.len_sL, jM.len_sR, jM.len_fI, jM.len_fL, jM.len_fR]; omega) | (simp [jM.len_nw, jM.len_sI, jM.len_sL, jM.len_sR, jM.len_fI, jM.len_fL, jM.len_fR, *]; omega)) (by first | omega | (simp only [jM.len_sI, jM.len_sL, jM.len_sR, jM.len_fI, jM.len_fL, jM.len_fR]; omega) | (simp [jM.len_nw, jM.len_sI, jM.len_sL, jM.len_sR, jM.len_fI, jM.len_fL, jM.len_fR, *]; omega)) (by first | omega | (simp only [jM.len_sI, jM.len_sL, jM.len_sR, jM.len_fI, jM.len_fL, jM.len_fR]; omega) | (simp [jM.len_nw, jM.len_sI, jM.len_sL, jM.len_sR, jM.len_fI, jM.len_fL, jM.len_fR, *]; omega)) ?_
  refine J.istore_n (pc' := 4) rfl rfl (by decide) ?_
  refine J.iload_n (pc' := 5) rfl rfl rfl ?_
  refine J.iload_n (pc' := 6) rfl rfl rfl ?_
  refine J.ixor z (pc' := 7) rfl rfl ez ?_
  by_cases hn : 0 ≤ x
  · rw [if_pos (Or.inl hn), Int.add_zero] at e1
    refine J.if_ge (tgt := 21) (pc' := 10) rfl rfl rfl (by first | omega | (simp only [jM.len_sI, jM.len_sL, jM.len_sR, jM.len_fI, jM.len_fL, jM.len_fR]; omega) | (simp [jM.len_nw, jM.len_sI, jM.len_sL, jM.len_sR, jM.len_fI, jM.len_fL, jM.len_fR, *]; omega)) (fun hq => ?_) (fun hq => ?_)
    · refine J.iload_n (pc' := 22) rfl rfl rfl ?_
      refine J.iret rfl rfl (by first | omega | (simp only [jM.len_sI, jM.len_sL, jM.len_sR, jM.len_fI, jM.len_fL, jM.len_fR]; omega) | (simp [jM.len_nw, jM.len_sI, jM.len_sL, jM.len_sR, jM.len_fI, jM.len_fL, jM.len_fR, *]; omega)) (by first | omega | (simp only [jM.len_sI, jM.len_sL, jM.len_sR, jM.len_fI, jM.len_fL, jM.len_fR]; omega) | (simp [jM.len_nw, jM.len_sI, jM.len_sL, jM.len_sR, jM.len_fI, jM.len_fL, jM.len_fR, *]; omega)) ?_
      exact ⟨by rw [e1], rfl⟩
    · exfalso
      have := hzn.mp (by omega)
      omega
  · refine J.if_ge (tgt := 21) (pc' := 10) rfl rfl rfl (by first | omega | (simp only [jM.len_sI, jM.len_sL, jM.len_sR, jM.len_fI, jM.len_fL, jM.len_fR]; omega) | (simp [jM.len_nw, jM.len_sI, jM.len_sL, jM.len_sR, jM.len_fI, jM.len_fL, jM.len_fR, *]; omega)) (fun hq => ?_) (fun hq => ?_)
    · exfalso
      have : z < 0 := hzn.mpr (by omega)
      omega
    · have hd : y ∣ x ↔ x % y = 0 := Int.dvd_iff_emod_eq_zero
      by_cases hv : y ∣ x
      · rw [if_pos (Or.inr hv), Int.add_zero] at e1
        have h00 := hd.mp hv
        have hr2 : x.tdiv y * y = x := by rw [e1, Int.mul_comm]; omega
        refine J.iload_n (pc' := 11) rfl rfl rfl ?_
        refine J.iload_n (pc' := 12) rfl rfl rfl ?_
        refine J.imul (pc' := 13) rfl rfl ?_
        refine J.iload_n (pc' := 14) rfl rfl rfl ?_
        rw [hr2]
        refine J.icmp_eq (tgt := 21) (pc' := 17) rfl rfl rfl (by first | omega | (simp only [jM.len_sI, jM.len_sL, jM.len_sR, jM.len_fI, jM.len_fL, jM.len_fR]; omega) | (simp [jM.len_nw, jM.len_sI, jM.len_sL, jM.len_sR, jM.len_fI, jM.len_fL, jM.len_fR, *]; omega)) (by first | omega | (simp only [jM.len_sI, jM.len_sL, jM.len_sR, jM.len_fI, jM.len_fL, jM.len_fR]; omega) | (simp [jM.len_nw, jM.len_sI, jM.len_sL, jM.len_sR, jM.len_fI, jM.len_fL, jM.len_fR, *]; omega)) (fun hk => ?_) (fun hk => ?_)
        · refine J.iload_n (pc' := 22) rfl rfl rfl ?_
          refine J.iret rfl rfl (by first | omega | (simp only [jM.len_sI, jM.len_sL, jM.len_sR, jM.len_fI, jM.len_fL, jM.len_fR]; omega) | (simp [jM.len_nw, jM.len_sI, jM.len_sL, jM.len_sR, jM.len_fI, jM.len_fL, jM.len_fR, *]; omega)) (by first | omega | (simp only [jM.len_sI, jM.len_sL, jM.len_sR, jM.len_fI, jM.len_fL, jM.len_fR]; omega) | (simp [jM.len_nw, jM.len_sI, jM.len_sL, jM.len_sR, jM.len_fI, jM.len_fL, jM.len_fR, *]; omega)) ?_
          exact ⟨by rw [e1], rfl⟩
        · omega
      · rw [if_neg (by rintro (q | q); exact hn q; exact hv q), hs] at e1
        have h00 : x % y ≠ 0 := fun q => hv (hd.mpr q)
        have hr2 : x.tdiv y * y = y * (x / y) + y := by rw [e1, Int.add_mul, Int.one_mul, Int.mul_comm (x / y)]
        refine J.iload_n (pc' := 11) rfl rfl rfl ?_
        refine J.iload_n (pc' := 12) rfl rfl rfl ?_
        refine J.imul (pc' := 13) rfl rfl ?_
        refine J.iload_n (pc' := 14) rfl rfl rfl ?_
        rw [hr2]
        refine J.icmp_eq (tgt := 21) (pc' := 17) rfl rfl rfl (by first | omega | (simp only [jM.len_sI, jM.len_sL, jM.len_sR, jM.len_fI, jM.len_fL, jM.len_fR]; omega) | (simp [jM.len_nw, jM.len_sI, jM.len_sL, jM.len_sR, jM.len_fI, jM.len_fL, jM.len_fR, *]; omega)) (by first | omega | (simp only [jM.len_sI, jM.len_sL, jM.len_sR, jM.len_fI, jM.len_fL, jM.len_fR]; omega) | (simp [jM.len_nw, jM.len_sI, jM.len_sL, jM.len_sR, jM.len_fI, jM.len_fL, jM.len_fR, *]; omega)) (fun hk => ?_) (fun hk => ?_)
        · omega
        · refine J.iload_n (pc' := 18) rfl rfl rfl ?_
          refine J.iconst (pc' := 19) rfl rfl ?_
          refine J.isub (pc' := 20) rfl rfl ?_
          refine J.iret rfl rfl (by first | omega | (simp only [jM.len_sI, jM.len_sL, jM.len_sR, jM.len_fI, jM.len_fL, jM.len_fR]; omega) | (simp [jM.len_nw, jM.len_sI, jM.len_sL, jM.len_sR, jM.len_fI, jM.len_fL, jM.len_fR, *]; omega)) (by first | omega | (simp only [jM.len_sI, jM.len_sL, jM.len_sR, jM.len_fI, jM.len_fL, jM.len_fR]; omega) | (simp [jM.len_nw, jM.len_sI, jM.len_sL, jM.len_sR, jM.len_fI, jM.len_fL, jM.len_fR, *]; omega)) ?_
          exact ⟨by rw [e1]; congr 3; omega, rfl⟩
theorem ct_chk0 {i n : Int} (h0 : 0 ≤ i) (h1 : i < n) (hn : r32 n) : CT γ mJ3_checkIndex_8e157 0 0 0 [.int (jI i), .int (jI n), .null] h (fun r h' => r = some (.int (jI i)) ∧ h' = h) X0 := by
  refine CT.of MJ3_checkIndex_8e157 (Nat.le_of_ble_eq_true rfl) ?_
  show J γ mJ3_checkIndex_8e157 0 0 0 0 0 h 0 [(0, .int (jI i)), (1, .int (jI n)), (2, .null)] [] _ _
  refine J.iload_n (pc' := 1) rfl rfl rfl ?_
  refine J.if_lt (tgt := 9) (pc' := 4) rfl rfl rfl (by first | omega | (simp only [jM.len_sI, jM.len_sL, jM.len_sR, jM.len_fI, jM.len_fL, jM.len_fR]; omega) | (simp [jM.len_nw, jM.len_sI, jM.len_sL, jM.len_sR, jM.len_fI, jM.len_fL, jM.len_fR, *]; omega)) (fun hc => ?_) (fun hc => ?_)
  · omega
  · refine J.iload_n (pc' := 5) rfl rfl rfl ?_
    refine J.iload_n (pc' := 6) rfl rfl rfl ?_
    refine J.icmp_lt (tgt := 16) (pc' := 9) rfl rfl rfl (by first | omega | (simp only [jM.len_sI, jM.len_sL, jM.len_sR, jM.len_fI, jM.len_fL, jM.len_fR]; omega) | (simp [jM.len_nw, jM.len_sI, jM.len_sL, jM.len_sR, jM.len_fI, jM.len_fL, jM.len_fR, *]; omega)) (by first | omega | (simp only [jM.len_sI, jM.len_sL, jM.len_sR, jM.len_fI, jM.len_fL, jM.len_fR]; omega) | (simp [jM.len_nw, jM.len_sI, jM.len_sL, jM.len_sR, jM.len_fI, jM.len_fL, jM.len_fR, *]; omega)) (fun hd => ?_) (fun hd => ?_)
    · refine J.iload_n (pc' := 17) rfl rfl rfl ?_
      refine J.iret rfl rfl (by first | omega | (simp only [jM.len_sI, jM.len_sL, jM.len_sR, jM.len_fI, jM.len_fL, jM.len_fR]; omega) | (simp [jM.len_nw, jM.len_sI, jM.len_sL, jM.len_sR, jM.len_fI, jM.len_fL, jM.len_fR, *]; omega)) (by first | omega | (simp only [jM.len_sI, jM.len_sL, jM.len_sR, jM.len_fI, jM.len_fL, jM.len_fR]; omega) | (simp [jM.len_nw, jM.len_sI, jM.len_sL, jM.len_sR, jM.len_fI, jM.len_fL, jM.len_fR, *]; omega)) ?_
      exact ⟨rfl, rfl⟩
    · omega
theorem ct_chk {i n : Int} (h0 : 0 ≤ i) (h1 : i < n) (hn : r32 n) : CT γ mJ15_checkIndex_7cf53 1 0 0 [.int (jI i), .int (jI n)] h (fun r h' => r = some (.int (jI i)) ∧ h' = h) X0 := by
  refine CT.of MJ15_checkIndex_7cf53 (Nat.le_of_ble_eq_true rfl) ?_
  show J γ mJ15_checkIndex_7cf53 1 0 0 0 0 h 0 [(0, .int (jI i)), (1, .int (jI n))] [] _ _
  refine J.iload_n (pc' := 1) rfl rfl rfl ?_
  refine J.iload_n (pc' := 2) rfl rfl rfl ?_
  refine J.null (pc' := 3) rfl rfl ?_
  refine J.callS (pc' := 6) rfl MJ3_checkIndex_8e157 ml_J15_105 is_J3_checkIndex_8e157 (ct_chk0 h0 h1 hn) rfl rfl (Nat.le_of_ble_eq_true rfl) (by first | omega | (simp only [jM.len_sI, jM.len_sL, jM.len_sR, jM.len_fI, jM.len_fL, jM.len_fR]; omega) | (simp [jM.len_nw, jM.len_sI, jM.len_sL, jM.len_sR, jM.len_fI, jM.len_fL, jM.len_fR, *]; omega)) (by first | omega | (simp only [jM.len_sI, jM.len_sL, jM.len_sR, jM.len_fI, jM.len_fL, jM.len_fR]; omega) | (simp [jM.len_nw, jM.len_sI, jM.len_sL, jM.len_sR, jM.len_fI, jM.len_fL, jM.len_fR, *]; omega)) (by first | omega | (simp only [jM.len_sI, jM.len_sL, jM.len_sR, jM.len_fI, jM.len_fL, jM.len_fR]; omega) | (simp [jM.len_nw, jM.len_sI, jM.len_sL, jM.len_sR, jM.len_fI, jM.len_fL, jM.len_fR, *]; omega)) rfl rfl ?_ ?_
  · exact fun _ _ h => h
  rintro _ h ⟨rfl, rfl⟩
  refine J.iret rfl rfl (by first | omega | (simp only [jM.len_sI, jM.len_sL, jM.len_sR, jM.len_fI, jM.len_fL, jM.len_fR]; omega) | (simp [jM.len_nw, jM.len_sI, jM.len_sL, jM.len_sR, jM.len_fI, jM.len_fL, jM.len_fR, *]; omega)) (by first | omega | (simp only [jM.len_sI, jM.len_sL, jM.len_sR, jM.len_fI, jM.len_fL, jM.len_fR]; omega) | (simp [jM.len_nw, jM.len_sI, jM.len_sL, jM.len_sR, jM.len_fI, jM.len_fL, jM.len_fR, *]; omega)) ?_
  exact ⟨rfl, rfl⟩
theorem ct_newLen {o m q : Int} (h0 : 0 ≤ o) (h1 : 0 < m) (h2 : 0 ≤ q) (b0 : o ≤ 1000000) (b1 : m ≤ 1000000) (b2 : q ≤ 1000000) : CT γ mJ8_newLength_cabcc 1 0 0 [.int (jI o), .int (jI m), .int (jI q)] h (fun r h' => r = some (.int (jI (o + max m q))) ∧ h' = h) X0 := by
  refine CT.of MJ8_newLength_cabcc (Nat.le_of_ble_eq_true rfl) ?_
  show J γ mJ8_newLength_cabcc 1 0 0 0 0 h 0 [(0, .int (jI o)), (1, .int (jI m)), (2, .int (jI q))] [] _ _
  refine J.iload_n (pc' := 1) rfl rfl rfl ?_
  refine J.iload_n (pc' := 2) rfl rfl rfl ?_
  refine J.iload_n (pc' := 3) rfl rfl rfl ?_
  refine J.callS (pc' := 6) rfl MJ9_max_7cf53 ml_J8_194 is_J9_max_7cf53 (ct_max (by omega) (by omega)) rfl rfl (Nat.le_of_ble_eq_true rfl) (by first | omega | (simp only [jM.len_sI, jM.len_sL, jM.len_sR, jM.len_fI, jM.len_fL, jM.len_fR]; omega) | (simp [jM.len_nw, jM.len_sI, jM.len_sL, jM.len_sR, jM.len_fI, jM.len_fL, jM.len_fR, *]; omega)) (by first | omega | (simp only [jM.len_sI, jM.len_sL, jM.len_sR, jM.len_fI, jM.len_fL, jM.len_fR]; omega) | (simp [jM.len_nw, jM.len_sI, jM.len_sL, jM.len_sR, jM.len_fI, jM.len_fL, jM.len_fR, *]; omega)) (by first | omega | (simp only [jM.len_sI, jM.len_sL, jM.len_sR, jM.len_fI, jM.len_fL, jM.len_fR]; omega) | (simp [jM.len_nw, jM.len_sI, jM.len_sL, jM.len_sR, jM.len_fI, jM.len_fL, jM.len_fR, *]; omega)) rfl rfl ?_ ?_
  · exact fun _ _ h => h
  rintro _ h ⟨rfl, rfl⟩
  refine J.iadd (pc' := 7) rfl rfl ?_
  refine J.istore_n (pc' := 8) rfl rfl (by decide) ?_
  refine J.iconst (pc' := 9) rfl rfl ?_
  refine J.iload_n (pc' := 10) rfl rfl rfl ?_
  refine J.icmp_ge (tgt := 21) (pc' := 13) rfl rfl rfl (by first | omega | (simp only [jM.len_sI, jM.len_sL, jM.len_sR, jM.len_fI, jM.len_fL, jM.len_fR]; omega) | (simp [jM.len_nw, jM.len_sI, jM.len_sL, jM.len_sR, jM.len_fI, jM.len_fL, jM.len_fR, *]; omega)) (by first | omega | (simp only [jM.len_sI, jM.len_sL, jM.len_sR, jM.len_fI, jM.len_fL, jM.len_fR]; omega) | (simp [jM.len_nw, jM.len_sI, jM.len_sL, jM.len_sR, jM.len_fI, jM.len_fL, jM.len_fR, *]; omega)) (fun hc => ?_) (fun hc => ?_)
  · omega
  · refine J.iload_n (pc' := 14) rfl rfl rfl ?_
    refine J.ldc (pc' := 16) (z := 2147483639) (v := 2147483639) rfl (List.mem_of_getElem? (i := 305) (by decide +kernel)) (by decide) rfl ?_
    refine J.icmp_gt (tgt := 21) (pc' := 19) rfl rfl rfl (by first | omega | (simp only [jM.len_sI, jM.len_sL, jM.len_sR, jM.len_fI, jM.len_fL, jM.len_fR]; omega) | (simp [jM.len_nw, jM.len_sI, jM.len_sL, jM.len_sR, jM.len_fI, jM.len_fL, jM.len_fR, *]; omega)) (by first | omega | (simp only [jM.len_sI, jM.len_sL, jM.len_sR, jM.len_fI, jM.len_fL, jM.len_fR]; omega) | (simp [jM.len_nw, jM.len_sI, jM.len_sL, jM.len_sR, jM.len_fI, jM.len_fL, jM.len_fR, *]; omega)) (fun hd => ?_) (fun hd => ?_)
    · omega
    · refine J.iload_n (pc' := 20) rfl rfl rfl ?_
      refine J.iret rfl rfl (by first | omega | (simp only [jM.len_sI, jM.len_sL, jM.len_sR, jM.len_fI, jM.len_fL, jM.len_fR]; omega) | (simp [jM.len_nw, jM.len_sI, jM.len_sL, jM.len_sR, jM.len_fI, jM.len_fL, jM.len_fR, *]; omega)) (by first | omega | (simp only [jM.len_sI, jM.len_sL, jM.len_sR, jM.len_fI, jM.len_fL, jM.len_fR]; omega) | (simp [jM.len_nw, jM.len_sI, jM.len_sL, jM.len_sR, jM.len_fI, jM.len_fL, jM.len_fR, *]; omega)) ?_
      exact ⟨rfl, rfl⟩
theorem ct_size (ha : h.tag a = 3) : CT γ mJx4a65c_size_8abf5 0 0 0 [.ref a] h (fun r h' => r = some (.int (jI (h.I 3 a 2))) ∧ h' = h) X0 := by
  refine CT.of MJx4a65c_size_8abf5 (Nat.le_of_ble_eq_true rfl) ?_
  show J γ mJx4a65c_size_8abf5 0 0 0 0 0 h 0 [(0, .ref a)] [] _ _
  first | refine J.aload_n (pc' := 1) rfl rfl rfl ?_ | refine J.aload_nN (pc' := 1) rfl rfl rfl ?_
  refine J.getI (pc' := 4) rfl fl_Jx4a65c_48 rfl (by first | assumption | (simp only [jM.tag_sI, jM.tag_sL, jM.tag_sR, jM.tag_fI, jM.tag_fL, jM.tag_fR]; assumption) | (simp [jM.tag_nw, jM.tag_sI, jM.tag_sL, jM.tag_sR, jM.tag_fI, jM.tag_fL, jM.tag_fR, *]; done)) rfl ?_
  refine J.iret rfl rfl (by first | omega | (simp only [jM.len_sI, jM.len_sL, jM.len_sR, jM.len_fI, jM.len_fL, jM.len_fR]; omega) | (simp [jM.len_nw, jM.len_sI, jM.len_sL, jM.len_sR, jM.len_fI, jM.len_fL, jM.len_fR, *]; omega)) (by first | omega | (simp only [jM.len_sI, jM.len_sL, jM.len_sR, jM.len_fI, jM.len_fL, jM.len_fR]; omega) | (simp [jM.len_nw, jM.len_sI, jM.len_sL, jM.len_sR, jM.len_fI, jM.len_fL, jM.len_fR, *]; omega)) ?_
  exact ⟨rfl, rfl⟩
theorem ct_elem {i : Int} {b : Nat} (ha : h.tag a = 3) (he : h.R 3 a 1 = some e) (te : h.tag e = 34) (h0 : 0 ≤ i) (h1 : i < h.len e) (hr : r32 i) (hb : h.R 34 e i.toNat = some b) : CT γ mJx4a65c_elementData_915e3 0 0 0 [.ref a, .int (jI i)] h (fun r h' => r = some (.ref b) ∧ h' = h) X0 := by
  refine CT.of MJx4a65c_elementData_915e3 (Nat.le_of_ble_eq_true rfl) ?_
  show J γ mJx4a65c_elementData_915e3 0 0 0 0 0 h 0 [(0, .ref a), (1, .int (jI i))] [] _ _
  first | refine J.aload_n (pc' := 1) rfl rfl rfl ?_ | refine J.aload_nN (pc' := 1) rfl rfl rfl ?_
  first | refine J.getR (pc' := 4) rfl fl_Jx4a65c_9 rfl (by first | assumption | (simp only [jM.tag_sI, jM.tag_sL, jM.tag_sR, jM.tag_fI, jM.tag_fL, jM.tag_fR]; assumption) | (simp [jM.tag_nw, jM.tag_sI, jM.tag_sL, jM.tag_sR, jM.tag_fI, jM.tag_fL, jM.tag_fR, *]; done)) (by first | assumption | (simp only [jM.R_sI, jM.R_sL, jM.R_fI, jM.R_fL]; assumption) | (simp [jM.R_nw, jM.R_sR, jM.R_fR, jM.R_sI, jM.R_sL, jM.R_fI, jM.R_fL, *]; done)) rfl ?_ | refine J.getRN (pc' := 4) rfl fl_Jx4a65c_9 rfl (by first | assumption | (simp only [jM.tag_sI, jM.tag_sL, jM.tag_sR, jM.tag_fI, jM.tag_fL, jM.tag_fR]; assumption) | (simp [jM.tag_nw, jM.tag_sI, jM.tag_sL, jM.tag_sR, jM.tag_fI, jM.tag_fL, jM.tag_fR, *]; done)) (by first | assumption | (simp only [jM.R_sI, jM.R_sL, jM.R_fI, jM.R_fL]; assumption) | (simp [jM.R_nw, jM.R_sR, jM.R_fR, jM.R_sI, jM.R_sL, jM.R_fI, jM.R_fL, *]; done)) rfl ?_
  refine J.iload_n (pc' := 5) rfl rfl rfl ?_
  first | refine J.aald (pc' := 6) rfl (by first | assumption | (simp only [jM.tag_sI, jM.tag_sL, jM.tag_sR, jM.tag_fI, jM.tag_fL, jM.tag_fR]; assumption) | (simp [jM.tag_nw, jM.tag_sI, jM.tag_sL, jM.tag_sR, jM.tag_fI, jM.tag_fL, jM.tag_fR, *]; done)) (by decide) (by decide) rfl (by first | omega | (simp only [jM.len_sI, jM.len_sL, jM.len_sR, jM.len_fI, jM.len_fL, jM.len_fR]; omega) | (simp [jM.len_nw, jM.len_sI, jM.len_sL, jM.len_sR, jM.len_fI, jM.len_fL, jM.len_fR, *]; omega)) (by first | omega | (simp only [jM.len_sI, jM.len_sL, jM.len_sR, jM.len_fI, jM.len_fL, jM.len_fR]; omega) | (simp [jM.len_nw, jM.len_sI, jM.len_sL, jM.len_sR, jM.len_fI, jM.len_fL, jM.len_fR, *]; omega)) (by first | omega | (simp only [jM.len_sI, jM.len_sL, jM.len_sR, jM.len_fI, jM.len_fL, jM.len_fR]; omega) | (simp [jM.len_nw, jM.len_sI, jM.len_sL, jM.len_sR, jM.len_fI, jM.len_fL, jM.len_fR, *]; omega)) (by first | assumption | (simp only [jM.R_sI, jM.R_sL, jM.R_fI, jM.R_fL]; assumption) | (simp [jM.R_nw, jM.R_sR, jM.R_fR, jM.R_sI, jM.R_sL, jM.R_fI, jM.R_fL, *]; done)) rfl ?_ | refine J.aaldN (pc' := 6) rfl (by first | assumption | (simp only [jM.tag_sI, jM.tag_sL, jM.tag_sR, jM.tag_fI, jM.tag_fL, jM.tag_fR]; assumption) | (simp [jM.tag_nw, jM.tag_sI, jM.tag_sL, jM.tag_sR, jM.tag_fI, jM.tag_fL, jM.tag_fR, *]; done)) (by decide) (by decide) rfl (by first | omega | (simp only [jM.len_sI, jM.len_sL, jM.len_sR, jM.len_fI, jM.len_fL, jM.len_fR]; omega) | (simp [jM.len_nw, jM.len_sI, jM.len_sL, jM.len_sR, jM.len_fI, jM.len_fL, jM.len_fR, *]; omega)) (by first | omega | (simp only [jM.len_sI, jM.len_sL, jM.len_sR, jM.len_fI, jM.len_fL, jM.len_fR]; omega) | (simp [jM.len_nw, jM.len_sI, jM.len_sL, jM.len_sR, jM.len_fI, jM.len_fL, jM.len_fR, *]; omega)) (by first | omega | (simp only [jM.len_sI, jM.len_sL, jM.len_sR, jM.len_fI, jM.len_fL, jM.len_fR]; omega) | (simp [jM.len_nw, jM.len_sI, jM.len_sL, jM.len_sR, jM.len_fI, jM.len_fL, jM.len_fR, *]; omega)) (by first | assumption | (simp only [jM.R_sI, jM.R_sL, jM.R_fI, jM.R_fL]; assumption) | (simp [jM.R_nw, jM.R_sR, jM.R_fR, jM.R_sI, jM.R_sL, jM.R_fI, jM.R_fL, *]; done)) rfl ?_
  first | refine J.aret rfl rfl rfl (by first | omega | (simp only [jM.len_sI, jM.len_sL, jM.len_sR, jM.len_fI, jM.len_fL, jM.len_fR]; omega) | (simp [jM.len_nw, jM.len_sI, jM.len_sL, jM.len_sR, jM.len_fI, jM.len_fL, jM.len_fR, *]; omega)) (by first | omega | (simp only [jM.len_sI, jM.len_sL, jM.len_sR, jM.len_fI, jM.len_fL, jM.len_fR]; omega) | (simp [jM.len_nw, jM.len_sI, jM.len_sL, jM.len_sR, jM.len_fI, jM.len_fL, jM.len_fR, *]; omega)) ?_ | refine J.aretN rfl rfl rfl (by first | omega | (simp only [jM.len_sI, jM.len_sL, jM.len_sR, jM.len_fI, jM.len_fL, jM.len_fR]; omega) | (simp [jM.len_nw, jM.len_sI, jM.len_sL, jM.len_sR, jM.len_fI, jM.len_fL, jM.len_fR, *]; omega)) (by first | omega | (simp only [jM.len_sI, jM.len_sL, jM.len_sR, jM.len_fI, jM.len_fL, jM.len_fR]; omega) | (simp [jM.len_nw, jM.len_sI, jM.len_sL, jM.len_sR, jM.len_fI, jM.len_fL, jM.len_fR, *]; omega)) ?_
  exact ⟨rfl, rfl⟩
theorem ct_get {i : Int} {b : Nat} (ha : h.tag a = 3) (he : h.R 3 a 1 = some e) (te : h.tag e = 34) (h0 : 0 ≤ i) (h1 : i < h.I 3 a 2) (h2 : h.I 3 a 2 ≤ h.len e) (hr : r32 (h.I 3 a 2)) (hb : h.R 34 e i.toNat = some b) : CT γ mJx4a65c_get_915e3 2 0 0 [.ref a, .int (jI i)] h (fun r h' => r = some (.ref b) ∧ h' = h) X0 := by
  refine CT.of MJx4a65c_get_915e3 (Nat.le_of_ble_eq_true rfl) ?_
  show J γ mJx4a65c_get_915e3 2 0 0 0 0 h 0 [(0, .ref a), (1, .int (jI i))] [] _ _
  refine J.iload_n (pc' := 1) rfl rfl rfl ?_
  first | refine J.aload_n (pc' := 2) rfl rfl rfl ?_ | refine J.aload_nN (pc' := 2) rfl rfl rfl ?_
  refine J.getI (pc' := 5) rfl fl_Jx4a65c_48 rfl (by first | assumption | (simp only [jM.tag_sI, jM.tag_sL, jM.tag_sR, jM.tag_fI, jM.tag_fL, jM.tag_fR]; assumption) | (simp [jM.tag_nw, jM.tag_sI, jM.tag_sL, jM.tag_sR, jM.tag_fI, jM.tag_fL, jM.tag_fR, *]; done)) rfl ?_
  refine J.callS (pc' := 8) rfl MJ15_checkIndex_7cf53 ml_Jx4a65c_118 is_J15_checkIndex_7cf53 (ct_chk h0 h1 hr) rfl rfl (Nat.le_of_ble_eq_true rfl) (by first | omega | (simp only [jM.len_sI, jM.len_sL, jM.len_sR, jM.len_fI, jM.len_fL, jM.len_fR]; omega) | (simp [jM.len_nw, jM.len_sI, jM.len_sL, jM.len_sR, jM.len_fI, jM.len_fL, jM.len_fR, *]; omega)) (by first | omega | (simp only [jM.len_sI, jM.len_sL, jM.len_sR, jM.len_fI, jM.len_fL, jM.len_fR]; omega) | (simp [jM.len_nw, jM.len_sI, jM.len_sL, jM.len_sR, jM.len_fI, jM.len_fL, jM.len_fR, *]; omega)) (by first | omega | (simp only [jM.len_sI, jM.len_sL, jM.len_sR, jM.len_fI, jM.len_fL, jM.len_fR]; omega) | (simp [jM.len_nw, jM.len_sI, jM.len_sL, jM.len_sR, jM.len_fI, jM.len_fL, jM.len_fR, *]; omega)) rfl rfl ?_ ?_
  · exact fun _ _ h => h
  rintro _ h ⟨rfl, rfl⟩
  refine J.pop (pc' := 9) rfl rfl rfl ?_
  first | refine J.aload_n (pc' := 10) rfl rfl rfl ?_ | refine J.aload_nN (pc' := 10) rfl rfl rfl ?_
  refine J.iload_n (pc' := 11) rfl rfl rfl ?_
  refine J.callV (pc' := 14) (t := 3) rfl MJx4a65c_elementData_915e3 ml_Jx4a65c_123 iv_Jx4a65c_elementData_915e3 (by decide) ⟨_, rfl, rfl⟩ (by first | assumption | (simp only [jM.tag_sI, jM.tag_sL, jM.tag_sR, jM.tag_fI, jM.tag_fL, jM.tag_fR]; assumption) | (simp [jM.tag_nw, jM.tag_sI, jM.tag_sL, jM.tag_sR, jM.tag_fI, jM.tag_fL, jM.tag_fR, *]; done)) (ct_elem ha he te h0 (by omega) (by omega) hb) rfl rfl (Nat.le_of_ble_eq_true rfl) (by first | omega | (simp only [jM.len_sI, jM.len_sL, jM.len_sR, jM.len_fI, jM.len_fL, jM.len_fR]; omega) | (simp [jM.len_nw, jM.len_sI, jM.len_sL, jM.len_sR, jM.len_fI, jM.len_fL, jM.len_fR, *]; omega)) (by first | omega | (simp only [jM.len_sI, jM.len_sL, jM.len_sR, jM.len_fI, jM.len_fL, jM.len_fR]; omega) | (simp [jM.len_nw, jM.len_sI, jM.len_sL, jM.len_sR, jM.len_fI, jM.len_fL, jM.len_fR, *]; omega)) (by first | omega | (simp only [jM.len_sI, jM.len_sL, jM.len_sR, jM.len_fI, jM.len_fL, jM.len_fR]; omega) | (simp [jM.len_nw, jM.len_sI, jM.len_sL, jM.len_sR, jM.len_fI, jM.len_fL, jM.len_fR, *]; omega)) rfl rfl ?_ ?_
  · exact fun _ _ h => h
  rintro _ h ⟨rfl, rfl⟩
  first | refine J.aret rfl rfl rfl (by first | omega | (simp only [jM.len_sI, jM.len_sL, jM.len_sR, jM.len_fI, jM.len_fL, jM.len_fR]; omega) | (simp [jM.len_nw, jM.len_sI, jM.len_sL, jM.len_sR, jM.len_fI, jM.len_fL, jM.len_fR, *]; omega)) (by first | omega | (simp only [jM.len_sI, jM.len_sL, jM.len_sR, jM.len_fI, jM.len_fL, jM.len_fR]; omega) | (simp [jM.len_nw, jM.len_sI, jM.len_sL, jM.len_sR, jM.len_fI, jM.len_fL, jM.len_fR, *]; omega)) ?_ | refine J.aretN rfl rfl rfl (by first | omega | (simp only [jM.len_sI, jM.len_sL, jM.len_sR, jM.len_fI, jM.len_fL, jM.len_fR]; omega) | (simp [jM.len_nw, jM.len_sI, jM.len_sL, jM.len_sR, jM.len_fI, jM.len_fL, jM.len_fR, *]; omega)) (by first | omega | (simp only [jM.len_sI, jM.len_sL, jM.len_sR, jM.len_fI, jM.len_fL, jM.len_fR]; omega) | (simp [jM.len_nw, jM.len_sI, jM.len_sL, jM.len_sR, jM.len_fI, jM.len_fL, jM.len_fR, *]; omega)) ?_
  exact ⟨rfl, rfl⟩
end AL

