section SP
variable {γ : jG} {h : jM} {a p : Nat}
theorem ct_max {x y : Int} (hx : r32 x) (hy : r32 y) : CT γ mJ9_max_7cf53 0 0 0 [.int (jI x), .int (jI y)] h (fun r h' => r = some (.int (jI (max x y))) ∧ h' = h) X0 := by
  refine CT.of MJ9_max_7cf53 (Nat.le_of_ble_eq_true rfl) ?_
  show J γ mJ9_max_7cf53 0 0 0 0 0 h 0 [(0, .int (jI x)), (1, .int (jI y))] [] _ _
  refine J.iload_n (pc' := 1) rfl rfl rfl ?_
  refine J.iload_n (pc' := 2) rfl rfl rfl ?_
  refine J.icmp_lt (tgt := 9) (pc' := 5) rfl rfl rfl (by first | omega | (simp only [jM.len_sI, jM.len_sL, jM.len_sR]; omega) | (simp [jM.len_nw, jM.len_sI, jM.len_sL, jM.len_sR, *]; omega)) (by first | omega | (simp only [jM.len_sI, jM.len_sL, jM.len_sR]; omega) | (simp [jM.len_nw, jM.len_sI, jM.len_sL, jM.len_sR, *]; omega)) (fun hc => ?_) (fun hc => ?_)
  · refine J.iload_n (pc' := 10) rfl rfl rfl ?_
    refine J.iret rfl rfl (by first | omega | (simp only [jM.len_sI, jM.len_sL, jM.len_sR]; omega) | (simp [jM.len_nw, jM.len_sI, jM.len_sL, jM.len_sR, *]; omega)) (by first | omega | (simp only [jM.len_sI, jM.len_sL, jM.len_sR]; omega) | (simp [jM.len_nw, jM.len_sI, jM.len_sL, jM.len_sR, *]; omega)) ?_
    exact ⟨by rw [show max x y = y by omega], rfl⟩
  · refine J.iload_n (pc' := 6) rfl rfl rfl ?_
    refine J.goto (tgt := 10) rfl rfl ?_
    refine J.iret rfl rfl (by first | omega | (simp only [jM.len_sI, jM.len_sL, jM.len_sR]; omega) | (simp [jM.len_nw, jM.len_sI, jM.len_sL, jM.len_sR, *]; omega)) (by first | omega | (simp only [jM.len_sI, jM.len_sL, jM.len_sR]; omega) | (simp [jM.len_nw, jM.len_sI, jM.len_sL, jM.len_sR, *]; omega)) ?_
    exact ⟨by rw [show max x y = x by omega], rfl⟩
theorem ct_min {x y : Int} (hx : r32 x) (hy : r32 y) : CT γ mJ9_min_7cf53 0 0 0 [.int (jI x), .int (jI y)] h (fun r h' => r = some (.int (jI (min x y))) ∧ h' = h) X0 := by
  refine CT.of MJ9_min_7cf53 (Nat.le_of_ble_eq_true rfl) ?_
  show J γ mJ9_min_7cf53 0 0 0 0 0 h 0 [(0, .int (jI x)), (1, .int (jI y))] [] _ _
  refine J.iload_n (pc' := 1) rfl rfl rfl ?_
  refine J.iload_n (pc' := 2) rfl rfl rfl ?_
  refine J.icmp_gt (tgt := 9) (pc' := 5) rfl rfl rfl (by first | omega | (simp only [jM.len_sI, jM.len_sL, jM.len_sR]; omega) | (simp [jM.len_nw, jM.len_sI, jM.len_sL, jM.len_sR, *]; omega)) (by first | omega | (simp only [jM.len_sI, jM.len_sL, jM.len_sR]; omega) | (simp [jM.len_nw, jM.len_sI, jM.len_sL, jM.len_sR, *]; omega)) (fun hc => ?_) (fun hc => ?_)
  · refine J.iload_n (pc' := 10) rfl rfl rfl ?_
    refine J.iret rfl rfl (by first | omega | (simp only [jM.len_sI, jM.len_sL, jM.len_sR]; omega) | (simp [jM.len_nw, jM.len_sI, jM.len_sL, jM.len_sR, *]; omega)) (by first | omega | (simp only [jM.len_sI, jM.len_sL, jM.len_sR]; omega) | (simp [jM.len_nw, jM.len_sI, jM.len_sL, jM.len_sR, *]; omega)) ?_
    exact ⟨by rw [show min x y = y by omega], rfl⟩
  · refine J.iload_n (pc' := 6) rfl rfl rfl ?_
    refine J.goto (tgt := 10) rfl rfl ?_
    refine J.iret rfl rfl (by first | omega | (simp only [jM.len_sI, jM.len_sL, jM.len_sR]; omega) | (simp [jM.len_nw, jM.len_sI, jM.len_sL, jM.len_sR, *]; omega)) (by first | omega | (simp only [jM.len_sI, jM.len_sL, jM.len_sR]; omega) | (simp [jM.len_nw, jM.len_sI, jM.len_sL, jM.len_sR, *]; omega)) ?_
    exact ⟨by rw [show min x y = x by omega], rfl⟩
theorem ct_low {m : Int} (ha : h.tag a = 14) (hp : h.R 14 a 0 = some p) (tp : h.tag p = 20) (lp : h.len p = 10) (h0 : 0 ≤ m) (h1 : m < 5) : CT γ mX10_low 0 0 0 [.ref a, .int (jI m)] h (fun r h' => r = some (.int (jI (h.I 20 p (2 * m).toNat))) ∧ h' = h) X0 := by
  refine CT.of MX10_low (Nat.le_of_ble_eq_true rfl) ?_
  show J γ mX10_low 0 0 0 0 0 h 0 [(0, .ref a), (1, .int (jI m))] [] _ _
  first | refine J.aload_n (pc' := 1) rfl rfl rfl ?_ | refine J.aload_nN (pc' := 1) rfl rfl rfl ?_
  first | refine J.getR (pc' := 4) rfl fl_X10_9 rfl (by first | assumption | (simp only [jM.tag_sI, jM.tag_sL, jM.tag_sR]; assumption) | (simp [jM.tag_nw, jM.tag_sI, jM.tag_sL, jM.tag_sR, *]; done)) (by first | assumption | (simp only [jM.R_sI, jM.R_sL]; assumption) | (simp [jM.R_nw, jM.R_sI, jM.R_sL, jM.R_sR, *]; done)) rfl ?_ | refine J.getRN (pc' := 4) rfl fl_X10_9 rfl (by first | assumption | (simp only [jM.tag_sI, jM.tag_sL, jM.tag_sR]; assumption) | (simp [jM.tag_nw, jM.tag_sI, jM.tag_sL, jM.tag_sR, *]; done)) (by first | assumption | (simp only [jM.R_sI, jM.R_sL]; assumption) | (simp [jM.R_nw, jM.R_sI, jM.R_sL, jM.R_sR, *]; done)) rfl ?_
  refine J.iconst (pc' := 5) rfl rfl ?_
  refine J.iload_n (pc' := 6) rfl rfl rfl ?_
  refine J.imul (pc' := 7) rfl rfl ?_
  refine J.iald (pc' := 8) rfl (by first | assumption | (simp only [jM.tag_sI, jM.tag_sL, jM.tag_sR]; assumption) | (simp [jM.tag_nw, jM.tag_sI, jM.tag_sL, jM.tag_sR, *]; done)) (by decide) rfl (by first | omega | (simp only [jM.len_sI, jM.len_sL, jM.len_sR]; omega) | (simp [jM.len_nw, jM.len_sI, jM.len_sL, jM.len_sR, *]; omega)) (by first | omega | (simp only [jM.len_sI, jM.len_sL, jM.len_sR]; omega) | (simp [jM.len_nw, jM.len_sI, jM.len_sL, jM.len_sR, *]; omega)) (by first | omega | (simp only [jM.len_sI, jM.len_sL, jM.len_sR]; omega) | (simp [jM.len_nw, jM.len_sI, jM.len_sL, jM.len_sR, *]; omega)) rfl ?_
  refine J.iret rfl rfl (by first | omega | (simp only [jM.len_sI, jM.len_sL, jM.len_sR]; omega) | (simp [jM.len_nw, jM.len_sI, jM.len_sL, jM.len_sR, *]; omega)) (by first | omega | (simp only [jM.len_sI, jM.len_sL, jM.len_sR]; omega) | (simp [jM.len_nw, jM.len_sI, jM.len_sL, jM.len_sR, *]; omega)) ?_
  exact ⟨rfl, rfl⟩
theorem ct_high {m : Int} (ha : h.tag a = 14) (hp : h.R 14 a 0 = some p) (tp : h.tag p = 20) (lp : h.len p = 10) (h0 : 0 ≤ m) (h1 : m < 5) : CT γ mX10_high 0 0 0 [.ref a, .int (jI m)] h (fun r h' => r = some (.int (jI (h.I 20 p (2 * m + 1).toNat))) ∧ h' = h) X0 := by
  refine CT.of MX10_high (Nat.le_of_ble_eq_true rfl) ?_
  show J γ mX10_high 0 0 0 0 0 h 0 [(0, .ref a), (1, .int (jI m))] [] _ _
  first | refine J.aload_n (pc' := 1) rfl rfl rfl ?_ | refine J.aload_nN (pc' := 1) rfl rfl rfl ?_
  first | refine J.getR (pc' := 4) rfl fl_X10_9 rfl (by first | assumption | (simp only [jM.tag_sI, jM.tag_sL, jM.tag_sR]; assumption) | (simp [jM.tag_nw, jM.tag_sI, jM.tag_sL, jM.tag_sR, *]; done)) (by first | assumption | (simp only [jM.R_sI, jM.R_sL]; assumption) | (simp [jM.R_nw, jM.R_sI, jM.R_sL, jM.R_sR, *]; done)) rfl ?_ | refine J.getRN (pc' := 4) rfl fl_X10_9 rfl (by first | assumption | (simp only [jM.tag_sI, jM.tag_sL, jM.tag_sR]; assumption) | (simp [jM.tag_nw, jM.tag_sI, jM.tag_sL, jM.tag_sR, *]; done)) (by first | assumption | (simp only [jM.R_sI, jM.R_sL]; assumption) | (simp [jM.R_nw, jM.R_sI, jM.R_sL, jM.R_sR, *]; done)) rfl ?_
  refine J.iconst (pc' := 5) rfl rfl ?_
  refine J.iload_n (pc' := 6) rfl rfl rfl ?_
  refine J.imul (pc' := 7) rfl rfl ?_
  refine J.iconst (pc' := 8) rfl rfl ?_
  refine J.iadd (pc' := 9) rfl rfl ?_
  refine J.iald (pc' := 10) rfl (by first | assumption | (simp only [jM.tag_sI, jM.tag_sL, jM.tag_sR]; assumption) | (simp [jM.tag_nw, jM.tag_sI, jM.tag_sL, jM.tag_sR, *]; done)) (by decide) rfl (by first | omega | (simp only [jM.len_sI, jM.len_sL, jM.len_sR]; omega) | (simp [jM.len_nw, jM.len_sI, jM.len_sL, jM.len_sR, *]; omega)) (by first | omega | (simp only [jM.len_sI, jM.len_sL, jM.len_sR]; omega) | (simp [jM.len_nw, jM.len_sI, jM.len_sL, jM.len_sR, *]; omega)) (by first | omega | (simp only [jM.len_sI, jM.len_sL, jM.len_sR]; omega) | (simp [jM.len_nw, jM.len_sI, jM.len_sL, jM.len_sR, *]; omega)) rfl ?_
  refine J.iret rfl rfl (by first | omega | (simp only [jM.len_sI, jM.len_sL, jM.len_sR]; omega) | (simp [jM.len_nw, jM.len_sI, jM.len_sL, jM.len_sR, *]; omega)) (by first | omega | (simp only [jM.len_sI, jM.len_sL, jM.len_sR]; omega) | (simp [jM.len_nw, jM.len_sI, jM.len_sL, jM.len_sR, *]; omega)) ?_
  exact ⟨rfl, rfl⟩
theorem ct_put {m x y : Int} (ha : h.tag a = 14) (hp : h.R 14 a 0 = some p) (tp : h.tag p = 20) (lp : h.len p = 10) (h0 : 0 ≤ m) (h1 : m < 5) : CT γ mX10_put 0 0 0 [.ref a, .int (jI m), .int (jI x), .int (jI y)] h (fun r h' => r = none ∧ h' = (h.sI 20 p (2 * m).toNat x).sI 20 p (2 * m + 1).toNat y) X0 := by
  refine CT.of MX10_put (Nat.le_of_ble_eq_true rfl) ?_
  show J γ mX10_put 0 0 0 0 0 h 0 [(0, .ref a), (1, .int (jI m)), (2, .int (jI x)), (3, .int (jI y))] [] _ _
  first | refine J.aload_n (pc' := 1) rfl rfl rfl ?_ | refine J.aload_nN (pc' := 1) rfl rfl rfl ?_
  first | refine J.getR (pc' := 4) rfl fl_X10_9 rfl (by first | assumption | (simp only [jM.tag_sI, jM.tag_sL, jM.tag_sR]; assumption) | (simp [jM.tag_nw, jM.tag_sI, jM.tag_sL, jM.tag_sR, *]; done)) (by first | assumption | (simp only [jM.R_sI, jM.R_sL]; assumption) | (simp [jM.R_nw, jM.R_sI, jM.R_sL, jM.R_sR, *]; done)) rfl ?_ | refine J.getRN (pc' := 4) rfl fl_X10_9 rfl (by first | assumption | (simp only [jM.tag_sI, jM.tag_sL, jM.tag_sR]; assumption) | (simp [jM.tag_nw, jM.tag_sI, jM.tag_sL, jM.tag_sR, *]; done)) (by first | assumption | (simp only [jM.R_sI, jM.R_sL]; assumption) | (simp [jM.R_nw, jM.R_sI, jM.R_sL, jM.R_sR, *]; done)) rfl ?_
  refine J.iconst (pc' := 5) rfl rfl ?_
  refine J.iload_n (pc' := 6) rfl rfl rfl ?_
  refine J.imul (pc' := 7) rfl rfl ?_
  refine J.iload_n (pc' := 8) rfl rfl rfl ?_
  refine J.iast (pc' := 9) rfl (by first | assumption | (simp only [jM.tag_sI, jM.tag_sL, jM.tag_sR]; assumption) | (simp [jM.tag_nw, jM.tag_sI, jM.tag_sL, jM.tag_sR, *]; done)) (by decide) rfl (by first | omega | (simp only [jM.len_sI, jM.len_sL, jM.len_sR]; omega) | (simp [jM.len_nw, jM.len_sI, jM.len_sL, jM.len_sR, *]; omega)) (by first | omega | (simp only [jM.len_sI, jM.len_sL, jM.len_sR]; omega) | (simp [jM.len_nw, jM.len_sI, jM.len_sL, jM.len_sR, *]; omega)) (by first | omega | (simp only [jM.len_sI, jM.len_sL, jM.len_sR]; omega) | (simp [jM.len_nw, jM.len_sI, jM.len_sL, jM.len_sR, *]; omega)) (Or.inl rfl) rfl ?_
  first | refine J.aload_n (pc' := 10) rfl rfl rfl ?_ | refine J.aload_nN (pc' := 10) rfl rfl rfl ?_
  first | refine J.getR (pc' := 13) rfl fl_X10_9 rfl (by first | assumption | (simp only [jM.tag_sI, jM.tag_sL, jM.tag_sR]; assumption) | (simp [jM.tag_nw, jM.tag_sI, jM.tag_sL, jM.tag_sR, *]; done)) (by first | assumption | (simp only [jM.R_sI, jM.R_sL]; assumption) | (simp [jM.R_nw, jM.R_sI, jM.R_sL, jM.R_sR, *]; done)) rfl ?_ | refine J.getRN (pc' := 13) rfl fl_X10_9 rfl (by first | assumption | (simp only [jM.tag_sI, jM.tag_sL, jM.tag_sR]; assumption) | (simp [jM.tag_nw, jM.tag_sI, jM.tag_sL, jM.tag_sR, *]; done)) (by first | assumption | (simp only [jM.R_sI, jM.R_sL]; assumption) | (simp [jM.R_nw, jM.R_sI, jM.R_sL, jM.R_sR, *]; done)) rfl ?_
  refine J.iconst (pc' := 14) rfl rfl ?_
  refine J.iload_n (pc' := 15) rfl rfl rfl ?_
  refine J.imul (pc' := 16) rfl rfl ?_
  refine J.iconst (pc' := 17) rfl rfl ?_
  refine J.iadd (pc' := 18) rfl rfl ?_
  refine J.iload_n (pc' := 19) rfl rfl rfl ?_
  refine J.iast (pc' := 20) rfl (by first | assumption | (simp only [jM.tag_sI, jM.tag_sL, jM.tag_sR]; assumption) | (simp [jM.tag_nw, jM.tag_sI, jM.tag_sL, jM.tag_sR, *]; done)) (by decide) rfl (by first | omega | (simp only [jM.len_sI, jM.len_sL, jM.len_sR]; omega) | (simp [jM.len_nw, jM.len_sI, jM.len_sL, jM.len_sR, *]; omega)) (by first | omega | (simp only [jM.len_sI, jM.len_sL, jM.len_sR]; omega) | (simp [jM.len_nw, jM.len_sI, jM.len_sL, jM.len_sR, *]; omega)) (by first | omega | (simp only [jM.len_sI, jM.len_sL, jM.len_sR]; omega) | (simp [jM.len_nw, jM.len_sI, jM.len_sL, jM.len_sR, *]; omega)) (Or.inl rfl) rfl ?_
  refine J.vret rfl rfl (by first | omega | (simp only [jM.len_sI, jM.len_sL, jM.len_sR]; omega) | (simp [jM.len_nw, jM.len_sI, jM.len_sL, jM.len_sR, *]; omega)) (by first | omega | (simp only [jM.len_sI, jM.len_sL, jM.len_sR]; omega) | (simp [jM.len_nw, jM.len_sI, jM.len_sL, jM.len_sR, *]; omega)) ?_
  exact ⟨rfl, rfl⟩
theorem ct_hasCommon {m x y : Int} (ha : h.tag a = 14) (hp : h.R 14 a 0 = some p) (tp : h.tag p = 20) (lp : h.len p = 10) (h0 : 0 ≤ m) (h1 : m < 5) (hx : r32 x) (hy : r32 y) (rl : r32 (h.I 20 p (2 * m).toNat)) (rh : r32 (h.I 20 p (2 * m + 1).toNat)) : CT γ mX10_hasCommon 1 0 0 [.ref a, .int (jI m), .int (jI x), .int (jI y)] h (fun r h' => r = some (.int (jI (if max x (h.I 20 p (2 * m).toNat) ≤ min y (h.I 20 p (2 * m + 1).toNat) then 1 else 0))) ∧ h' = h) X0 := by
  refine CT.of MX10_hasCommon (Nat.le_of_ble_eq_true rfl) ?_
  show J γ mX10_hasCommon 1 0 0 0 0 h 0 [(0, .ref a), (1, .int (jI m)), (2, .int (jI x)), (3, .int (jI y))] [] _ _
  refine J.iload_n (pc' := 1) rfl rfl rfl ?_
  first | refine J.aload_n (pc' := 2) rfl rfl rfl ?_ | refine J.aload_nN (pc' := 2) rfl rfl rfl ?_
  refine J.iload_n (pc' := 3) rfl rfl rfl ?_
  refine J.callV (pc' := 6) (t := 14) rfl MX10_low ml_X10_15 iv_X10_low (by decide) ⟨_, rfl, rfl⟩ (by first | assumption | (simp only [jM.tag_sI, jM.tag_sL, jM.tag_sR]; assumption) | (simp [jM.tag_nw, jM.tag_sI, jM.tag_sL, jM.tag_sR, *]; done)) (ct_low ha hp tp lp h0 h1) rfl rfl (Nat.le_of_ble_eq_true rfl) (by first | omega | (simp only [jM.len_sI, jM.len_sL, jM.len_sR]; omega) | (simp [jM.len_nw, jM.len_sI, jM.len_sL, jM.len_sR, *]; omega)) (by first | omega | (simp only [jM.len_sI, jM.len_sL, jM.len_sR]; omega) | (simp [jM.len_nw, jM.len_sI, jM.len_sL, jM.len_sR, *]; omega)) (by first | omega | (simp only [jM.len_sI, jM.len_sL, jM.len_sR]; omega) | (simp [jM.len_nw, jM.len_sI, jM.len_sL, jM.len_sR, *]; omega)) rfl rfl ?_ ?_
  · exact fun _ _ h => h
  rintro _ _ ⟨rfl, rfl⟩
  refine J.callS (pc' := 9) rfl MJ9_max_7cf53 ml_X10_19 is_J9_max_7cf53 (ct_max hx rl) rfl rfl (Nat.le_of_ble_eq_true rfl) (by first | omega | (simp only [jM.len_sI, jM.len_sL, jM.len_sR]; omega) | (simp [jM.len_nw, jM.len_sI, jM.len_sL, jM.len_sR, *]; omega)) (by first | omega | (simp only [jM.len_sI, jM.len_sL, jM.len_sR]; omega) | (simp [jM.len_nw, jM.len_sI, jM.len_sL, jM.len_sR, *]; omega)) (by first | omega | (simp only [jM.len_sI, jM.len_sL, jM.len_sR]; omega) | (simp [jM.len_nw, jM.len_sI, jM.len_sL, jM.len_sR, *]; omega)) rfl rfl ?_ ?_
  · exact fun _ _ h => h
  rintro _ _ ⟨rfl, rfl⟩
  refine J.iload_n (pc' := 10) rfl rfl rfl ?_
  first | refine J.aload_n (pc' := 11) rfl rfl rfl ?_ | refine J.aload_nN (pc' := 11) rfl rfl rfl ?_
  refine J.iload_n (pc' := 12) rfl rfl rfl ?_
  refine J.callV (pc' := 15) (t := 14) rfl MX10_high ml_X10_25 iv_X10_high (by decide) ⟨_, rfl, rfl⟩ (by first | assumption | (simp only [jM.tag_sI, jM.tag_sL, jM.tag_sR]; assumption) | (simp [jM.tag_nw, jM.tag_sI, jM.tag_sL, jM.tag_sR, *]; done)) (ct_high ha hp tp lp h0 h1) rfl rfl (Nat.le_of_ble_eq_true rfl) (by first | omega | (simp only [jM.len_sI, jM.len_sL, jM.len_sR]; omega) | (simp [jM.len_nw, jM.len_sI, jM.len_sL, jM.len_sR, *]; omega)) (by first | omega | (simp only [jM.len_sI, jM.len_sL, jM.len_sR]; omega) | (simp [jM.len_nw, jM.len_sI, jM.len_sL, jM.len_sR, *]; omega)) (by first | omega | (simp only [jM.len_sI, jM.len_sL, jM.len_sR]; omega) | (simp [jM.len_nw, jM.len_sI, jM.len_sL, jM.len_sR, *]; omega)) rfl rfl ?_ ?_
  · exact fun _ _ h => h
  rintro _ _ ⟨rfl, rfl⟩
  refine J.callS (pc' := 18) rfl MJ9_min_7cf53 ml_X10_28 is_J9_min_7cf53 (ct_min hy rh) rfl rfl (Nat.le_of_ble_eq_true rfl) (by first | omega | (simp only [jM.len_sI, jM.len_sL, jM.len_sR]; omega) | (simp [jM.len_nw, jM.len_sI, jM.len_sL, jM.len_sR, *]; omega)) (by first | omega | (simp only [jM.len_sI, jM.len_sL, jM.len_sR]; omega) | (simp [jM.len_nw, jM.len_sI, jM.len_sL, jM.len_sR, *]; omega)) (by first | omega | (simp only [jM.len_sI, jM.len_sL, jM.len_sR]; omega) | (simp [jM.len_nw, jM.len_sI, jM.len_sL, jM.len_sR, *]; omega)) rfl rfl ?_ ?_
  · exact fun _ _ h => h
  rintro _ _ ⟨rfl, rfl⟩
  refine J.icmp_gt (tgt := 25) (pc' := 21) rfl rfl rfl (by first | omega | (simp only [jM.len_sI, jM.len_sL, jM.len_sR]; omega) | (simp [jM.len_nw, jM.len_sI, jM.len_sL, jM.len_sR, *]; omega)) (by first | omega | (simp only [jM.len_sI, jM.len_sL, jM.len_sR]; omega) | (simp [jM.len_nw, jM.len_sI, jM.len_sL, jM.len_sR, *]; omega)) (fun hc => ?_) (fun hc => ?_)
  · refine J.iconst (pc' := 26) rfl rfl ?_
    refine J.zret rfl rfl (by rfl) (by first | omega | (simp only [jM.len_sI, jM.len_sL, jM.len_sR]; omega) | (simp [jM.len_nw, jM.len_sI, jM.len_sL, jM.len_sR, *]; omega)) (by first | omega | (simp only [jM.len_sI, jM.len_sL, jM.len_sR]; omega) | (simp [jM.len_nw, jM.len_sI, jM.len_sL, jM.len_sR, *]; omega)) ?_
    exact ⟨by rw [if_neg (by omega)], rfl⟩
  · refine J.iconst (pc' := 22) rfl rfl ?_
    refine J.goto (tgt := 26) rfl rfl ?_
    refine J.zret rfl rfl (by rfl) (by first | omega | (simp only [jM.len_sI, jM.len_sL, jM.len_sR]; omega) | (simp [jM.len_nw, jM.len_sI, jM.len_sL, jM.len_sR, *]; omega)) (by first | omega | (simp only [jM.len_sI, jM.len_sL, jM.len_sR]; omega) | (simp [jM.len_nw, jM.len_sI, jM.len_sL, jM.len_sR, *]; omega)) ?_
    exact ⟨by rw [if_pos (by omega)], rfl⟩
theorem ct_narrow {m x y : Int} (ha : h.tag a = 14) (hp : h.R 14 a 0 = some p) (tp : h.tag p = 20) (lp : h.len p = 10) (h0 : 0 ≤ m) (h1 : m < 5) (hx : r32 x) (hy : r32 y) (rl : r32 (h.I 20 p (2 * m).toNat)) (rh : r32 (h.I 20 p (2 * m + 1).toNat)) : CT γ mX10_narrow 1 0 0 [.ref a, .int (jI m), .int (jI x), .int (jI y)] h (fun r h' => r = none ∧ h' = (h.sI 20 p (2 * m).toNat (max x (h.I 20 p (2 * m).toNat))).sI 20 p (2 * m + 1).toNat (min y (h.I 20 p (2 * m + 1).toNat))) X0 := by
  refine CT.of MX10_narrow (Nat.le_of_ble_eq_true rfl) ?_
  show J γ mX10_narrow 1 0 0 0 0 h 0 [(0, .ref a), (1, .int (jI m)), (2, .int (jI x)), (3, .int (jI y))] [] _ _
  first | refine J.aload_n (pc' := 1) rfl rfl rfl ?_ | refine J.aload_nN (pc' := 1) rfl rfl rfl ?_
  refine J.iload_n (pc' := 2) rfl rfl rfl ?_
  refine J.iload_n (pc' := 3) rfl rfl rfl ?_
  first | refine J.aload_n (pc' := 4) rfl rfl rfl ?_ | refine J.aload_nN (pc' := 4) rfl rfl rfl ?_
  refine J.iload_n (pc' := 5) rfl rfl rfl ?_
  refine J.callV (pc' := 8) (t := 14) rfl MX10_low ml_X10_15 iv_X10_low (by decide) ⟨_, rfl, rfl⟩ (by first | assumption | (simp only [jM.tag_sI, jM.tag_sL, jM.tag_sR]; assumption) | (simp [jM.tag_nw, jM.tag_sI, jM.tag_sL, jM.tag_sR, *]; done)) (ct_low ha hp tp lp h0 h1) rfl rfl (Nat.le_of_ble_eq_true rfl) (by first | omega | (simp only [jM.len_sI, jM.len_sL, jM.len_sR]; omega) | (simp [jM.len_nw, jM.len_sI, jM.len_sL, jM.len_sR, *]; omega)) (by first | omega | (simp only [jM.len_sI, jM.len_sL, jM.len_sR]; omega) | (simp [jM.len_nw, jM.len_sI, jM.len_sL, jM.len_sR, *]; omega)) (by first | omega | (simp only [jM.len_sI, jM.len_sL, jM.len_sR]; omega) | (simp [jM.len_nw, jM.len_sI, jM.len_sL, jM.len_sR, *]; omega)) rfl rfl ?_ ?_
  · exact fun _ _ h => h
  rintro _ _ ⟨rfl, rfl⟩
  refine J.callS (pc' := 11) rfl MJ9_max_7cf53 ml_X10_19 is_J9_max_7cf53 (ct_max hx rl) rfl rfl (Nat.le_of_ble_eq_true rfl) (by first | omega | (simp only [jM.len_sI, jM.len_sL, jM.len_sR]; omega) | (simp [jM.len_nw, jM.len_sI, jM.len_sL, jM.len_sR, *]; omega)) (by first | omega | (simp only [jM.len_sI, jM.len_sL, jM.len_sR]; omega) | (simp [jM.len_nw, jM.len_sI, jM.len_sL, jM.len_sR, *]; omega)) (by first | omega | (simp only [jM.len_sI, jM.len_sL, jM.len_sR]; omega) | (simp [jM.len_nw, jM.len_sI, jM.len_sL, jM.len_sR, *]; omega)) rfl rfl ?_ ?_
  · exact fun _ _ h => h
  rintro _ _ ⟨rfl, rfl⟩
  refine J.iload_n (pc' := 12) rfl rfl rfl ?_
  first | refine J.aload_n (pc' := 13) rfl rfl rfl ?_ | refine J.aload_nN (pc' := 13) rfl rfl rfl ?_
  refine J.iload_n (pc' := 14) rfl rfl rfl ?_
  refine J.callV (pc' := 17) (t := 14) rfl MX10_high ml_X10_25 iv_X10_high (by decide) ⟨_, rfl, rfl⟩ (by first | assumption | (simp only [jM.tag_sI, jM.tag_sL, jM.tag_sR]; assumption) | (simp [jM.tag_nw, jM.tag_sI, jM.tag_sL, jM.tag_sR, *]; done)) (ct_high ha hp tp lp h0 h1) rfl rfl (Nat.le_of_ble_eq_true rfl) (by first | omega | (simp only [jM.len_sI, jM.len_sL, jM.len_sR]; omega) | (simp [jM.len_nw, jM.len_sI, jM.len_sL, jM.len_sR, *]; omega)) (by first | omega | (simp only [jM.len_sI, jM.len_sL, jM.len_sR]; omega) | (simp [jM.len_nw, jM.len_sI, jM.len_sL, jM.len_sR, *]; omega)) (by first | omega | (simp only [jM.len_sI, jM.len_sL, jM.len_sR]; omega) | (simp [jM.len_nw, jM.len_sI, jM.len_sL, jM.len_sR, *]; omega)) rfl rfl ?_ ?_
  · exact fun _ _ h => h
  rintro _ _ ⟨rfl, rfl⟩
  refine J.callS (pc' := 20) rfl MJ9_min_7cf53 ml_X10_28 is_J9_min_7cf53 (ct_min hy rh) rfl rfl (Nat.le_of_ble_eq_true rfl) (by first | omega | (simp only [jM.len_sI, jM.len_sL, jM.len_sR]; omega) | (simp [jM.len_nw, jM.len_sI, jM.len_sL, jM.len_sR, *]; omega)) (by first | omega | (simp only [jM.len_sI, jM.len_sL, jM.len_sR]; omega) | (simp [jM.len_nw, jM.len_sI, jM.len_sL, jM.len_sR, *]; omega)) (by first | omega | (simp only [jM.len_sI, jM.len_sL, jM.len_sR]; omega) | (simp [jM.len_nw, jM.len_sI, jM.len_sL, jM.len_sR, *]; omega)) rfl rfl ?_ ?_
  · exact fun _ _ h => h
  rintro _ _ ⟨rfl, rfl⟩
  refine J.callV (pc' := 23) (t := 14) rfl MX10_put ml_X10_31 iv_X10_put (by decide) ⟨_, rfl, rfl⟩ (by first | assumption | (simp only [jM.tag_sI, jM.tag_sL, jM.tag_sR]; assumption) | (simp [jM.tag_nw, jM.tag_sI, jM.tag_sL, jM.tag_sR, *]; done)) (ct_put ha hp tp lp h0 h1) rfl rfl (Nat.le_of_ble_eq_true rfl) (by first | omega | (simp only [jM.len_sI, jM.len_sL, jM.len_sR]; omega) | (simp [jM.len_nw, jM.len_sI, jM.len_sL, jM.len_sR, *]; omega)) (by first | omega | (simp only [jM.len_sI, jM.len_sL, jM.len_sR]; omega) | (simp [jM.len_nw, jM.len_sI, jM.len_sL, jM.len_sR, *]; omega)) (by first | omega | (simp only [jM.len_sI, jM.len_sL, jM.len_sR]; omega) | (simp [jM.len_nw, jM.len_sI, jM.len_sL, jM.len_sR, *]; omega)) rfl rfl ?_ ?_
  · exact fun _ _ h => h
  rintro _ _ ⟨rfl, rfl⟩
  refine J.vret rfl rfl (by first | omega | (simp only [jM.len_sI, jM.len_sL, jM.len_sR]; omega) | (simp [jM.len_nw, jM.len_sI, jM.len_sL, jM.len_sR, *]; omega)) (by first | omega | (simp only [jM.len_sI, jM.len_sL, jM.len_sR]; omega) | (simp [jM.len_nw, jM.len_sI, jM.len_sL, jM.len_sR, *]; omega)) ?_
  exact ⟨rfl, rfl⟩
theorem ct_partOrThrow {w k : Int} (ha : h.tag a = 14) (hp : h.R 14 a 0 = some p) (tp : h.tag p = 20) (lp : h.len p = 10) (hw : r32 w) (hk : 0 ≤ k) (hk2 : k ≤ 10) : CT γ mX10_partOrThrow 6 1 6 [.ref a, .int (jI w), .int (jI k)] h (fun r h' => (k ≤ w ∧ w < k + 10) ∧ r = some (.int (jI (h.I 20 p (w - k).toNat))) ∧ h' = h) (fun E h' => ¬ (k ≤ w ∧ w < k + 10) ∧ E = "java/lang/IllegalArgumentException" ∧ h' = h) := by
  refine CT.of MX10_partOrThrow (Nat.le_of_ble_eq_true rfl) ?_
  show J γ mX10_partOrThrow 6 1 6 0 0 h 0 [(0, .ref a), (1, .int (jI w)), (2, .int (jI k))] [] _ _
  refine J.iload_n (pc' := 1) rfl rfl rfl ?_
  refine J.iload_n (pc' := 2) rfl rfl rfl ?_
  refine J.icmp_lt (tgt := 13) (pc' := 5) rfl rfl rfl (by first | omega | (simp only [jM.len_sI, jM.len_sL, jM.len_sR]; omega) | (simp [jM.len_nw, jM.len_sI, jM.len_sL, jM.len_sR, *]; omega)) (by first | omega | (simp only [jM.len_sI, jM.len_sL, jM.len_sR]; omega) | (simp [jM.len_nw, jM.len_sI, jM.len_sL, jM.len_sR, *]; omega)) (fun hc => ?_) (fun hc => ?_)
  · refine J.throwL (text := "nothing of this number is told") rfl rfl rfl rfl rfl jThr_IAS (List.mem_of_getElem? (i := 1140) (by decide +kernel)) (List.mem_of_getElem? (i := 1141) (by decide +kernel)) rfl (by first | omega | (simp only [jM.len_sI, jM.len_sL, jM.len_sR]; omega) | (simp [jM.len_nw, jM.len_sI, jM.len_sL, jM.len_sR, *]; omega)) (Nat.le_of_ble_eq_true rfl) (by first | omega | (simp only [jM.len_sI, jM.len_sL, jM.len_sR]; omega) | (simp [jM.len_nw, jM.len_sI, jM.len_sL, jM.len_sR, *]; omega)) (by first | omega | (simp only [jM.len_sI, jM.len_sL, jM.len_sR]; omega) | (simp [jM.len_nw, jM.len_sI, jM.len_sL, jM.len_sR, *]; omega)) ?_
    exact ⟨by omega, rfl, rfl⟩
  · refine J.iload_n (pc' := 6) rfl rfl rfl ?_
    refine J.iload_n (pc' := 7) rfl rfl rfl ?_
    refine J.bipush (pc' := 9) rfl rfl (by decide) ?_
    refine J.iadd (pc' := 10) rfl rfl ?_
    refine J.icmp_lt (tgt := 23) (pc' := 13) rfl rfl rfl (by first | omega | (simp only [jM.len_sI, jM.len_sL, jM.len_sR]; omega) | (simp [jM.len_nw, jM.len_sI, jM.len_sL, jM.len_sR, *]; omega)) (by first | omega | (simp only [jM.len_sI, jM.len_sL, jM.len_sR]; omega) | (simp [jM.len_nw, jM.len_sI, jM.len_sL, jM.len_sR, *]; omega)) (fun hd => ?_) (fun hd => ?_)
    · first | refine J.aload_n (pc' := 24) rfl rfl rfl ?_ | refine J.aload_nN (pc' := 24) rfl rfl rfl ?_
      first | refine J.getR (pc' := 27) rfl fl_X10_9 rfl (by first | assumption | (simp only [jM.tag_sI, jM.tag_sL, jM.tag_sR]; assumption) | (simp [jM.tag_nw, jM.tag_sI, jM.tag_sL, jM.tag_sR, *]; done)) (by first | assumption | (simp only [jM.R_sI, jM.R_sL]; assumption) | (simp [jM.R_nw, jM.R_sI, jM.R_sL, jM.R_sR, *]; done)) rfl ?_ | refine J.getRN (pc' := 27) rfl fl_X10_9 rfl (by first | assumption | (simp only [jM.tag_sI, jM.tag_sL, jM.tag_sR]; assumption) | (simp [jM.tag_nw, jM.tag_sI, jM.tag_sL, jM.tag_sR, *]; done)) (by first | assumption | (simp only [jM.R_sI, jM.R_sL]; assumption) | (simp [jM.R_nw, jM.R_sI, jM.R_sL, jM.R_sR, *]; done)) rfl ?_
      refine J.iload_n (pc' := 28) rfl rfl rfl ?_
      refine J.iload_n (pc' := 29) rfl rfl rfl ?_
      refine J.isub (pc' := 30) rfl rfl ?_
      refine J.iald (pc' := 31) rfl (by first | assumption | (simp only [jM.tag_sI, jM.tag_sL, jM.tag_sR]; assumption) | (simp [jM.tag_nw, jM.tag_sI, jM.tag_sL, jM.tag_sR, *]; done)) (by decide) rfl (by first | omega | (simp only [jM.len_sI, jM.len_sL, jM.len_sR]; omega) | (simp [jM.len_nw, jM.len_sI, jM.len_sL, jM.len_sR, *]; omega)) (by first | omega | (simp only [jM.len_sI, jM.len_sL, jM.len_sR]; omega) | (simp [jM.len_nw, jM.len_sI, jM.len_sL, jM.len_sR, *]; omega)) (by first | omega | (simp only [jM.len_sI, jM.len_sL, jM.len_sR]; omega) | (simp [jM.len_nw, jM.len_sI, jM.len_sL, jM.len_sR, *]; omega)) rfl ?_
      refine J.iret rfl rfl (by first | omega | (simp only [jM.len_sI, jM.len_sL, jM.len_sR]; omega) | (simp [jM.len_nw, jM.len_sI, jM.len_sL, jM.len_sR, *]; omega)) (by first | omega | (simp only [jM.len_sI, jM.len_sL, jM.len_sR]; omega) | (simp [jM.len_nw, jM.len_sI, jM.len_sL, jM.len_sR, *]; omega)) ?_
      exact ⟨by omega, rfl, rfl⟩
    · refine J.throwL (text := "nothing of this number is told") rfl rfl rfl rfl rfl jThr_IAS (List.mem_of_getElem? (i := 1140) (by decide +kernel)) (List.mem_of_getElem? (i := 1141) (by decide +kernel)) rfl (by first | omega | (simp only [jM.len_sI, jM.len_sL, jM.len_sR]; omega) | (simp [jM.len_nw, jM.len_sI, jM.len_sL, jM.len_sR, *]; omega)) (Nat.le_of_ble_eq_true rfl) (by first | omega | (simp only [jM.len_sI, jM.len_sL, jM.len_sR]; omega) | (simp [jM.len_nw, jM.len_sI, jM.len_sL, jM.len_sR, *]; omega)) (by first | omega | (simp only [jM.len_sI, jM.len_sL, jM.len_sR]; omega) | (simp [jM.len_nw, jM.len_sI, jM.len_sL, jM.len_sR, *]; omega)) ?_
      exact ⟨by omega, rfl, rfl⟩
theorem ct_Spans_init (ha : h.tag a = 14) : CT γ mX10_init 1 1 10 [.ref a] h (fun r h' => r = none ∧ ∃ q, h.tag q = 0 ∧ γ.base ≤ q ∧ h' = ((h.nw q 20 10).sR 14 a 0 (some q)).fI 20 q (fun j => if j < 10 ∧ j % 2 = 1 then 10000 else 0)) X0 := by
  refine CT.of MX10_init (Nat.le_of_ble_eq_true rfl) ?_
  show J γ mX10_init 1 1 10 0 0 h 0 [(0, .ref a)] [] _ _
  first | refine J.aload_n (pc' := 1) rfl rfl rfl ?_ | refine J.aload_nN (pc' := 1) rfl rfl rfl ?_
  refine J.objI (pc' := 4) rfl (List.mem_of_getElem? (i := 139) (by decide +kernel)) jObj_i jObj_c (by omega) (Nat.le_of_ble_eq_true rfl) rfl ?_
  first | refine J.aload_n (pc' := 5) rfl rfl rfl ?_ | refine J.aload_nN (pc' := 5) rfl rfl rfl ?_
  refine J.bipush (pc' := 7) rfl rfl (by decide) ?_
  refine J.newa (pc' := 9) (t := 20) rfl (by decide) rfl (by decide) (List.mem_of_getElem? (i := 147) (by decide +kernel)) (by first | omega | (simp only [jM.len_sI, jM.len_sL, jM.len_sR]; omega) | (simp [jM.len_nw, jM.len_sI, jM.len_sL, jM.len_sR, *]; omega)) (by first | omega | (simp only [jM.len_sI, jM.len_sL, jM.len_sR]; omega) | (simp [jM.len_nw, jM.len_sI, jM.len_sL, jM.len_sR, *]; omega)) (by first | omega | (simp only [jM.len_sI, jM.len_sL, jM.len_sR]; omega) | (simp [jM.len_nw, jM.len_sI, jM.len_sL, jM.len_sR, *]; omega)) (by first | omega | (simp only [jM.len_sI, jM.len_sL, jM.len_sR]; omega) | (simp [jM.len_nw, jM.len_sI, jM.len_sL, jM.len_sR, *]; omega)) rfl (fun q qf qb => ?_)
  have hne : ¬ a = q := fun e => by rw [e, qf] at ha; cases ha
  first | refine J.putR (pc' := 12) rfl fl_X10_9 rfl (Or.inr ⟨rfl, rfl, rfl⟩) (by first | assumption | (simp only [jM.tag_sI, jM.tag_sL, jM.tag_sR]; assumption) | (simp [jM.tag_nw, jM.tag_sI, jM.tag_sL, jM.tag_sR, *]; done)) (Or.inl rfl) rfl ?_ | refine J.putRN (pc' := 12) rfl fl_X10_9 rfl (Or.inr ⟨rfl, rfl, rfl⟩) (by first | assumption | (simp only [jM.tag_sI, jM.tag_sL, jM.tag_sR]; assumption) | (simp [jM.tag_nw, jM.tag_sI, jM.tag_sL, jM.tag_sR, *]; done)) (Or.inl rfl) rfl ?_
  refine J.iconst (pc' := 13) rfl rfl ?_
  refine J.istore_n (pc' := 14) rfl rfl (by decide) ?_
  have key : ∀ (n : Nat) (i : Int), 0 ≤ i → i + n = 5 → J γ mX10_init 1 1 10 1 10 (((h.nw q 20 10).sR 14 a 0 (some q)).fI 20 q (fun j => if (j : Int) < 2 * i ∧ j % 2 = 1 then 10000 else 0)) 14 [(0, .ref a), (1, .int (jI i))] [] (fun r h' => r = none ∧ ∃ q, h.tag q = 0 ∧ γ.base ≤ q ∧ h' = ((h.nw q 20 10).sR 14 a 0 (some q)).fI 20 q (fun j => if j < 10 ∧ j % 2 = 1 then 10000 else 0)) X0 := by
    intro n
    induction n with
    | zero =>
      intro i h0 hi
      refine J.iload_n (pc' := 15) rfl rfl rfl ?_
      refine J.iconst (pc' := 16) rfl rfl ?_
      refine J.icmp_ge (tgt := 38) (pc' := 19) rfl rfl rfl (by first | omega | (simp only [jM.len_sI, jM.len_sL, jM.len_sR]; omega) | (simp [jM.len_nw, jM.len_sI, jM.len_sL, jM.len_sR, *]; omega)) (by first | omega | (simp only [jM.len_sI, jM.len_sL, jM.len_sR]; omega) | (simp [jM.len_nw, jM.len_sI, jM.len_sL, jM.len_sR, *]; omega)) (fun hc => ?_) (fun hc => ?_)
      · refine J.vret rfl rfl (by first | omega | (simp only [jM.len_sI, jM.len_sL, jM.len_sR]; omega) | (simp [jM.len_nw, jM.len_sI, jM.len_sL, jM.len_sR, *]; omega)) (by first | omega | (simp only [jM.len_sI, jM.len_sL, jM.len_sR]; omega) | (simp [jM.len_nw, jM.len_sI, jM.len_sL, jM.len_sR, *]; omega)) ?_
        refine ⟨rfl, q, qf, qb, ?_⟩
        congr 1
        funext j
        split <;> split <;> omega
      · omega
    | succ n ih =>
      intro i h0 hi
      have t1 : (((h.nw q 20 10).sR 14 a 0 (some q)).fI 20 q (fun j => if (j : Int) < 2 * i ∧ j % 2 = 1 then 10000 else 0)).tag a = 14 := by simp [jM.tag_fI, jM.tag_sR, jM.tag_nw, hne, ha]
      have t2 : (((h.nw q 20 10).sR 14 a 0 (some q)).fI 20 q (fun j => if (j : Int) < 2 * i ∧ j % 2 = 1 then 10000 else 0)).R 14 a 0 = some q := by simp [jM.R_fI, jM.R_sR]
      have t3 : (((h.nw q 20 10).sR 14 a 0 (some q)).fI 20 q (fun j => if (j : Int) < 2 * i ∧ j % 2 = 1 then 10000 else 0)).tag q = 20 := by simp [jM.tag_fI, jM.tag_sR, jM.tag_nw]
      have t4 : (((h.nw q 20 10).sR 14 a 0 (some q)).fI 20 q (fun j => if (j : Int) < 2 * i ∧ j % 2 = 1 then 10000 else 0)).len q = 10 := by simp [jM.len_fI, jM.len_sR, jM.len_nw]
      refine J.iload_n (pc' := 15) rfl rfl rfl ?_
      refine J.iconst (pc' := 16) rfl rfl ?_
      refine J.icmp_ge (tgt := 38) (pc' := 19) rfl rfl rfl (by first | omega | (simp only [jM.len_sI, jM.len_sL, jM.len_sR]; omega) | (simp [jM.len_nw, jM.len_sI, jM.len_sL, jM.len_sR, *]; omega)) (by first | omega | (simp only [jM.len_sI, jM.len_sL, jM.len_sR]; omega) | (simp [jM.len_nw, jM.len_sI, jM.len_sL, jM.len_sR, *]; omega)) (fun hc => ?_) (fun hc => ?_)
      · omega
      · first | refine J.aload_n (pc' := 20) rfl rfl rfl ?_ | refine J.aload_nN (pc' := 20) rfl rfl rfl ?_
        first | refine J.getR (pc' := 23) rfl fl_X10_9 rfl (by first | assumption | (simp only [jM.tag_sI, jM.tag_sL, jM.tag_sR]; assumption) | (simp [jM.tag_nw, jM.tag_sI, jM.tag_sL, jM.tag_sR, *]; done)) (by first | assumption | (simp only [jM.R_sI, jM.R_sL]; assumption) | (simp [jM.R_nw, jM.R_sI, jM.R_sL, jM.R_sR, *]; done)) rfl ?_ | refine J.getRN (pc' := 23) rfl fl_X10_9 rfl (by first | assumption | (simp only [jM.tag_sI, jM.tag_sL, jM.tag_sR]; assumption) | (simp [jM.tag_nw, jM.tag_sI, jM.tag_sL, jM.tag_sR, *]; done)) (by first | assumption | (simp only [jM.R_sI, jM.R_sL]; assumption) | (simp [jM.R_nw, jM.R_sI, jM.R_sL, jM.R_sR, *]; done)) rfl ?_
        refine J.iconst (pc' := 24) rfl rfl ?_
        refine J.iload_n (pc' := 25) rfl rfl rfl ?_
        refine J.imul (pc' := 26) rfl rfl ?_
        refine J.iconst (pc' := 27) rfl rfl ?_
        refine J.iadd (pc' := 28) rfl rfl ?_
        refine J.sipush (pc' := 31) rfl rfl (by decide) ?_
        refine J.iast (pc' := 32) rfl (by first | assumption | (simp only [jM.tag_sI, jM.tag_sL, jM.tag_sR]; assumption) | (simp [jM.tag_nw, jM.tag_sI, jM.tag_sL, jM.tag_sR, *]; done)) (by decide) rfl (by first | omega | (simp only [jM.len_sI, jM.len_sL, jM.len_sR]; omega) | (simp [jM.len_nw, jM.len_sI, jM.len_sL, jM.len_sR, *]; omega)) (by first | omega | (simp only [jM.len_sI, jM.len_sL, jM.len_sR]; omega) | (simp [jM.len_nw, jM.len_sI, jM.len_sL, jM.len_sR, *]; omega)) (by first | omega | (simp only [jM.len_sI, jM.len_sL, jM.len_sR]; omega) | (simp [jM.len_nw, jM.len_sI, jM.len_sL, jM.len_sR, *]; omega)) (Or.inl rfl) rfl ?_
        refine J.iinc (pc' := 35) rfl rfl rfl (by decide) ?_
        refine J.goto (tgt := 14) rfl rfl ?_
        rw [jM.fI_sI (G := fun j => if (j : Int) < 2 * (i + 1) ∧ j % 2 = 1 then 10000 else 0) (fun j => by split <;> split <;> first | rfl | omega | (split <;> first | rfl | omega))]
        exact ih (i + 1) (by omega) (by omega)
  have h9 := key 5 0 (by omega) (by omega)
  rw [jM.fI_of (fun j => by simp [jM.I_sR, jM.I_nw]; omega)] at h9
  exact h9
end SP

