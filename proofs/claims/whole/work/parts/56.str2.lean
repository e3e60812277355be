section SU
variable {γ : jG} {h : jM} {a e : Nat} {n : Int} {T : Int → Int}
theorem fits_b {z : Int} (hz : -128 ≤ z ∧ z ≤ 127) : fits .byte (.int (jI z)) = true := by
  have e1 : (-128 : Int32).toInt = -128 := by decide
  have e2 : (127 : Int32).toInt = 127 := by decide
  have e3 : (jI z).toInt = z := jI_toInt (by constructor <;> omega)
  show (decide (-128 ≤ jI z) && decide (jI z ≤ 127)) = true
  rw [Bool.and_eq_true, decide_eq_true_eq, decide_eq_true_eq, Int32.le_iff_toInt_le, Int32.le_iff_toInt_le, e1, e2, e3]
  exact hz
theorem jAc_b : Cond.methodLink RJ7 150 arraycopyName ∈ lw_tbl := jAr_9
theorem cj_checkLength {x y : Int} (hx : r32 x) (hy : r32 y) (hxy : x ≤ y) : CT γ mJ7_checkLength_df160 0 0 0 [.int (jI x), .int (jI y)] h (fun r h' => r = none ∧ h' = h) X0 := by
  refine CT.of MJ7_checkLength_df160 (Nat.le_of_ble_eq_true rfl) ?_
  show J γ mJ7_checkLength_df160 0 0 0 0 0 h 0 [(0, .int (jI x)), (1, .int (jI y))] [] _ _
  refine J.iload_n (pc' := 1) rfl rfl rfl ?_
  refine J.iload_n (pc' := 2) rfl rfl rfl ?_
  refine J.icmp_ge (tgt := 37) (pc' := 5) rfl rfl rfl (by first | omega | (exact R.r _ _) | (simp only [jM.len_sI, jM.len_sL, jM.len_sR, jM.len_fI, jM.len_fL, jM.len_fR]; omega) | (simp [jM.len_nw, jM.len_sI, jM.len_sL, jM.len_sR, jM.len_fI, jM.len_fL, jM.len_fR, *]; omega)) (by first | omega | (exact R.r _ _) | (simp only [jM.len_sI, jM.len_sL, jM.len_sR, jM.len_fI, jM.len_fL, jM.len_fR]; omega) | (simp [jM.len_nw, jM.len_sI, jM.len_sL, jM.len_sR, jM.len_fI, jM.len_fL, jM.len_fR, *]; omega)) (fun c1 => ?_) (fun c1 => ?_)
  · refine J.vret rfl rfl (by first | omega | (exact R.r _ _) | (simp only [jM.len_sI, jM.len_sL, jM.len_sR, jM.len_fI, jM.len_fL, jM.len_fR]; omega) | (simp [jM.len_nw, jM.len_sI, jM.len_sL, jM.len_sR, jM.len_fI, jM.len_fL, jM.len_fR, *]; omega)) (by first | omega | (exact R.r _ _) | (simp only [jM.len_sI, jM.len_sL, jM.len_sR, jM.len_fI, jM.len_fL, jM.len_fR]; omega) | (simp [jM.len_nw, jM.len_sI, jM.len_sL, jM.len_sR, jM.len_fI, jM.len_fL, jM.len_fR, *]; omega)) ?_
    exact ⟨rfl, rfl⟩
  · omega
/-- a part of a byte array anew -/
def cpyB (h : jM) (q e : Nat) (x y : Int) : jM := (h.nw q 35 (y - x).toNat).fI 35 q (fun j => if (j : Int) < y - x then h.I 35 e (x.toNat + j) else 0)
theorem cj_copyRB {x y : Int} (te : h.tag e = 35) (hb : ∀ i, i < h.len e → -128 ≤ h.I 35 e i ∧ h.I 35 e i ≤ 127) (h0 : 0 ≤ x) (h1 : x ≤ y) (h2 : y ≤ h.len e) (h3 : (h.len e : Int) ≤ 1000) : CT γ mJ7_copyOfRangeByte_39247 1 1 (y - x).toNat [.ref e, .int (jI x), .int (jI y)] h (fun r h' => ∃ q, h.tag q = 0 ∧ γ.base ≤ q ∧ r = some (.ref q) ∧ h' = cpyB h q e x y) X0 := by
  refine CT.of MJ7_copyOfRangeByte_39247 (Nat.le_of_ble_eq_true rfl) ?_
  show J γ mJ7_copyOfRangeByte_39247 1 1 (y - x).toNat 0 0 h 0 [(0, .ref e), (1, .int (jI x)), (2, .int (jI y))] [] _ _
  refine J.iload_n (pc' := 1) rfl rfl rfl ?_
  refine J.iload_n (pc' := 2) rfl rfl rfl ?_
  refine J.callS (pc' := 5) rfl MJ7_checkLength_df160 ml_J7_343 is_J7_checkLength_df160 (cj_checkLength (by constructor <;> omega) (by constructor <;> omega) h1) rfl rfl (Nat.le_of_ble_eq_true rfl) (by first | omega | (exact R.r _ _) | (simp only [jM.len_sI, jM.len_sL, jM.len_sR, jM.len_fI, jM.len_fL, jM.len_fR]; omega) | (simp [jM.len_nw, jM.len_sI, jM.len_sL, jM.len_sR, jM.len_fI, jM.len_fL, jM.len_fR, *]; omega)) (by first | omega | (exact R.r _ _) | (simp only [jM.len_sI, jM.len_sL, jM.len_sR, jM.len_fI, jM.len_fL, jM.len_fR]; omega) | (simp [jM.len_nw, jM.len_sI, jM.len_sL, jM.len_sR, jM.len_fI, jM.len_fL, jM.len_fR, *]; omega)) (by first | omega | (exact R.r _ _) | (simp only [jM.len_sI, jM.len_sL, jM.len_sR, jM.len_fI, jM.len_fL, jM.len_fR]; omega) | (simp [jM.len_nw, jM.len_sI, jM.len_sL, jM.len_sR, jM.len_fI, jM.len_fL, jM.len_fR, *]; omega)) rfl rfl ?_ ?_
  · exact fun _ _ h => h
  rintro _ h ⟨rfl, rfl⟩
  refine J.iload_n (pc' := 6) rfl rfl rfl ?_
  refine J.iload_n (pc' := 7) rfl rfl rfl ?_
  refine J.isub (pc' := 8) rfl rfl ?_
  refine J.istore_n (pc' := 9) rfl rfl (by decide) ?_
  refine J.iload_n (pc' := 10) rfl rfl rfl ?_
  refine J.newa (pc' := 12) (t := 35) rfl (by decide) rfl (by decide) (List.mem_of_getElem? (i := 211) (by decide +kernel)) (by first | omega | (exact R.r _ _) | (simp only [jM.len_sI, jM.len_sL, jM.len_sR, jM.len_fI, jM.len_fL, jM.len_fR]; omega) | (simp [jM.len_nw, jM.len_sI, jM.len_sL, jM.len_sR, jM.len_fI, jM.len_fL, jM.len_fR, *]; omega)) (by first | omega | (exact R.r _ _) | (simp only [jM.len_sI, jM.len_sL, jM.len_sR, jM.len_fI, jM.len_fL, jM.len_fR]; omega) | (simp [jM.len_nw, jM.len_sI, jM.len_sL, jM.len_sR, jM.len_fI, jM.len_fL, jM.len_fR, *]; omega)) (by first | omega | (exact R.r _ _) | (simp only [jM.len_sI, jM.len_sL, jM.len_sR, jM.len_fI, jM.len_fL, jM.len_fR]; omega) | (simp [jM.len_nw, jM.len_sI, jM.len_sL, jM.len_sR, jM.len_fI, jM.len_fL, jM.len_fR, *]; omega)) (by first | omega | (exact R.r _ _) | (simp only [jM.len_sI, jM.len_sL, jM.len_sR, jM.len_fI, jM.len_fL, jM.len_fR]; omega) | (simp [jM.len_nw, jM.len_sI, jM.len_sL, jM.len_sR, jM.len_fI, jM.len_fL, jM.len_fR, *]; omega)) rfl (fun q qf qb => ?_)
  have hne : ¬ e = q := fun e1 => by rw [e1, qf] at te; cases te
  have t1 : (h.nw q 35 (y - x).toNat).tag e = 35 := by rw [jM.tag_nw, if_neg hne, te]
  have t2 : (h.nw q 35 (y - x).toNat).tag q = 35 := by rw [jM.tag_nw, if_pos rfl]
  have l1 : (h.nw q 35 (y - x).toNat).len e = h.len e := by rw [jM.len_nw, if_neg hne]
  have l2 : (h.nw q 35 (y - x).toNat).len q = (y - x).toNat := by rw [jM.len_nw, if_pos rfl]
  first | refine J.astore (pc' := 14) rfl rfl (by decide) ?_ | refine J.astoreN (pc' := 14) rfl rfl (by decide) ?_
  first | refine J.aload_n (pc' := 15) rfl rfl rfl ?_ | refine J.aload_nN (pc' := 15) rfl rfl rfl ?_
  refine J.iload_n (pc' := 16) rfl rfl rfl ?_
  first | refine J.aload (pc' := 18) rfl rfl rfl ?_ | refine J.aloadN (pc' := 18) rfl rfl rfl ?_
  refine J.iconst (pc' := 19) rfl rfl ?_
  first | refine J.aload_n (pc' := 20) rfl rfl rfl ?_ | refine J.aload_nN (pc' := 20) rfl rfl rfl ?_
  refine J.alenT (pc' := 21) rfl (by first | assumption | (simp only [jM.tag_sI, jM.tag_sL, jM.tag_sR, jM.tag_fI, jM.tag_fL, jM.tag_fR]; assumption) | (simp [jM.tag_nw, jM.tag_sI, jM.tag_sL, jM.tag_sR, jM.tag_fI, jM.tag_fL, jM.tag_fR, *]; done)) (by decide) (by decide) rfl ?_
  refine J.iload_n (pc' := 22) rfl rfl rfl ?_
  refine J.isub (pc' := 23) rfl rfl ?_
  refine J.iload_n (pc' := 24) rfl rfl rfl ?_
  rw [l1]
  refine J.callS (pc' := 27) rfl MJ9_min_7cf53 ml_J7_304 is_J9_min_7cf53 (ct_min (by omega) (by omega)) rfl rfl (Nat.le_of_ble_eq_true rfl) (by first | omega | (exact R.r _ _) | (simp only [jM.len_sI, jM.len_sL, jM.len_sR, jM.len_fI, jM.len_fL, jM.len_fR]; omega) | (simp [jM.len_nw, jM.len_sI, jM.len_sL, jM.len_sR, jM.len_fI, jM.len_fL, jM.len_fR, *]; omega)) (by first | omega | (exact R.r _ _) | (simp only [jM.len_sI, jM.len_sL, jM.len_sR, jM.len_fI, jM.len_fL, jM.len_fR]; omega) | (simp [jM.len_nw, jM.len_sI, jM.len_sL, jM.len_sR, jM.len_fI, jM.len_fL, jM.len_fR, *]; omega)) (by first | omega | (exact R.r _ _) | (simp only [jM.len_sI, jM.len_sL, jM.len_sR, jM.len_fI, jM.len_fL, jM.len_fR]; omega) | (simp [jM.len_nw, jM.len_sI, jM.len_sL, jM.len_sR, jM.len_fI, jM.len_fL, jM.len_fR, *]; omega)) rfl rfl ?_ ?_
  · exact fun _ _ h => h
  rintro _ h ⟨rfl, rfl⟩
  rw [show min ((h.len e : Int) - x) (y - x) = y - x by omega]
  refine J.acopyI (pc' := 30) (t0 := 35) (t := 35) rfl jAc_b t1 t2 (by decide) (by decide) rfl (by decide) rfl (by omega) (by omega) (by omega) (by omega) (by omega) (by omega) (by omega) (by omega) (fun i hi => ?_) (Or.inr qb) (by omega) (Nat.le_of_ble_eq_true rfl) rfl ?_
  · rw [jM.I_nw, if_neg (fun z => hne z.2)]
    exact fits_b (hb _ (by omega))
  · first | refine J.aload (pc' := 32) rfl rfl rfl ?_ | refine J.aloadN (pc' := 32) rfl rfl rfl ?_
    first | refine J.aret rfl rfl rfl (by first | omega | (exact R.r _ _) | (simp only [jM.len_sI, jM.len_sL, jM.len_sR, jM.len_fI, jM.len_fL, jM.len_fR]; omega) | (simp [jM.len_nw, jM.len_sI, jM.len_sL, jM.len_sR, jM.len_fI, jM.len_fL, jM.len_fR, *]; omega)) (by first | omega | (exact R.r _ _) | (simp only [jM.len_sI, jM.len_sL, jM.len_sR, jM.len_fI, jM.len_fL, jM.len_fR]; omega) | (simp [jM.len_nw, jM.len_sI, jM.len_sL, jM.len_sR, jM.len_fI, jM.len_fL, jM.len_fR, *]; omega)) ?_ | refine J.aretN rfl rfl rfl (by first | omega | (exact R.r _ _) | (simp only [jM.len_sI, jM.len_sL, jM.len_sR, jM.len_fI, jM.len_fL, jM.len_fR]; omega) | (simp [jM.len_nw, jM.len_sI, jM.len_sL, jM.len_sR, jM.len_fI, jM.len_fL, jM.len_fR, *]; omega)) (by first | omega | (exact R.r _ _) | (simp only [jM.len_sI, jM.len_sL, jM.len_sR, jM.len_fI, jM.len_fL, jM.len_fR]; omega) | (simp [jM.len_nw, jM.len_sI, jM.len_sL, jM.len_sR, jM.len_fI, jM.len_fL, jM.len_fR, *]; omega)) ?_
    refine ⟨q, qf, qb, rfl, ?_⟩
    unfold cpyB
    congr 1
    funext j
    unfold va_cpy
    by_cases hj : (j : Int) < y - x
    · rw [if_pos (by omega), if_pos hj, jM.I_nw, if_neg (fun z => hne z.2)]
      congr 1 <;> omega
    · rw [if_neg (by omega), if_neg hj, jM.I_nw, if_pos ⟨rfl, rfl⟩]
theorem cj_copyR {x y : Int} (te : h.tag e = 35) (hb : ∀ i, i < h.len e → -128 ≤ h.I 35 e i ∧ h.I 35 e i ≤ 127) (h0 : 0 ≤ x) (h1 : x ≤ y) (h2 : y ≤ h.len e) (h3 : (h.len e : Int) ≤ 1000) (hc : ¬ (x = 0 ∧ y = h.len e)) : CT γ mJ7_copyOfRange_39247 2 1 (y - x).toNat [.ref e, .int (jI x), .int (jI y)] h (fun r h' => ∃ q, h.tag q = 0 ∧ γ.base ≤ q ∧ r = some (.ref q) ∧ h' = cpyB h q e x y) X0 := by
  refine CT.of MJ7_copyOfRange_39247 (Nat.le_of_ble_eq_true rfl) ?_
  show J γ mJ7_copyOfRange_39247 2 1 (y - x).toNat 0 0 h 0 [(0, .ref e), (1, .int (jI x)), (2, .int (jI y))] [] _ _
  have rest : J γ mJ7_copyOfRange_39247 2 1 (y - x).toNat 0 0 h 10 [(0, .ref e), (1, .int (jI x)), (2, .int (jI y))] [] (fun r h' => ∃ q, h.tag q = 0 ∧ γ.base ≤ q ∧ r = some (.ref q) ∧ h' = cpyB h q e x y) X0 := by
    first | refine J.aload_n (pc' := 11) rfl rfl rfl ?_ | refine J.aload_nN (pc' := 11) rfl rfl rfl ?_
    refine J.iload_n (pc' := 12) rfl rfl rfl ?_
    refine J.iload_n (pc' := 13) rfl rfl rfl ?_
    refine J.callS (pc' := 16) rfl MJ7_copyOfRangeByte_39247 ml_J7_339 is_J7_copyOfRangeByte_39247 (cj_copyRB te hb h0 h1 h2 h3) rfl rfl (Nat.le_of_ble_eq_true rfl) (by first | omega | (exact R.r _ _) | (simp only [jM.len_sI, jM.len_sL, jM.len_sR, jM.len_fI, jM.len_fL, jM.len_fR]; omega) | (simp [jM.len_nw, jM.len_sI, jM.len_sL, jM.len_sR, jM.len_fI, jM.len_fL, jM.len_fR, *]; omega)) (by first | omega | (exact R.r _ _) | (simp only [jM.len_sI, jM.len_sL, jM.len_sR, jM.len_fI, jM.len_fL, jM.len_fR]; omega) | (simp [jM.len_nw, jM.len_sI, jM.len_sL, jM.len_sR, jM.len_fI, jM.len_fL, jM.len_fR, *]; omega)) (by first | omega | (exact R.r _ _) | (simp only [jM.len_sI, jM.len_sL, jM.len_sR, jM.len_fI, jM.len_fL, jM.len_fR]; omega) | (simp [jM.len_nw, jM.len_sI, jM.len_sL, jM.len_sR, jM.len_fI, jM.len_fL, jM.len_fR, *]; omega)) rfl rfl ?_ ?_
    · exact fun _ _ h => h
    rintro _ _ ⟨q, qf, qb, rfl, rfl⟩
    first | refine J.aret rfl rfl rfl (by first | omega | (exact R.r _ _) | (simp only [jM.len_sI, jM.len_sL, jM.len_sR, jM.len_fI, jM.len_fL, jM.len_fR]; omega) | (simp [jM.len_nw, jM.len_sI, jM.len_sL, jM.len_sR, jM.len_fI, jM.len_fL, jM.len_fR, *]; omega)) (by first | omega | (exact R.r _ _) | (simp only [jM.len_sI, jM.len_sL, jM.len_sR, jM.len_fI, jM.len_fL, jM.len_fR]; omega) | (simp [jM.len_nw, jM.len_sI, jM.len_sL, jM.len_sR, jM.len_fI, jM.len_fL, jM.len_fR, *]; omega)) ?_ | refine J.aretN rfl rfl rfl (by first | omega | (exact R.r _ _) | (simp only [jM.len_sI, jM.len_sL, jM.len_sR, jM.len_fI, jM.len_fL, jM.len_fR]; omega) | (simp [jM.len_nw, jM.len_sI, jM.len_sL, jM.len_sR, jM.len_fI, jM.len_fL, jM.len_fR, *]; omega)) (by first | omega | (exact R.r _ _) | (simp only [jM.len_sI, jM.len_sL, jM.len_sR, jM.len_fI, jM.len_fL, jM.len_fR]; omega) | (simp [jM.len_nw, jM.len_sI, jM.len_sL, jM.len_sR, jM.len_fI, jM.len_fL, jM.len_fR, *]; omega)) ?_
    exact ⟨q, qf, qb, rfl, rfl⟩
  refine J.iload_n (pc' := 1) rfl rfl rfl ?_
  refine J.if_ne (tgt := 10) (pc' := 4) rfl rfl rfl (by first | omega | (exact R.r _ _) | (simp only [jM.len_sI, jM.len_sL, jM.len_sR, jM.len_fI, jM.len_fL, jM.len_fR]; omega) | (simp [jM.len_nw, jM.len_sI, jM.len_sL, jM.len_sR, jM.len_fI, jM.len_fL, jM.len_fR, *]; omega)) (fun c1 => ?_) (fun c1 => ?_)
  · exact rest
  · refine J.iload_n (pc' := 5) rfl rfl rfl ?_
    first | refine J.aload_n (pc' := 6) rfl rfl rfl ?_ | refine J.aload_nN (pc' := 6) rfl rfl rfl ?_
    refine J.alenT (pc' := 7) rfl (by first | assumption | (simp only [jM.tag_sI, jM.tag_sL, jM.tag_sR, jM.tag_fI, jM.tag_fL, jM.tag_fR]; assumption) | (simp [jM.tag_nw, jM.tag_sI, jM.tag_sL, jM.tag_sR, jM.tag_fI, jM.tag_fL, jM.tag_fR, *]; done)) (by decide) (by decide) rfl ?_
    refine J.icmp_eq (tgt := 17) (pc' := 10) rfl rfl rfl (by first | omega | (exact R.r _ _) | (simp only [jM.len_sI, jM.len_sL, jM.len_sR, jM.len_fI, jM.len_fL, jM.len_fR]; omega) | (simp [jM.len_nw, jM.len_sI, jM.len_sL, jM.len_sR, jM.len_fI, jM.len_fL, jM.len_fR, *]; omega)) (by first | omega | (exact R.r _ _) | (simp only [jM.len_sI, jM.len_sL, jM.len_sR, jM.len_fI, jM.len_fL, jM.len_fR]; omega) | (simp [jM.len_nw, jM.len_sI, jM.len_sL, jM.len_sR, jM.len_fI, jM.len_fL, jM.len_fR, *]; omega)) (fun c2 => ?_) (fun c2 => ?_)
    · omega
    · exact rest
theorem cpyB_o {q b t k : Nat} {x y : Int} (hb : ¬ (t = 35 ∧ b = q)) : (cpyB h q e x y).I t b k = h.I t b k ∧ (cpyB h q e x y).L t b k = h.L t b k ∧ (cpyB h q e x y).R t b k = h.R t b k := by
  unfold cpyB
  rw [jM.I_fI, if_neg hb, jM.L_fI, jM.R_fI, jM.I_nw, jM.L_nw, jM.R_nw, if_neg hb, if_neg hb, if_neg hb]
  exact ⟨rfl, rfl, rfl⟩
theorem cpyB_t {q b : Nat} {x y : Int} : (cpyB h q e x y).tag b = if b = q then 35 else h.tag b := rfl
theorem cpyB_l {q b : Nat} {x y : Int} : (cpyB h q e x y).len b = if b = q then (y - x).toNat else h.len b := rfl
theorem cpyB_q {q j : Nat} {x y : Int} (hj : (j : Int) < y - x) : (cpyB h q e x y).I 35 q j = h.I 35 e (x.toNat + j) := by
  unfold cpyB
  rw [jM.I_fI, if_pos ⟨rfl, rfl⟩, if_pos hj]
theorem cpyB_Fr {q : Nat} {x y : Int} {W : Nat → Prop} (hq : h.tag q = 0) : Fr h (cpyB h q e x y) W := Fr.stFI (Fr.stN Fr.rf hq) (Or.inr hq)
/-- a new String of bytes q -/
theorem cj_strI {q : Nat} (ha : h.tag a = 1) (hb : γ.base ≤ a) : CT γ mJ0_init_031fb 1 0 0 [.ref a, .ref q, .int (jI 0)] h (fun r h' => r = none ∧ h' = (h.sR 1 a 0 (some q)).sI 1 a 1 0) X0 := by
  refine CT.of MJ0_init_031fb (Nat.le_of_ble_eq_true rfl) ?_
  show J γ mJ0_init_031fb 1 0 0 0 0 h 0 [(0, .ref a), (1, .ref q), (2, .int (jI 0))] [] _ _
  first | refine J.aload_n (pc' := 1) rfl rfl rfl ?_ | refine J.aload_nN (pc' := 1) rfl rfl rfl ?_
  refine J.objI (pc' := 4) rfl (List.mem_of_getElem? (i := 680) (by decide +kernel)) jObj_i jObj_c (by omega) (Nat.le_of_ble_eq_true rfl) rfl ?_
  first | refine J.aload_n (pc' := 5) rfl rfl rfl ?_ | refine J.aload_nN (pc' := 5) rfl rfl rfl ?_
  first | refine J.aload_n (pc' := 6) rfl rfl rfl ?_ | refine J.aload_nN (pc' := 6) rfl rfl rfl ?_
  refine J.putR (pc' := 9) (t := 1) (k := 0) rfl fl_J0_9 rfl (Or.inr ⟨rfl, rfl, rfl⟩) ha (Or.inr hb) rfl ?_
  first | refine J.aload_n (pc' := 10) rfl rfl rfl ?_ | refine J.aload_nN (pc' := 10) rfl rfl rfl ?_
  refine J.iload_n (pc' := 11) rfl rfl rfl ?_
  refine J.putZ (pc' := 14) (t := 1) (k := 1) rfl fl_J0_15 rfl rfl rfl (Or.inr ⟨rfl, rfl, rfl⟩) ha (Or.inr hb) rfl ?_
  refine J.vret rfl rfl (by first | omega | (exact R.r _ _) | (simp only [jM.len_sI, jM.len_sL, jM.len_sR, jM.len_fI, jM.len_fL, jM.len_fR]; omega) | (simp [jM.len_nw, jM.len_sI, jM.len_sL, jM.len_sR, jM.len_fI, jM.len_fL, jM.len_fR, *]; omega)) (by first | omega | (exact R.r _ _) | (simp only [jM.len_sI, jM.len_sL, jM.len_sR, jM.len_fI, jM.len_fL, jM.len_fR]; omega) | (simp [jM.len_nw, jM.len_sI, jM.len_sL, jM.len_sR, jM.len_fI, jM.len_fL, jM.len_fR, *]; omega)) ?_
  exact ⟨rfl, rfl⟩
theorem isSt.b (hS : isSt h a e n T) : ∀ i, i < h.len e → -128 ≤ h.I 35 e i ∧ h.I 35 e i ≤ 127 := by
  intro i hi
  obtain ⟨h1, h2, h3, h4, h5, h6, h7⟩ := hS
  obtain ⟨k1, k2⟩ := h7 i (by omega)
  rw [k1]
  unfold sb8
  split <;> omega
theorem isSt.kept {h' : jM} {W : Nat → Prop} (F : Fr h h' W) (hS : isSt h a e n T) (h1 : ¬ W a) (h2 : ¬ W e) : isSt h' a e n T := by
  obtain ⟨a1, a2, a3, a4, a5, a6, a7⟩ := hS
  refine ⟨F.tag a1 (by omega), by rw [F.R a1 (by omega) h1]; exact a2, F.tag a3 (by omega), by rw [F.I a1 (by omega) h1]; exact a4, by rw [F.len (by omega)]; exact a5, a6, fun i hi => ?_⟩
  rw [F.I a3 (by omega) h2]
  exact a7 i hi
theorem jNs_c : Cond.stringRef RJ1 151 "" ∈ lw_tbl := by decide +kernel
/-- bytes x to x + m of a String's array as a String -/
def subQ (h : jM) (m : Int) (T : Int → Int) : Option Value → jM → Prop := fun r h' => ∃ s q, r = some (.ref s) ∧ isSt h' s q m T ∧ Fr h h' (fun _ => False) ∧ Nt h h' [1, 35]
theorem cj_newStr {x m : Int} (hS : isSt h a e n T) (hK : ∃ e0, isSt h (γ.K 9) e0 0 (fun _ => 0)) (h0 : 0 ≤ x) (h1 : 0 ≤ m) (h2 : x + m ≤ n) (hc : ¬ (x = 0 ∧ m = n ∧ 0 < m)) : CT γ mJ1_newString_b4f7a 3 2 (m.toNat + 4) [.ref e, .int (jI x), .int (jI m)] h (subQ h m (fun i => T (x + i))) X0 := by
  have hS0 := hS
  obtain ⟨a1, a2, a3, a4, a5, a6, a7⟩ := hS0
  refine CT.of MJ1_newString_b4f7a (Nat.le_of_ble_eq_true rfl) ?_
  show J γ mJ1_newString_b4f7a 3 2 (m.toNat+4) 0 0 h 0 [(0, .ref e), (1, .int (jI x)), (2, .int (jI m))] [] _ _
  refine J.iload_n (pc' := 1) rfl rfl rfl ?_
  refine J.if_ne (tgt := 7) (pc' := 4) rfl rfl rfl (by first | omega | (exact R.r _ _) | (simp only [jM.len_sI, jM.len_sL, jM.len_sR, jM.len_fI, jM.len_fL, jM.len_fR]; omega) | (simp [jM.len_nw, jM.len_sI, jM.len_sL, jM.len_sR, jM.len_fI, jM.len_fL, jM.len_fR, *]; omega)) (fun c1 => ?_) (fun c1 => ?_)
  · refine J.new (pc' := 10) (t := 1) (N := 2) (n := 4) rfl ⟨by decide, by decide, _, rfl, rfl, List.mem_of_getElem? (i := 813) (by decide +kernel), List.mem_of_getElem? (i := 673) (by decide +kernel), List.mem_of_getElem? (i := 72) (by decide +kernel)⟩ (by first | omega | (exact R.r _ _) | (simp only [jM.len_sI, jM.len_sL, jM.len_sR, jM.len_fI, jM.len_fL, jM.len_fR]; omega) | (simp [jM.len_nw, jM.len_sI, jM.len_sL, jM.len_sR, jM.len_fI, jM.len_fL, jM.len_fR, *]; omega)) (by first | omega | (exact R.r _ _) | (simp only [jM.len_sI, jM.len_sL, jM.len_sR, jM.len_fI, jM.len_fL, jM.len_fR]; omega) | (simp [jM.len_nw, jM.len_sI, jM.len_sL, jM.len_sR, jM.len_fI, jM.len_fL, jM.len_fR, *]; omega)) rfl (fun s sf sb => ?_)
    have hne : ¬ e = s := fun e1 => by rw [e1, sf] at a3; cases a3
    have F0 : Fr h (h.nw s 1 2) (fun _ => False) := Fr.stN Fr.rf sf
    have N0 : Nt h (h.nw s 1 2) [1, 35] := Nt.stN Nt.rf (by simp)
    have t1 : (h.nw s 1 2).tag e = 35 := F0.tag a3 (by omega)
    have l1 : (h.nw s 1 2).len e = h.len e := F0.len (by omega)
    have i1 : ∀ k, (h.nw s 1 2).I 35 e k = h.I 35 e k := fun k => F0.I a3 (by omega) (fun z => z) k
    have ts : (h.nw s 1 2).tag s = 1 := by rw [jM.tag_nw, if_pos rfl]
    generalize h.nw s 1 2 = k1 at F0 N0 t1 l1 i1 ts ⊢
    refine J.dup (pc' := 11) rfl rfl rfl ?_
    first | refine J.aload_n (pc' := 12) rfl rfl rfl ?_ | refine J.aload_nN (pc' := 12) rfl rfl rfl ?_
    refine J.iload_n (pc' := 13) rfl rfl rfl ?_
    refine J.iload_n (pc' := 14) rfl rfl rfl ?_
    refine J.iload_n (pc' := 15) rfl rfl rfl ?_
    refine J.iadd (pc' := 16) rfl rfl ?_
    refine J.callS (pc' := 19) rfl MJ7_copyOfRange_39247 ml_J1_232 is_J7_copyOfRange_39247 (cj_copyR (x := x) (y := x + m) t1 (fun i hi => by rw [i1]; exact hS.b i (by omega)) h0 (by omega) (by omega) (by omega) (by omega)) rfl rfl (Nat.le_of_ble_eq_true rfl) (by first | omega | (exact R.r _ _) | (simp only [jM.len_sI, jM.len_sL, jM.len_sR, jM.len_fI, jM.len_fL, jM.len_fR]; omega) | (simp [jM.len_nw, jM.len_sI, jM.len_sL, jM.len_sR, jM.len_fI, jM.len_fL, jM.len_fR, *]; omega)) (by first | omega | (exact R.r _ _) | (simp only [jM.len_sI, jM.len_sL, jM.len_sR, jM.len_fI, jM.len_fL, jM.len_fR]; omega) | (simp [jM.len_nw, jM.len_sI, jM.len_sL, jM.len_sR, jM.len_fI, jM.len_fL, jM.len_fR, *]; omega)) (by first | omega | (exact R.r _ _) | (simp only [jM.len_sI, jM.len_sL, jM.len_sR, jM.len_fI, jM.len_fL, jM.len_fR]; omega) | (simp [jM.len_nw, jM.len_sI, jM.len_sL, jM.len_sR, jM.len_fI, jM.len_fL, jM.len_fR, *]; omega)) rfl rfl ?_ ?_
    · exact fun _ _ h => h
    rintro _ _ ⟨q, qf, qb, rfl, rfl⟩
    have hsq : ¬ s = q := fun e1 => by rw [e1, qf] at ts; cases ts
    have F1 : Fr h (cpyB k1 q e x (x + m)) (fun _ => False) := F0.trans (cpyB_Fr (W := fun _ => False) qf) (fun b _ z => z.elim id id)
    have N1 : Nt h (cpyB k1 q e x (x + m)) [1, 35] := fun b hb => by
      rw [cpyB_t]
      by_cases z : b = q
      · rw [if_pos z]; exact Or.inr (by simp)
      · rw [if_neg z]; exact N0 b hb
    have ts2 : (cpyB k1 q e x (x + m)).tag s = 1 := by rw [cpyB_t, if_neg hsq]; exact ts
    have tq2 : (cpyB k1 q e x (x + m)).tag q = 35 := by rw [cpyB_t, if_pos rfl]
    have lq2 : (cpyB k1 q e x (x + m)).len q = m.toNat := by rw [cpyB_l, if_pos rfl]; congr 1; omega
    have iq2 : ∀ j : Nat, (j : Int) < m → (cpyB k1 q e x (x + m)).I 35 q j = h.I 35 e (x.toNat + j) := fun j hj => by rw [cpyB_q (by omega), i1]
    generalize cpyB k1 q e x (x + m) = k2 at F1 N1 ts2 tq2 lq2 iq2 ⊢
    refine J.iconst (pc' := 20) rfl rfl ?_
    refine J.callI (pc' := 23) rfl MJ0_init_031fb ml_J1_112 iv_J0_init_031fb ⟨rfl, rfl⟩ (cj_strI ts2 sb) rfl rfl (Nat.le_of_ble_eq_true rfl) (by first | omega | (exact R.r _ _) | (simp only [jM.len_sI, jM.len_sL, jM.len_sR, jM.len_fI, jM.len_fL, jM.len_fR]; omega) | (simp [jM.len_nw, jM.len_sI, jM.len_sL, jM.len_sR, jM.len_fI, jM.len_fL, jM.len_fR, *]; omega)) (by first | omega | (exact R.r _ _) | (simp only [jM.len_sI, jM.len_sL, jM.len_sR, jM.len_fI, jM.len_fL, jM.len_fR]; omega) | (simp [jM.len_nw, jM.len_sI, jM.len_sL, jM.len_sR, jM.len_fI, jM.len_fL, jM.len_fR, *]; omega)) (by first | omega | (exact R.r _ _) | (simp only [jM.len_sI, jM.len_sL, jM.len_sR, jM.len_fI, jM.len_fL, jM.len_fR]; omega) | (simp [jM.len_nw, jM.len_sI, jM.len_sL, jM.len_sR, jM.len_fI, jM.len_fL, jM.len_fR, *]; omega)) rfl ?_
    rintro _ _ ⟨rfl, rfl⟩
    first | refine J.aret rfl rfl rfl (by first | omega | (exact R.r _ _) | (simp only [jM.len_sI, jM.len_sL, jM.len_sR, jM.len_fI, jM.len_fL, jM.len_fR]; omega) | (simp [jM.len_nw, jM.len_sI, jM.len_sL, jM.len_sR, jM.len_fI, jM.len_fL, jM.len_fR, *]; omega)) (by first | omega | (exact R.r _ _) | (simp only [jM.len_sI, jM.len_sL, jM.len_sR, jM.len_fI, jM.len_fL, jM.len_fR]; omega) | (simp [jM.len_nw, jM.len_sI, jM.len_sL, jM.len_sR, jM.len_fI, jM.len_fL, jM.len_fR, *]; omega)) ?_ | refine J.aretN rfl rfl rfl (by first | omega | (exact R.r _ _) | (simp only [jM.len_sI, jM.len_sL, jM.len_sR, jM.len_fI, jM.len_fL, jM.len_fR]; omega) | (simp [jM.len_nw, jM.len_sI, jM.len_sL, jM.len_sR, jM.len_fI, jM.len_fL, jM.len_fR, *]; omega)) (by first | omega | (exact R.r _ _) | (simp only [jM.len_sI, jM.len_sL, jM.len_sR, jM.len_fI, jM.len_fL, jM.len_fR]; omega) | (simp [jM.len_nw, jM.len_sI, jM.len_sL, jM.len_sR, jM.len_fI, jM.len_fL, jM.len_fR, *]; omega)) ?_
    refine ⟨s, q, rfl, ⟨ts2, ?_, tq2, ?_, ?_, by omega, fun i hi => ?_⟩, ?_, N1.st rfl⟩
    · rw [jM.R_sI, jM.R_sR, if_pos ⟨rfl, rfl, rfl⟩]
    · rw [jM.I_sI, if_pos ⟨rfl, rfl, rfl⟩]
    · show (k2.len q : Int) = m
      rw [lq2]
      omega
    · rw [jM.I_sI, if_neg (by omega)]
      show k2.I 35 q i = _ ∧ _
      rw [iq2 i hi]
      have := a7 (x.toNat + i) (by omega)
      rw [show ((x.toNat + i : Nat) : Int) = x + i by omega] at this
      exact this
    · refine Fr.stI (Fr.stR F1 ?_) ?_ <;> exact Or.inr sf
  · obtain ⟨e0, k0⟩ := hK
    refine J.ldcS (pc' := 6) (i := 9) rfl jNs_c (show (9, Term.string "java/lang/StringLatin1" 151) ∈ jKs by simp [jKs]) rfl ?_
    first | refine J.aret rfl rfl rfl (by first | omega | (exact R.r _ _) | (simp only [jM.len_sI, jM.len_sL, jM.len_sR, jM.len_fI, jM.len_fL, jM.len_fR]; omega) | (simp [jM.len_nw, jM.len_sI, jM.len_sL, jM.len_sR, jM.len_fI, jM.len_fL, jM.len_fR, *]; omega)) (by first | omega | (exact R.r _ _) | (simp only [jM.len_sI, jM.len_sL, jM.len_sR, jM.len_fI, jM.len_fL, jM.len_fR]; omega) | (simp [jM.len_nw, jM.len_sI, jM.len_sL, jM.len_sR, jM.len_fI, jM.len_fL, jM.len_fR, *]; omega)) ?_ | refine J.aretN rfl rfl rfl (by first | omega | (exact R.r _ _) | (simp only [jM.len_sI, jM.len_sL, jM.len_sR, jM.len_fI, jM.len_fL, jM.len_fR]; omega) | (simp [jM.len_nw, jM.len_sI, jM.len_sL, jM.len_sR, jM.len_fI, jM.len_fL, jM.len_fR, *]; omega)) (by first | omega | (exact R.r _ _) | (simp only [jM.len_sI, jM.len_sL, jM.len_sR, jM.len_fI, jM.len_fL, jM.len_fR]; omega) | (simp [jM.len_nw, jM.len_sI, jM.len_sL, jM.len_sR, jM.len_fI, jM.len_fL, jM.len_fR, *]; omega)) ?_
    have em : m = 0 := by omega
    subst em
    refine ⟨_, e0, rfl, ?_, Fr.rf, Nt.rf⟩
    obtain ⟨b1, b2, b3, b4, b5, b6, b7⟩ := k0
    exact ⟨b1, b2, b3, b4, b5, by omega, fun i hi => by omega⟩
theorem cj_chkFT1 {x y m : Int} {v : Value} (hv : v = .null ∨ ∃ b, v = .ref b) (h0 : 0 ≤ x) (h1 : x ≤ y) (h2 : y ≤ m) (hm : r32 m) : CT γ mJ3_checkFromToIndex_8c36e 0 0 0 [.int (jI x), .int (jI y), .int (jI m), v] h (fun r h' => r = some (.int (jI x)) ∧ h' = h) X0 := by
  have go : J γ mJ3_checkFromToIndex_8c36e 0 0 0 0 0 h 0 [(0, .int (jI x)), (1, .int (jI y)), (2, .int (jI m)), (3, v)] [] (fun r h' => r = some (.int (jI x)) ∧ h' = h) X0 := by
    refine J.iload_n (pc' := 1) rfl rfl rfl ?_
    refine J.if_lt (tgt := 14) (pc' := 4) rfl rfl rfl (by first | omega | (exact R.r _ _) | (simp only [jM.len_sI, jM.len_sL, jM.len_sR, jM.len_fI, jM.len_fL, jM.len_fR]; omega) | (simp [jM.len_nw, jM.len_sI, jM.len_sL, jM.len_sR, jM.len_fI, jM.len_fL, jM.len_fR, *]; omega)) (fun c1 => ?_) (fun c1 => ?_)
    · omega
    · refine J.iload_n (pc' := 5) rfl rfl rfl ?_
      refine J.iload_n (pc' := 6) rfl rfl rfl ?_
      refine J.icmp_gt (tgt := 14) (pc' := 9) rfl rfl rfl (by first | omega | (exact R.r _ _) | (simp only [jM.len_sI, jM.len_sL, jM.len_sR, jM.len_fI, jM.len_fL, jM.len_fR]; omega) | (simp [jM.len_nw, jM.len_sI, jM.len_sL, jM.len_sR, jM.len_fI, jM.len_fL, jM.len_fR, *]; omega)) (by first | omega | (exact R.r _ _) | (simp only [jM.len_sI, jM.len_sL, jM.len_sR, jM.len_fI, jM.len_fL, jM.len_fR]; omega) | (simp [jM.len_nw, jM.len_sI, jM.len_sL, jM.len_sR, jM.len_fI, jM.len_fL, jM.len_fR, *]; omega)) (fun c2 => ?_) (fun c2 => ?_)
      · omega
      · refine J.iload_n (pc' := 10) rfl rfl rfl ?_
        refine J.iload_n (pc' := 11) rfl rfl rfl ?_
        refine J.icmp_le (tgt := 22) (pc' := 14) rfl rfl rfl (by first | omega | (exact R.r _ _) | (simp only [jM.len_sI, jM.len_sL, jM.len_sR, jM.len_fI, jM.len_fL, jM.len_fR]; omega) | (simp [jM.len_nw, jM.len_sI, jM.len_sL, jM.len_sR, jM.len_fI, jM.len_fL, jM.len_fR, *]; omega)) (by first | omega | (exact R.r _ _) | (simp only [jM.len_sI, jM.len_sL, jM.len_sR, jM.len_fI, jM.len_fL, jM.len_fR]; omega) | (simp [jM.len_nw, jM.len_sI, jM.len_sL, jM.len_sR, jM.len_fI, jM.len_fL, jM.len_fR, *]; omega)) (fun c3 => ?_) (fun c3 => ?_)
        · refine J.iload_n (pc' := 23) rfl rfl rfl ?_
          refine J.iret rfl rfl (by first | omega | (exact R.r _ _) | (simp only [jM.len_sI, jM.len_sL, jM.len_sR, jM.len_fI, jM.len_fL, jM.len_fR]; omega) | (simp [jM.len_nw, jM.len_sI, jM.len_sL, jM.len_sR, jM.len_fI, jM.len_fL, jM.len_fR, *]; omega)) (by first | omega | (exact R.r _ _) | (simp only [jM.len_sI, jM.len_sL, jM.len_sR, jM.len_fI, jM.len_fL, jM.len_fR]; omega) | (simp [jM.len_nw, jM.len_sI, jM.len_sL, jM.len_sR, jM.len_fI, jM.len_fL, jM.len_fR, *]; omega)) ?_
          exact ⟨rfl, rfl⟩
        · omega
  rcases hv with rfl | ⟨b, rfl⟩
  · exact CT.of MJ3_checkFromToIndex_8c36e (Nat.le_of_ble_eq_true rfl) go
  · exact CT.of MJ3_checkFromToIndex_8c36e (Nat.le_of_ble_eq_true rfl) go
theorem cj_chkBE {x y m : Int} (h0 : 0 ≤ x) (h1 : x ≤ y) (h2 : y ≤ m) (hm : r32 m) : CT γ mJ0_checkBoundsBeginEnd_23922 1 0 0 [.int (jI x), .int (jI y), .int (jI m)] h (fun r h' => r = none ∧ h' = h) X0 := by
  refine CT.of MJ0_checkBoundsBeginEnd_23922 (Nat.le_of_ble_eq_true rfl) ?_
  show J γ mJ0_checkBoundsBeginEnd_23922 1 0 0 0 0 h 0 [(0, .int (jI x)), (1, .int (jI y)), (2, .int (jI m))] [] _ _
  refine J.iload_n (pc' := 1) rfl rfl rfl ?_
  refine J.iload_n (pc' := 2) rfl rfl rfl ?_
  refine J.iload_n (pc' := 3) rfl rfl rfl ?_
  refine J.getsR (pc' := 6) rfl jSF_1 jSF_q jSF_l jSF_i rfl ?_ (fun b => ?_)
  · refine J.callS (pc' := 9) rfl MJ3_checkFromToIndex_8c36e ml_J0_1062 is_J3_checkFromToIndex_8c36e (cj_chkFT1 (Or.inl rfl) h0 h1 h2 hm) rfl rfl (Nat.le_of_ble_eq_true rfl) (by first | omega | (exact R.r _ _) | (simp only [jM.len_sI, jM.len_sL, jM.len_sR, jM.len_fI, jM.len_fL, jM.len_fR]; omega) | (simp [jM.len_nw, jM.len_sI, jM.len_sL, jM.len_sR, jM.len_fI, jM.len_fL, jM.len_fR, *]; omega)) (by first | omega | (exact R.r _ _) | (simp only [jM.len_sI, jM.len_sL, jM.len_sR, jM.len_fI, jM.len_fL, jM.len_fR]; omega) | (simp [jM.len_nw, jM.len_sI, jM.len_sL, jM.len_sR, jM.len_fI, jM.len_fL, jM.len_fR, *]; omega)) (by first | omega | (exact R.r _ _) | (simp only [jM.len_sI, jM.len_sL, jM.len_sR, jM.len_fI, jM.len_fL, jM.len_fR]; omega) | (simp [jM.len_nw, jM.len_sI, jM.len_sL, jM.len_sR, jM.len_fI, jM.len_fL, jM.len_fR, *]; omega)) rfl rfl ?_ ?_
    · exact fun _ _ h => h
    rintro _ _ ⟨rfl, rfl⟩
    refine J.pop (pc' := 10) rfl rfl rfl ?_
    refine J.vret rfl rfl (by first | omega | (exact R.r _ _) | (simp only [jM.len_sI, jM.len_sL, jM.len_sR, jM.len_fI, jM.len_fL, jM.len_fR]; omega) | (simp [jM.len_nw, jM.len_sI, jM.len_sL, jM.len_sR, jM.len_fI, jM.len_fL, jM.len_fR, *]; omega)) (by first | omega | (exact R.r _ _) | (simp only [jM.len_sI, jM.len_sL, jM.len_sR, jM.len_fI, jM.len_fL, jM.len_fR]; omega) | (simp [jM.len_nw, jM.len_sI, jM.len_sL, jM.len_sR, jM.len_fI, jM.len_fL, jM.len_fR, *]; omega)) ?_
    exact ⟨rfl, rfl⟩
  · refine J.callS (pc' := 9) rfl MJ3_checkFromToIndex_8c36e ml_J0_1062 is_J3_checkFromToIndex_8c36e (cj_chkFT1 (Or.inr ⟨b, rfl⟩) h0 h1 h2 hm) rfl rfl (Nat.le_of_ble_eq_true rfl) (by first | omega | (exact R.r _ _) | (simp only [jM.len_sI, jM.len_sL, jM.len_sR, jM.len_fI, jM.len_fL, jM.len_fR]; omega) | (simp [jM.len_nw, jM.len_sI, jM.len_sL, jM.len_sR, jM.len_fI, jM.len_fL, jM.len_fR, *]; omega)) (by first | omega | (exact R.r _ _) | (simp only [jM.len_sI, jM.len_sL, jM.len_sR, jM.len_fI, jM.len_fL, jM.len_fR]; omega) | (simp [jM.len_nw, jM.len_sI, jM.len_sL, jM.len_sR, jM.len_fI, jM.len_fL, jM.len_fR, *]; omega)) (by first | omega | (exact R.r _ _) | (simp only [jM.len_sI, jM.len_sL, jM.len_sR, jM.len_fI, jM.len_fL, jM.len_fR]; omega) | (simp [jM.len_nw, jM.len_sI, jM.len_sL, jM.len_sR, jM.len_fI, jM.len_fL, jM.len_fR, *]; omega)) rfl rfl ?_ ?_
    · exact fun _ _ h => h
    rintro _ _ ⟨rfl, rfl⟩
    refine J.pop (pc' := 10) rfl rfl rfl ?_
    refine J.vret rfl rfl (by first | omega | (exact R.r _ _) | (simp only [jM.len_sI, jM.len_sL, jM.len_sR, jM.len_fI, jM.len_fL, jM.len_fR]; omega) | (simp [jM.len_nw, jM.len_sI, jM.len_sL, jM.len_sR, jM.len_fI, jM.len_fL, jM.len_fR, *]; omega)) (by first | omega | (exact R.r _ _) | (simp only [jM.len_sI, jM.len_sL, jM.len_sR, jM.len_fI, jM.len_fL, jM.len_fR]; omega) | (simp [jM.len_nw, jM.len_sI, jM.len_sL, jM.len_sR, jM.len_fI, jM.len_fL, jM.len_fR, *]; omega)) ?_
    exact ⟨rfl, rfl⟩
theorem cj_substr {x y : Int} (hS : isSt h a e n T) (hK : ∃ e0, isSt h (γ.K 9) e0 0 (fun _ => 0)) (h0 : 0 ≤ x) (h1 : x ≤ y) (h2 : y ≤ n) : CT γ mJ0_substring_37a41 4 2 ((y - x).toNat + 4) [.ref a, .int (jI x), .int (jI y)] h (subQ h (y - x) (fun i => T (x + i))) X0 := by
  have hS0 := hS
  obtain ⟨a1, a2, a3, a4, a5, a6, a7⟩ := hS0
  refine CT.of MJ0_substring_37a41 (Nat.le_of_ble_eq_true rfl) ?_
  show J γ mJ0_substring_37a41 4 2 ((y-x).toNat+4) 0 0 h 0 [(0, .ref a), (1, .int (jI x)), (2, .int (jI y))] [] _ _
  first | refine J.aload_n (pc' := 1) rfl rfl rfl ?_ | refine J.aload_nN (pc' := 1) rfl rfl rfl ?_
  refine J.callV (pc' := 4) (t := 1) rfl MJ0_length_8abf5 ml_J0_505 iv_J0_length_8abf5 (by decide) ⟨_, rfl, rfl⟩ (by first | assumption | (simp only [jM.tag_sI, jM.tag_sL, jM.tag_sR, jM.tag_fI, jM.tag_fL, jM.tag_fR]; assumption) | (simp [jM.tag_nw, jM.tag_sI, jM.tag_sL, jM.tag_sR, jM.tag_fI, jM.tag_fL, jM.tag_fR, *]; done)) (cj_strLen hS) rfl rfl (Nat.le_of_ble_eq_true rfl) (by first | omega | (exact R.r _ _) | (simp only [jM.len_sI, jM.len_sL, jM.len_sR, jM.len_fI, jM.len_fL, jM.len_fR]; omega) | (simp [jM.len_nw, jM.len_sI, jM.len_sL, jM.len_sR, jM.len_fI, jM.len_fL, jM.len_fR, *]; omega)) (by first | omega | (exact R.r _ _) | (simp only [jM.len_sI, jM.len_sL, jM.len_sR, jM.len_fI, jM.len_fL, jM.len_fR]; omega) | (simp [jM.len_nw, jM.len_sI, jM.len_sL, jM.len_sR, jM.len_fI, jM.len_fL, jM.len_fR, *]; omega)) (by first | omega | (exact R.r _ _) | (simp only [jM.len_sI, jM.len_sL, jM.len_sR, jM.len_fI, jM.len_fL, jM.len_fR]; omega) | (simp [jM.len_nw, jM.len_sI, jM.len_sL, jM.len_sR, jM.len_fI, jM.len_fL, jM.len_fR, *]; omega)) rfl rfl ?_ ?_
  · exact fun _ _ h => h
  rintro _ h ⟨rfl, rfl⟩
  refine J.istore_n (pc' := 5) rfl rfl (by decide) ?_
  refine J.iload_n (pc' := 6) rfl rfl rfl ?_
  refine J.iload_n (pc' := 7) rfl rfl rfl ?_
  refine J.iload_n (pc' := 8) rfl rfl rfl ?_
  refine J.callS (pc' := 11) rfl MJ0_checkBoundsBeginEnd_23922 ml_J0_521 is_J0_checkBoundsBeginEnd_23922 (cj_chkBE h0 h1 h2 (by constructor <;> omega)) rfl rfl (Nat.le_of_ble_eq_true rfl) (by first | omega | (exact R.r _ _) | (simp only [jM.len_sI, jM.len_sL, jM.len_sR, jM.len_fI, jM.len_fL, jM.len_fR]; omega) | (simp [jM.len_nw, jM.len_sI, jM.len_sL, jM.len_sR, jM.len_fI, jM.len_fL, jM.len_fR, *]; omega)) (by first | omega | (exact R.r _ _) | (simp only [jM.len_sI, jM.len_sL, jM.len_sR, jM.len_fI, jM.len_fL, jM.len_fR]; omega) | (simp [jM.len_nw, jM.len_sI, jM.len_sL, jM.len_sR, jM.len_fI, jM.len_fL, jM.len_fR, *]; omega)) (by first | omega | (exact R.r _ _) | (simp only [jM.len_sI, jM.len_sL, jM.len_sR, jM.len_fI, jM.len_fL, jM.len_fR]; omega) | (simp [jM.len_nw, jM.len_sI, jM.len_sL, jM.len_sR, jM.len_fI, jM.len_fL, jM.len_fR, *]; omega)) rfl rfl ?_ ?_
  · exact fun _ _ h => h
  rintro _ h ⟨rfl, rfl⟩
  have rest : ¬ (x = 0 ∧ y = n) → ∀ lv, hasL lv [(0, .ref a), (1, .int (jI x)), (2, .int (jI y)), (3, .int (jI n))] → J γ mJ0_substring_37a41 4 2 ((y - x).toNat + 4) 0 0 h 22 lv [] (subQ h (y - x) (fun i => T (x + i))) X0 := by
    intro hc lv hlv
    refine J.lc hlv ?_
    refine J.iload_n (pc' := 23) rfl rfl rfl ?_
    refine J.iload_n (pc' := 24) rfl rfl rfl ?_
    refine J.isub (pc' := 25) rfl rfl ?_
    refine J.istore (pc' := 27) rfl rfl (by decide) ?_
    first | refine J.aload_n (pc' := 28) rfl rfl rfl ?_ | refine J.aload_nN (pc' := 28) rfl rfl rfl ?_
    refine J.callV (pc' := 31) (t := 1) rfl MJ0_isLatin1_aae02 ml_J0_492 iv_J0_isLatin1_aae02 (by decide) ⟨_, rfl, rfl⟩ (by first | assumption | (simp only [jM.tag_sI, jM.tag_sL, jM.tag_sR, jM.tag_fI, jM.tag_fL, jM.tag_fR]; assumption) | (simp [jM.tag_nw, jM.tag_sI, jM.tag_sL, jM.tag_sR, jM.tag_fI, jM.tag_fL, jM.tag_fR, *]; done)) (cj_isLatin1 hS) rfl rfl (Nat.le_of_ble_eq_true rfl) (by first | omega | (exact R.r _ _) | (simp only [jM.len_sI, jM.len_sL, jM.len_sR, jM.len_fI, jM.len_fL, jM.len_fR]; omega) | (simp [jM.len_nw, jM.len_sI, jM.len_sL, jM.len_sR, jM.len_fI, jM.len_fL, jM.len_fR, *]; omega)) (by first | omega | (exact R.r _ _) | (simp only [jM.len_sI, jM.len_sL, jM.len_sR, jM.len_fI, jM.len_fL, jM.len_fR]; omega) | (simp [jM.len_nw, jM.len_sI, jM.len_sL, jM.len_sR, jM.len_fI, jM.len_fL, jM.len_fR, *]; omega)) (by first | omega | (exact R.r _ _) | (simp only [jM.len_sI, jM.len_sL, jM.len_sR, jM.len_fI, jM.len_fL, jM.len_fR]; omega) | (simp [jM.len_nw, jM.len_sI, jM.len_sL, jM.len_sR, jM.len_fI, jM.len_fL, jM.len_fR, *]; omega)) rfl rfl ?_ ?_
    · exact fun _ _ h => h
    rintro _ h ⟨rfl, rfl⟩
    refine J.if_eq (tgt := 47) (pc' := 34) rfl rfl rfl (by first | omega | (exact R.r _ _) | (simp only [jM.len_sI, jM.len_sL, jM.len_sR, jM.len_fI, jM.len_fL, jM.len_fR]; omega) | (simp [jM.len_nw, jM.len_sI, jM.len_sL, jM.len_sR, jM.len_fI, jM.len_fL, jM.len_fR, *]; omega)) (fun c3 => ?_) (fun c3 => ?_)
    · omega
    · first | refine J.aload_n (pc' := 35) rfl rfl rfl ?_ | refine J.aload_nN (pc' := 35) rfl rfl rfl ?_
      first | refine J.getR (pc' := 38) rfl fl_J0_9 rfl (by first | assumption | (simp only [jM.tag_sI, jM.tag_sL, jM.tag_sR, jM.tag_fI, jM.tag_fL, jM.tag_fR]; assumption) | (simp [jM.tag_nw, jM.tag_sI, jM.tag_sL, jM.tag_sR, jM.tag_fI, jM.tag_fL, jM.tag_fR, *]; done)) (by first | assumption | (simp only [jM.R_sI, jM.R_sL, jM.R_fI, jM.R_fL]; assumption) | (simp [jM.R_nw, jM.R_sR, jM.R_fR, jM.R_sI, jM.R_sL, jM.R_fI, jM.R_fL, *]; done)) rfl ?_ | refine J.getRN (pc' := 38) rfl fl_J0_9 rfl (by first | assumption | (simp only [jM.tag_sI, jM.tag_sL, jM.tag_sR, jM.tag_fI, jM.tag_fL, jM.tag_fR]; assumption) | (simp [jM.tag_nw, jM.tag_sI, jM.tag_sL, jM.tag_sR, jM.tag_fI, jM.tag_fL, jM.tag_fR, *]; done)) (by first | assumption | (simp only [jM.R_sI, jM.R_sL, jM.R_fI, jM.R_fL]; assumption) | (simp [jM.R_nw, jM.R_sR, jM.R_fR, jM.R_sI, jM.R_sL, jM.R_fI, jM.R_fL, *]; done)) rfl ?_
      refine J.iload_n (pc' := 39) rfl rfl rfl ?_
      refine J.iload (pc' := 41) rfl rfl rfl ?_
      refine J.callS (pc' := 44) rfl MJ1_newString_b4f7a ml_J0_685 is_J1_newString_b4f7a (cj_newStr (x := x) (m := y - x) hS hK h0 (by omega) (by omega) (by omega)) rfl rfl (Nat.le_of_ble_eq_true rfl) (by first | omega | (exact R.r _ _) | (simp only [jM.len_sI, jM.len_sL, jM.len_sR, jM.len_fI, jM.len_fL, jM.len_fR]; omega) | (simp [jM.len_nw, jM.len_sI, jM.len_sL, jM.len_sR, jM.len_fI, jM.len_fL, jM.len_fR, *]; omega)) (by first | omega | (exact R.r _ _) | (simp only [jM.len_sI, jM.len_sL, jM.len_sR, jM.len_fI, jM.len_fL, jM.len_fR]; omega) | (simp [jM.len_nw, jM.len_sI, jM.len_sL, jM.len_sR, jM.len_fI, jM.len_fL, jM.len_fR, *]; omega)) (by first | omega | (exact R.r _ _) | (simp only [jM.len_sI, jM.len_sL, jM.len_sR, jM.len_fI, jM.len_fL, jM.len_fR]; omega) | (simp [jM.len_nw, jM.len_sI, jM.len_sL, jM.len_sR, jM.len_fI, jM.len_fL, jM.len_fR, *]; omega)) rfl rfl ?_ ?_
      · exact fun _ _ h => h
      rintro _ _ ⟨s, q, rfl, g1, g2, g3⟩
      refine J.goto (tgt := 57) rfl rfl ?_
      first | refine J.aret rfl rfl rfl (by first | omega | (exact R.r _ _) | (simp only [jM.len_sI, jM.len_sL, jM.len_sR, jM.len_fI, jM.len_fL, jM.len_fR]; omega) | (simp [jM.len_nw, jM.len_sI, jM.len_sL, jM.len_sR, jM.len_fI, jM.len_fL, jM.len_fR, *]; omega)) (by first | omega | (exact R.r _ _) | (simp only [jM.len_sI, jM.len_sL, jM.len_sR, jM.len_fI, jM.len_fL, jM.len_fR]; omega) | (simp [jM.len_nw, jM.len_sI, jM.len_sL, jM.len_sR, jM.len_fI, jM.len_fL, jM.len_fR, *]; omega)) ?_ | refine J.aretN rfl rfl rfl (by first | omega | (exact R.r _ _) | (simp only [jM.len_sI, jM.len_sL, jM.len_sR, jM.len_fI, jM.len_fL, jM.len_fR]; omega) | (simp [jM.len_nw, jM.len_sI, jM.len_sL, jM.len_sR, jM.len_fI, jM.len_fL, jM.len_fR, *]; omega)) (by first | omega | (exact R.r _ _) | (simp only [jM.len_sI, jM.len_sL, jM.len_sR, jM.len_fI, jM.len_fL, jM.len_fR]; omega) | (simp [jM.len_nw, jM.len_sI, jM.len_sL, jM.len_sR, jM.len_fI, jM.len_fL, jM.len_fR, *]; omega)) ?_
      exact ⟨s, q, rfl, g1, g2, g3⟩
  refine J.iload_n (pc' := 12) rfl rfl rfl ?_
  refine J.if_ne (tgt := 22) (pc' := 15) rfl rfl rfl (by first | omega | (exact R.r _ _) | (simp only [jM.len_sI, jM.len_sL, jM.len_sR, jM.len_fI, jM.len_fL, jM.len_fR]; omega) | (simp [jM.len_nw, jM.len_sI, jM.len_sL, jM.len_sR, jM.len_fI, jM.len_fL, jM.len_fR, *]; omega)) (fun c1 => ?_) (fun c1 => ?_)
  · exact rest (by omega) _ ⟨rfl, rfl, rfl, rfl, trivial⟩
  · refine J.iload_n (pc' := 16) rfl rfl rfl ?_
    refine J.iload_n (pc' := 17) rfl rfl rfl ?_
    refine J.icmp_ne (tgt := 22) (pc' := 20) rfl rfl rfl (by first | omega | (exact R.r _ _) | (simp only [jM.len_sI, jM.len_sL, jM.len_sR, jM.len_fI, jM.len_fL, jM.len_fR]; omega) | (simp [jM.len_nw, jM.len_sI, jM.len_sL, jM.len_sR, jM.len_fI, jM.len_fL, jM.len_fR, *]; omega)) (by first | omega | (exact R.r _ _) | (simp only [jM.len_sI, jM.len_sL, jM.len_sR, jM.len_fI, jM.len_fL, jM.len_fR]; omega) | (simp [jM.len_nw, jM.len_sI, jM.len_sL, jM.len_sR, jM.len_fI, jM.len_fL, jM.len_fR, *]; omega)) (fun c2 => ?_) (fun c2 => ?_)
    · exact rest (by omega) _ ⟨rfl, rfl, rfl, rfl, trivial⟩
    · first | refine J.aload_n (pc' := 21) rfl rfl rfl ?_ | refine J.aload_nN (pc' := 21) rfl rfl rfl ?_
      first | refine J.aret rfl rfl rfl (by first | omega | (exact R.r _ _) | (simp only [jM.len_sI, jM.len_sL, jM.len_sR, jM.len_fI, jM.len_fL, jM.len_fR]; omega) | (simp [jM.len_nw, jM.len_sI, jM.len_sL, jM.len_sR, jM.len_fI, jM.len_fL, jM.len_fR, *]; omega)) (by first | omega | (exact R.r _ _) | (simp only [jM.len_sI, jM.len_sL, jM.len_sR, jM.len_fI, jM.len_fL, jM.len_fR]; omega) | (simp [jM.len_nw, jM.len_sI, jM.len_sL, jM.len_sR, jM.len_fI, jM.len_fL, jM.len_fR, *]; omega)) ?_ | refine J.aretN rfl rfl rfl (by first | omega | (exact R.r _ _) | (simp only [jM.len_sI, jM.len_sL, jM.len_sR, jM.len_fI, jM.len_fL, jM.len_fR]; omega) | (simp [jM.len_nw, jM.len_sI, jM.len_sL, jM.len_sR, jM.len_fI, jM.len_fL, jM.len_fR, *]; omega)) (by first | omega | (exact R.r _ _) | (simp only [jM.len_sI, jM.len_sL, jM.len_sR, jM.len_fI, jM.len_fL, jM.len_fR]; omega) | (simp [jM.len_nw, jM.len_sI, jM.len_sL, jM.len_sR, jM.len_fI, jM.len_fL, jM.len_fR, *]; omega)) ?_
      refine ⟨a, e, rfl, ?_, Fr.rf, Nt.rf⟩
      have ex : x = 0 := by omega
      have ey : y = n := by omega
      subst ex
      subst ey
      rw [show y - 0 = y by omega]
      simp only [Int.zero_add]
      exact hS
end SU

