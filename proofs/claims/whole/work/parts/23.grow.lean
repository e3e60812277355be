def jOb (t : Nat) : Bool := match t with
  | 5 => true
  | 7 => true
  | 9 => true
  | 10 => true
  | 11 => true
  | 12 => true
  | 13 => true
  | _ => false
theorem jOb_cast {t : Nat} (h : jOb t = true) : 0 < t ∧ t < 20 ∧ ∃ q : vw_C, vwCl[t - 1]? = some q ∧ Cond.castable q.1 "java/lang/Object" ∈ lw_tbl := by
  unfold jOb at h
  split at h
  · exact ⟨by decide, by decide, _, rfl, by decide +kernel⟩
  · exact ⟨by decide, by decide, _, rfl, by decide +kernel⟩
  · exact ⟨by decide, by decide, _, rfl, by decide +kernel⟩
  · exact ⟨by decide, by decide, _, rfl, by decide +kernel⟩
  · exact ⟨by decide, by decide, _, rfl, by decide +kernel⟩
  · exact ⟨by decide, by decide, _, rfl, by decide +kernel⟩
  · exact ⟨by decide, by decide, _, rfl, by decide +kernel⟩
  · cases h
theorem jAL_s : Cond.laysStatic "java/util/ArrayList" "DEFAULTCAPACITY_EMPTY_ELEMENTDATA" "[Ljava/lang/Object;" ∈ lw_tbl := by decide +kernel
theorem jAL_f : Cond.fieldLink RJx4a65c 39 "java/util/ArrayList" "DEFAULTCAPACITY_EMPTY_ELEMENTDATA" "[Ljava/lang/Object;" ∈ lw_tbl := by decide +kernel
theorem jAr_1 : Cond.methodLink RJ7 86 ⟨"java/lang/Object", "getClass", "()Ljava/lang/Class;"⟩ ∈ lw_tbl := by decide +kernel
theorem jAr_2 : Cond.declares ⟨"java/lang/Object", "getClass", "()Ljava/lang/Class;"⟩ ∈ lw_tbl := by decide +kernel
theorem jAr_3 : Cond.selects "[Ljava/lang/Object;" ⟨"java/lang/Object", "getClass", "()Ljava/lang/Class;"⟩ ⟨"java/lang/Object", "getClass", "()Ljava/lang/Class;"⟩ ∈ lw_tbl := by decide +kernel
theorem jAr_4 : Cond.instanceMethod ⟨"java/lang/Object", "getClass", "()Ljava/lang/Class;"⟩ ∈ lw_tbl := by decide +kernel
theorem jAr_5 : Cond.native ⟨"java/lang/Object", "getClass", "()Ljava/lang/Class;"⟩ ∈ lw_tbl := by decide +kernel
theorem jAr_6 : Cond.classLink RJ7 110 "[Ljava/lang/Object;" ∈ lw_tbl := by decide +kernel
theorem jAr_7 : Cond.classLink RJ7 2 "java/lang/Object" ∈ lw_tbl := by decide +kernel
theorem jAr_8 : Cond.arrayOver (.object "java/lang/Object") ∈ lw_tbl := by decide +kernel
theorem jAr_9 : Cond.methodLink RJ7 150 arraycopyName ∈ lw_tbl := by decide +kernel
theorem jAr_10 : Cond.classLink RJx4a65c 7 "java/lang/Object" ∈ lw_tbl := by decide +kernel
section AL2
variable {γ : jG} {h : jM} {a e : Nat}
/-- Arrays.copyOf of an Object[] -/
theorem ct_copyOf3 {n : Int} (te : h.tag e = 34) (hn : (h.len e : Int) ≤ n) (hb : n ≤ 200) (hel : ∀ i, i < h.len e → ∀ y, h.R 34 e i = some y → jOb (h.tag y) = true) : CT γ mJ7_copyOf_6403c 1 1 n.toNat [.ref e, .int (jI n), .ref (γ.K 40)] h (fun r h' => ∃ q, h.tag q = 0 ∧ γ.base ≤ q ∧ r = some (.ref q) ∧ h' = (h.nw q 34 n.toNat).fR 34 q (fun j => if j < h.len e then h.R 34 e j else none)) X0 := by
  refine CT.of MJ7_copyOf_6403c (Nat.le_of_ble_eq_true rfl) ?_
  show J γ mJ7_copyOf_6403c 1 1 n.toNat 0 0 h 0 [(0, .ref e), (1, .int (jI n)), (2, .ref (γ.K 40))] [] _ _
  first | refine J.aload_n (pc' := 1) rfl rfl rfl ?_ | refine J.aload_nN (pc' := 1) rfl rfl rfl ?_
  refine J.ldcM (pc' := 3) rfl jAr_6 rfl ?_
  refine J.acmp_ne (rx := some (γ.K 40)) (ry := some (γ.K 40)) (tgt := 13) (pc' := 6) rfl rfl rfl (fun q => absurd rfl q) (fun _ => ?_)
  refine J.iload_n (pc' := 7) rfl rfl rfl ?_
  refine J.anew (pc' := 10) (t := 34) rfl (by decide) rfl (by decide) jAr_7 jAr_8 (by omega) (by omega) (by omega) (by omega) rfl (fun q qf qb => ?_)
  have hne : ¬ e = q := fun e1 => by rw [e1, qf] at te; cases te
  have t1 : (h.nw q 34 n.toNat).tag e = 34 := by rw [jM.tag_nw, if_neg hne, te]
  have t2 : (h.nw q 34 n.toNat).tag q = 34 := by rw [jM.tag_nw, if_pos rfl]
  have l1 : (h.nw q 34 n.toNat).len e = h.len e := by rw [jM.len_nw, if_neg hne]
  have l2 : (h.nw q 34 n.toNat).len q = n.toNat := by rw [jM.len_nw, if_pos rfl]
  refine J.goto (tgt := 24) rfl rfl ?_
  first | refine J.astore_n (pc' := 25) rfl rfl (by decide) ?_ | refine J.astore_nN (pc' := 25) rfl rfl (by decide) ?_
  first | refine J.aload_n (pc' := 26) rfl rfl rfl ?_ | refine J.aload_nN (pc' := 26) rfl rfl rfl ?_
  refine J.iconst (pc' := 27) rfl rfl ?_
  first | refine J.aload_n (pc' := 28) rfl rfl rfl ?_ | refine J.aload_nN (pc' := 28) rfl rfl rfl ?_
  refine J.iconst (pc' := 29) rfl rfl ?_
  first | refine J.aload_n (pc' := 30) rfl rfl rfl ?_ | refine J.aload_nN (pc' := 30) rfl rfl rfl ?_
  refine J.alenT (pc' := 31) rfl (by first | assumption | (simp only [jM.tag_sI, jM.tag_sL, jM.tag_sR, jM.tag_fI, jM.tag_fL, jM.tag_fR]; assumption) | (simp [jM.tag_nw, jM.tag_sI, jM.tag_sL, jM.tag_sR, jM.tag_fI, jM.tag_fL, jM.tag_fR, *]; done)) (by decide) (by decide) rfl ?_
  refine J.iload_n (pc' := 32) rfl rfl rfl ?_
  rw [l1]
  refine J.callS (pc' := 35) rfl MJ9_min_7cf53 ml_J7_304 is_J9_min_7cf53 (ct_min (by omega) (by omega)) rfl rfl (Nat.le_of_ble_eq_true rfl) (by first | omega | (simp only [jM.len_sI, jM.len_sL, jM.len_sR, jM.len_fI, jM.len_fL, jM.len_fR]; omega) | (simp [jM.len_nw, jM.len_sI, jM.len_sL, jM.len_sR, jM.len_fI, jM.len_fL, jM.len_fR, *]; omega)) (by first | omega | (simp only [jM.len_sI, jM.len_sL, jM.len_sR, jM.len_fI, jM.len_fL, jM.len_fR]; omega) | (simp [jM.len_nw, jM.len_sI, jM.len_sL, jM.len_sR, jM.len_fI, jM.len_fL, jM.len_fR, *]; omega)) (by first | omega | (simp only [jM.len_sI, jM.len_sL, jM.len_sR, jM.len_fI, jM.len_fL, jM.len_fR]; omega) | (simp [jM.len_nw, jM.len_sI, jM.len_sL, jM.len_sR, jM.len_fI, jM.len_fL, jM.len_fR, *]; omega)) rfl rfl ?_ ?_
  · exact fun _ _ h => h
  rintro _ h ⟨rfl, rfl⟩
  rw [show min (h.len e : Int) n = (h.len e : Int) by omega]
  refine J.acopyR (pc' := 38) rfl jAr_9 t1 t2 (by omega) (by omega) (by omega) (by omega) (by omega) (by omega) (by omega) (by omega) (fun i hi y hy => ?_) (Or.inr qb) (by omega) (Nat.le_of_ble_eq_true rfl) rfl ?_
  · have hy2 : h.R 34 e i = some y := by
      rw [jM.R_nw, if_neg (fun q9 => hne q9.2)] at hy
      simpa using hy
    have hj := hel i (by omega) y hy2
    have hyq : ¬ y = q := fun e1 => by rw [e1, qf] at hj; cases hj
    obtain ⟨c1, c2, q9, c3, c4⟩ := jOb_cast hj
    rw [jM.tag_nw, if_neg hyq]
    exact ⟨q9, c1, c2, c3, c4⟩
  · first | refine J.aload_n (pc' := 39) rfl rfl rfl ?_ | refine J.aload_nN (pc' := 39) rfl rfl rfl ?_
    first | refine J.aret rfl rfl rfl (by first | omega | (simp only [jM.len_sI, jM.len_sL, jM.len_sR, jM.len_fI, jM.len_fL, jM.len_fR]; omega) | (simp [jM.len_nw, jM.len_sI, jM.len_sL, jM.len_sR, jM.len_fI, jM.len_fL, jM.len_fR, *]; omega)) (by first | omega | (simp only [jM.len_sI, jM.len_sL, jM.len_sR, jM.len_fI, jM.len_fL, jM.len_fR]; omega) | (simp [jM.len_nw, jM.len_sI, jM.len_sL, jM.len_sR, jM.len_fI, jM.len_fL, jM.len_fR, *]; omega)) ?_ | refine J.aretN rfl rfl rfl (by first | omega | (simp only [jM.len_sI, jM.len_sL, jM.len_sR, jM.len_fI, jM.len_fL, jM.len_fR]; omega) | (simp [jM.len_nw, jM.len_sI, jM.len_sL, jM.len_sR, jM.len_fI, jM.len_fL, jM.len_fR, *]; omega)) (by first | omega | (simp only [jM.len_sI, jM.len_sL, jM.len_sR, jM.len_fI, jM.len_fL, jM.len_fR]; omega) | (simp [jM.len_nw, jM.len_sI, jM.len_sL, jM.len_sR, jM.len_fI, jM.len_fL, jM.len_fR, *]; omega)) ?_
    refine ⟨q, qf, qb, rfl, ?_⟩
    congr 1
    funext j
    by_cases hj : j < h.len e <;> simp [va_cpy, jM.R_nw, hne, hj]
theorem ct_copyOf2 {n : Int} (te : h.tag e = 34) (hn : (h.len e : Int) ≤ n) (hb : n ≤ 200) (hel : ∀ i, i < h.len e → ∀ y, h.R 34 e i = some y → jOb (h.tag y) = true) : CT γ mJ7_copyOf_1904c 2 1 n.toNat [.ref e, .int (jI n)] h (fun r h' => ∃ q, h.tag q = 0 ∧ γ.base ≤ q ∧ r = some (.ref q) ∧ h' = (h.nw q 34 n.toNat).fR 34 q (fun j => if j < h.len e then h.R 34 e j else none)) X0 := by
  refine CT.of MJ7_copyOf_1904c (Nat.le_of_ble_eq_true rfl) ?_
  show J γ mJ7_copyOf_1904c 2 1 n.toNat 0 0 h 0 [(0, .ref e), (1, .int (jI n))] [] _ _
  first | refine J.aload_n (pc' := 1) rfl rfl rfl ?_ | refine J.aload_nN (pc' := 1) rfl rfl rfl ?_
  refine J.iload_n (pc' := 2) rfl rfl rfl ?_
  first | refine J.aload_n (pc' := 3) rfl rfl rfl ?_ | refine J.aload_nN (pc' := 3) rfl rfl rfl ?_
  refine J.getC (pc' := 6) rfl te jAr_1 jAr_2 jAr_3 jAr_4 jAr_5 (by omega) (Nat.le_of_ble_eq_true rfl) rfl ?_
  refine J.callS (pc' := 9) rfl MJ7_copyOf_6403c ml_J7_300 is_J7_copyOf_6403c (ct_copyOf3 te hn hb hel) rfl rfl (Nat.le_of_ble_eq_true rfl) (by first | omega | (simp only [jM.len_sI, jM.len_sL, jM.len_sR, jM.len_fI, jM.len_fL, jM.len_fR]; omega) | (simp [jM.len_nw, jM.len_sI, jM.len_sL, jM.len_sR, jM.len_fI, jM.len_fL, jM.len_fR, *]; omega)) (by first | omega | (simp only [jM.len_sI, jM.len_sL, jM.len_sR, jM.len_fI, jM.len_fL, jM.len_fR]; omega) | (simp [jM.len_nw, jM.len_sI, jM.len_sL, jM.len_sR, jM.len_fI, jM.len_fL, jM.len_fR, *]; omega)) (by first | omega | (simp only [jM.len_sI, jM.len_sL, jM.len_sR, jM.len_fI, jM.len_fL, jM.len_fR]; omega) | (simp [jM.len_nw, jM.len_sI, jM.len_sL, jM.len_sR, jM.len_fI, jM.len_fL, jM.len_fR, *]; omega)) rfl rfl ?_ ?_
  · exact fun _ _ h => h
  rintro _ _ ⟨q, qf, qb, rfl, rfl⟩
  first | refine J.aret rfl rfl rfl (by first | omega | (simp only [jM.len_sI, jM.len_sL, jM.len_sR, jM.len_fI, jM.len_fL, jM.len_fR]; omega) | (simp [jM.len_nw, jM.len_sI, jM.len_sL, jM.len_sR, jM.len_fI, jM.len_fL, jM.len_fR, *]; omega)) (by first | omega | (simp only [jM.len_sI, jM.len_sL, jM.len_sR, jM.len_fI, jM.len_fL, jM.len_fR]; omega) | (simp [jM.len_nw, jM.len_sI, jM.len_sL, jM.len_sR, jM.len_fI, jM.len_fL, jM.len_fR, *]; omega)) ?_ | refine J.aretN rfl rfl rfl (by first | omega | (simp only [jM.len_sI, jM.len_sL, jM.len_sR, jM.len_fI, jM.len_fL, jM.len_fR]; omega) | (simp [jM.len_nw, jM.len_sI, jM.len_sL, jM.len_sR, jM.len_fI, jM.len_fL, jM.len_fR, *]; omega)) (by first | omega | (simp only [jM.len_sI, jM.len_sL, jM.len_sR, jM.len_fI, jM.len_fL, jM.len_fR]; omega) | (simp [jM.len_nw, jM.len_sI, jM.len_sL, jM.len_sR, jM.len_fI, jM.len_fL, jM.len_fR, *]; omega)) ?_
  exact ⟨q, qf, qb, rfl, rfl⟩
/-- the capacity that a list of n takes when it grows -/
def jCap (n : Nat) : Nat := if n = 0 then 10 else n + max 1 (n / 2)
theorem jShr1 {n : Nat} (hn : n ≤ 1000) : jI (n : Int) >>> (jI 1 &&& 31) = jI ((n / 2 : Nat) : Int) := by
  rw [jI_nI, jI_nI]
  exact pk_shrN (by omega) _ 1 (by decide)
theorem ct_grow1 (ha : h.tag a = 3) (he : h.R 3 a 1 = some e) (te : h.tag e = 34) (hs : h.I 3 a 2 = h.len e) (hb : h.len e ≤ 100) (h0 : h.len e = 0 ↔ e = γ.K 0) (hel : ∀ i, i < h.len e → ∀ y, h.R 34 e i = some y → jOb (h.tag y) = true) : CT γ mJx4a65c_grow_92f84 3 1 150 [.ref a, .int (jI ((h.len e : Int) + 1))] h (fun r h' => ∃ q, h.tag q = 0 ∧ γ.base ≤ q ∧ r = some (.ref q) ∧ h' = ((h.nw q 34 (jCap (h.len e))).fR 34 q (fun j => if j < h.len e then h.R 34 e j else none)).sR 3 a 1 (some q)) X0 := by
  refine CT.of MJx4a65c_grow_92f84 (Nat.le_of_ble_eq_true rfl) ?_
  show J γ mJx4a65c_grow_92f84 3 1 150 0 0 h 0 [(0, .ref a), (1, .int (jI ((h.len e : Int) + 1)))] [] _ _
  first | refine J.aload_n (pc' := 1) rfl rfl rfl ?_ | refine J.aload_nN (pc' := 1) rfl rfl rfl ?_
  first | refine J.getR (pc' := 4) rfl fl_Jx4a65c_9 rfl (by first | assumption | (simp only [jM.tag_sI, jM.tag_sL, jM.tag_sR, jM.tag_fI, jM.tag_fL, jM.tag_fR]; assumption) | (simp [jM.tag_nw, jM.tag_sI, jM.tag_sL, jM.tag_sR, jM.tag_fI, jM.tag_fL, jM.tag_fR, *]; done)) (by first | assumption | (simp only [jM.R_sI, jM.R_sL, jM.R_fI, jM.R_fL]; assumption) | (simp [jM.R_nw, jM.R_sR, jM.R_fR, jM.R_sI, jM.R_sL, jM.R_fI, jM.R_fL, *]; done)) rfl ?_ | refine J.getRN (pc' := 4) rfl fl_Jx4a65c_9 rfl (by first | assumption | (simp only [jM.tag_sI, jM.tag_sL, jM.tag_sR, jM.tag_fI, jM.tag_fL, jM.tag_fR]; assumption) | (simp [jM.tag_nw, jM.tag_sI, jM.tag_sL, jM.tag_sR, jM.tag_fI, jM.tag_fL, jM.tag_fR, *]; done)) (by first | assumption | (simp only [jM.R_sI, jM.R_sL, jM.R_fI, jM.R_fL]; assumption) | (simp [jM.R_nw, jM.R_sR, jM.R_fR, jM.R_sI, jM.R_sL, jM.R_fI, jM.R_fL, *]; done)) rfl ?_
  refine J.alenT (pc' := 5) rfl (by first | assumption | (simp only [jM.tag_sI, jM.tag_sL, jM.tag_sR, jM.tag_fI, jM.tag_fL, jM.tag_fR]; assumption) | (simp [jM.tag_nw, jM.tag_sI, jM.tag_sL, jM.tag_sR, jM.tag_fI, jM.tag_fL, jM.tag_fR, *]; done)) (by decide) (by decide) rfl ?_
  refine J.istore_n (pc' := 6) rfl rfl (by decide) ?_
  refine J.iload_n (pc' := 7) rfl rfl rfl ?_
  refine J.if_gt (tgt := 20) (pc' := 10) rfl rfl rfl (by first | omega | (simp only [jM.len_sI, jM.len_sL, jM.len_sR, jM.len_fI, jM.len_fL, jM.len_fR]; omega) | (simp [jM.len_nw, jM.len_sI, jM.len_sL, jM.len_sR, jM.len_fI, jM.len_fL, jM.len_fR, *]; omega)) (fun hc => ?_) (fun hc => ?_)
  · refine J.iload_n (pc' := 21) rfl rfl rfl ?_
    refine J.iload_n (pc' := 22) rfl rfl rfl ?_
    refine J.iload_n (pc' := 23) rfl rfl rfl ?_
    refine J.isub (pc' := 24) rfl rfl ?_
    refine J.iload_n (pc' := 25) rfl rfl rfl ?_
    refine J.iconst (pc' := 26) rfl rfl ?_
    refine J.ishr ((h.len e / 2 : Nat) : Int) (pc' := 27) rfl rfl (jShr1 (by omega)) ?_
    rw [show ((h.len e : Int) + 1 - (h.len e : Int)) = 1 by omega]
    refine J.callS (pc' := 30) rfl MJ8_newLength_cabcc ml_Jx4a65c_73 is_J8_newLength_cabcc (ct_newLen (by omega) (by omega) (by omega) (by omega) (by omega) (by omega)) rfl rfl (Nat.le_of_ble_eq_true rfl) (by first | omega | (simp only [jM.len_sI, jM.len_sL, jM.len_sR, jM.len_fI, jM.len_fL, jM.len_fR]; omega) | (simp [jM.len_nw, jM.len_sI, jM.len_sL, jM.len_sR, jM.len_fI, jM.len_fL, jM.len_fR, *]; omega)) (by first | omega | (simp only [jM.len_sI, jM.len_sL, jM.len_sR, jM.len_fI, jM.len_fL, jM.len_fR]; omega) | (simp [jM.len_nw, jM.len_sI, jM.len_sL, jM.len_sR, jM.len_fI, jM.len_fL, jM.len_fR, *]; omega)) (by first | omega | (simp only [jM.len_sI, jM.len_sL, jM.len_sR, jM.len_fI, jM.len_fL, jM.len_fR]; omega) | (simp [jM.len_nw, jM.len_sI, jM.len_sL, jM.len_sR, jM.len_fI, jM.len_fL, jM.len_fR, *]; omega)) rfl rfl ?_ ?_
    · exact fun _ _ h => h
    rintro _ h ⟨rfl, rfl⟩
    have hcap : (h.len e : Int) + max 1 ((h.len e / 2 : Nat) : Int) = (jCap (h.len e) : Int) := by
      unfold jCap
      rw [if_neg (by omega)]
      omega
    have hcap2 : jCap (h.len e) ≤ 150 := by omega
    rw [hcap]
    refine J.istore_n (pc' := 31) rfl rfl (by decide) ?_
    first | refine J.aload_n (pc' := 32) rfl rfl rfl ?_ | refine J.aload_nN (pc' := 32) rfl rfl rfl ?_
    first | refine J.aload_n (pc' := 33) rfl rfl rfl ?_ | refine J.aload_nN (pc' := 33) rfl rfl rfl ?_
    first | refine J.getR (pc' := 36) rfl fl_Jx4a65c_9 rfl (by first | assumption | (simp only [jM.tag_sI, jM.tag_sL, jM.tag_sR, jM.tag_fI, jM.tag_fL, jM.tag_fR]; assumption) | (simp [jM.tag_nw, jM.tag_sI, jM.tag_sL, jM.tag_sR, jM.tag_fI, jM.tag_fL, jM.tag_fR, *]; done)) (by first | assumption | (simp only [jM.R_sI, jM.R_sL, jM.R_fI, jM.R_fL]; assumption) | (simp [jM.R_nw, jM.R_sR, jM.R_fR, jM.R_sI, jM.R_sL, jM.R_fI, jM.R_fL, *]; done)) rfl ?_ | refine J.getRN (pc' := 36) rfl fl_Jx4a65c_9 rfl (by first | assumption | (simp only [jM.tag_sI, jM.tag_sL, jM.tag_sR, jM.tag_fI, jM.tag_fL, jM.tag_fR]; assumption) | (simp [jM.tag_nw, jM.tag_sI, jM.tag_sL, jM.tag_sR, jM.tag_fI, jM.tag_fL, jM.tag_fR, *]; done)) (by first | assumption | (simp only [jM.R_sI, jM.R_sL, jM.R_fI, jM.R_fL]; assumption) | (simp [jM.R_nw, jM.R_sR, jM.R_fR, jM.R_sI, jM.R_sL, jM.R_fI, jM.R_fL, *]; done)) rfl ?_
    refine J.iload_n (pc' := 37) rfl rfl rfl ?_
    refine J.widen (cells' := 0) (slots' := 150 - jCap (h.len e)) (by omega) (by omega) ?_
    refine J.callS (pc' := 40) rfl MJ7_copyOf_1904c ml_Jx4a65c_66 is_J7_copyOf_1904c (ct_copyOf2 te (by omega) (by omega) hel) rfl rfl (Nat.le_of_ble_eq_true rfl) (by first | omega | (simp only [jM.len_sI, jM.len_sL, jM.len_sR, jM.len_fI, jM.len_fL, jM.len_fR]; omega) | (simp [jM.len_nw, jM.len_sI, jM.len_sL, jM.len_sR, jM.len_fI, jM.len_fL, jM.len_fR, *]; omega)) (by first | omega | (simp only [jM.len_sI, jM.len_sL, jM.len_sR, jM.len_fI, jM.len_fL, jM.len_fR]; omega) | (simp [jM.len_nw, jM.len_sI, jM.len_sL, jM.len_sR, jM.len_fI, jM.len_fL, jM.len_fR, *]; omega)) (by first | omega | (simp only [jM.len_sI, jM.len_sL, jM.len_sR, jM.len_fI, jM.len_fL, jM.len_fR]; omega) | (simp [jM.len_nw, jM.len_sI, jM.len_sL, jM.len_sR, jM.len_fI, jM.len_fL, jM.len_fR, *]; omega)) rfl rfl ?_ ?_
    · exact fun _ _ h => h
    rintro _ _ ⟨q, qf, qb, rfl, rfl⟩
    have hne : ¬ a = q := fun e1 => by rw [e1, qf] at ha; cases ha
    refine J.dup_x1 (pc' := 41) rfl rfl rfl rfl ?_
    first | refine J.putR (pc' := 44) rfl fl_Jx4a65c_9 rfl (Or.inl rfl) (by first | assumption | (simp only [jM.tag_sI, jM.tag_sL, jM.tag_sR, jM.tag_fI, jM.tag_fL, jM.tag_fR]; assumption) | (simp [jM.tag_nw, jM.tag_sI, jM.tag_sL, jM.tag_sR, jM.tag_fI, jM.tag_fL, jM.tag_fR, *]; done)) (Or.inl rfl) rfl ?_ | refine J.putRN (pc' := 44) rfl fl_Jx4a65c_9 rfl (Or.inl rfl) (by first | assumption | (simp only [jM.tag_sI, jM.tag_sL, jM.tag_sR, jM.tag_fI, jM.tag_fL, jM.tag_fR]; assumption) | (simp [jM.tag_nw, jM.tag_sI, jM.tag_sL, jM.tag_sR, jM.tag_fI, jM.tag_fL, jM.tag_fR, *]; done)) (Or.inl rfl) rfl ?_
    first | refine J.aret rfl rfl rfl (by first | omega | (simp only [jM.len_sI, jM.len_sL, jM.len_sR, jM.len_fI, jM.len_fL, jM.len_fR]; omega) | (simp [jM.len_nw, jM.len_sI, jM.len_sL, jM.len_sR, jM.len_fI, jM.len_fL, jM.len_fR, *]; omega)) (by first | omega | (simp only [jM.len_sI, jM.len_sL, jM.len_sR, jM.len_fI, jM.len_fL, jM.len_fR]; omega) | (simp [jM.len_nw, jM.len_sI, jM.len_sL, jM.len_sR, jM.len_fI, jM.len_fL, jM.len_fR, *]; omega)) ?_ | refine J.aretN rfl rfl rfl (by first | omega | (simp only [jM.len_sI, jM.len_sL, jM.len_sR, jM.len_fI, jM.len_fL, jM.len_fR]; omega) | (simp [jM.len_nw, jM.len_sI, jM.len_sL, jM.len_sR, jM.len_fI, jM.len_fL, jM.len_fR, *]; omega)) (by first | omega | (simp only [jM.len_sI, jM.len_sL, jM.len_sR, jM.len_fI, jM.len_fL, jM.len_fR]; omega) | (simp [jM.len_nw, jM.len_sI, jM.len_sL, jM.len_sR, jM.len_fI, jM.len_fL, jM.len_fR, *]; omega)) ?_
    exact ⟨q, qf, qb, rfl, rfl⟩
  · have hz : h.len e = 0 := by omega
    have hk := h0.mp hz
    first | refine J.aload_n (pc' := 11) rfl rfl rfl ?_ | refine J.aload_nN (pc' := 11) rfl rfl rfl ?_
    first | refine J.getR (pc' := 14) rfl fl_Jx4a65c_9 rfl (by first | assumption | (simp only [jM.tag_sI, jM.tag_sL, jM.tag_sR, jM.tag_fI, jM.tag_fL, jM.tag_fR]; assumption) | (simp [jM.tag_nw, jM.tag_sI, jM.tag_sL, jM.tag_sR, jM.tag_fI, jM.tag_fL, jM.tag_fR, *]; done)) (by first | assumption | (simp only [jM.R_sI, jM.R_sL, jM.R_fI, jM.R_fL]; assumption) | (simp [jM.R_nw, jM.R_sR, jM.R_fR, jM.R_sI, jM.R_sL, jM.R_fI, jM.R_fL, *]; done)) rfl ?_ | refine J.getRN (pc' := 14) rfl fl_Jx4a65c_9 rfl (by first | assumption | (simp only [jM.tag_sI, jM.tag_sL, jM.tag_sR, jM.tag_fI, jM.tag_fL, jM.tag_fR]; assumption) | (simp [jM.tag_nw, jM.tag_sI, jM.tag_sL, jM.tag_sR, jM.tag_fI, jM.tag_fL, jM.tag_fR, *]; done)) (by first | assumption | (simp only [jM.R_sI, jM.R_sL, jM.R_fI, jM.R_fL]; assumption) | (simp [jM.R_nw, jM.R_sR, jM.R_fR, jM.R_sI, jM.R_sL, jM.R_fI, jM.R_fL, *]; done)) rfl ?_
    refine J.getsK (pc' := 17) (i := 0) (ref := "") rfl jAL_f (by simp [jKs]) jAL_s ini_RJx4a65c rfl ?_
    refine J.acmp_eq (rx := some e) (ry := some (γ.K 0)) (tgt := 45) (pc' := 20) rfl rfl rfl (fun _ => ?_) (fun q => absurd (by rw [hk]) q)
    first | refine J.aload_n (pc' := 46) rfl rfl rfl ?_ | refine J.aload_nN (pc' := 46) rfl rfl rfl ?_
    refine J.bipush (pc' := 48) rfl rfl (by decide) ?_
    refine J.iload_n (pc' := 49) rfl rfl rfl ?_
    refine J.callS (pc' := 52) rfl MJ9_max_7cf53 ml_Jx4a65c_79 is_J9_max_7cf53 (ct_max (by omega) (by omega)) rfl rfl (Nat.le_of_ble_eq_true rfl) (by first | omega | (simp only [jM.len_sI, jM.len_sL, jM.len_sR, jM.len_fI, jM.len_fL, jM.len_fR]; omega) | (simp [jM.len_nw, jM.len_sI, jM.len_sL, jM.len_sR, jM.len_fI, jM.len_fL, jM.len_fR, *]; omega)) (by first | omega | (simp only [jM.len_sI, jM.len_sL, jM.len_sR, jM.len_fI, jM.len_fL, jM.len_fR]; omega) | (simp [jM.len_nw, jM.len_sI, jM.len_sL, jM.len_sR, jM.len_fI, jM.len_fL, jM.len_fR, *]; omega)) (by first | omega | (simp only [jM.len_sI, jM.len_sL, jM.len_sR, jM.len_fI, jM.len_fL, jM.len_fR]; omega) | (simp [jM.len_nw, jM.len_sI, jM.len_sL, jM.len_sR, jM.len_fI, jM.len_fL, jM.len_fR, *]; omega)) rfl rfl ?_ ?_
    · exact fun _ _ h => h
    rintro _ h ⟨rfl, rfl⟩
    rw [show max (10 : Int) ((h.len e : Int) + 1) = 10 by omega]
    refine J.anew (pc' := 55) (t := 34) rfl (by decide) rfl (by decide) jAr_10 jAr_8 (by omega) (by omega) (by omega) (by decide) rfl (fun q qf qb => ?_)
    have hne : ¬ a = q := fun e1 => by rw [e1, qf] at ha; cases ha
    refine J.dup_x1 (pc' := 56) rfl rfl rfl rfl ?_
    first | refine J.putR (pc' := 59) rfl fl_Jx4a65c_9 rfl (Or.inl rfl) (by first | assumption | (simp only [jM.tag_sI, jM.tag_sL, jM.tag_sR, jM.tag_fI, jM.tag_fL, jM.tag_fR]; assumption) | (simp [jM.tag_nw, jM.tag_sI, jM.tag_sL, jM.tag_sR, jM.tag_fI, jM.tag_fL, jM.tag_fR, *]; done)) (Or.inl rfl) rfl ?_ | refine J.putRN (pc' := 59) rfl fl_Jx4a65c_9 rfl (Or.inl rfl) (by first | assumption | (simp only [jM.tag_sI, jM.tag_sL, jM.tag_sR, jM.tag_fI, jM.tag_fL, jM.tag_fR]; assumption) | (simp [jM.tag_nw, jM.tag_sI, jM.tag_sL, jM.tag_sR, jM.tag_fI, jM.tag_fL, jM.tag_fR, *]; done)) (Or.inl rfl) rfl ?_
    first | refine J.aret rfl rfl rfl (by first | omega | (simp only [jM.len_sI, jM.len_sL, jM.len_sR, jM.len_fI, jM.len_fL, jM.len_fR]; omega) | (simp [jM.len_nw, jM.len_sI, jM.len_sL, jM.len_sR, jM.len_fI, jM.len_fL, jM.len_fR, *]; omega)) (by first | omega | (simp only [jM.len_sI, jM.len_sL, jM.len_sR, jM.len_fI, jM.len_fL, jM.len_fR]; omega) | (simp [jM.len_nw, jM.len_sI, jM.len_sL, jM.len_sR, jM.len_fI, jM.len_fL, jM.len_fR, *]; omega)) ?_ | refine J.aretN rfl rfl rfl (by first | omega | (simp only [jM.len_sI, jM.len_sL, jM.len_sR, jM.len_fI, jM.len_fL, jM.len_fR]; omega) | (simp [jM.len_nw, jM.len_sI, jM.len_sL, jM.len_sR, jM.len_fI, jM.len_fL, jM.len_fR, *]; omega)) (by first | omega | (simp only [jM.len_sI, jM.len_sL, jM.len_sR, jM.len_fI, jM.len_fL, jM.len_fR]; omega) | (simp [jM.len_nw, jM.len_sI, jM.len_sL, jM.len_sR, jM.len_fI, jM.len_fL, jM.len_fR, *]; omega)) ?_
    refine ⟨q, qf, qb, rfl, ?_⟩
    congr 1
    have hcap : jCap (h.len e) = 10 := by unfold jCap; rw [if_pos hz]
    rw [hcap]
    exact (jM.fR_of (fun j => by rw [if_neg (by omega), jM.R_nw, if_pos ⟨rfl, rfl⟩])).symm
theorem ct_grow0 (ha : h.tag a = 3) (he : h.R 3 a 1 = some e) (te : h.tag e = 34) (hs : h.I 3 a 2 = h.len e) (hb : h.len e ≤ 100) (h0 : h.len e = 0 ↔ e = γ.K 0) (hel : ∀ i, i < h.len e → ∀ y, h.R 34 e i = some y → jOb (h.tag y) = true) : CT γ mJx4a65c_grow_d5877 4 1 150 [.ref a] h (fun r h' => ∃ q, h.tag q = 0 ∧ γ.base ≤ q ∧ r = some (.ref q) ∧ h' = ((h.nw q 34 (jCap (h.len e))).fR 34 q (fun j => if j < h.len e then h.R 34 e j else none)).sR 3 a 1 (some q)) X0 := by
  refine CT.of MJx4a65c_grow_d5877 (Nat.le_of_ble_eq_true rfl) ?_
  show J γ mJx4a65c_grow_d5877 4 1 150 0 0 h 0 [(0, .ref a)] [] _ _
  first | refine J.aload_n (pc' := 1) rfl rfl rfl ?_ | refine J.aload_nN (pc' := 1) rfl rfl rfl ?_
  first | refine J.aload_n (pc' := 2) rfl rfl rfl ?_ | refine J.aload_nN (pc' := 2) rfl rfl rfl ?_
  refine J.getI (pc' := 5) rfl fl_Jx4a65c_48 rfl (by first | assumption | (simp only [jM.tag_sI, jM.tag_sL, jM.tag_sR, jM.tag_fI, jM.tag_fL, jM.tag_fR]; assumption) | (simp [jM.tag_nw, jM.tag_sI, jM.tag_sL, jM.tag_sR, jM.tag_fI, jM.tag_fL, jM.tag_fR, *]; done)) rfl ?_
  refine J.iconst (pc' := 6) rfl rfl ?_
  refine J.iadd (pc' := 7) rfl rfl ?_
  rw [hs]
  refine J.callV (pc' := 10) (t := 3) rfl MJx4a65c_grow_92f84 ml_Jx4a65c_69 iv_Jx4a65c_grow_92f84 (by decide) ⟨_, rfl, rfl⟩ (by first | assumption | (simp only [jM.tag_sI, jM.tag_sL, jM.tag_sR, jM.tag_fI, jM.tag_fL, jM.tag_fR]; assumption) | (simp [jM.tag_nw, jM.tag_sI, jM.tag_sL, jM.tag_sR, jM.tag_fI, jM.tag_fL, jM.tag_fR, *]; done)) (ct_grow1 ha he te hs hb h0 hel) rfl rfl (Nat.le_of_ble_eq_true rfl) (by first | omega | (simp only [jM.len_sI, jM.len_sL, jM.len_sR, jM.len_fI, jM.len_fL, jM.len_fR]; omega) | (simp [jM.len_nw, jM.len_sI, jM.len_sL, jM.len_sR, jM.len_fI, jM.len_fL, jM.len_fR, *]; omega)) (by first | omega | (simp only [jM.len_sI, jM.len_sL, jM.len_sR, jM.len_fI, jM.len_fL, jM.len_fR]; omega) | (simp [jM.len_nw, jM.len_sI, jM.len_sL, jM.len_sR, jM.len_fI, jM.len_fL, jM.len_fR, *]; omega)) (by first | omega | (simp only [jM.len_sI, jM.len_sL, jM.len_sR, jM.len_fI, jM.len_fL, jM.len_fR]; omega) | (simp [jM.len_nw, jM.len_sI, jM.len_sL, jM.len_sR, jM.len_fI, jM.len_fL, jM.len_fR, *]; omega)) rfl rfl ?_ ?_
  · exact fun _ _ h => h
  rintro _ _ ⟨q, qf, qb, rfl, rfl⟩
  first | refine J.aret rfl rfl rfl (by first | omega | (simp only [jM.len_sI, jM.len_sL, jM.len_sR, jM.len_fI, jM.len_fL, jM.len_fR]; omega) | (simp [jM.len_nw, jM.len_sI, jM.len_sL, jM.len_sR, jM.len_fI, jM.len_fL, jM.len_fR, *]; omega)) (by first | omega | (simp only [jM.len_sI, jM.len_sL, jM.len_sR, jM.len_fI, jM.len_fL, jM.len_fR]; omega) | (simp [jM.len_nw, jM.len_sI, jM.len_sL, jM.len_sR, jM.len_fI, jM.len_fL, jM.len_fR, *]; omega)) ?_ | refine J.aretN rfl rfl rfl (by first | omega | (simp only [jM.len_sI, jM.len_sL, jM.len_sR, jM.len_fI, jM.len_fL, jM.len_fR]; omega) | (simp [jM.len_nw, jM.len_sI, jM.len_sL, jM.len_sR, jM.len_fI, jM.len_fL, jM.len_fR, *]; omega)) (by first | omega | (simp only [jM.len_sI, jM.len_sL, jM.len_sR, jM.len_fI, jM.len_fL, jM.len_fR]; omega) | (simp [jM.len_nw, jM.len_sI, jM.len_sL, jM.len_sR, jM.len_fI, jM.len_fL, jM.len_fR, *]; omega)) ?_
  exact ⟨q, qf, qb, rfl, rfl⟩
end AL2

