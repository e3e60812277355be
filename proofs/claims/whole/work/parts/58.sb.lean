/-- a StringBuilder of n signs, all below 256 -/
def isSB (γ : jG) (h : jM) (a e : Nat) (n : Int) (T : Int → Int) : Prop := h.tag a = 2 ∧ h.R 2 a 0 = some e ∧ h.tag e = 35 ∧ h.I 2 a 1 = 0 ∧ h.I 2 a 3 = n ∧ 0 ≤ n ∧ n ≤ (h.len e : Int) ∧ (h.len e = 16 ∨ h.len e = 34 ∨ h.len e = 70 ∨ h.len e = 142 ∨ h.len e = 286 ∨ h.len e = 574) ∧ γ.base ≤ e ∧ (∀ i, i < h.len e → -128 ≤ h.I 35 e i ∧ h.I 35 e i ≤ 127) ∧ ∀ i : Nat, (i : Int) < n → h.I 35 e i = sb8 (T i) ∧ (0 ≤ T i ∧ T i < 256)
section SB
variable {γ : jG} {h : jM} {a e : Nat} {n : Int} {T : Int → Int}
theorem isSB.kept {h' : jM} {W : Nat → Prop} (F : Fr h h' W) (hS : isSB γ h a e n T) (h1 : ¬ W a) (h2 : ¬ W e) : isSB γ h' a e n T := by
  obtain ⟨a1, a2, a3, a4, a5, a6, a7, a8, a9, a10, a11⟩ := hS
  have l := F.len (b := e) (by omega)
  refine ⟨F.tag a1 (by omega), by rw [F.R a1 (by omega) h1]; exact a2, F.tag a3 (by omega), by rw [F.I a1 (by omega) h1]; exact a4, by rw [F.I a1 (by omega) h1]; exact a5, a6, by rw [l]; exact a7, by rw [l]; exact a8, a9, fun i hi => by rw [F.I a3 (by omega) h2]; rw [l] at hi; exact a10 i hi, fun i hi => by rw [F.I a3 (by omega) h2]; exact a11 i hi⟩
theorem cb_len0 (hS : isSB γ h a e n T) : CT γ mJ5_length_8abf5 0 0 0 [.ref a] h (fun r h' => r = some (.int (jI n)) ∧ h' = h) X0 := by
  have a1 := hS.1
  have a5 := hS.2.2.2.2.1
  refine CT.of MJ5_length_8abf5 (Nat.le_of_ble_eq_true rfl) ?_
  show J γ mJ5_length_8abf5 0 0 0 0 0 h 0 [(0, .ref a)] [] _ _
  first | refine J.aload_n (pc' := 1) rfl rfl rfl ?_ | refine J.aload_nN (pc' := 1) rfl rfl rfl ?_
  refine J.getI (pc' := 4) rfl fl_J5_79 rfl (by first | assumption | (simp only [jM.tag_sI, jM.tag_sL, jM.tag_sR, jM.tag_fI, jM.tag_fL, jM.tag_fR]; assumption) | (simp [jM.tag_nw, jM.tag_sI, jM.tag_sL, jM.tag_sR, jM.tag_fI, jM.tag_fL, jM.tag_fR, *]; done)) rfl ?_
  rw [a5]
  refine J.iret rfl rfl (by first | omega | (exact R.r _ _) | (simp only [jM.len_sI, jM.len_sL, jM.len_sR, jM.len_fI, jM.len_fL, jM.len_fR]; omega) | (simp [jM.len_nw, jM.len_sI, jM.len_sL, jM.len_sR, jM.len_fI, jM.len_fL, jM.len_fR, *]; omega)) (by first | omega | (exact R.r _ _) | (simp only [jM.len_sI, jM.len_sL, jM.len_sR, jM.len_fI, jM.len_fL, jM.len_fR]; omega) | (simp [jM.len_nw, jM.len_sI, jM.len_sL, jM.len_sR, jM.len_fI, jM.len_fL, jM.len_fR, *]; omega)) ?_
  exact ⟨rfl, rfl⟩
theorem cb_len (hS : isSB γ h a e n T) : CT γ mJ4_length_8abf5 1 0 0 [.ref a] h (fun r h' => r = some (.int (jI n)) ∧ h' = h) X0 := by
  have a1 := hS.1
  refine CT.of MJ4_length_8abf5 (Nat.le_of_ble_eq_true rfl) ?_
  show J γ mJ4_length_8abf5 1 0 0 0 0 h 0 [(0, .ref a)] [] _ _
  first | refine J.aload_n (pc' := 1) rfl rfl rfl ?_ | refine J.aload_nN (pc' := 1) rfl rfl rfl ?_
  refine J.callSup (pc' := 4) (t := 2) (C := "java/lang/StringBuilder") rfl MJ5_length_8abf5 ml_J4_343 iu_J5_length_8abf5.2 jSBsup iu_J5_length_8abf5.1 (by decide) (by decide) ⟨_, rfl, rfl⟩ (by first | assumption | (simp only [jM.tag_sI, jM.tag_sL, jM.tag_sR, jM.tag_fI, jM.tag_fL, jM.tag_fR]; assumption) | (simp [jM.tag_nw, jM.tag_sI, jM.tag_sL, jM.tag_sR, jM.tag_fI, jM.tag_fL, jM.tag_fR, *]; done)) (cb_len0 hS) rfl rfl (Nat.le_of_ble_eq_true rfl) (by first | omega | (exact R.r _ _) | (simp only [jM.len_sI, jM.len_sL, jM.len_sR, jM.len_fI, jM.len_fL, jM.len_fR]; omega) | (simp [jM.len_nw, jM.len_sI, jM.len_sL, jM.len_sR, jM.len_fI, jM.len_fL, jM.len_fR, *]; omega)) (by first | omega | (exact R.r _ _) | (simp only [jM.len_sI, jM.len_sL, jM.len_sR, jM.len_fI, jM.len_fL, jM.len_fR]; omega) | (simp [jM.len_nw, jM.len_sI, jM.len_sL, jM.len_sR, jM.len_fI, jM.len_fL, jM.len_fR, *]; omega)) (by first | omega | (exact R.r _ _) | (simp only [jM.len_sI, jM.len_sL, jM.len_sR, jM.len_fI, jM.len_fL, jM.len_fR]; omega) | (simp [jM.len_nw, jM.len_sI, jM.len_sL, jM.len_sR, jM.len_fI, jM.len_fL, jM.len_fR, *]; omega)) rfl ?_
  rintro _ _ ⟨rfl, rfl⟩
  refine J.iret rfl rfl (by first | omega | (exact R.r _ _) | (simp only [jM.len_sI, jM.len_sL, jM.len_sR, jM.len_fI, jM.len_fL, jM.len_fR]; omega) | (simp [jM.len_nw, jM.len_sI, jM.len_sL, jM.len_sR, jM.len_fI, jM.len_fL, jM.len_fR, *]; omega)) (by first | omega | (exact R.r _ _) | (simp only [jM.len_sI, jM.len_sL, jM.len_sR, jM.len_fI, jM.len_fL, jM.len_fR]; omega) | (simp [jM.len_nw, jM.len_sI, jM.len_sL, jM.len_sR, jM.len_fI, jM.len_fL, jM.len_fR, *]; omega)) ?_
  exact ⟨rfl, rfl⟩
theorem cb_isLatin1 (hS : isSB γ h a e n T) : CT γ mJ5_isLatin1_aae02 0 0 0 [.ref a] h (fun r h' => r = some (.int (jI 1)) ∧ h' = h) X0 := by
  obtain ⟨h1, h2, h3, h4, -⟩ := hS
  refine CT.of MJ5_isLatin1_aae02 (Nat.le_of_ble_eq_true rfl) ?_
  show J γ mJ5_isLatin1_aae02 0 0 0 0 0 h 0 [(0, .ref a)] [] _ _
  refine J.getsI (pc' := 3) (z := 1) (ref := "") rfl jCS_2 jCS_q rfl jCS_l jCS_i rfl ?_
  refine J.if_eq (tgt := 17) (pc' := 6) rfl rfl rfl (by first | omega | (exact R.r _ _) | (simp only [jM.len_sI, jM.len_sL, jM.len_sR, jM.len_fI, jM.len_fL, jM.len_fR]; omega) | (simp [jM.len_nw, jM.len_sI, jM.len_sL, jM.len_sR, jM.len_fI, jM.len_fL, jM.len_fR, *]; omega)) (fun c1 => ?_) (fun c1 => ?_)
  · omega
  · first | refine J.aload_n (pc' := 7) rfl rfl rfl ?_ | refine J.aload_nN (pc' := 7) rfl rfl rfl ?_
    refine J.getI (pc' := 10) rfl fl_J5_22 rfl (by first | assumption | (simp only [jM.tag_sI, jM.tag_sL, jM.tag_sR, jM.tag_fI, jM.tag_fL, jM.tag_fR]; assumption) | (simp [jM.tag_nw, jM.tag_sI, jM.tag_sL, jM.tag_sR, jM.tag_fI, jM.tag_fL, jM.tag_fR, *]; done)) rfl ?_
    rw [h4]
    refine J.if_ne (tgt := 17) (pc' := 13) rfl rfl rfl (by first | omega | (exact R.r _ _) | (simp only [jM.len_sI, jM.len_sL, jM.len_sR, jM.len_fI, jM.len_fL, jM.len_fR]; omega) | (simp [jM.len_nw, jM.len_sI, jM.len_sL, jM.len_sR, jM.len_fI, jM.len_fL, jM.len_fR, *]; omega)) (fun c2 => ?_) (fun c2 => ?_)
    · omega
    · refine J.iconst (pc' := 14) rfl rfl ?_
      refine J.goto (tgt := 18) rfl rfl ?_
      refine J.zret rfl rfl (by rfl) (by first | omega | (exact R.r _ _) | (simp only [jM.len_sI, jM.len_sL, jM.len_sR, jM.len_fI, jM.len_fL, jM.len_fR]; omega) | (simp [jM.len_nw, jM.len_sI, jM.len_sL, jM.len_sR, jM.len_fI, jM.len_fL, jM.len_fR, *]; omega)) (by first | omega | (exact R.r _ _) | (simp only [jM.len_sI, jM.len_sL, jM.len_sR, jM.len_fI, jM.len_fL, jM.len_fR]; omega) | (simp [jM.len_nw, jM.len_sI, jM.len_sL, jM.len_sR, jM.len_fI, jM.len_fL, jM.len_fR, *]; omega)) ?_
      exact ⟨rfl, rfl⟩
theorem cb_canEncode {c : Int} (hc : 0 ≤ c ∧ c < 256) : CT γ mJ1_canEncode_fc78d 0 0 0 [.int (jI c)] h (fun r h' => r = some (.int (jI 1)) ∧ h' = h) X0 := by
  refine CT.of MJ1_canEncode_fc78d (Nat.le_of_ble_eq_true rfl) ?_
  show J γ mJ1_canEncode_fc78d 0 0 0 0 0 h 0 [(0, .int (jI c))] [] _ _
  refine J.iload_n (pc' := 1) rfl rfl rfl ?_
  refine J.sipush (pc' := 4) rfl rfl (by decide) ?_
  refine J.icmp_gt (tgt := 11) (pc' := 7) rfl rfl rfl (by first | omega | (exact R.r _ _) | (simp only [jM.len_sI, jM.len_sL, jM.len_sR, jM.len_fI, jM.len_fL, jM.len_fR]; omega) | (simp [jM.len_nw, jM.len_sI, jM.len_sL, jM.len_sR, jM.len_fI, jM.len_fL, jM.len_fR, *]; omega)) (by first | omega | (exact R.r _ _) | (simp only [jM.len_sI, jM.len_sL, jM.len_sR, jM.len_fI, jM.len_fL, jM.len_fR]; omega) | (simp [jM.len_nw, jM.len_sI, jM.len_sL, jM.len_sR, jM.len_fI, jM.len_fL, jM.len_fR, *]; omega)) (fun c1 => ?_) (fun c1 => ?_)
  · omega
  · refine J.iconst (pc' := 8) rfl rfl ?_
    refine J.goto (tgt := 12) rfl rfl ?_
    refine J.zret rfl rfl (by rfl) (by first | omega | (exact R.r _ _) | (simp only [jM.len_sI, jM.len_sL, jM.len_sR, jM.len_fI, jM.len_fL, jM.len_fR]; omega) | (simp [jM.len_nw, jM.len_sI, jM.len_sL, jM.len_sR, jM.len_fI, jM.len_fL, jM.len_fR, *]; omega)) (by first | omega | (exact R.r _ _) | (simp only [jM.len_sI, jM.len_sL, jM.len_sR, jM.len_fI, jM.len_fL, jM.len_fR]; omega) | (simp [jM.len_nw, jM.len_sI, jM.len_sL, jM.len_sR, jM.len_fI, jM.len_fL, jM.len_fR, *]; omega)) ?_
    exact ⟨rfl, rfl⟩
theorem jI_shl0 (v : Int) : jI v <<< (jI 0 &&& 31) = jI v := by
  rw [show jI 0 &&& 31 = 0 by decide]
  apply Int32.toBitVec_inj.mp
  rw [Int32.toBitVec_shiftLeft]
  show (jI v).toBitVec <<< ((0 : Int32).toBitVec.smod 32) = _
  rw [BitVec.shiftLeft_eq', show ((0 : Int32).toBitVec.smod 32).toNat = 0 by decide]
  simp
theorem jI_shr0 {v : Int} (hv : r32 v) : jI v >>> (jI 0 &&& 31) = jI v := jI_shr (s := 0) hv (by omega)
theorem cb_newCap {k : Int} (hS : isSB γ h a e n T) (hk : k = (h.len e : Int) + 1) : CT γ mJ5_newCapacity_0f7a4 2 0 0 [.ref a, .int (jI k)] h (fun r h' => r = some (.int (jI (2 * (h.len e : Int) + 2))) ∧ h' = h) X0 := by
  obtain ⟨a1, a2, a3, a4, a5, a6, a7, a8, a9, a10, a11⟩ := hS
  refine CT.of MJ5_newCapacity_0f7a4 (Nat.le_of_ble_eq_true rfl) ?_
  show J γ mJ5_newCapacity_0f7a4 2 0 0 0 0 h 0 [(0, .ref a), (1, .int (jI k))] [] _ _
  first | refine J.aload_n (pc' := 1) rfl rfl rfl ?_ | refine J.aload_nN (pc' := 1) rfl rfl rfl ?_
  first | refine J.getR (pc' := 4) rfl fl_J5_15 rfl (by first | assumption | (simp only [jM.tag_sI, jM.tag_sL, jM.tag_sR, jM.tag_fI, jM.tag_fL, jM.tag_fR]; assumption) | (simp [jM.tag_nw, jM.tag_sI, jM.tag_sL, jM.tag_sR, jM.tag_fI, jM.tag_fL, jM.tag_fR, *]; done)) (by first | assumption | (simp only [jM.R_sI, jM.R_sL, jM.R_fI, jM.R_fL]; assumption) | (simp [jM.R_nw, jM.R_sR, jM.R_fR, jM.R_sI, jM.R_sL, jM.R_fI, jM.R_fL, *]; done)) rfl ?_ | refine J.getRN (pc' := 4) rfl fl_J5_15 rfl (by first | assumption | (simp only [jM.tag_sI, jM.tag_sL, jM.tag_sR, jM.tag_fI, jM.tag_fL, jM.tag_fR]; assumption) | (simp [jM.tag_nw, jM.tag_sI, jM.tag_sL, jM.tag_sR, jM.tag_fI, jM.tag_fL, jM.tag_fR, *]; done)) (by first | assumption | (simp only [jM.R_sI, jM.R_sL, jM.R_fI, jM.R_fL]; assumption) | (simp [jM.R_nw, jM.R_sR, jM.R_fR, jM.R_sI, jM.R_sL, jM.R_fI, jM.R_fL, *]; done)) rfl ?_
  refine J.alenT (pc' := 5) rfl (by first | assumption | (simp only [jM.tag_sI, jM.tag_sL, jM.tag_sR, jM.tag_fI, jM.tag_fL, jM.tag_fR]; assumption) | (simp [jM.tag_nw, jM.tag_sI, jM.tag_sL, jM.tag_sR, jM.tag_fI, jM.tag_fL, jM.tag_fR, *]; done)) (by decide) (by decide) rfl ?_
  refine J.istore_n (pc' := 6) rfl rfl (by decide) ?_
  refine J.iload_n (pc' := 7) rfl rfl rfl ?_
  first | refine J.aload_n (pc' := 8) rfl rfl rfl ?_ | refine J.aload_nN (pc' := 8) rfl rfl rfl ?_
  refine J.getI (pc' := 11) rfl fl_J5_22 rfl (by first | assumption | (simp only [jM.tag_sI, jM.tag_sL, jM.tag_sR, jM.tag_fI, jM.tag_fL, jM.tag_fR]; assumption) | (simp [jM.tag_nw, jM.tag_sI, jM.tag_sL, jM.tag_sR, jM.tag_fI, jM.tag_fL, jM.tag_fR, *]; done)) rfl ?_
  rw [a4]
  refine J.ishl k (pc' := 12) rfl rfl (jI_shl0 _) ?_
  refine J.istore_n (pc' := 13) rfl rfl (by decide) ?_
  refine J.iload_n (pc' := 14) rfl rfl rfl ?_
  refine J.iload_n (pc' := 15) rfl rfl rfl ?_
  refine J.isub (pc' := 16) rfl rfl ?_
  refine J.istore (pc' := 18) rfl rfl (by decide) ?_
  refine J.iload_n (pc' := 19) rfl rfl rfl ?_
  refine J.iload (pc' := 21) rfl rfl rfl ?_
  refine J.iload_n (pc' := 22) rfl rfl rfl ?_
  refine J.iconst (pc' := 23) rfl rfl ?_
  first | refine J.aload_n (pc' := 24) rfl rfl rfl ?_ | refine J.aload_nN (pc' := 24) rfl rfl rfl ?_
  refine J.getI (pc' := 27) rfl fl_J5_22 rfl (by first | assumption | (simp only [jM.tag_sI, jM.tag_sL, jM.tag_sR, jM.tag_fI, jM.tag_fL, jM.tag_fR]; assumption) | (simp [jM.tag_nw, jM.tag_sI, jM.tag_sL, jM.tag_sR, jM.tag_fI, jM.tag_fL, jM.tag_fR, *]; done)) rfl ?_
  rw [a4]
  refine J.ishl 2 (pc' := 28) rfl rfl (jI_shl0 _) ?_
  refine J.iadd (pc' := 29) rfl rfl ?_
  refine J.callS (pc' := 32) rfl MJ8_newLength_cabcc ml_J5_114 is_J8_newLength_cabcc (ct_newLen (by omega) (by omega) (by omega) (by omega) (by omega) (by omega)) rfl rfl (Nat.le_of_ble_eq_true rfl) (by first | omega | (exact R.r _ _) | (simp only [jM.len_sI, jM.len_sL, jM.len_sR, jM.len_fI, jM.len_fL, jM.len_fR]; omega) | (simp [jM.len_nw, jM.len_sI, jM.len_sL, jM.len_sR, jM.len_fI, jM.len_fL, jM.len_fR, *]; omega)) (by first | omega | (exact R.r _ _) | (simp only [jM.len_sI, jM.len_sL, jM.len_sR, jM.len_fI, jM.len_fL, jM.len_fR]; omega) | (simp [jM.len_nw, jM.len_sI, jM.len_sL, jM.len_sR, jM.len_fI, jM.len_fL, jM.len_fR, *]; omega)) (by first | omega | (exact R.r _ _) | (simp only [jM.len_sI, jM.len_sL, jM.len_sR, jM.len_fI, jM.len_fL, jM.len_fR]; omega) | (simp [jM.len_nw, jM.len_sI, jM.len_sL, jM.len_sR, jM.len_fI, jM.len_fL, jM.len_fR, *]; omega)) rfl rfl ?_ ?_
  · exact fun _ _ h => h
  rintro _ h ⟨rfl, rfl⟩
  rw [show (h.len e : Int) + max (k - (h.len e : Int)) ((h.len e : Int) + 2) = 2 * (h.len e : Int) + 2 by omega]
  refine J.istore (pc' := 34) rfl rfl (by decide) ?_
  refine J.iload (pc' := 36) rfl rfl rfl ?_
  refine J.ldc (pc' := 38) (z := 2147483647) (v := 2147483647) rfl (List.mem_of_getElem? (i := 402) (by decide +kernel)) (by decide) rfl ?_
  refine J.icmp_ne (tgt := 51) (pc' := 41) rfl rfl rfl (by first | omega | (exact R.r _ _) | (simp only [jM.len_sI, jM.len_sL, jM.len_sR, jM.len_fI, jM.len_fL, jM.len_fR]; omega) | (simp [jM.len_nw, jM.len_sI, jM.len_sL, jM.len_sR, jM.len_fI, jM.len_fL, jM.len_fR, *]; omega)) (by first | omega | (exact R.r _ _) | (simp only [jM.len_sI, jM.len_sL, jM.len_sR, jM.len_fI, jM.len_fL, jM.len_fR]; omega) | (simp [jM.len_nw, jM.len_sI, jM.len_sL, jM.len_sR, jM.len_fI, jM.len_fL, jM.len_fR, *]; omega)) (fun c1 => ?_) (fun c1 => ?_)
  · refine J.iload (pc' := 53) rfl rfl rfl ?_
    first | refine J.aload_n (pc' := 54) rfl rfl rfl ?_ | refine J.aload_nN (pc' := 54) rfl rfl rfl ?_
    refine J.getI (pc' := 57) rfl fl_J5_22 rfl (by first | assumption | (simp only [jM.tag_sI, jM.tag_sL, jM.tag_sR, jM.tag_fI, jM.tag_fL, jM.tag_fR]; assumption) | (simp [jM.tag_nw, jM.tag_sI, jM.tag_sL, jM.tag_sR, jM.tag_fI, jM.tag_fL, jM.tag_fR, *]; done)) rfl ?_
    rw [a4]
    refine J.ishr (2 * (h.len e : Int) + 2) (pc' := 58) rfl rfl (jI_shr0 (by constructor <;> omega)) ?_
    refine J.iret rfl rfl (by first | omega | (exact R.r _ _) | (simp only [jM.len_sI, jM.len_sL, jM.len_sR, jM.len_fI, jM.len_fL, jM.len_fR]; omega) | (simp [jM.len_nw, jM.len_sI, jM.len_sL, jM.len_sR, jM.len_fI, jM.len_fL, jM.len_fR, *]; omega)) (by first | omega | (exact R.r _ _) | (simp only [jM.len_sI, jM.len_sL, jM.len_sR, jM.len_fI, jM.len_fL, jM.len_fR]; omega) | (simp [jM.len_nw, jM.len_sI, jM.len_sL, jM.len_sR, jM.len_fI, jM.len_fL, jM.len_fR, *]; omega)) ?_
    exact ⟨rfl, rfl⟩
  · omega
/-- a byte array anew, longer -/
theorem cb_copyOf {k : Int} (te : h.tag e = 35) (hb : ∀ i, i < h.len e → -128 ≤ h.I 35 e i ∧ h.I 35 e i ≤ 127) (hk : (h.len e : Int) < k) (hk2 : k ≤ 1000) : CT γ mJ7_copyOf_9075b 1 1 k.toNat [.ref e, .int (jI k)] h (fun r h' => ∃ q, h.tag q = 0 ∧ γ.base ≤ q ∧ r = some (.ref q) ∧ h' = (h.nw q 35 k.toNat).fI 35 q (fun j => if j < h.len e then h.I 35 e j else 0)) X0 := by
  refine CT.of MJ7_copyOf_9075b (Nat.le_of_ble_eq_true rfl) ?_
  show J γ mJ7_copyOf_9075b 1 1 k.toNat 0 0 h 0 [(0, .ref e), (1, .int (jI k))] [] _ _
  refine J.iload_n (pc' := 1) rfl rfl rfl ?_
  first | refine J.aload_n (pc' := 2) rfl rfl rfl ?_ | refine J.aload_nN (pc' := 2) rfl rfl rfl ?_
  refine J.alenT (pc' := 3) rfl (by first | assumption | (simp only [jM.tag_sI, jM.tag_sL, jM.tag_sR, jM.tag_fI, jM.tag_fL, jM.tag_fR]; assumption) | (simp [jM.tag_nw, jM.tag_sI, jM.tag_sL, jM.tag_sR, jM.tag_fI, jM.tag_fL, jM.tag_fR, *]; done)) (by decide) (by decide) rfl ?_
  refine J.icmp_ne (tgt := 14) (pc' := 6) rfl rfl rfl (by first | omega | (exact R.r _ _) | (simp only [jM.len_sI, jM.len_sL, jM.len_sR, jM.len_fI, jM.len_fL, jM.len_fR]; omega) | (simp [jM.len_nw, jM.len_sI, jM.len_sL, jM.len_sR, jM.len_fI, jM.len_fL, jM.len_fR, *]; omega)) (by first | omega | (exact R.r _ _) | (simp only [jM.len_sI, jM.len_sL, jM.len_sR, jM.len_fI, jM.len_fL, jM.len_fR]; omega) | (simp [jM.len_nw, jM.len_sI, jM.len_sL, jM.len_sR, jM.len_fI, jM.len_fL, jM.len_fR, *]; omega)) (fun c1 => ?_) (fun c1 => ?_)
  · refine J.iload_n (pc' := 15) rfl rfl rfl ?_
    refine J.newa (pc' := 17) (t := 35) rfl (by decide) rfl (by decide) (List.mem_of_getElem? (i := 211) (by decide +kernel)) (by first | omega | (exact R.r _ _) | (simp only [jM.len_sI, jM.len_sL, jM.len_sR, jM.len_fI, jM.len_fL, jM.len_fR]; omega) | (simp [jM.len_nw, jM.len_sI, jM.len_sL, jM.len_sR, jM.len_fI, jM.len_fL, jM.len_fR, *]; omega)) (by first | omega | (exact R.r _ _) | (simp only [jM.len_sI, jM.len_sL, jM.len_sR, jM.len_fI, jM.len_fL, jM.len_fR]; omega) | (simp [jM.len_nw, jM.len_sI, jM.len_sL, jM.len_sR, jM.len_fI, jM.len_fL, jM.len_fR, *]; omega)) (by first | omega | (exact R.r _ _) | (simp only [jM.len_sI, jM.len_sL, jM.len_sR, jM.len_fI, jM.len_fL, jM.len_fR]; omega) | (simp [jM.len_nw, jM.len_sI, jM.len_sL, jM.len_sR, jM.len_fI, jM.len_fL, jM.len_fR, *]; omega)) (by first | omega | (exact R.r _ _) | (simp only [jM.len_sI, jM.len_sL, jM.len_sR, jM.len_fI, jM.len_fL, jM.len_fR]; omega) | (simp [jM.len_nw, jM.len_sI, jM.len_sL, jM.len_sR, jM.len_fI, jM.len_fL, jM.len_fR, *]; omega)) rfl (fun q qf qb => ?_)
    have hne : ¬ e = q := fun e1 => by rw [e1, qf] at te; cases te
    have t1 : (h.nw q 35 k.toNat).tag e = 35 := by rw [jM.tag_nw, if_neg hne, te]
    have t2 : (h.nw q 35 k.toNat).tag q = 35 := by rw [jM.tag_nw, if_pos rfl]
    have l1 : (h.nw q 35 k.toNat).len e = h.len e := by rw [jM.len_nw, if_neg hne]
    have l2 : (h.nw q 35 k.toNat).len q = k.toNat := by rw [jM.len_nw, if_pos rfl]
    first | refine J.astore_n (pc' := 18) rfl rfl (by decide) ?_ | refine J.astore_nN (pc' := 18) rfl rfl (by decide) ?_
    first | refine J.aload_n (pc' := 19) rfl rfl rfl ?_ | refine J.aload_nN (pc' := 19) rfl rfl rfl ?_
    refine J.iconst (pc' := 20) rfl rfl ?_
    first | refine J.aload_n (pc' := 21) rfl rfl rfl ?_ | refine J.aload_nN (pc' := 21) rfl rfl rfl ?_
    refine J.iconst (pc' := 22) rfl rfl ?_
    first | refine J.aload_n (pc' := 23) rfl rfl rfl ?_ | refine J.aload_nN (pc' := 23) rfl rfl rfl ?_
    refine J.alenT (pc' := 24) rfl (by first | assumption | (simp only [jM.tag_sI, jM.tag_sL, jM.tag_sR, jM.tag_fI, jM.tag_fL, jM.tag_fR]; assumption) | (simp [jM.tag_nw, jM.tag_sI, jM.tag_sL, jM.tag_sR, jM.tag_fI, jM.tag_fL, jM.tag_fR, *]; done)) (by decide) (by decide) rfl ?_
    refine J.iload_n (pc' := 25) rfl rfl rfl ?_
    rw [l1]
    refine J.callS (pc' := 28) rfl MJ9_min_7cf53 ml_J7_304 is_J9_min_7cf53 (ct_min (by omega) (by omega)) rfl rfl (Nat.le_of_ble_eq_true rfl) (by first | omega | (exact R.r _ _) | (simp only [jM.len_sI, jM.len_sL, jM.len_sR, jM.len_fI, jM.len_fL, jM.len_fR]; omega) | (simp [jM.len_nw, jM.len_sI, jM.len_sL, jM.len_sR, jM.len_fI, jM.len_fL, jM.len_fR, *]; omega)) (by first | omega | (exact R.r _ _) | (simp only [jM.len_sI, jM.len_sL, jM.len_sR, jM.len_fI, jM.len_fL, jM.len_fR]; omega) | (simp [jM.len_nw, jM.len_sI, jM.len_sL, jM.len_sR, jM.len_fI, jM.len_fL, jM.len_fR, *]; omega)) (by first | omega | (exact R.r _ _) | (simp only [jM.len_sI, jM.len_sL, jM.len_sR, jM.len_fI, jM.len_fL, jM.len_fR]; omega) | (simp [jM.len_nw, jM.len_sI, jM.len_sL, jM.len_sR, jM.len_fI, jM.len_fL, jM.len_fR, *]; omega)) rfl rfl ?_ ?_
    · exact fun _ _ h => h
    rintro _ h ⟨rfl, rfl⟩
    rw [show min (h.len e : Int) k = (h.len e : Int) by omega]
    refine J.acopyI (pc' := 31) (t0 := 35) (t := 35) rfl jAc_b t1 t2 (by decide) (by decide) rfl (by decide) rfl (by omega) (by omega) (by omega) (by omega) (by omega) (by omega) (by omega) (by omega) (fun i hi => ?_) (Or.inr qb) (by omega) (Nat.le_of_ble_eq_true rfl) rfl ?_
    · rw [jM.I_nw, if_neg (fun z => hne z.2)]
      exact fits_b (hb _ (by simp; omega))
    · first | refine J.aload_n (pc' := 32) rfl rfl rfl ?_ | refine J.aload_nN (pc' := 32) rfl rfl rfl ?_
      first | refine J.aret rfl rfl rfl (by first | omega | (exact R.r _ _) | (simp only [jM.len_sI, jM.len_sL, jM.len_sR, jM.len_fI, jM.len_fL, jM.len_fR]; omega) | (simp [jM.len_nw, jM.len_sI, jM.len_sL, jM.len_sR, jM.len_fI, jM.len_fL, jM.len_fR, *]; omega)) (by first | omega | (exact R.r _ _) | (simp only [jM.len_sI, jM.len_sL, jM.len_sR, jM.len_fI, jM.len_fL, jM.len_fR]; omega) | (simp [jM.len_nw, jM.len_sI, jM.len_sL, jM.len_sR, jM.len_fI, jM.len_fL, jM.len_fR, *]; omega)) ?_ | refine J.aretN rfl rfl rfl (by first | omega | (exact R.r _ _) | (simp only [jM.len_sI, jM.len_sL, jM.len_sR, jM.len_fI, jM.len_fL, jM.len_fR]; omega) | (simp [jM.len_nw, jM.len_sI, jM.len_sL, jM.len_sR, jM.len_fI, jM.len_fL, jM.len_fR, *]; omega)) (by first | omega | (exact R.r _ _) | (simp only [jM.len_sI, jM.len_sL, jM.len_sR, jM.len_fI, jM.len_fL, jM.len_fR]; omega) | (simp [jM.len_nw, jM.len_sI, jM.len_sL, jM.len_sR, jM.len_fI, jM.len_fL, jM.len_fR, *]; omega)) ?_
      refine ⟨q, qf, qb, rfl, ?_⟩
      congr 1
      funext j
      unfold va_cpy
      by_cases hj : j < h.len e
      · rw [if_pos (by simp; omega), if_pos hj, jM.I_nw, if_neg (fun z => hne z.2)]
        simp
      · rw [if_neg (by simp; omega), if_neg hj, jM.I_nw, if_pos ⟨rfl, rfl⟩]
  · omega
/-- room for one more sign -/
theorem cb_ensure {k : Int} (hS : isSB γ h a e n T) (hk : 0 ≤ k ∧ k ≤ (h.len e : Int) + 1) (hk2 : k ≤ 574) : CT γ mJ5_ensureCapacityInternal_d00df 3 1 574 [.ref a, .int (jI k)] h (fun r h' => r = none ∧ ∃ e', isSB γ h' a e' n T ∧ k ≤ (h'.len e' : Int) ∧ Fr h h' (fun b => b = a ∨ b = e) ∧ Nt h h' [35] ∧ (e' = e ∨ h.tag e' = 0)) X0 := by
  have hS0 := hS
  obtain ⟨a1, a2, a3, a4, a5, a6, a7, a8, a9, a10, a11⟩ := hS0
  refine CT.of MJ5_ensureCapacityInternal_d00df (Nat.le_of_ble_eq_true rfl) ?_
  show J γ mJ5_ensureCapacityInternal_d00df 3 1 574 0 0 h 0 [(0, .ref a), (1, .int (jI k))] [] _ _
  first | refine J.aload_n (pc' := 1) rfl rfl rfl ?_ | refine J.aload_nN (pc' := 1) rfl rfl rfl ?_
  first | refine J.getR (pc' := 4) rfl fl_J5_15 rfl (by first | assumption | (simp only [jM.tag_sI, jM.tag_sL, jM.tag_sR, jM.tag_fI, jM.tag_fL, jM.tag_fR]; assumption) | (simp [jM.tag_nw, jM.tag_sI, jM.tag_sL, jM.tag_sR, jM.tag_fI, jM.tag_fL, jM.tag_fR, *]; done)) (by first | assumption | (simp only [jM.R_sI, jM.R_sL, jM.R_fI, jM.R_fL]; assumption) | (simp [jM.R_nw, jM.R_sR, jM.R_fR, jM.R_sI, jM.R_sL, jM.R_fI, jM.R_fL, *]; done)) rfl ?_ | refine J.getRN (pc' := 4) rfl fl_J5_15 rfl (by first | assumption | (simp only [jM.tag_sI, jM.tag_sL, jM.tag_sR, jM.tag_fI, jM.tag_fL, jM.tag_fR]; assumption) | (simp [jM.tag_nw, jM.tag_sI, jM.tag_sL, jM.tag_sR, jM.tag_fI, jM.tag_fL, jM.tag_fR, *]; done)) (by first | assumption | (simp only [jM.R_sI, jM.R_sL, jM.R_fI, jM.R_fL]; assumption) | (simp [jM.R_nw, jM.R_sR, jM.R_fR, jM.R_sI, jM.R_sL, jM.R_fI, jM.R_fL, *]; done)) rfl ?_
  refine J.alenT (pc' := 5) rfl (by first | assumption | (simp only [jM.tag_sI, jM.tag_sL, jM.tag_sR, jM.tag_fI, jM.tag_fL, jM.tag_fR]; assumption) | (simp [jM.tag_nw, jM.tag_sI, jM.tag_sL, jM.tag_sR, jM.tag_fI, jM.tag_fL, jM.tag_fR, *]; done)) (by decide) (by decide) rfl ?_
  first | refine J.aload_n (pc' := 6) rfl rfl rfl ?_ | refine J.aload_nN (pc' := 6) rfl rfl rfl ?_
  refine J.getI (pc' := 9) rfl fl_J5_22 rfl (by first | assumption | (simp only [jM.tag_sI, jM.tag_sL, jM.tag_sR, jM.tag_fI, jM.tag_fL, jM.tag_fR]; assumption) | (simp [jM.tag_nw, jM.tag_sI, jM.tag_sL, jM.tag_sR, jM.tag_fI, jM.tag_fL, jM.tag_fR, *]; done)) rfl ?_
  rw [a4]
  refine J.ishr (h.len e : Int) (pc' := 10) rfl rfl (jI_shr0 (by constructor <;> omega)) ?_
  refine J.istore_n (pc' := 11) rfl rfl (by decide) ?_
  refine J.iload_n (pc' := 12) rfl rfl rfl ?_
  refine J.iload_n (pc' := 13) rfl rfl rfl ?_
  refine J.isub (pc' := 14) rfl rfl ?_
  refine J.if_le (tgt := 38) (pc' := 17) rfl rfl rfl (by first | omega | (exact R.r _ _) | (simp only [jM.len_sI, jM.len_sL, jM.len_sR, jM.len_fI, jM.len_fL, jM.len_fR]; omega) | (simp [jM.len_nw, jM.len_sI, jM.len_sL, jM.len_sR, jM.len_fI, jM.len_fL, jM.len_fR, *]; omega)) (fun c1 => ?_) (fun c1 => ?_)
  · refine J.vret rfl rfl (by first | omega | (exact R.r _ _) | (simp only [jM.len_sI, jM.len_sL, jM.len_sR, jM.len_fI, jM.len_fL, jM.len_fR]; omega) | (simp [jM.len_nw, jM.len_sI, jM.len_sL, jM.len_sR, jM.len_fI, jM.len_fL, jM.len_fR, *]; omega)) (by first | omega | (exact R.r _ _) | (simp only [jM.len_sI, jM.len_sL, jM.len_sR, jM.len_fI, jM.len_fL, jM.len_fR]; omega) | (simp [jM.len_nw, jM.len_sI, jM.len_sL, jM.len_sR, jM.len_fI, jM.len_fL, jM.len_fR, *]; omega)) ?_
    exact ⟨rfl, e, hS, by omega, Fr.rf, Nt.rf, Or.inl rfl⟩
  · first | refine J.aload_n (pc' := 18) rfl rfl rfl ?_ | refine J.aload_nN (pc' := 18) rfl rfl rfl ?_
    first | refine J.aload_n (pc' := 19) rfl rfl rfl ?_ | refine J.aload_nN (pc' := 19) rfl rfl rfl ?_
    first | refine J.getR (pc' := 22) rfl fl_J5_15 rfl (by first | assumption | (simp only [jM.tag_sI, jM.tag_sL, jM.tag_sR, jM.tag_fI, jM.tag_fL, jM.tag_fR]; assumption) | (simp [jM.tag_nw, jM.tag_sI, jM.tag_sL, jM.tag_sR, jM.tag_fI, jM.tag_fL, jM.tag_fR, *]; done)) (by first | assumption | (simp only [jM.R_sI, jM.R_sL, jM.R_fI, jM.R_fL]; assumption) | (simp [jM.R_nw, jM.R_sR, jM.R_fR, jM.R_sI, jM.R_sL, jM.R_fI, jM.R_fL, *]; done)) rfl ?_ | refine J.getRN (pc' := 22) rfl fl_J5_15 rfl (by first | assumption | (simp only [jM.tag_sI, jM.tag_sL, jM.tag_sR, jM.tag_fI, jM.tag_fL, jM.tag_fR]; assumption) | (simp [jM.tag_nw, jM.tag_sI, jM.tag_sL, jM.tag_sR, jM.tag_fI, jM.tag_fL, jM.tag_fR, *]; done)) (by first | assumption | (simp only [jM.R_sI, jM.R_sL, jM.R_fI, jM.R_fL]; assumption) | (simp [jM.R_nw, jM.R_sR, jM.R_fR, jM.R_sI, jM.R_sL, jM.R_fI, jM.R_fL, *]; done)) rfl ?_
    first | refine J.aload_n (pc' := 23) rfl rfl rfl ?_ | refine J.aload_nN (pc' := 23) rfl rfl rfl ?_
    refine J.iload_n (pc' := 24) rfl rfl rfl ?_
    refine J.callVP (pc' := 27) (t := 2) (C := "java/lang/StringBuilder") (z := yJ5_isLatin1_aae02) rfl MJ5_newCapacity_0f7a4 ml_J5_104 ip_J5_newCapacity_0f7a4.1 ip_J5_newCapacity_0f7a4.2 jSBins iq_J5_isLatin1_aae02.2 rfl iq_J5_isLatin1_aae02.1 (by decide) ⟨_, rfl, rfl⟩ (by first | assumption | (simp only [jM.tag_sI, jM.tag_sL, jM.tag_sR, jM.tag_fI, jM.tag_fL, jM.tag_fR]; assumption) | (simp [jM.tag_nw, jM.tag_sI, jM.tag_sL, jM.tag_sR, jM.tag_fI, jM.tag_fL, jM.tag_fR, *]; done)) (cb_newCap hS (by omega)) rfl rfl (Nat.le_of_ble_eq_true rfl) (by first | omega | (exact R.r _ _) | (simp only [jM.len_sI, jM.len_sL, jM.len_sR, jM.len_fI, jM.len_fL, jM.len_fR]; omega) | (simp [jM.len_nw, jM.len_sI, jM.len_sL, jM.len_sR, jM.len_fI, jM.len_fL, jM.len_fR, *]; omega)) (by first | omega | (exact R.r _ _) | (simp only [jM.len_sI, jM.len_sL, jM.len_sR, jM.len_fI, jM.len_fL, jM.len_fR]; omega) | (simp [jM.len_nw, jM.len_sI, jM.len_sL, jM.len_sR, jM.len_fI, jM.len_fL, jM.len_fR, *]; omega)) (by first | omega | (exact R.r _ _) | (simp only [jM.len_sI, jM.len_sL, jM.len_sR, jM.len_fI, jM.len_fL, jM.len_fR]; omega) | (simp [jM.len_nw, jM.len_sI, jM.len_sL, jM.len_sR, jM.len_fI, jM.len_fL, jM.len_fR, *]; omega)) rfl rfl ?_ ?_
    · exact fun _ _ h => h
    rintro _ h ⟨rfl, rfl⟩
    first | refine J.aload_n (pc' := 28) rfl rfl rfl ?_ | refine J.aload_nN (pc' := 28) rfl rfl rfl ?_
    refine J.getI (pc' := 31) rfl fl_J5_22 rfl (by first | assumption | (simp only [jM.tag_sI, jM.tag_sL, jM.tag_sR, jM.tag_fI, jM.tag_fL, jM.tag_fR]; assumption) | (simp [jM.tag_nw, jM.tag_sI, jM.tag_sL, jM.tag_sR, jM.tag_fI, jM.tag_fL, jM.tag_fR, *]; done)) rfl ?_
    rw [a4]
    refine J.ishl (2 * (h.len e : Int) + 2) (pc' := 32) rfl rfl (jI_shl0 _) ?_
    refine J.widen (cells' := 0) (slots' := 574 - (2 * (h.len e : Int) + 2).toNat) (by omega) (by omega) ?_
    refine J.callS (pc' := 35) rfl MJ7_copyOf_9075b ml_J5_108 is_J7_copyOf_9075b (cb_copyOf (k := 2 * (h.len e : Int) + 2) a3 a10 (by omega) (by omega)) rfl rfl (Nat.le_of_ble_eq_true rfl) (by first | omega | (exact R.r _ _) | (simp only [jM.len_sI, jM.len_sL, jM.len_sR, jM.len_fI, jM.len_fL, jM.len_fR]; omega) | (simp [jM.len_nw, jM.len_sI, jM.len_sL, jM.len_sR, jM.len_fI, jM.len_fL, jM.len_fR, *]; omega)) (by first | omega | (exact R.r _ _) | (simp only [jM.len_sI, jM.len_sL, jM.len_sR, jM.len_fI, jM.len_fL, jM.len_fR]; omega) | (simp [jM.len_nw, jM.len_sI, jM.len_sL, jM.len_sR, jM.len_fI, jM.len_fL, jM.len_fR, *]; omega)) (by first | omega | (exact R.r _ _) | (simp only [jM.len_sI, jM.len_sL, jM.len_sR, jM.len_fI, jM.len_fL, jM.len_fR]; omega) | (simp [jM.len_nw, jM.len_sI, jM.len_sL, jM.len_sR, jM.len_fI, jM.len_fL, jM.len_fR, *]; omega)) rfl rfl ?_ ?_
    · exact fun _ _ h => h
    rintro _ _ ⟨q, qf, qb, rfl, rfl⟩
    have hne : ¬ a = q := fun e1 => by rw [e1, qf] at a1; cases a1
    have ta : ((h.nw q 35 (2 * (h.len e : Int) + 2).toNat).fI 35 q (fun j => if j < h.len e then h.I 35 e j else 0)).tag a = 2 := by rw [jM.tag_fI, jM.tag_nw, if_neg hne]; exact a1
    first | refine J.putR (pc' := 38) rfl fl_J5_15 rfl (Or.inl rfl) (by first | assumption | (simp only [jM.tag_sI, jM.tag_sL, jM.tag_sR, jM.tag_fI, jM.tag_fL, jM.tag_fR]; assumption) | (simp [jM.tag_nw, jM.tag_sI, jM.tag_sL, jM.tag_sR, jM.tag_fI, jM.tag_fL, jM.tag_fR, *]; done)) (Or.inl rfl) rfl ?_ | refine J.putRN (pc' := 38) rfl fl_J5_15 rfl (Or.inl rfl) (by first | assumption | (simp only [jM.tag_sI, jM.tag_sL, jM.tag_sR, jM.tag_fI, jM.tag_fL, jM.tag_fR]; assumption) | (simp [jM.tag_nw, jM.tag_sI, jM.tag_sL, jM.tag_sR, jM.tag_fI, jM.tag_fL, jM.tag_fR, *]; done)) (Or.inl rfl) rfl ?_
    refine J.vret rfl rfl (by first | omega | (exact R.r _ _) | (simp only [jM.len_sI, jM.len_sL, jM.len_sR, jM.len_fI, jM.len_fL, jM.len_fR]; omega) | (simp [jM.len_nw, jM.len_sI, jM.len_sL, jM.len_sR, jM.len_fI, jM.len_fL, jM.len_fR, *]; omega)) (by first | omega | (exact R.r _ _) | (simp only [jM.len_sI, jM.len_sL, jM.len_sR, jM.len_fI, jM.len_fL, jM.len_fR]; omega) | (simp [jM.len_nw, jM.len_sI, jM.len_sL, jM.len_sR, jM.len_fI, jM.len_fL, jM.len_fR, *]; omega)) ?_
    have lq : (((h.nw q 35 (2 * (h.len e : Int) + 2).toNat).fI 35 q (fun j => if j < h.len e then h.I 35 e j else 0)).sR 2 a 0 (some q)).len q = 2 * h.len e + 2 := by
      rw [jM.len_sR, jM.len_fI, jM.len_nw, if_pos rfl]; omega
    have iq : ∀ j, (((h.nw q 35 (2 * (h.len e : Int) + 2).toNat).fI 35 q (fun j => if j < h.len e then h.I 35 e j else 0)).sR 2 a 0 (some q)).I 35 q j = if j < h.len e then h.I 35 e j else 0 := fun j => by
      rw [jM.I_sR, jM.I_fI, if_pos ⟨rfl, rfl⟩]
    have ia : ∀ j, (((h.nw q 35 (2 * (h.len e : Int) + 2).toNat).fI 35 q (fun j => if j < h.len e then h.I 35 e j else 0)).sR 2 a 0 (some q)).I 2 a j = h.I 2 a j := fun j => by
      rw [jM.I_sR, jM.I_fI, if_neg (by omega), jM.I_nw, if_neg (by omega)]
    refine ⟨rfl, q, ⟨ta, by rw [jM.R_sR, if_pos ⟨rfl, rfl, rfl⟩], ?_, by rw [ia]; exact a4, by rw [ia]; exact a5, a6, by rw [lq]; omega, by rw [lq]; omega, qb, fun i hi => ?_, fun i hi => ?_⟩, by rw [lq]; omega, ?_, ?_, Or.inr qf⟩
    · rw [jM.tag_sR, jM.tag_fI, jM.tag_nw, if_pos rfl]
    · rw [iq]
      split
      · rename_i z; exact a10 i z
      · omega
    · rw [iq, if_pos (by omega)]
      exact a11 i hi
    · refine Fr.stR (Fr.stFI (Fr.stN Fr.rf qf) (Or.inr qf)) (Or.inl (Or.inl rfl))
    · exact (Nt.stN (q := q) (t := 35) (n := (2 * (h.len e : Int) + 2).toNat) Nt.rf (by simp)).st rfl
end SB

