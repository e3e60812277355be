section SC
variable {γ : jG} {h : jM} {a e : Nat} {n : Int} {T : Int → Int}
theorem bmod_b {c : Int} (hc : 0 ≤ c ∧ c < 256) : c.bmod 256 = sb8 c := by
  unfold sb8
  split
  · exact Int.bmod_eq_of_le (by omega) (by omega)
  · rw [← Int.sub_bmod_right]
    exact Int.bmod_eq_of_le (by omega) (by omega)
/-- one more sign -/
def apT (T : Int → Int) (n c : Int) : Int → Int := fun i => if i = n then c else T i
def apQ (γ : jG) (h : jM) (a e : Nat) (n c : Int) (T : Int → Int) : Option Value → jM → Prop := fun r h' => r = some (.ref a) ∧ ∃ e', isSB γ h' a e' (n + 1) (apT T n c) ∧ Fr h h' (fun b => b = a ∨ b = e) ∧ Nt h h' [35] ∧ (e' = e ∨ h.tag e' = 0)
theorem cb_append0 {c : Int} (hS : isSB γ h a e n T) (hc : 0 ≤ c ∧ c < 256) (hn : n < 574) : CT γ mJ5_append_3fe6f 4 1 574 [.ref a, .int (jI c)] h (apQ γ h a e n c T) X0 := by
  have hS0 := hS
  obtain ⟨a1, a2, a3, a4, a5, a6, a7, -⟩ := hS0
  refine CT.of MJ5_append_3fe6f (Nat.le_of_ble_eq_true rfl) ?_
  show J γ mJ5_append_3fe6f 4 1 574 0 0 h 0 [(0, .ref a), (1, .int (jI c))] [] _ _
  first | refine J.aload_n (pc' := 1) rfl rfl rfl ?_ | refine J.aload_nN (pc' := 1) rfl rfl rfl ?_
  first | refine J.aload_n (pc' := 2) rfl rfl rfl ?_ | refine J.aload_nN (pc' := 2) rfl rfl rfl ?_
  refine J.getI (pc' := 5) rfl fl_J5_79 rfl (by first | assumption | (simp only [jM.tag_sI, jM.tag_sL, jM.tag_sR, jM.tag_fI, jM.tag_fL, jM.tag_fR]; assumption) | (simp [jM.tag_nw, jM.tag_sI, jM.tag_sL, jM.tag_sR, jM.tag_fI, jM.tag_fL, jM.tag_fR, *]; done)) rfl ?_
  refine J.iconst (pc' := 6) rfl rfl ?_
  refine J.iadd (pc' := 7) rfl rfl ?_
  rw [a5]
  refine J.callVP (pc' := 10) (t := 2) (C := "java/lang/StringBuilder") (z := yJ5_isLatin1_aae02) rfl MJ5_ensureCapacityInternal_d00df ml_J5_100 ip_J5_ensureCapacityInternal_d00df.1 ip_J5_ensureCapacityInternal_d00df.2 jSBins iq_J5_isLatin1_aae02.2 rfl iq_J5_isLatin1_aae02.1 (by decide) ⟨_, rfl, rfl⟩ (by first | assumption | (simp only [jM.tag_sI, jM.tag_sL, jM.tag_sR, jM.tag_fI, jM.tag_fL, jM.tag_fR]; assumption) | (simp [jM.tag_nw, jM.tag_sI, jM.tag_sL, jM.tag_sR, jM.tag_fI, jM.tag_fL, jM.tag_fR, *]; done)) (cb_ensure hS (by omega) (by omega)) rfl rfl (Nat.le_of_ble_eq_true rfl) (by first | omega | (exact R.r _ _) | (simp only [jM.len_sI, jM.len_sL, jM.len_sR, jM.len_fI, jM.len_fL, jM.len_fR]; omega) | (simp [jM.len_nw, jM.len_sI, jM.len_sL, jM.len_sR, jM.len_fI, jM.len_fL, jM.len_fR, *]; omega)) (by first | omega | (exact R.r _ _) | (simp only [jM.len_sI, jM.len_sL, jM.len_sR, jM.len_fI, jM.len_fL, jM.len_fR]; omega) | (simp [jM.len_nw, jM.len_sI, jM.len_sL, jM.len_sR, jM.len_fI, jM.len_fL, jM.len_fR, *]; omega)) (by first | omega | (exact R.r _ _) | (simp only [jM.len_sI, jM.len_sL, jM.len_sR, jM.len_fI, jM.len_fL, jM.len_fR]; omega) | (simp [jM.len_nw, jM.len_sI, jM.len_sL, jM.len_sR, jM.len_fI, jM.len_fL, jM.len_fR, *]; omega)) rfl rfl ?_ ?_
  · exact fun _ _ h => h
  rintro _ k1 ⟨rfl, e1, hS1, hl1, F1, N1, he1⟩
  have hS10 := hS1
  obtain ⟨b1, b2, b3, b4, b5, b6, b7, b8, b9, b10, b11⟩ := hS10
  first | refine J.aload_n (pc' := 11) rfl rfl rfl ?_ | refine J.aload_nN (pc' := 11) rfl rfl rfl ?_
  refine J.callVU (pc' := 14) (t := 2) (C := "java/lang/StringBuilder") rfl MJ5_isLatin1_aae02 ml_J5_83 iq_J5_isLatin1_aae02 (by decide) ⟨_, rfl, rfl⟩ (by first | assumption | (simp only [jM.tag_sI, jM.tag_sL, jM.tag_sR, jM.tag_fI, jM.tag_fL, jM.tag_fR]; assumption) | (simp [jM.tag_nw, jM.tag_sI, jM.tag_sL, jM.tag_sR, jM.tag_fI, jM.tag_fL, jM.tag_fR, *]; done)) (cb_isLatin1 hS1) rfl rfl (Nat.le_of_ble_eq_true rfl) (by first | omega | (exact R.r _ _) | (simp only [jM.len_sI, jM.len_sL, jM.len_sR, jM.len_fI, jM.len_fL, jM.len_fR]; omega) | (simp [jM.len_nw, jM.len_sI, jM.len_sL, jM.len_sR, jM.len_fI, jM.len_fL, jM.len_fR, *]; omega)) (by first | omega | (exact R.r _ _) | (simp only [jM.len_sI, jM.len_sL, jM.len_sR, jM.len_fI, jM.len_fL, jM.len_fR]; omega) | (simp [jM.len_nw, jM.len_sI, jM.len_sL, jM.len_sR, jM.len_fI, jM.len_fL, jM.len_fR, *]; omega)) (by first | omega | (exact R.r _ _) | (simp only [jM.len_sI, jM.len_sL, jM.len_sR, jM.len_fI, jM.len_fL, jM.len_fR]; omega) | (simp [jM.len_nw, jM.len_sI, jM.len_sL, jM.len_sR, jM.len_fI, jM.len_fL, jM.len_fR, *]; omega)) rfl rfl ?_ ?_
  · exact fun _ _ h => h
  rintro _ k1 ⟨rfl, rfl⟩
  refine J.if_eq (tgt := 45) (pc' := 17) rfl rfl rfl (by first | omega | (exact R.r _ _) | (simp only [jM.len_sI, jM.len_sL, jM.len_sR, jM.len_fI, jM.len_fL, jM.len_fR]; omega) | (simp [jM.len_nw, jM.len_sI, jM.len_sL, jM.len_sR, jM.len_fI, jM.len_fL, jM.len_fR, *]; omega)) (fun c1 => ?_) (fun c1 => ?_)
  · omega
  · refine J.iload_n (pc' := 18) rfl rfl rfl ?_
    refine J.callS (pc' := 21) rfl MJ1_canEncode_fc78d ml_J5_191 is_J1_canEncode_fc78d (cb_canEncode hc) rfl rfl (Nat.le_of_ble_eq_true rfl) (by first | omega | (exact R.r _ _) | (simp only [jM.len_sI, jM.len_sL, jM.len_sR, jM.len_fI, jM.len_fL, jM.len_fR]; omega) | (simp [jM.len_nw, jM.len_sI, jM.len_sL, jM.len_sR, jM.len_fI, jM.len_fL, jM.len_fR, *]; omega)) (by first | omega | (exact R.r _ _) | (simp only [jM.len_sI, jM.len_sL, jM.len_sR, jM.len_fI, jM.len_fL, jM.len_fR]; omega) | (simp [jM.len_nw, jM.len_sI, jM.len_sL, jM.len_sR, jM.len_fI, jM.len_fL, jM.len_fR, *]; omega)) (by first | omega | (exact R.r _ _) | (simp only [jM.len_sI, jM.len_sL, jM.len_sR, jM.len_fI, jM.len_fL, jM.len_fR]; omega) | (simp [jM.len_nw, jM.len_sI, jM.len_sL, jM.len_sR, jM.len_fI, jM.len_fL, jM.len_fR, *]; omega)) rfl rfl ?_ ?_
    · exact fun _ _ h => h
    rintro _ k1 ⟨rfl, rfl⟩
    refine J.if_eq (tgt := 45) (pc' := 24) rfl rfl rfl (by first | omega | (exact R.r _ _) | (simp only [jM.len_sI, jM.len_sL, jM.len_sR, jM.len_fI, jM.len_fL, jM.len_fR]; omega) | (simp [jM.len_nw, jM.len_sI, jM.len_sL, jM.len_sR, jM.len_fI, jM.len_fL, jM.len_fR, *]; omega)) (fun c2 => ?_) (fun c2 => ?_)
    · omega
    · first | refine J.aload_n (pc' := 25) rfl rfl rfl ?_ | refine J.aload_nN (pc' := 25) rfl rfl rfl ?_
      first | refine J.getR (pc' := 28) rfl fl_J5_15 rfl (by first | assumption | (simp only [jM.tag_sI, jM.tag_sL, jM.tag_sR, jM.tag_fI, jM.tag_fL, jM.tag_fR]; assumption) | (simp [jM.tag_nw, jM.tag_sI, jM.tag_sL, jM.tag_sR, jM.tag_fI, jM.tag_fL, jM.tag_fR, *]; done)) (by first | assumption | (simp only [jM.R_sI, jM.R_sL, jM.R_fI, jM.R_fL]; assumption) | (simp [jM.R_nw, jM.R_sR, jM.R_fR, jM.R_sI, jM.R_sL, jM.R_fI, jM.R_fL, *]; done)) rfl ?_ | refine J.getRN (pc' := 28) rfl fl_J5_15 rfl (by first | assumption | (simp only [jM.tag_sI, jM.tag_sL, jM.tag_sR, jM.tag_fI, jM.tag_fL, jM.tag_fR]; assumption) | (simp [jM.tag_nw, jM.tag_sI, jM.tag_sL, jM.tag_sR, jM.tag_fI, jM.tag_fL, jM.tag_fR, *]; done)) (by first | assumption | (simp only [jM.R_sI, jM.R_sL, jM.R_fI, jM.R_fL]; assumption) | (simp [jM.R_nw, jM.R_sR, jM.R_fR, jM.R_sI, jM.R_sL, jM.R_fI, jM.R_fL, *]; done)) rfl ?_
      first | refine J.aload_n (pc' := 29) rfl rfl rfl ?_ | refine J.aload_nN (pc' := 29) rfl rfl rfl ?_
      refine J.dup (pc' := 30) rfl rfl rfl ?_
      refine J.getI (pc' := 33) rfl fl_J5_79 rfl (by first | assumption | (simp only [jM.tag_sI, jM.tag_sL, jM.tag_sR, jM.tag_fI, jM.tag_fL, jM.tag_fR]; assumption) | (simp [jM.tag_nw, jM.tag_sI, jM.tag_sL, jM.tag_sR, jM.tag_fI, jM.tag_fL, jM.tag_fR, *]; done)) rfl ?_
      refine J.dup_x1 (pc' := 34) rfl rfl rfl rfl ?_
      refine J.iconst (pc' := 35) rfl rfl ?_
      refine J.iadd (pc' := 36) rfl rfl ?_
      refine J.putI (pc' := 39) rfl fl_J5_79 rfl (Or.inl rfl) (by first | assumption | (simp only [jM.tag_sI, jM.tag_sL, jM.tag_sR, jM.tag_fI, jM.tag_fL, jM.tag_fR]; assumption) | (simp [jM.tag_nw, jM.tag_sI, jM.tag_sL, jM.tag_sR, jM.tag_fI, jM.tag_fL, jM.tag_fR, *]; done)) (Or.inl rfl) rfl ?_
      refine J.iload_n (pc' := 40) rfl rfl rfl ?_
      refine J.i2b (pc' := 41) rfl rfl ?_
      rw [b5, bmod_b hc]
      have sbb := sb8_b hc
      have hae : ¬ a = e1 := fun z => by rw [z] at b1; omega
      refine J.bast (pc' := 42) (t := 35) rfl b3 (by decide) rfl (narrow_b sbb) b6 (by show n < (k1.len e1 : Int); omega) (by omega) (Or.inr b9) rfl ?_
      refine J.goto (tgt := 75) rfl rfl ?_
      first | refine J.aload_n (pc' := 76) rfl rfl rfl ?_ | refine J.aload_nN (pc' := 76) rfl rfl rfl ?_
      first | refine J.aret rfl rfl rfl (by first | omega | (exact R.r _ _) | (simp only [jM.len_sI, jM.len_sL, jM.len_sR, jM.len_fI, jM.len_fL, jM.len_fR]; omega) | (simp [jM.len_nw, jM.len_sI, jM.len_sL, jM.len_sR, jM.len_fI, jM.len_fL, jM.len_fR, *]; omega)) (by first | omega | (exact R.r _ _) | (simp only [jM.len_sI, jM.len_sL, jM.len_sR, jM.len_fI, jM.len_fL, jM.len_fR]; omega) | (simp [jM.len_nw, jM.len_sI, jM.len_sL, jM.len_sR, jM.len_fI, jM.len_fL, jM.len_fR, *]; omega)) ?_ | refine J.aretN rfl rfl rfl (by first | omega | (exact R.r _ _) | (simp only [jM.len_sI, jM.len_sL, jM.len_sR, jM.len_fI, jM.len_fL, jM.len_fR]; omega) | (simp [jM.len_nw, jM.len_sI, jM.len_sL, jM.len_sR, jM.len_fI, jM.len_fL, jM.len_fR, *]; omega)) (by first | omega | (exact R.r _ _) | (simp only [jM.len_sI, jM.len_sL, jM.len_sR, jM.len_fI, jM.len_fL, jM.len_fR]; omega) | (simp [jM.len_nw, jM.len_sI, jM.len_sL, jM.len_sR, jM.len_fI, jM.len_fL, jM.len_fR, *]; omega)) ?_
      refine ⟨rfl, e1, ⟨b1, ?_, b3, ?_, ?_, by omega, by show n + 1 ≤ (k1.len e1 : Int); omega, b8, b9, fun i hi => ?_, fun i hi => ?_⟩, ?_, ?_, he1⟩
      · exact b2
      · rw [jM.I_sI, if_neg (by omega), jM.I_sI, if_neg (by omega)]; exact b4
      · rw [jM.I_sI, if_neg (by omega), jM.I_sI, if_pos ⟨rfl, rfl, rfl⟩]
      · rw [jM.I_sI]
        split
        · exact sbb
        · rw [jM.I_sI, if_neg (by omega)]
          exact b10 i hi
      · rw [jM.I_sI]
        unfold apT
        by_cases z : (i : Int) = n
        · rw [if_pos ⟨rfl, rfl, by omega⟩, if_pos z]
          exact ⟨rfl, hc⟩
        · rw [if_neg (by omega), if_neg z, jM.I_sI, if_neg (by omega)]
          exact b11 i (by omega)
      · have F2 : Fr k1 ((k1.sI 2 a 3 (n + 1)).sI 35 e1 n.toNat (sb8 c)) (fun b => b = a ∨ b = e1) := by
          refine Fr.stI (Fr.stI Fr.rf ?_) ?_
          · exact Or.inl (Or.inl rfl)
          · exact Or.inl (Or.inr rfl)
        exact F1.trans F2 (fun b hb z => by
          rcases z with z | z | z
          · exact z
          · exact Or.inl z
          · rcases he1 with y | y
            · exact Or.inr (by rw [z, y])
            · rw [z] at hb; exact absurd y hb)
      · exact N1.st rfl
theorem cb_append {c : Int} (hS : isSB γ h a e n T) (hc : 0 ≤ c ∧ c < 256) (hn : n < 574) : CT γ mJ4_append_cf468 5 1 574 [.ref a, .int (jI c)] h (apQ γ h a e n c T) X0 := by
  have a1 := hS.1
  refine CT.of MJ4_append_cf468 (Nat.le_of_ble_eq_true rfl) ?_
  show J γ mJ4_append_cf468 5 1 574 0 0 h 0 [(0, .ref a), (1, .int (jI c))] [] _ _
  first | refine J.aload_n (pc' := 1) rfl rfl rfl ?_ | refine J.aload_nN (pc' := 1) rfl rfl rfl ?_
  refine J.iload_n (pc' := 2) rfl rfl rfl ?_
  refine J.callSup (pc' := 5) (t := 2) (C := "java/lang/StringBuilder") rfl MJ5_append_3fe6f ml_J4_50 iu_J5_append_3fe6f.2 jSBsup iu_J5_append_3fe6f.1 (by decide) (by decide) ⟨_, rfl, rfl⟩ (by first | assumption | (simp only [jM.tag_sI, jM.tag_sL, jM.tag_sR, jM.tag_fI, jM.tag_fL, jM.tag_fR]; assumption) | (simp [jM.tag_nw, jM.tag_sI, jM.tag_sL, jM.tag_sR, jM.tag_fI, jM.tag_fL, jM.tag_fR, *]; done)) (cb_append0 hS hc hn) rfl rfl (Nat.le_of_ble_eq_true rfl) (by first | omega | (exact R.r _ _) | (simp only [jM.len_sI, jM.len_sL, jM.len_sR, jM.len_fI, jM.len_fL, jM.len_fR]; omega) | (simp [jM.len_nw, jM.len_sI, jM.len_sL, jM.len_sR, jM.len_fI, jM.len_fL, jM.len_fR, *]; omega)) (by first | omega | (exact R.r _ _) | (simp only [jM.len_sI, jM.len_sL, jM.len_sR, jM.len_fI, jM.len_fL, jM.len_fR]; omega) | (simp [jM.len_nw, jM.len_sI, jM.len_sL, jM.len_sR, jM.len_fI, jM.len_fL, jM.len_fR, *]; omega)) (by first | omega | (exact R.r _ _) | (simp only [jM.len_sI, jM.len_sL, jM.len_sR, jM.len_fI, jM.len_fL, jM.len_fR]; omega) | (simp [jM.len_nw, jM.len_sI, jM.len_sL, jM.len_sR, jM.len_fI, jM.len_fL, jM.len_fR, *]; omega)) rfl ?_
  rintro _ k1 ⟨rfl, hq⟩
  refine J.pop (pc' := 6) rfl rfl rfl ?_
  first | refine J.aload_n (pc' := 7) rfl rfl rfl ?_ | refine J.aload_nN (pc' := 7) rfl rfl rfl ?_
  first | refine J.aret rfl rfl rfl (by first | omega | (exact R.r _ _) | (simp only [jM.len_sI, jM.len_sL, jM.len_sR, jM.len_fI, jM.len_fL, jM.len_fR]; omega) | (simp [jM.len_nw, jM.len_sI, jM.len_sL, jM.len_sR, jM.len_fI, jM.len_fL, jM.len_fR, *]; omega)) (by first | omega | (exact R.r _ _) | (simp only [jM.len_sI, jM.len_sL, jM.len_sR, jM.len_fI, jM.len_fL, jM.len_fR]; omega) | (simp [jM.len_nw, jM.len_sI, jM.len_sL, jM.len_sR, jM.len_fI, jM.len_fL, jM.len_fR, *]; omega)) ?_ | refine J.aretN rfl rfl rfl (by first | omega | (exact R.r _ _) | (simp only [jM.len_sI, jM.len_sL, jM.len_sR, jM.len_fI, jM.len_fL, jM.len_fR]; omega) | (simp [jM.len_nw, jM.len_sI, jM.len_sL, jM.len_sR, jM.len_fI, jM.len_fL, jM.len_fR, *]; omega)) (by first | omega | (exact R.r _ _) | (simp only [jM.len_sI, jM.len_sL, jM.len_sR, jM.len_fI, jM.len_fL, jM.len_fR]; omega) | (simp [jM.len_nw, jM.len_sI, jM.len_sL, jM.len_sR, jM.len_fI, jM.len_fL, jM.len_fR, *]; omega)) ?_
  exact ⟨rfl, hq⟩
def slQ (γ : jG) (h : jM) (a e : Nat) : Option Value → jM → Prop := fun r h' => r = none ∧ ∃ e', isSB γ h' a e' 0 (fun _ => 0) ∧ Fr h h' (fun b => b = a ∨ b = e) ∧ Nt h h' [35] ∧ (e' = e ∨ h.tag e' = 0)
theorem cb_set0 (hS : isSB γ h a e n T) : CT γ mJ5_setLength_d00df 4 1 574 [.ref a, .int (jI 0)] h (slQ γ h a e) X0 := by
  have a1 := hS.1
  refine CT.of MJ5_setLength_d00df (Nat.le_of_ble_eq_true rfl) ?_
  show J γ mJ5_setLength_d00df 4 1 574 0 0 h 0 [(0, .ref a), (1, .int (jI 0))] [] _ _
  refine J.iload_n (pc' := 1) rfl rfl rfl ?_
  refine J.if_ge (tgt := 13) (pc' := 4) rfl rfl rfl (by first | omega | (exact R.r _ _) | (simp only [jM.len_sI, jM.len_sL, jM.len_sR, jM.len_fI, jM.len_fL, jM.len_fR]; omega) | (simp [jM.len_nw, jM.len_sI, jM.len_sL, jM.len_sR, jM.len_fI, jM.len_fL, jM.len_fR, *]; omega)) (fun c1 => ?_) (fun c1 => ?_)
  · first | refine J.aload_n (pc' := 14) rfl rfl rfl ?_ | refine J.aload_nN (pc' := 14) rfl rfl rfl ?_
    refine J.iload_n (pc' := 15) rfl rfl rfl ?_
    refine J.callVP (pc' := 18) (t := 2) (C := "java/lang/StringBuilder") (z := yJ5_isLatin1_aae02) rfl MJ5_ensureCapacityInternal_d00df ml_J5_100 ip_J5_ensureCapacityInternal_d00df.1 ip_J5_ensureCapacityInternal_d00df.2 jSBins iq_J5_isLatin1_aae02.2 rfl iq_J5_isLatin1_aae02.1 (by decide) ⟨_, rfl, rfl⟩ (by first | assumption | (simp only [jM.tag_sI, jM.tag_sL, jM.tag_sR, jM.tag_fI, jM.tag_fL, jM.tag_fR]; assumption) | (simp [jM.tag_nw, jM.tag_sI, jM.tag_sL, jM.tag_sR, jM.tag_fI, jM.tag_fL, jM.tag_fR, *]; done)) (cb_ensure hS (by omega) (by omega)) rfl rfl (Nat.le_of_ble_eq_true rfl) (by first | omega | (exact R.r _ _) | (simp only [jM.len_sI, jM.len_sL, jM.len_sR, jM.len_fI, jM.len_fL, jM.len_fR]; omega) | (simp [jM.len_nw, jM.len_sI, jM.len_sL, jM.len_sR, jM.len_fI, jM.len_fL, jM.len_fR, *]; omega)) (by first | omega | (exact R.r _ _) | (simp only [jM.len_sI, jM.len_sL, jM.len_sR, jM.len_fI, jM.len_fL, jM.len_fR]; omega) | (simp [jM.len_nw, jM.len_sI, jM.len_sL, jM.len_sR, jM.len_fI, jM.len_fL, jM.len_fR, *]; omega)) (by first | omega | (exact R.r _ _) | (simp only [jM.len_sI, jM.len_sL, jM.len_sR, jM.len_fI, jM.len_fL, jM.len_fR]; omega) | (simp [jM.len_nw, jM.len_sI, jM.len_sL, jM.len_sR, jM.len_fI, jM.len_fL, jM.len_fR, *]; omega)) rfl rfl ?_ ?_
    · exact fun _ _ h => h
    rintro _ k1 ⟨rfl, e1, hS1, hl1, F1, N1, he1⟩
    obtain ⟨b1, b2, b3, b4, b5, b6, b7, b8, b9, b10, b11⟩ := hS1
    have fin : ∀ k2 : jM, k2.tag = k1.tag → k2.len = k1.len → k2.R = k1.R → (∀ j, k2.I 35 e1 j = k1.I 35 e1 j) → k2.I 2 a 1 = 0 → Fr k1 k2 (fun b => b = a) → ∀ lv, hasL lv [(0, .ref a), (1, .int (jI 0))] → J γ mJ5_setLength_d00df 4 1 574 (0 + 1) (0 + 574) k2 76 lv [] (slQ γ h a e) X0 := by
      intro k2 q1 q2 q3 q4 q5 q6 lv hlv
      have ta : k2.tag a = 2 := by rw [q1]; exact b1
      have hae : ¬ e1 = a := fun z => by rw [z] at b3; omega
      refine J.lc hlv ?_
      first | refine J.aload_n (pc' := 77) rfl rfl rfl ?_ | refine J.aload_nN (pc' := 77) rfl rfl rfl ?_
      refine J.iload_n (pc' := 78) rfl rfl rfl ?_
      refine J.putI (pc' := 81) rfl fl_J5_79 rfl (Or.inl rfl) (by first | assumption | (simp only [jM.tag_sI, jM.tag_sL, jM.tag_sR, jM.tag_fI, jM.tag_fL, jM.tag_fR]; assumption) | (simp [jM.tag_nw, jM.tag_sI, jM.tag_sL, jM.tag_sR, jM.tag_fI, jM.tag_fL, jM.tag_fR, *]; done)) (Or.inl rfl) rfl ?_
      refine J.vret rfl rfl (by first | omega | (exact R.r _ _) | (simp only [jM.len_sI, jM.len_sL, jM.len_sR, jM.len_fI, jM.len_fL, jM.len_fR]; omega) | (simp [jM.len_nw, jM.len_sI, jM.len_sL, jM.len_sR, jM.len_fI, jM.len_fL, jM.len_fR, *]; omega)) (by first | omega | (exact R.r _ _) | (simp only [jM.len_sI, jM.len_sL, jM.len_sR, jM.len_fI, jM.len_fL, jM.len_fR]; omega) | (simp [jM.len_nw, jM.len_sI, jM.len_sL, jM.len_sR, jM.len_fI, jM.len_fL, jM.len_fR, *]; omega)) ?_
      refine ⟨rfl, e1, ⟨ta, ?_, ?_, ?_, ?_, by omega, by omega, ?_, b9, fun i hi => ?_, fun i hi => by omega⟩, ?_, ?_, he1⟩
      · rw [jM.R_sI, q3]; exact b2
      · rw [jM.tag_sI, q1]; exact b3
      · rw [jM.I_sI, if_neg (by omega)]; exact q5
      · rw [jM.I_sI, if_pos ⟨rfl, rfl, rfl⟩]
      · rw [jM.len_sI, q2]; exact b8
      · rw [jM.len_sI, q2] at hi
        rw [jM.I_sI, if_neg (by omega), q4]
        exact b10 i hi
      · exact (F1.trans q6 (fun b _ z => z.elim id Or.inl)).stI (Or.inl (Or.inl rfl))
      · exact (N1.st q1).st rfl
    first | refine J.aload_n (pc' := 19) rfl rfl rfl ?_ | refine J.aload_nN (pc' := 19) rfl rfl rfl ?_
    refine J.getI (pc' := 22) rfl fl_J5_79 rfl (by first | assumption | (simp only [jM.tag_sI, jM.tag_sL, jM.tag_sR, jM.tag_fI, jM.tag_fL, jM.tag_fR]; assumption) | (simp [jM.tag_nw, jM.tag_sI, jM.tag_sL, jM.tag_sR, jM.tag_fI, jM.tag_fL, jM.tag_fR, *]; done)) rfl ?_
    refine J.iload_n (pc' := 23) rfl rfl rfl ?_
    rw [b5]
    refine J.icmp_ge (tgt := 63) (pc' := 26) rfl rfl rfl (by first | omega | (exact R.r _ _) | (simp only [jM.len_sI, jM.len_sL, jM.len_sR, jM.len_fI, jM.len_fL, jM.len_fR]; omega) | (simp [jM.len_nw, jM.len_sI, jM.len_sL, jM.len_sR, jM.len_fI, jM.len_fL, jM.len_fR, *]; omega)) (by first | omega | (exact R.r _ _) | (simp only [jM.len_sI, jM.len_sL, jM.len_sR, jM.len_fI, jM.len_fL, jM.len_fR]; omega) | (simp [jM.len_nw, jM.len_sI, jM.len_sL, jM.len_sR, jM.len_fI, jM.len_fL, jM.len_fR, *]; omega)) (fun c2 => ?_) (fun c2 => ?_)
    · first | refine J.aload_n (pc' := 64) rfl rfl rfl ?_ | refine J.aload_nN (pc' := 64) rfl rfl rfl ?_
      refine J.getI (pc' := 67) rfl fl_J5_79 rfl (by first | assumption | (simp only [jM.tag_sI, jM.tag_sL, jM.tag_sR, jM.tag_fI, jM.tag_fL, jM.tag_fR]; assumption) | (simp [jM.tag_nw, jM.tag_sI, jM.tag_sL, jM.tag_sR, jM.tag_fI, jM.tag_fL, jM.tag_fR, *]; done)) rfl ?_
      refine J.iload_n (pc' := 68) rfl rfl rfl ?_
      rw [b5]
      refine J.icmp_le (tgt := 76) (pc' := 71) rfl rfl rfl (by first | omega | (exact R.r _ _) | (simp only [jM.len_sI, jM.len_sL, jM.len_sR, jM.len_fI, jM.len_fL, jM.len_fR]; omega) | (simp [jM.len_nw, jM.len_sI, jM.len_sL, jM.len_sR, jM.len_fI, jM.len_fL, jM.len_fR, *]; omega)) (by first | omega | (exact R.r _ _) | (simp only [jM.len_sI, jM.len_sL, jM.len_sR, jM.len_fI, jM.len_fL, jM.len_fR]; omega) | (simp [jM.len_nw, jM.len_sI, jM.len_sL, jM.len_sR, jM.len_fI, jM.len_fL, jM.len_fR, *]; omega)) (fun c3 => ?_) (fun c3 => ?_)
      · exact fin k1 rfl rfl rfl (fun _ => rfl) b4 Fr.rf _ ⟨rfl, rfl, trivial⟩
      · first | refine J.aload_n (pc' := 72) rfl rfl rfl ?_ | refine J.aload_nN (pc' := 72) rfl rfl rfl ?_
        refine J.iconst (pc' := 73) rfl rfl ?_
        refine J.putZ (pc' := 76) rfl fl_J5_73 rfl rfl rfl (Or.inl rfl) (by first | assumption | (simp only [jM.tag_sI, jM.tag_sL, jM.tag_sR, jM.tag_fI, jM.tag_fL, jM.tag_fR]; assumption) | (simp [jM.tag_nw, jM.tag_sI, jM.tag_sL, jM.tag_sR, jM.tag_fI, jM.tag_fL, jM.tag_fR, *]; done)) (Or.inl rfl) rfl ?_
        refine fin (k1.sI 2 a 2 1) rfl rfl rfl (fun j => ?_) ?_ Fr.sI _ ⟨rfl, rfl, trivial⟩
        · rw [jM.I_sI, if_neg (by omega)]
        · rw [jM.I_sI, if_neg (by omega)]; exact b4
    · omega
  · omega
theorem cb_setLen (hS : isSB γ h a e n T) : CT γ mJ4_setLength_d00df 5 1 574 [.ref a, .int (jI 0)] h (slQ γ h a e) X0 := by
  have a1 := hS.1
  refine CT.of MJ4_setLength_d00df (Nat.le_of_ble_eq_true rfl) ?_
  show J γ mJ4_setLength_d00df 5 1 574 0 0 h 0 [(0, .ref a), (1, .int (jI 0))] [] _ _
  first | refine J.aload_n (pc' := 1) rfl rfl rfl ?_ | refine J.aload_nN (pc' := 1) rfl rfl rfl ?_
  refine J.iload_n (pc' := 2) rfl rfl rfl ?_
  refine J.callSup (pc' := 5) (t := 2) (C := "java/lang/StringBuilder") rfl MJ5_setLength_d00df ml_J4_333 iu_J5_setLength_d00df.2 jSBsup iu_J5_setLength_d00df.1 (by decide) (by decide) ⟨_, rfl, rfl⟩ (by first | assumption | (simp only [jM.tag_sI, jM.tag_sL, jM.tag_sR, jM.tag_fI, jM.tag_fL, jM.tag_fR]; assumption) | (simp [jM.tag_nw, jM.tag_sI, jM.tag_sL, jM.tag_sR, jM.tag_fI, jM.tag_fL, jM.tag_fR, *]; done)) (cb_set0 hS) rfl rfl (Nat.le_of_ble_eq_true rfl) (by first | omega | (exact R.r _ _) | (simp only [jM.len_sI, jM.len_sL, jM.len_sR, jM.len_fI, jM.len_fL, jM.len_fR]; omega) | (simp [jM.len_nw, jM.len_sI, jM.len_sL, jM.len_sR, jM.len_fI, jM.len_fL, jM.len_fR, *]; omega)) (by first | omega | (exact R.r _ _) | (simp only [jM.len_sI, jM.len_sL, jM.len_sR, jM.len_fI, jM.len_fL, jM.len_fR]; omega) | (simp [jM.len_nw, jM.len_sI, jM.len_sL, jM.len_sR, jM.len_fI, jM.len_fL, jM.len_fR, *]; omega)) (by first | omega | (exact R.r _ _) | (simp only [jM.len_sI, jM.len_sL, jM.len_sR, jM.len_fI, jM.len_fL, jM.len_fR]; omega) | (simp [jM.len_nw, jM.len_sI, jM.len_sL, jM.len_sR, jM.len_fI, jM.len_fL, jM.len_fR, *]; omega)) rfl ?_
  rintro _ k1 ⟨rfl, hq⟩
  refine J.vret rfl rfl (by first | omega | (exact R.r _ _) | (simp only [jM.len_sI, jM.len_sL, jM.len_sR, jM.len_fI, jM.len_fL, jM.len_fR]; omega) | (simp [jM.len_nw, jM.len_sI, jM.len_sL, jM.len_sR, jM.len_fI, jM.len_fL, jM.len_fR, *]; omega)) (by first | omega | (exact R.r _ _) | (simp only [jM.len_sI, jM.len_sL, jM.len_sR, jM.len_fI, jM.len_fL, jM.len_fR]; omega) | (simp [jM.len_nw, jM.len_sI, jM.len_sL, jM.len_sR, jM.len_fI, jM.len_fL, jM.len_fR, *]; omega)) ?_
  exact ⟨rfl, hq⟩
theorem cb_init0 (ha : h.tag a = 2) (hz : h.I 2 a 3 = 0) : CT γ mJ5_init_d00df 1 1 16 [.ref a, .int (jI 16)] h (fun r h' => r = none ∧ ∃ e, isSB γ h' a e 0 (fun _ => 0) ∧ h.tag e = 0 ∧ Fr h h' (fun b => b = a) ∧ Nt h h' [35]) X0 := by
  refine CT.of MJ5_init_d00df (Nat.le_of_ble_eq_true rfl) ?_
  show J γ mJ5_init_d00df 1 1 16 0 0 h 0 [(0, .ref a), (1, .int (jI 16))] [] _ _
  first | refine J.aload_n (pc' := 1) rfl rfl rfl ?_ | refine J.aload_nN (pc' := 1) rfl rfl rfl ?_
  refine J.objI (pc' := 4) rfl (List.mem_of_getElem? (i := 187) (by decide +kernel)) jObj_i jObj_c (by omega) (Nat.le_of_ble_eq_true rfl) rfl ?_
  refine J.getsI (pc' := 7) (z := 1) (ref := "") rfl jCS_2 jCS_q rfl jCS_l jCS_i rfl ?_
  refine J.if_eq (tgt := 25) (pc' := 10) rfl rfl rfl (by first | omega | (exact R.r _ _) | (simp only [jM.len_sI, jM.len_sL, jM.len_sR, jM.len_fI, jM.len_fL, jM.len_fR]; omega) | (simp [jM.len_nw, jM.len_sI, jM.len_sL, jM.len_sR, jM.len_fI, jM.len_fL, jM.len_fR, *]; omega)) (fun c1 => ?_) (fun c1 => ?_)
  · omega
  · first | refine J.aload_n (pc' := 11) rfl rfl rfl ?_ | refine J.aload_nN (pc' := 11) rfl rfl rfl ?_
    refine J.iload_n (pc' := 12) rfl rfl rfl ?_
    refine J.newa (pc' := 14) (t := 35) rfl (by decide) rfl (by decide) (List.mem_of_getElem? (i := 211) (by decide +kernel)) (by first | omega | (exact R.r _ _) | (simp only [jM.len_sI, jM.len_sL, jM.len_sR, jM.len_fI, jM.len_fL, jM.len_fR]; omega) | (simp [jM.len_nw, jM.len_sI, jM.len_sL, jM.len_sR, jM.len_fI, jM.len_fL, jM.len_fR, *]; omega)) (by first | omega | (exact R.r _ _) | (simp only [jM.len_sI, jM.len_sL, jM.len_sR, jM.len_fI, jM.len_fL, jM.len_fR]; omega) | (simp [jM.len_nw, jM.len_sI, jM.len_sL, jM.len_sR, jM.len_fI, jM.len_fL, jM.len_fR, *]; omega)) (by first | omega | (exact R.r _ _) | (simp only [jM.len_sI, jM.len_sL, jM.len_sR, jM.len_fI, jM.len_fL, jM.len_fR]; omega) | (simp [jM.len_nw, jM.len_sI, jM.len_sL, jM.len_sR, jM.len_fI, jM.len_fL, jM.len_fR, *]; omega)) (by first | omega | (exact R.r _ _) | (simp only [jM.len_sI, jM.len_sL, jM.len_sR, jM.len_fI, jM.len_fL, jM.len_fR]; omega) | (simp [jM.len_nw, jM.len_sI, jM.len_sL, jM.len_sR, jM.len_fI, jM.len_fL, jM.len_fR, *]; omega)) rfl (fun q qf qb => ?_)
    have hne : ¬ a = q := fun z => by rw [z] at ha; omega
    have ta : (h.nw q 35 16).tag a = 2 := by rw [jM.tag_nw, if_neg hne]; exact ha
    first | refine J.putR (pc' := 17) rfl fl_J5_15 rfl (Or.inl rfl) (by first | assumption | (simp only [jM.tag_sI, jM.tag_sL, jM.tag_sR, jM.tag_fI, jM.tag_fL, jM.tag_fR]; assumption) | (simp [jM.tag_nw, jM.tag_sI, jM.tag_sL, jM.tag_sR, jM.tag_fI, jM.tag_fL, jM.tag_fR, *]; done)) (Or.inl rfl) rfl ?_ | refine J.putRN (pc' := 17) rfl fl_J5_15 rfl (Or.inl rfl) (by first | assumption | (simp only [jM.tag_sI, jM.tag_sL, jM.tag_sR, jM.tag_fI, jM.tag_fL, jM.tag_fR]; assumption) | (simp [jM.tag_nw, jM.tag_sI, jM.tag_sL, jM.tag_sR, jM.tag_fI, jM.tag_fL, jM.tag_fR, *]; done)) (Or.inl rfl) rfl ?_
    first | refine J.aload_n (pc' := 18) rfl rfl rfl ?_ | refine J.aload_nN (pc' := 18) rfl rfl rfl ?_
    refine J.iconst (pc' := 19) rfl rfl ?_
    refine J.putZ (pc' := 22) rfl fl_J5_22 rfl rfl rfl (Or.inl rfl) (by first | assumption | (simp only [jM.tag_sI, jM.tag_sL, jM.tag_sR, jM.tag_fI, jM.tag_fL, jM.tag_fR]; assumption) | (simp [jM.tag_nw, jM.tag_sI, jM.tag_sL, jM.tag_sR, jM.tag_fI, jM.tag_fL, jM.tag_fR, *]; done)) (Or.inl rfl) rfl ?_
    refine J.goto (tgt := 38) rfl rfl ?_
    refine J.vret rfl rfl (by first | omega | (exact R.r _ _) | (simp only [jM.len_sI, jM.len_sL, jM.len_sR, jM.len_fI, jM.len_fL, jM.len_fR]; omega) | (simp [jM.len_nw, jM.len_sI, jM.len_sL, jM.len_sR, jM.len_fI, jM.len_fL, jM.len_fR, *]; omega)) (by first | omega | (exact R.r _ _) | (simp only [jM.len_sI, jM.len_sL, jM.len_sR, jM.len_fI, jM.len_fL, jM.len_fR]; omega) | (simp [jM.len_nw, jM.len_sI, jM.len_sL, jM.len_sR, jM.len_fI, jM.len_fL, jM.len_fR, *]; omega)) ?_
    refine ⟨rfl, q, ⟨ta, ?_, ?_, ?_, ?_, by omega, by omega, ?_, qb, fun i hi => ?_, fun i hi => by omega⟩, qf, ?_, ?_⟩
    · rw [jM.R_sI, jM.R_sR, if_pos ⟨rfl, rfl, rfl⟩]
    · rw [jM.tag_sI, jM.tag_sR, jM.tag_nw, if_pos rfl]
    · rw [jM.I_sI, if_pos ⟨rfl, rfl, rfl⟩]
    · rw [jM.I_sI, if_neg (by omega), jM.I_sR, jM.I_nw, if_neg (by omega)]; exact hz
    · rw [jM.len_sI, jM.len_sR, jM.len_nw, if_pos rfl]; exact Or.inl rfl
    · rw [jM.I_sI, if_neg (by omega), jM.I_sR, jM.I_nw, if_pos ⟨rfl, rfl⟩]; omega
    · refine Fr.stI (Fr.stR (Fr.stN Fr.rf qf) ?_) ?_ <;> exact Or.inl rfl
    · exact ((Nt.stN (q := q) (t := 35) (n := 16) Nt.rf (by simp)).st rfl).st rfl
theorem cb_init (ha : h.tag a = 2) (hz : h.I 2 a 3 = 0) : CT γ mJ4_init_da8c8 2 1 16 [.ref a] h (fun r h' => r = none ∧ ∃ e, isSB γ h' a e 0 (fun _ => 0) ∧ h.tag e = 0 ∧ Fr h h' (fun b => b = a) ∧ Nt h h' [35]) X0 := by
  refine CT.of MJ4_init_da8c8 (Nat.le_of_ble_eq_true rfl) ?_
  show J γ mJ4_init_da8c8 2 1 16 0 0 h 0 [(0, .ref a)] [] _ _
  first | refine J.aload_n (pc' := 1) rfl rfl rfl ?_ | refine J.aload_nN (pc' := 1) rfl rfl rfl ?_
  refine J.bipush (pc' := 3) rfl rfl (by decide) ?_
  refine J.callI (pc' := 6) rfl MJ5_init_d00df ml_J4_1 iv_J5_init_d00df ⟨rfl, rfl⟩ (cb_init0 ha hz) rfl rfl (Nat.le_of_ble_eq_true rfl) (by first | omega | (exact R.r _ _) | (simp only [jM.len_sI, jM.len_sL, jM.len_sR, jM.len_fI, jM.len_fL, jM.len_fR]; omega) | (simp [jM.len_nw, jM.len_sI, jM.len_sL, jM.len_sR, jM.len_fI, jM.len_fL, jM.len_fR, *]; omega)) (by first | omega | (exact R.r _ _) | (simp only [jM.len_sI, jM.len_sL, jM.len_sR, jM.len_fI, jM.len_fL, jM.len_fR]; omega) | (simp [jM.len_nw, jM.len_sI, jM.len_sL, jM.len_sR, jM.len_fI, jM.len_fL, jM.len_fR, *]; omega)) (by first | omega | (exact R.r _ _) | (simp only [jM.len_sI, jM.len_sL, jM.len_sR, jM.len_fI, jM.len_fL, jM.len_fR]; omega) | (simp [jM.len_nw, jM.len_sI, jM.len_sL, jM.len_sR, jM.len_fI, jM.len_fL, jM.len_fR, *]; omega)) rfl ?_
  rintro _ k1 ⟨rfl, hq⟩
  refine J.vret rfl rfl (by first | omega | (exact R.r _ _) | (simp only [jM.len_sI, jM.len_sL, jM.len_sR, jM.len_fI, jM.len_fL, jM.len_fR]; omega) | (simp [jM.len_nw, jM.len_sI, jM.len_sL, jM.len_sR, jM.len_fI, jM.len_fL, jM.len_fR, *]; omega)) (by first | omega | (exact R.r _ _) | (simp only [jM.len_sI, jM.len_sL, jM.len_sR, jM.len_fI, jM.len_fL, jM.len_fR]; omega) | (simp [jM.len_nw, jM.len_sI, jM.len_sL, jM.len_sR, jM.len_fI, jM.len_fL, jM.len_fR, *]; omega)) ?_
  exact ⟨rfl, hq⟩
end SC

