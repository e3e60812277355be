theorem J.getsR {γ : jG} {μ : jMth} {f mc ms cells slots : Nat} {h : jM} {pc : Nat} {lv : List (Nat × Value)} {st : List Value} {Q : Option Value → jM → Prop} {X : String → jM → Prop} {idx : Nat} {cn n d : String} {pc' : Nat} (hc : μ.cm pc = some (.getstatic idx, 3)) (hl : Cond.fieldLink μ.y.cls idx cn n d ∈ lw_tbl) (hq : Cond.isRef (.static cn n d) ∈ flatC (Jvm.Cond.and given_1 narrow_1)) (w1 : Cond.laysStatic cn n d ∈ lw_tbl) (w2 : Cond.initialized cn ∈ lw_tbl) (hp : pc + 3 = pc') (kN : J γ μ f mc ms cells slots h pc' lv (.null :: st) Q X) (kR : ∀ a, J γ μ f mc ms cells slots h pc' lv (.ref a :: st) Q X) : J γ μ f mc ms cells slots h pc lv st Q X := by
  subst hp
  intro p e s m args below meth c C H locs ls hH hz hlo hl9
  obtain ⟨A, h1, hg, hk⟩ := C.F.2.1
  obtain ⟨v, hv, hr⟩ := Cond.isRef_spec (flat_of_before _ hg _ hq)
  have h0 : va_Z cn n d v (jFree γ) γ.s γ.s.heap := va_Zof (h1 _ w1) (h1 _ w2) hv (fun a ha hb => absurd hb (Nat.not_le.mpr ha))
  have hZ : va_Z cn n d v (jFree γ) s s.heap := (va_Z.moved C.warm.alike h0).kept (fun a ha _ => C.old a ha)
  refine va_gets C.hx C.hb hZ (C.vS hH hz hlo) C.hown (C.w hl rfl) (fun _ h => h) (C.dec hc) ?_
  cases v with
  | null => exact kN p e s m args below meth c C H locs ls hH hz hlo hl9
  | ref a => exact kR a p e s m args below meth c C H locs ls hH hz hlo hl9
  | _ => simp [Value.isRef] at hr
set_option maxRecDepth 100000 in
theorem jCS_q : Cond.eq (.static "java/lang/String" "COMPACT_STRINGS" "Z") (.int 1) ∈ flatC (Jvm.Cond.and given_1 narrow_1) := by decide +kernel
set_option maxRecDepth 100000 in
theorem jSF_q : Cond.isRef (.static "jdk/internal/util/Preconditions" "SIOOBE_FORMATTER" "Ljava/util/function/BiFunction;") ∈ flatC (Jvm.Cond.and given_1 narrow_1) := by decide +kernel
theorem jCS_l : Cond.laysStatic "java/lang/String" "COMPACT_STRINGS" "Z" ∈ lw_tbl := by decide +kernel
theorem jCS_i : Cond.initialized "java/lang/String" ∈ lw_tbl := by decide +kernel
theorem jCS_1 : Cond.fieldLink RJ0 38 "java/lang/String" "COMPACT_STRINGS" "Z" ∈ lw_tbl := by decide +kernel
theorem jCS_2 : Cond.fieldLink RJ5 18 "java/lang/String" "COMPACT_STRINGS" "Z" ∈ lw_tbl := by decide +kernel
theorem jSF_l : Cond.laysStatic "jdk/internal/util/Preconditions" "SIOOBE_FORMATTER" "Ljava/util/function/BiFunction;" ∈ lw_tbl := by decide +kernel
theorem jSF_i : Cond.initialized "jdk/internal/util/Preconditions" ∈ lw_tbl := by decide +kernel
theorem jSF_1 : Cond.fieldLink RJ0 1053 "jdk/internal/util/Preconditions" "SIOOBE_FORMATTER" "Ljava/util/function/BiFunction;" ∈ lw_tbl := by decide +kernel
/-- a byte as it lies in an array -/
def sb8 (c : Int) : Int := if c < 128 then c else c - 256
/-- a String of n signs, all below 256 -/
def isSt (h : jM) (a e : Nat) (n : Int) (T : Int → Int) : Prop := h.tag a = 1 ∧ h.R 1 a 0 = some e ∧ h.tag e = 35 ∧ h.I 1 a 1 = 0 ∧ (h.len e : Int) = n ∧ n ≤ 1000 ∧ ∀ i : Nat, (i : Int) < n → h.I 35 e i = sb8 (T i) ∧ (0 ≤ T i ∧ T i < 256)
section ST
variable {γ : jG} {h : jM} {a e : Nat} {n : Int} {T : Int → Int}
theorem cj_coder (hS : isSt h a e n T) : CT γ mJ0_coder_7d493 0 0 0 [.ref a] h (fun r h' => r = some (.int (jI 0)) ∧ h' = h) X0 := by
  obtain ⟨h1, h2, h3, h4, h5, h6, h7⟩ := hS
  refine CT.of MJ0_coder_7d493 (Nat.le_of_ble_eq_true rfl) ?_
  show J γ mJ0_coder_7d493 0 0 0 0 0 h 0 [(0, .ref a)] [] _ _
  refine J.getsI (pc' := 3) (z := 1) (ref := "") rfl jCS_1 jCS_q rfl jCS_l jCS_i rfl ?_
  refine J.if_eq (tgt := 13) (pc' := 6) rfl rfl rfl (by first | omega | (exact R.r _ _) | (simp only [jM.len_sI, jM.len_sL, jM.len_sR, jM.len_fI, jM.len_fL, jM.len_fR]; omega) | (simp [jM.len_nw, jM.len_sI, jM.len_sL, jM.len_sR, jM.len_fI, jM.len_fL, jM.len_fR, *]; omega)) (fun c1 => ?_) (fun c1 => ?_)
  · omega
  · first | refine J.aload_n (pc' := 7) rfl rfl rfl ?_ | refine J.aload_nN (pc' := 7) rfl rfl rfl ?_
    refine J.getI (pc' := 10) rfl fl_J0_15 rfl (by first | assumption | (simp only [jM.tag_sI, jM.tag_sL, jM.tag_sR, jM.tag_fI, jM.tag_fL, jM.tag_fR]; assumption) | (simp [jM.tag_nw, jM.tag_sI, jM.tag_sL, jM.tag_sR, jM.tag_fI, jM.tag_fL, jM.tag_fR, *]; done)) rfl ?_
    rw [h4]
    refine J.goto (tgt := 14) rfl rfl ?_
    refine J.zret rfl rfl (by rfl) (by first | omega | (exact R.r _ _) | (simp only [jM.len_sI, jM.len_sL, jM.len_sR, jM.len_fI, jM.len_fL, jM.len_fR]; omega) | (simp [jM.len_nw, jM.len_sI, jM.len_sL, jM.len_sR, jM.len_fI, jM.len_fL, jM.len_fR, *]; omega)) (by first | omega | (exact R.r _ _) | (simp only [jM.len_sI, jM.len_sL, jM.len_sR, jM.len_fI, jM.len_fL, jM.len_fR]; omega) | (simp [jM.len_nw, jM.len_sI, jM.len_sL, jM.len_sR, jM.len_fI, jM.len_fL, jM.len_fR, *]; omega)) ?_
    exact ⟨rfl, rfl⟩
theorem cj_isLatin1 (hS : isSt h a e n T) : CT γ mJ0_isLatin1_aae02 0 0 0 [.ref a] h (fun r h' => r = some (.int (jI 1)) ∧ h' = h) X0 := by
  obtain ⟨h1, h2, h3, h4, h5, h6, h7⟩ := hS
  refine CT.of MJ0_isLatin1_aae02 (Nat.le_of_ble_eq_true rfl) ?_
  show J γ mJ0_isLatin1_aae02 0 0 0 0 0 h 0 [(0, .ref a)] [] _ _
  refine J.getsI (pc' := 3) (z := 1) (ref := "") rfl jCS_1 jCS_q rfl jCS_l jCS_i rfl ?_
  refine J.if_eq (tgt := 17) (pc' := 6) rfl rfl rfl (by first | omega | (exact R.r _ _) | (simp only [jM.len_sI, jM.len_sL, jM.len_sR, jM.len_fI, jM.len_fL, jM.len_fR]; omega) | (simp [jM.len_nw, jM.len_sI, jM.len_sL, jM.len_sR, jM.len_fI, jM.len_fL, jM.len_fR, *]; omega)) (fun c1 => ?_) (fun c1 => ?_)
  · omega
  · first | refine J.aload_n (pc' := 7) rfl rfl rfl ?_ | refine J.aload_nN (pc' := 7) rfl rfl rfl ?_
    refine J.getI (pc' := 10) rfl fl_J0_15 rfl (by first | assumption | (simp only [jM.tag_sI, jM.tag_sL, jM.tag_sR, jM.tag_fI, jM.tag_fL, jM.tag_fR]; assumption) | (simp [jM.tag_nw, jM.tag_sI, jM.tag_sL, jM.tag_sR, jM.tag_fI, jM.tag_fL, jM.tag_fR, *]; done)) rfl ?_
    rw [h4]
    refine J.if_ne (tgt := 17) (pc' := 13) rfl rfl rfl (by first | omega | (exact R.r _ _) | (simp only [jM.len_sI, jM.len_sL, jM.len_sR, jM.len_fI, jM.len_fL, jM.len_fR]; omega) | (simp [jM.len_nw, jM.len_sI, jM.len_sL, jM.len_sR, jM.len_fI, jM.len_fL, jM.len_fR, *]; omega)) (fun c2 => ?_) (fun c2 => ?_)
    · omega
    · refine J.iconst (pc' := 14) rfl rfl ?_
      refine J.goto (tgt := 18) rfl rfl ?_
      refine J.zret rfl rfl (by rfl) (by first | omega | (exact R.r _ _) | (simp only [jM.len_sI, jM.len_sL, jM.len_sR, jM.len_fI, jM.len_fL, jM.len_fR]; omega) | (simp [jM.len_nw, jM.len_sI, jM.len_sL, jM.len_sR, jM.len_fI, jM.len_fL, jM.len_fR, *]; omega)) (by first | omega | (exact R.r _ _) | (simp only [jM.len_sI, jM.len_sL, jM.len_sR, jM.len_fI, jM.len_fL, jM.len_fR]; omega) | (simp [jM.len_nw, jM.len_sI, jM.len_sL, jM.len_sR, jM.len_fI, jM.len_fL, jM.len_fR, *]; omega)) ?_
      exact ⟨rfl, rfl⟩
theorem cj_strLen (hS : isSt h a e n T) : CT γ mJ0_length_8abf5 1 0 0 [.ref a] h (fun r h' => r = some (.int (jI n)) ∧ h' = h) X0 := by
  have hS0 := hS
  obtain ⟨h1, h2, h3, h4, h5, h6, h7⟩ := hS0
  refine CT.of MJ0_length_8abf5 (Nat.le_of_ble_eq_true rfl) ?_
  show J γ mJ0_length_8abf5 1 0 0 0 0 h 0 [(0, .ref a)] [] _ _
  first | refine J.aload_n (pc' := 1) rfl rfl rfl ?_ | refine J.aload_nN (pc' := 1) rfl rfl rfl ?_
  first | refine J.getR (pc' := 4) rfl fl_J0_9 rfl (by first | assumption | (simp only [jM.tag_sI, jM.tag_sL, jM.tag_sR, jM.tag_fI, jM.tag_fL, jM.tag_fR]; assumption) | (simp [jM.tag_nw, jM.tag_sI, jM.tag_sL, jM.tag_sR, jM.tag_fI, jM.tag_fL, jM.tag_fR, *]; done)) (by first | assumption | (simp only [jM.R_sI, jM.R_sL, jM.R_fI, jM.R_fL]; assumption) | (simp [jM.R_nw, jM.R_sR, jM.R_fR, jM.R_sI, jM.R_sL, jM.R_fI, jM.R_fL, *]; done)) rfl ?_ | refine J.getRN (pc' := 4) rfl fl_J0_9 rfl (by first | assumption | (simp only [jM.tag_sI, jM.tag_sL, jM.tag_sR, jM.tag_fI, jM.tag_fL, jM.tag_fR]; assumption) | (simp [jM.tag_nw, jM.tag_sI, jM.tag_sL, jM.tag_sR, jM.tag_fI, jM.tag_fL, jM.tag_fR, *]; done)) (by first | assumption | (simp only [jM.R_sI, jM.R_sL, jM.R_fI, jM.R_fL]; assumption) | (simp [jM.R_nw, jM.R_sR, jM.R_fR, jM.R_sI, jM.R_sL, jM.R_fI, jM.R_fL, *]; done)) rfl ?_
  refine J.alenT (pc' := 5) rfl (by first | assumption | (simp only [jM.tag_sI, jM.tag_sL, jM.tag_sR, jM.tag_fI, jM.tag_fL, jM.tag_fR]; assumption) | (simp [jM.tag_nw, jM.tag_sI, jM.tag_sL, jM.tag_sR, jM.tag_fI, jM.tag_fL, jM.tag_fR, *]; done)) (by decide) (by decide) rfl ?_
  first | refine J.aload_n (pc' := 6) rfl rfl rfl ?_ | refine J.aload_nN (pc' := 6) rfl rfl rfl ?_
  refine J.callV (pc' := 9) (t := 1) rfl MJ0_coder_7d493 ml_J0_335 iv_J0_coder_7d493 (by decide) ⟨_, rfl, rfl⟩ (by first | assumption | (simp only [jM.tag_sI, jM.tag_sL, jM.tag_sR, jM.tag_fI, jM.tag_fL, jM.tag_fR]; assumption) | (simp [jM.tag_nw, jM.tag_sI, jM.tag_sL, jM.tag_sR, jM.tag_fI, jM.tag_fL, jM.tag_fR, *]; done)) (cj_coder hS) rfl rfl (Nat.le_of_ble_eq_true rfl) (by first | omega | (exact R.r _ _) | (simp only [jM.len_sI, jM.len_sL, jM.len_sR, jM.len_fI, jM.len_fL, jM.len_fR]; omega) | (simp [jM.len_nw, jM.len_sI, jM.len_sL, jM.len_sR, jM.len_fI, jM.len_fL, jM.len_fR, *]; omega)) (by first | omega | (exact R.r _ _) | (simp only [jM.len_sI, jM.len_sL, jM.len_sR, jM.len_fI, jM.len_fL, jM.len_fR]; omega) | (simp [jM.len_nw, jM.len_sI, jM.len_sL, jM.len_sR, jM.len_fI, jM.len_fL, jM.len_fR, *]; omega)) (by first | omega | (exact R.r _ _) | (simp only [jM.len_sI, jM.len_sL, jM.len_sR, jM.len_fI, jM.len_fL, jM.len_fR]; omega) | (simp [jM.len_nw, jM.len_sI, jM.len_sL, jM.len_sR, jM.len_fI, jM.len_fL, jM.len_fR, *]; omega)) rfl rfl ?_ ?_
  · exact fun _ _ h => h
  rintro _ _ ⟨rfl, rfl⟩
  refine J.ishr n (pc' := 10) rfl rfl ?_ ?_
  · rw [h5]
    have := jI_shr (v := n) (s := 0) (by constructor <;> omega) (by omega)
    exact this
  · refine J.iret rfl rfl (by first | omega | (exact R.r _ _) | (simp only [jM.len_sI, jM.len_sL, jM.len_sR, jM.len_fI, jM.len_fL, jM.len_fR]; omega) | (simp [jM.len_nw, jM.len_sI, jM.len_sL, jM.len_sR, jM.len_fI, jM.len_fL, jM.len_fR, *]; omega)) (by first | omega | (exact R.r _ _) | (simp only [jM.len_sI, jM.len_sL, jM.len_sR, jM.len_fI, jM.len_fL, jM.len_fR]; omega) | (simp [jM.len_nw, jM.len_sI, jM.len_sL, jM.len_sR, jM.len_fI, jM.len_fL, jM.len_fR, *]; omega)) ?_
    exact ⟨rfl, rfl⟩
theorem cj_chk1 {i m : Int} {v : Value} (hv : v = .null ∨ ∃ b, v = .ref b) (h0 : 0 ≤ i) (h1 : i < m) (hm : r32 m) : CT γ mJ3_checkIndex_8e157 0 0 0 [.int (jI i), .int (jI m), v] h (fun r h' => r = some (.int (jI i)) ∧ h' = h) X0 := by
  rcases hv with rfl | ⟨b, rfl⟩
  · exact ct_chk0 h0 h1 hm
  · refine CT.of MJ3_checkIndex_8e157 (Nat.le_of_ble_eq_true rfl) ?_
    show J γ mJ3_checkIndex_8e157 0 0 0 0 0 h 0 [(0, .int (jI i)), (1, .int (jI m)), (2, .ref b)] [] _ _
    refine J.iload_n (pc' := 1) rfl rfl rfl ?_
    refine J.if_lt (tgt := 9) (pc' := 4) rfl rfl rfl (by first | omega | (exact R.r _ _) | (simp only [jM.len_sI, jM.len_sL, jM.len_sR, jM.len_fI, jM.len_fL, jM.len_fR]; omega) | (simp [jM.len_nw, jM.len_sI, jM.len_sL, jM.len_sR, jM.len_fI, jM.len_fL, jM.len_fR, *]; omega)) (fun hc => ?_) (fun hc => ?_)
    · omega
    · refine J.iload_n (pc' := 5) rfl rfl rfl ?_
      refine J.iload_n (pc' := 6) rfl rfl rfl ?_
      refine J.icmp_lt (tgt := 16) (pc' := 9) rfl rfl rfl (by first | omega | (exact R.r _ _) | (simp only [jM.len_sI, jM.len_sL, jM.len_sR, jM.len_fI, jM.len_fL, jM.len_fR]; omega) | (simp [jM.len_nw, jM.len_sI, jM.len_sL, jM.len_sR, jM.len_fI, jM.len_fL, jM.len_fR, *]; omega)) (by first | omega | (exact R.r _ _) | (simp only [jM.len_sI, jM.len_sL, jM.len_sR, jM.len_fI, jM.len_fL, jM.len_fR]; omega) | (simp [jM.len_nw, jM.len_sI, jM.len_sL, jM.len_sR, jM.len_fI, jM.len_fL, jM.len_fR, *]; omega)) (fun hd => ?_) (fun hd => ?_)
      · refine J.iload_n (pc' := 17) rfl rfl rfl ?_
        refine J.iret rfl rfl (by first | omega | (exact R.r _ _) | (simp only [jM.len_sI, jM.len_sL, jM.len_sR, jM.len_fI, jM.len_fL, jM.len_fR]; omega) | (simp [jM.len_nw, jM.len_sI, jM.len_sL, jM.len_sR, jM.len_fI, jM.len_fL, jM.len_fR, *]; omega)) (by first | omega | (exact R.r _ _) | (simp only [jM.len_sI, jM.len_sL, jM.len_sR, jM.len_fI, jM.len_fL, jM.len_fR]; omega) | (simp [jM.len_nw, jM.len_sI, jM.len_sL, jM.len_sR, jM.len_fI, jM.len_fL, jM.len_fR, *]; omega)) ?_
        exact ⟨rfl, rfl⟩
      · omega
theorem cj_checkIndex {i m : Int} (h0 : 0 ≤ i) (h1 : i < m) (hm : r32 m) : CT γ mJ0_checkIndex_df160 1 0 0 [.int (jI i), .int (jI m)] h (fun r h' => r = none ∧ h' = h) X0 := by
  refine CT.of MJ0_checkIndex_df160 (Nat.le_of_ble_eq_true rfl) ?_
  show J γ mJ0_checkIndex_df160 1 0 0 0 0 h 0 [(0, .int (jI i)), (1, .int (jI m))] [] _ _
  refine J.iload_n (pc' := 1) rfl rfl rfl ?_
  refine J.iload_n (pc' := 2) rfl rfl rfl ?_
  refine J.getsR (pc' := 5) rfl jSF_1 jSF_q jSF_l jSF_i rfl ?_ (fun b => ?_)
  · refine J.callS (pc' := 8) rfl MJ3_checkIndex_8e157 ml_J0_1059 is_J3_checkIndex_8e157 (cj_chk1 (Or.inl rfl) h0 h1 hm) rfl rfl (Nat.le_of_ble_eq_true rfl) (by first | omega | (exact R.r _ _) | (simp only [jM.len_sI, jM.len_sL, jM.len_sR, jM.len_fI, jM.len_fL, jM.len_fR]; omega) | (simp [jM.len_nw, jM.len_sI, jM.len_sL, jM.len_sR, jM.len_fI, jM.len_fL, jM.len_fR, *]; omega)) (by first | omega | (exact R.r _ _) | (simp only [jM.len_sI, jM.len_sL, jM.len_sR, jM.len_fI, jM.len_fL, jM.len_fR]; omega) | (simp [jM.len_nw, jM.len_sI, jM.len_sL, jM.len_sR, jM.len_fI, jM.len_fL, jM.len_fR, *]; omega)) (by first | omega | (exact R.r _ _) | (simp only [jM.len_sI, jM.len_sL, jM.len_sR, jM.len_fI, jM.len_fL, jM.len_fR]; omega) | (simp [jM.len_nw, jM.len_sI, jM.len_sL, jM.len_sR, jM.len_fI, jM.len_fL, jM.len_fR, *]; omega)) rfl rfl ?_ ?_
    · exact fun _ _ h => h
    rintro _ _ ⟨rfl, rfl⟩
    refine J.pop (pc' := 9) rfl rfl rfl ?_
    refine J.vret rfl rfl (by first | omega | (exact R.r _ _) | (simp only [jM.len_sI, jM.len_sL, jM.len_sR, jM.len_fI, jM.len_fL, jM.len_fR]; omega) | (simp [jM.len_nw, jM.len_sI, jM.len_sL, jM.len_sR, jM.len_fI, jM.len_fL, jM.len_fR, *]; omega)) (by first | omega | (exact R.r _ _) | (simp only [jM.len_sI, jM.len_sL, jM.len_sR, jM.len_fI, jM.len_fL, jM.len_fR]; omega) | (simp [jM.len_nw, jM.len_sI, jM.len_sL, jM.len_sR, jM.len_fI, jM.len_fL, jM.len_fR, *]; omega)) ?_
    exact ⟨rfl, rfl⟩
  · refine J.callS (pc' := 8) rfl MJ3_checkIndex_8e157 ml_J0_1059 is_J3_checkIndex_8e157 (cj_chk1 (Or.inr ⟨b, rfl⟩) h0 h1 hm) rfl rfl (Nat.le_of_ble_eq_true rfl) (by first | omega | (exact R.r _ _) | (simp only [jM.len_sI, jM.len_sL, jM.len_sR, jM.len_fI, jM.len_fL, jM.len_fR]; omega) | (simp [jM.len_nw, jM.len_sI, jM.len_sL, jM.len_sR, jM.len_fI, jM.len_fL, jM.len_fR, *]; omega)) (by first | omega | (exact R.r _ _) | (simp only [jM.len_sI, jM.len_sL, jM.len_sR, jM.len_fI, jM.len_fL, jM.len_fR]; omega) | (simp [jM.len_nw, jM.len_sI, jM.len_sL, jM.len_sR, jM.len_fI, jM.len_fL, jM.len_fR, *]; omega)) (by first | omega | (exact R.r _ _) | (simp only [jM.len_sI, jM.len_sL, jM.len_sR, jM.len_fI, jM.len_fL, jM.len_fR]; omega) | (simp [jM.len_nw, jM.len_sI, jM.len_sL, jM.len_sR, jM.len_fI, jM.len_fL, jM.len_fR, *]; omega)) rfl rfl ?_ ?_
    · exact fun _ _ h => h
    rintro _ _ ⟨rfl, rfl⟩
    refine J.pop (pc' := 9) rfl rfl rfl ?_
    refine J.vret rfl rfl (by first | omega | (exact R.r _ _) | (simp only [jM.len_sI, jM.len_sL, jM.len_sR, jM.len_fI, jM.len_fL, jM.len_fR]; omega) | (simp [jM.len_nw, jM.len_sI, jM.len_sL, jM.len_sR, jM.len_fI, jM.len_fL, jM.len_fR, *]; omega)) (by first | omega | (exact R.r _ _) | (simp only [jM.len_sI, jM.len_sL, jM.len_sR, jM.len_fI, jM.len_fL, jM.len_fR]; omega) | (simp [jM.len_nw, jM.len_sI, jM.len_sL, jM.len_sR, jM.len_fI, jM.len_fL, jM.len_fR, *]; omega)) ?_
    exact ⟨rfl, rfl⟩
theorem sb8_and {c : Int} (hc : 0 ≤ c ∧ c < 256) : jI (sb8 c) &&& jI 255 = jI c := by
  rw [jI_and255]
  congr 1
  unfold sb8
  split <;> omega
theorem jI_i2c {c : Int} (hc : 0 ≤ c ∧ c < 256) : ((jI c).toUInt32 % 65536).toInt32 = jI c := by
  have h1 : c = 0 ∨ 0 < c := by omega
  apply Int32.toBitVec_inj.mp
  show ((jI c).toUInt32 % 65536).toBitVec = (jI c).toBitVec
  rw [UInt32.toBitVec_mod]
  show (BitVec.ofInt 32 c) % (65536 : UInt32).toBitVec = BitVec.ofInt 32 c
  apply BitVec.eq_of_toNat_eq
  rw [BitVec.toNat_umod, BitVec.toNat_ofInt, show ((65536 : UInt32).toBitVec).toNat = 65536 by decide]
  show (c % 4294967296).toNat % 65536 = (c % 4294967296).toNat
  omega
theorem narrow_c {c : Int} (hc : 0 ≤ c ∧ c < 65536) : narrow .char (.int (jI c)) = .int (jI c) := by
  show Value.int ((jI c).toUInt32.toUInt16.toUInt32.toInt32) = _
  congr 1
  apply Int32.toBitVec_inj.mp
  show ((jI c).toUInt32.toUInt16.toUInt32).toBitVec = (jI c).toBitVec
  apply BitVec.eq_of_toNat_eq
  show ((jI c).toUInt32.toUInt16.toUInt32).toNat = (BitVec.ofInt 32 c).toNat
  rw [UInt16.toNat_toUInt32, UInt32.toNat_toUInt16]
  show (BitVec.ofInt 32 c).toNat % 65536 = _
  rw [BitVec.toNat_ofInt]
  show (c % 4294967296).toNat % 65536 = (c % 4294967296).toNat
  omega
theorem narrow_b {z : Int} (hz : -128 ≤ z ∧ z ≤ 127) : narrow .byte (.int (jI z)) = .int (jI z) := by
  show Value.int ((jI z).toInt8.toInt32) = _
  congr 1
  rw [← Int32.toInt_inj, Int8.toInt_toInt32, Int32.toInt_toInt8, jI_toInt (by constructor <;> omega)]
  exact Int.bmod_eq_of_le (by omega) (by omega)
theorem cj_charAt1 {i : Int} (hS : isSt h a e n T) (h0 : 0 ≤ i) (h1 : i < n) : CT γ mJ1_charAt_3b067 2 0 0 [.ref e, .int (jI i)] h (fun r h' => r = some (.int (jI (T i))) ∧ h' = h) X0 := by
  obtain ⟨h1', h2, h3, h4, h5, h6, h7⟩ := hS
  obtain ⟨k1, k2⟩ := h7 i.toNat (by omega)
  rw [show ((i.toNat : Nat) : Int) = i by omega] at k1 k2
  refine CT.of MJ1_charAt_3b067 (Nat.le_of_ble_eq_true rfl) ?_
  show J γ mJ1_charAt_3b067 2 0 0 0 0 h 0 [(0, .ref e), (1, .int (jI i))] [] _ _
  refine J.iload_n (pc' := 1) rfl rfl rfl ?_
  first | refine J.aload_n (pc' := 2) rfl rfl rfl ?_ | refine J.aload_nN (pc' := 2) rfl rfl rfl ?_
  refine J.alenT (pc' := 3) rfl (by first | assumption | (simp only [jM.tag_sI, jM.tag_sL, jM.tag_sR, jM.tag_fI, jM.tag_fL, jM.tag_fR]; assumption) | (simp [jM.tag_nw, jM.tag_sI, jM.tag_sL, jM.tag_sR, jM.tag_fI, jM.tag_fL, jM.tag_fR, *]; done)) (by decide) (by decide) rfl ?_
  rw [h5]
  refine J.callS (pc' := 6) rfl MJ0_checkIndex_df160 ml_J1_9 is_J0_checkIndex_df160 (cj_checkIndex h0 h1 (by constructor <;> omega)) rfl rfl (Nat.le_of_ble_eq_true rfl) (by first | omega | (exact R.r _ _) | (simp only [jM.len_sI, jM.len_sL, jM.len_sR, jM.len_fI, jM.len_fL, jM.len_fR]; omega) | (simp [jM.len_nw, jM.len_sI, jM.len_sL, jM.len_sR, jM.len_fI, jM.len_fL, jM.len_fR, *]; omega)) (by first | omega | (exact R.r _ _) | (simp only [jM.len_sI, jM.len_sL, jM.len_sR, jM.len_fI, jM.len_fL, jM.len_fR]; omega) | (simp [jM.len_nw, jM.len_sI, jM.len_sL, jM.len_sR, jM.len_fI, jM.len_fL, jM.len_fR, *]; omega)) (by first | omega | (exact R.r _ _) | (simp only [jM.len_sI, jM.len_sL, jM.len_sR, jM.len_fI, jM.len_fL, jM.len_fR]; omega) | (simp [jM.len_nw, jM.len_sI, jM.len_sL, jM.len_sR, jM.len_fI, jM.len_fL, jM.len_fR, *]; omega)) rfl rfl ?_ ?_
  · exact fun _ _ h => h
  rintro _ _ ⟨rfl, rfl⟩
  first | refine J.aload_n (pc' := 7) rfl rfl rfl ?_ | refine J.aload_nN (pc' := 7) rfl rfl rfl ?_
  refine J.iload_n (pc' := 8) rfl rfl rfl ?_
  first | refine J.bald (pc' := 9) rfl (by first | assumption | (simp only [jM.tag_sI, jM.tag_sL, jM.tag_sR, jM.tag_fI, jM.tag_fL, jM.tag_fR]; assumption) | (simp [jM.tag_nw, jM.tag_sI, jM.tag_sL, jM.tag_sR, jM.tag_fI, jM.tag_fL, jM.tag_fR, *]; done)) (by decide) rfl (by first | omega | (exact R.r _ _) | (simp only [jM.len_sI, jM.len_sL, jM.len_sR, jM.len_fI, jM.len_fL, jM.len_fR]; omega) | (simp [jM.len_nw, jM.len_sI, jM.len_sL, jM.len_sR, jM.len_fI, jM.len_fL, jM.len_fR, *]; omega)) (by first | omega | (exact R.r _ _) | (simp only [jM.len_sI, jM.len_sL, jM.len_sR, jM.len_fI, jM.len_fL, jM.len_fR]; omega) | (simp [jM.len_nw, jM.len_sI, jM.len_sL, jM.len_sR, jM.len_fI, jM.len_fL, jM.len_fR, *]; omega)) (by first | omega | (exact R.r _ _) | (simp only [jM.len_sI, jM.len_sL, jM.len_sR, jM.len_fI, jM.len_fL, jM.len_fR]; omega) | (simp [jM.len_nw, jM.len_sI, jM.len_sL, jM.len_sR, jM.len_fI, jM.len_fL, jM.len_fR, *]; omega)) rfl ?_ | refine J.zald (pc' := 9) rfl (by first | assumption | (simp only [jM.tag_sI, jM.tag_sL, jM.tag_sR, jM.tag_fI, jM.tag_fL, jM.tag_fR]; assumption) | (simp [jM.tag_nw, jM.tag_sI, jM.tag_sL, jM.tag_sR, jM.tag_fI, jM.tag_fL, jM.tag_fR, *]; done)) (by decide) rfl (by first | omega | (exact R.r _ _) | (simp only [jM.len_sI, jM.len_sL, jM.len_sR, jM.len_fI, jM.len_fL, jM.len_fR]; omega) | (simp [jM.len_nw, jM.len_sI, jM.len_sL, jM.len_sR, jM.len_fI, jM.len_fL, jM.len_fR, *]; omega)) (by first | omega | (exact R.r _ _) | (simp only [jM.len_sI, jM.len_sL, jM.len_sR, jM.len_fI, jM.len_fL, jM.len_fR]; omega) | (simp [jM.len_nw, jM.len_sI, jM.len_sL, jM.len_sR, jM.len_fI, jM.len_fL, jM.len_fR, *]; omega)) (by first | omega | (exact R.r _ _) | (simp only [jM.len_sI, jM.len_sL, jM.len_sR, jM.len_fI, jM.len_fL, jM.len_fR]; omega) | (simp [jM.len_nw, jM.len_sI, jM.len_sL, jM.len_sR, jM.len_fI, jM.len_fL, jM.len_fR, *]; omega)) rfl ?_
  rw [k1]
  refine J.sipush (pc' := 12) rfl rfl (by decide) ?_
  refine J.iand (T i) (pc' := 13) rfl rfl (sb8_and k2) ?_
  refine J.i2c (T i) (pc' := 14) rfl rfl (jI_i2c k2) ?_
  refine J.zret rfl rfl (narrow_c (by omega)) (by omega) (by omega) ?_
  exact ⟨rfl, rfl⟩
theorem cj_charAt {i : Int} (hS : isSt h a e n T) (h0 : 0 ≤ i) (h1 : i < n) : CT γ mJ0_charAt_5068e 3 0 0 [.ref a, .int (jI i)] h (fun r h' => r = some (.int (jI (T i))) ∧ h' = h) X0 := by
  have hS0 := hS
  obtain ⟨h1', h2, h3, h4, h5, h6, h7⟩ := hS0
  obtain ⟨k1, k2⟩ := h7 i.toNat (by omega)
  rw [show ((i.toNat : Nat) : Int) = i by omega] at k1 k2
  refine CT.of MJ0_charAt_5068e (Nat.le_of_ble_eq_true rfl) ?_
  show J γ mJ0_charAt_5068e 3 0 0 0 0 h 0 [(0, .ref a), (1, .int (jI i))] [] _ _
  first | refine J.aload_n (pc' := 1) rfl rfl rfl ?_ | refine J.aload_nN (pc' := 1) rfl rfl rfl ?_
  refine J.callV (pc' := 4) (t := 1) rfl MJ0_isLatin1_aae02 ml_J0_492 iv_J0_isLatin1_aae02 (by decide) ⟨_, rfl, rfl⟩ (by first | assumption | (simp only [jM.tag_sI, jM.tag_sL, jM.tag_sR, jM.tag_fI, jM.tag_fL, jM.tag_fR]; assumption) | (simp [jM.tag_nw, jM.tag_sI, jM.tag_sL, jM.tag_sR, jM.tag_fI, jM.tag_fL, jM.tag_fR, *]; done)) (cj_isLatin1 hS) rfl rfl (Nat.le_of_ble_eq_true rfl) (by first | omega | (exact R.r _ _) | (simp only [jM.len_sI, jM.len_sL, jM.len_sR, jM.len_fI, jM.len_fL, jM.len_fR]; omega) | (simp [jM.len_nw, jM.len_sI, jM.len_sL, jM.len_sR, jM.len_fI, jM.len_fL, jM.len_fR, *]; omega)) (by first | omega | (exact R.r _ _) | (simp only [jM.len_sI, jM.len_sL, jM.len_sR, jM.len_fI, jM.len_fL, jM.len_fR]; omega) | (simp [jM.len_nw, jM.len_sI, jM.len_sL, jM.len_sR, jM.len_fI, jM.len_fL, jM.len_fR, *]; omega)) (by first | omega | (exact R.r _ _) | (simp only [jM.len_sI, jM.len_sL, jM.len_sR, jM.len_fI, jM.len_fL, jM.len_fR]; omega) | (simp [jM.len_nw, jM.len_sI, jM.len_sL, jM.len_sR, jM.len_fI, jM.len_fL, jM.len_fR, *]; omega)) rfl rfl ?_ ?_
  · exact fun _ _ h => h
  rintro _ _ ⟨rfl, rfl⟩
  refine J.if_eq (tgt := 16) (pc' := 7) rfl rfl rfl (by first | omega | (exact R.r _ _) | (simp only [jM.len_sI, jM.len_sL, jM.len_sR, jM.len_fI, jM.len_fL, jM.len_fR]; omega) | (simp [jM.len_nw, jM.len_sI, jM.len_sL, jM.len_sR, jM.len_fI, jM.len_fL, jM.len_fR, *]; omega)) (fun c1 => ?_) (fun c1 => ?_)
  · omega
  · first | refine J.aload_n (pc' := 8) rfl rfl rfl ?_ | refine J.aload_nN (pc' := 8) rfl rfl rfl ?_
    first | refine J.getR (pc' := 11) rfl fl_J0_9 rfl (by first | assumption | (simp only [jM.tag_sI, jM.tag_sL, jM.tag_sR, jM.tag_fI, jM.tag_fL, jM.tag_fR]; assumption) | (simp [jM.tag_nw, jM.tag_sI, jM.tag_sL, jM.tag_sR, jM.tag_fI, jM.tag_fL, jM.tag_fR, *]; done)) (by first | assumption | (simp only [jM.R_sI, jM.R_sL, jM.R_fI, jM.R_fL]; assumption) | (simp [jM.R_nw, jM.R_sR, jM.R_fR, jM.R_sI, jM.R_sL, jM.R_fI, jM.R_fL, *]; done)) rfl ?_ | refine J.getRN (pc' := 11) rfl fl_J0_9 rfl (by first | assumption | (simp only [jM.tag_sI, jM.tag_sL, jM.tag_sR, jM.tag_fI, jM.tag_fL, jM.tag_fR]; assumption) | (simp [jM.tag_nw, jM.tag_sI, jM.tag_sL, jM.tag_sR, jM.tag_fI, jM.tag_fL, jM.tag_fR, *]; done)) (by first | assumption | (simp only [jM.R_sI, jM.R_sL, jM.R_fI, jM.R_fL]; assumption) | (simp [jM.R_nw, jM.R_sR, jM.R_fR, jM.R_sI, jM.R_sL, jM.R_fI, jM.R_fL, *]; done)) rfl ?_
    refine J.iload_n (pc' := 12) rfl rfl rfl ?_
    refine J.callS (pc' := 15) rfl MJ1_charAt_3b067 ml_J0_495 is_J1_charAt_3b067 (cj_charAt1 hS h0 h1) rfl rfl (Nat.le_of_ble_eq_true rfl) (by first | omega | (exact R.r _ _) | (simp only [jM.len_sI, jM.len_sL, jM.len_sR, jM.len_fI, jM.len_fL, jM.len_fR]; omega) | (simp [jM.len_nw, jM.len_sI, jM.len_sL, jM.len_sR, jM.len_fI, jM.len_fL, jM.len_fR, *]; omega)) (by first | omega | (exact R.r _ _) | (simp only [jM.len_sI, jM.len_sL, jM.len_sR, jM.len_fI, jM.len_fL, jM.len_fR]; omega) | (simp [jM.len_nw, jM.len_sI, jM.len_sL, jM.len_sR, jM.len_fI, jM.len_fL, jM.len_fR, *]; omega)) (by first | omega | (exact R.r _ _) | (simp only [jM.len_sI, jM.len_sL, jM.len_sR, jM.len_fI, jM.len_fL, jM.len_fR]; omega) | (simp [jM.len_nw, jM.len_sI, jM.len_sL, jM.len_sR, jM.len_fI, jM.len_fL, jM.len_fR, *]; omega)) rfl rfl ?_ ?_
    · exact fun _ _ h => h
    rintro _ _ ⟨rfl, rfl⟩
    refine J.zret rfl rfl (narrow_c (by omega)) (by omega) (by omega) ?_
    exact ⟨rfl, rfl⟩
end ST

