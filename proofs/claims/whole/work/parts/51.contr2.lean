section M22
variable {γ : jG} {β : jB} {V : VV}
abbrev ctL (β : jB) (n sel dy c : Int) : List (Nat × Value) := [(0, .ref (β.2 16)), (1, .int (jI n)), (2, .int (jI sel)), (3, .int (jI dy)), (4, .int (jI c))]
theorem ct_b308 {n sel dy c e : Int} {U : VV} (B : isB β) (h : cB U V c n e) {lv : List (Nat × Value)} (hlv : hasL lv (ctL β n sel dy c)) : J γ mX12_contract 4 0 0 0 0 (jP β U) 308 lv [] (ctR β V c sel dy (.inl e)) X0 := by
  obtain ⟨R, S, a1, a2, a3, a4⟩ := h
  have hf := R.f
  have sb := sk_b (T := U 116) (n := U 16 12) (p := U 16 13) (by omega)
  have R' : isR (jU U 16 13 (sk (U 116) (U 16 12) (U 16 13))) := R.up (fun _ => by show (0 : Int) ≤ sk (U 116) (U 16 12) (U 16 13) ∧ sk (U 116) (U 16 12) (U 16 13) ≤ 400; omega)
  have S' : scc c (jU U 16 13 (sk (U 116) (U 16 12) (U 16 13))) V := S.up (cSc_16 (by omega))
  have e4 : (jU U 16 13 (sk (U 116) (U 16 12) (U 16 13))) 16 14 = e := a3
  refine J.lc hlv ?_
  first | refine J.aload_n (pc' := 309) rfl rfl rfl ?_ | refine J.aload_nN (pc' := 309) rfl rfl rfl ?_
  refine J.callV (pc' := 312) (t := 16) rfl MX12_here ml_X12_197 iv_X12_here (by decide) ⟨_, rfl, rfl⟩ B.1 (cm_here B R (by omega)) rfl rfl (Nat.le_of_ble_eq_true rfl) (by first | omega | (exact R.r _ _) | (simp only [jM.len_sI, jM.len_sL, jM.len_sR, jM.len_fI, jM.len_fL, jM.len_fR]; omega) | (simp [jM.len_nw, jM.len_sI, jM.len_sL, jM.len_sR, jM.len_fI, jM.len_fL, jM.len_fR, *]; omega)) (by first | omega | (exact R.r _ _) | (simp only [jM.len_sI, jM.len_sL, jM.len_sR, jM.len_fI, jM.len_fL, jM.len_fR]; omega) | (simp [jM.len_nw, jM.len_sI, jM.len_sL, jM.len_sR, jM.len_fI, jM.len_fL, jM.len_fR, *]; omega)) (by first | omega | (exact R.r _ _) | (simp only [jM.len_sI, jM.len_sL, jM.len_sR, jM.len_fI, jM.len_fL, jM.len_fR]; omega) | (simp [jM.len_nw, jM.len_sI, jM.len_sL, jM.len_sR, jM.len_fI, jM.len_fL, jM.len_fR, *]; omega)) rfl rfl ?_ ?_
  · exact fun _ _ h => h
  rintro _ _ ⟨rfl, rfl⟩
  generalize jU U 16 13 (sk (U 116) (U 16 12) (U 16 13)) = W at R' S' e4 ⊢
  refine J.pop (pc' := 313) rfl rfl rfl ?_
  first | refine J.aload_n (pc' := 314) rfl rfl rfl ?_ | refine J.aload_nN (pc' := 314) rfl rfl rfl ?_
  refine J.callV (pc' := 317) (t := 16) rfl MX12_fine ml_X12_212 iv_X12_fine (by decide) ⟨_, rfl, rfl⟩ B.1 (cm_fine B R') rfl rfl (Nat.le_of_ble_eq_true rfl) (by first | omega | (exact R.r _ _) | (simp only [jM.len_sI, jM.len_sL, jM.len_sR, jM.len_fI, jM.len_fL, jM.len_fR]; omega) | (simp [jM.len_nw, jM.len_sI, jM.len_sL, jM.len_sR, jM.len_fI, jM.len_fL, jM.len_fR, *]; omega)) (by first | omega | (exact R.r _ _) | (simp only [jM.len_sI, jM.len_sL, jM.len_sR, jM.len_fI, jM.len_fL, jM.len_fR]; omega) | (simp [jM.len_nw, jM.len_sI, jM.len_sL, jM.len_sR, jM.len_fI, jM.len_fL, jM.len_fR, *]; omega)) (by first | omega | (exact R.r _ _) | (simp only [jM.len_sI, jM.len_sL, jM.len_sR, jM.len_fI, jM.len_fL, jM.len_fR]; omega) | (simp [jM.len_nw, jM.len_sI, jM.len_sL, jM.len_sR, jM.len_fI, jM.len_fL, jM.len_fR, *]; omega)) rfl rfl ?_ ?_
  · exact fun _ _ h => h
  rintro _ _ ⟨rfl, rfl⟩
  rw [if_neg (by omega)]
  refine J.if_eq (tgt := 339) (pc' := 320) rfl rfl rfl (by first | omega | (exact R.r _ _) | (simp only [jM.len_sI, jM.len_sL, jM.len_sR, jM.len_fI, jM.len_fL, jM.len_fR]; omega) | (simp [jM.len_nw, jM.len_sI, jM.len_sL, jM.len_sR, jM.len_fI, jM.len_fL, jM.len_fR, *]; omega)) (fun c1 => ?_) (fun c1 => ?_)
  · first | refine J.aload_n (pc' := 340) rfl rfl rfl ?_ | refine J.aload_nN (pc' := 340) rfl rfl rfl ?_
    refine J.callV (pc' := 343) (t := 16) rfl MX12_fine ml_X12_212 iv_X12_fine (by decide) ⟨_, rfl, rfl⟩ B.1 (cm_fine B R') rfl rfl (Nat.le_of_ble_eq_true rfl) (by first | omega | (exact R.r _ _) | (simp only [jM.len_sI, jM.len_sL, jM.len_sR, jM.len_fI, jM.len_fL, jM.len_fR]; omega) | (simp [jM.len_nw, jM.len_sI, jM.len_sL, jM.len_sR, jM.len_fI, jM.len_fL, jM.len_fR, *]; omega)) (by first | omega | (exact R.r _ _) | (simp only [jM.len_sI, jM.len_sL, jM.len_sR, jM.len_fI, jM.len_fL, jM.len_fR]; omega) | (simp [jM.len_nw, jM.len_sI, jM.len_sL, jM.len_sR, jM.len_fI, jM.len_fL, jM.len_fR, *]; omega)) (by first | omega | (exact R.r _ _) | (simp only [jM.len_sI, jM.len_sL, jM.len_sR, jM.len_fI, jM.len_fL, jM.len_fR]; omega) | (simp [jM.len_nw, jM.len_sI, jM.len_sL, jM.len_sR, jM.len_fI, jM.len_fL, jM.len_fR, *]; omega)) rfl rfl ?_ ?_
    · exact fun _ _ h => h
    rintro _ _ ⟨rfl, rfl⟩
    rw [if_neg (by omega)]
    refine J.if_ne (tgt := 354) (pc' := 346) rfl rfl rfl (by first | omega | (exact R.r _ _) | (simp only [jM.len_sI, jM.len_sL, jM.len_sR, jM.len_fI, jM.len_fL, jM.len_fR]; omega) | (simp [jM.len_nw, jM.len_sI, jM.len_sL, jM.len_sR, jM.len_fI, jM.len_fL, jM.len_fR, *]; omega)) (fun c2 => ?_) (fun c2 => ?_)
    · omega
    · refine J.bipush (pc' := 348) rfl rfl (by decide) ?_
      first | refine J.aload_n (pc' := 349) rfl rfl rfl ?_ | refine J.aload_nN (pc' := 349) rfl rfl rfl ?_
      refine J.mgI (pc' := 352) (j := 14) B rfl fl_X12_188 rfl rfl rfl ?_
      rw [e4]
      refine J.isub (pc' := 353) rfl rfl ?_
      refine J.iret rfl rfl (by first | omega | (exact R.r _ _) | (simp only [jM.len_sI, jM.len_sL, jM.len_sR, jM.len_fI, jM.len_fL, jM.len_fR]; omega) | (simp [jM.len_nw, jM.len_sI, jM.len_sL, jM.len_sR, jM.len_fI, jM.len_fL, jM.len_fR, *]; omega)) (by first | omega | (exact R.r _ _) | (simp only [jM.len_sI, jM.len_sL, jM.len_sR, jM.len_fI, jM.len_fL, jM.len_fR]; omega) | (simp [jM.len_nw, jM.len_sI, jM.len_sL, jM.len_sR, jM.len_fI, jM.len_fL, jM.len_fR, *]; omega)) ?_
      exact ⟨rfl, W, R', S', rfl⟩
  · omega
theorem ct_b275 {n sel dy c e : Int} {U : VV} (B : isB β) (h : cB U V c n e) {lv : List (Nat × Value)} (hlv : hasL lv (ctL β n sel dy c)) : J γ mX12_contract 4 0 0 0 0 (jP β U) 275 lv [] (ctR β V c sel dy (.inl e)) X0 := by
  have h0 := h
  obtain ⟨R, S, a1, a2, a3, a4⟩ := h0
  refine J.lc hlv ?_
  first | refine J.aload_n (pc' := 276) rfl rfl rfl ?_ | refine J.aload_nN (pc' := 276) rfl rfl rfl ?_
  refine J.callV (pc' := 279) (t := 16) rfl MX12_fine ml_X12_212 iv_X12_fine (by decide) ⟨_, rfl, rfl⟩ B.1 (cm_fine B R) rfl rfl (Nat.le_of_ble_eq_true rfl) (by first | omega | (exact R.r _ _) | (simp only [jM.len_sI, jM.len_sL, jM.len_sR, jM.len_fI, jM.len_fL, jM.len_fR]; omega) | (simp [jM.len_nw, jM.len_sI, jM.len_sL, jM.len_sR, jM.len_fI, jM.len_fL, jM.len_fR, *]; omega)) (by first | omega | (exact R.r _ _) | (simp only [jM.len_sI, jM.len_sL, jM.len_sR, jM.len_fI, jM.len_fL, jM.len_fR]; omega) | (simp [jM.len_nw, jM.len_sI, jM.len_sL, jM.len_sR, jM.len_fI, jM.len_fL, jM.len_fR, *]; omega)) (by first | omega | (exact R.r _ _) | (simp only [jM.len_sI, jM.len_sL, jM.len_sR, jM.len_fI, jM.len_fL, jM.len_fR]; omega) | (simp [jM.len_nw, jM.len_sI, jM.len_sL, jM.len_sR, jM.len_fI, jM.len_fL, jM.len_fR, *]; omega)) rfl rfl ?_ ?_
  · exact fun _ _ h => h
  rintro _ _ ⟨rfl, rfl⟩
  rw [if_neg (by omega)]
  refine J.if_eq (tgt := 308) (pc' := 282) rfl rfl rfl (by first | omega | (exact R.r _ _) | (simp only [jM.len_sI, jM.len_sL, jM.len_sR, jM.len_fI, jM.len_fL, jM.len_fR]; omega) | (simp [jM.len_nw, jM.len_sI, jM.len_sL, jM.len_sR, jM.len_fI, jM.len_fL, jM.len_fR, *]; omega)) (fun c1 => ?_) (fun c1 => ?_)
  · exact ct_b308 B h ⟨rfl, rfl, rfl, rfl, rfl, trivial⟩
  · omega
theorem ct_b131 {n sel dy c e : Int} {U : VV} (B : isB β) (h : cB U V c n e) {lv : List (Nat × Value)} (hlv : hasL lv (ctL β n sel dy c)) : J γ mX12_contract 4 0 0 0 0 (jP β U) 131 lv [] (ctR β V c sel dy (.inl e)) X0 := by
  have h0 := h
  obtain ⟨R, S, a1, a2, a3, a4⟩ := h0
  refine J.lc hlv ?_
  first | refine J.aload_n (pc' := 132) rfl rfl rfl ?_ | refine J.aload_nN (pc' := 132) rfl rfl rfl ?_
  refine J.callV (pc' := 135) (t := 16) rfl MX12_fine ml_X12_212 iv_X12_fine (by decide) ⟨_, rfl, rfl⟩ B.1 (cm_fine B R) rfl rfl (Nat.le_of_ble_eq_true rfl) (by first | omega | (exact R.r _ _) | (simp only [jM.len_sI, jM.len_sL, jM.len_sR, jM.len_fI, jM.len_fL, jM.len_fR]; omega) | (simp [jM.len_nw, jM.len_sI, jM.len_sL, jM.len_sR, jM.len_fI, jM.len_fL, jM.len_fR, *]; omega)) (by first | omega | (exact R.r _ _) | (simp only [jM.len_sI, jM.len_sL, jM.len_sR, jM.len_fI, jM.len_fL, jM.len_fR]; omega) | (simp [jM.len_nw, jM.len_sI, jM.len_sL, jM.len_sR, jM.len_fI, jM.len_fL, jM.len_fR, *]; omega)) (by first | omega | (exact R.r _ _) | (simp only [jM.len_sI, jM.len_sL, jM.len_sR, jM.len_fI, jM.len_fL, jM.len_fR]; omega) | (simp [jM.len_nw, jM.len_sI, jM.len_sL, jM.len_sR, jM.len_fI, jM.len_fL, jM.len_fR, *]; omega)) rfl rfl ?_ ?_
  · exact fun _ _ h => h
  rintro _ _ ⟨rfl, rfl⟩
  rw [if_neg (by omega)]
  refine J.if_eq (tgt := 275) (pc' := 138) rfl rfl rfl (by first | omega | (exact R.r _ _) | (simp only [jM.len_sI, jM.len_sL, jM.len_sR, jM.len_fI, jM.len_fL, jM.len_fR]; omega) | (simp [jM.len_nw, jM.len_sI, jM.len_sL, jM.len_sR, jM.len_fI, jM.len_fL, jM.len_fR, *]; omega)) (fun c1 => ?_) (fun c1 => ?_)
  · exact ct_b275 B h ⟨rfl, rfl, rfl, rfl, rfl, trivial⟩
  · omega
/-- the grade g with pay x is written -/
theorem ct_217 {n sel dy c g x : Int} {U : VV} {Q : Option Value → jM → Prop} (B : isB β) (R : isR U) (hc : 0 ≤ c ∧ c < 20) (hg : U 119 c = g) (hg2 : 0 ≤ g ∧ g < 12)
    (k : ∀ lv, hasL lv (ctL β n sel dy c) → J γ mX12_contract 4 0 0 0 0 (jP β (gwV U c g x)) 131 lv [] Q X0)
    {lv : List (Nat × Value)} (hlv : hasL lv (ctL β n sel dy c)) : J γ mX12_contract 4 0 0 0 0 (jP β U) 217 lv [.int (jI x)] Q X0 := by
  refine J.lc hlv ?_
  refine J.istore (pc' := 219) rfl rfl (by decide) ?_
  refine J.lc (lv' := [(0, .ref (β.2 16)), (1, .int (jI n)), (2, .int (jI sel)), (3, .int (jI dy)), (4, .int (jI c)), (5, .int (jI x))]) (by repeat' (first | exact trivial | refine ⟨rfl, ?_⟩)) ?_
  first | refine J.aload_n (pc' := 220) rfl rfl rfl ?_ | refine J.aload_nN (pc' := 220) rfl rfl rfl ?_
  refine J.mgR (pc' := 223) (t := 121) B rfl fl_X12_49 rfl rfl (by decide) rfl ?_
  refine J.bipush (pc' := 225) rfl rfl (by decide) ?_
  refine J.iload (pc' := 227) rfl rfl rfl ?_
  refine J.imul (pc' := 228) rfl rfl ?_
  first | refine J.aload_n (pc' := 229) rfl rfl rfl ?_ | refine J.aload_nN (pc' := 229) rfl rfl rfl ?_
  refine J.mgR (pc' := 232) (t := 119) B rfl fl_X12_43 rfl rfl (by decide) rfl ?_
  refine J.iload (pc' := 234) rfl rfl rfl ?_
  refine J.mald (pc' := 235) B rfl rfl rfl (by omega) (by simp only [jLn]; omega) rfl ?_
  rw [hg]
  refine J.iadd (pc' := 236) rfl rfl ?_
  refine J.iload (pc' := 238) rfl rfl rfl ?_
  refine J.mast (pc' := 239) B rfl rfl rfl rfl (by omega) (by simp only [jLn]; omega) rfl ?_
  first | refine J.aload_n (pc' := 240) rfl rfl rfl ?_ | refine J.aload_nN (pc' := 240) rfl rfl rfl ?_
  refine J.mgR (pc' := 243) (t := 119) B rfl fl_X12_43 rfl rfl (by decide) rfl ?_
  refine J.iload (pc' := 245) rfl rfl rfl ?_
  first | refine J.dup2 (pc' := 246) rfl rfl rfl rfl ?_ | refine J.dup2L (pc' := 246) rfl rfl rfl ?_
  refine J.mald (pc' := 247) B rfl rfl rfl (by omega) (by simp only [jLn]; omega) rfl ?_
  rw [jU_o _ (by decide), hg]
  refine J.iconst (pc' := 248) rfl rfl ?_
  refine J.iadd (pc' := 249) rfl rfl ?_
  refine J.mast (pc' := 250) B rfl rfl rfl rfl (by omega) (by simp only [jLn]; omega) rfl ?_
  first | refine J.aload_n (pc' := 251) rfl rfl rfl ?_ | refine J.aload_nN (pc' := 251) rfl rfl rfl ?_
  refine J.mgR (pc' := 254) (t := 122) B rfl fl_X12_52 rfl rfl (by decide) rfl ?_
  refine J.bipush (pc' := 256) rfl rfl (by decide) ?_
  refine J.iload (pc' := 258) rfl rfl rfl ?_
  refine J.imul (pc' := 259) rfl rfl ?_
  first | refine J.aload_n (pc' := 260) rfl rfl rfl ?_ | refine J.aload_nN (pc' := 260) rfl rfl rfl ?_
  refine J.mgR (pc' := 263) (t := 119) B rfl fl_X12_43 rfl rfl (by decide) rfl ?_
  refine J.iload (pc' := 265) rfl rfl rfl ?_
  refine J.mald (pc' := 266) B rfl rfl rfl (by omega) (by simp only [jLn]; omega) rfl ?_
  rw [jU_same]
  refine J.iadd (pc' := 267) rfl rfl ?_
  first | refine J.aload_n (pc' := 268) rfl rfl rfl ?_ | refine J.aload_nN (pc' := 268) rfl rfl rfl ?_
  refine J.mgI (pc' := 271) (j := 15) B rfl fl_X12_242 rfl rfl rfl ?_
  rw [jU_o _ (by decide), jU_o _ (by decide)]
  refine J.mast (pc' := 272) B rfl rfl rfl rfl (by omega) (by simp only [jLn]; omega) rfl ?_
  refine J.goto (tgt := 131) rfl rfl ?_
  exact k _ ⟨rfl, rfl, rfl, rfl, rfl, trivial⟩
theorem ct_b213 {n sel dy c e : Int} {U : VV} (B : isB β) (h : cB U V c n e) (hc : 0 ≤ c ∧ c < 20) (hg : U 119 c < 12) {lv : List (Nat × Value)} (hlv : hasL lv (ctL β n sel dy c)) : J γ mX12_contract 4 0 0 0 0 (jP β U) 213 lv [] (ctR β V c sel dy (.inl e)) X0 := by
  have h0 := h
  obtain ⟨R, S, a1, a2, a3, a4⟩ := h0
  have r9 := R 119 c rfl
  simp [jLo, jHi] at r9
  refine J.lc hlv ?_
  first | refine J.aload_n (pc' := 214) rfl rfl rfl ?_ | refine J.aload_nN (pc' := 214) rfl rfl rfl ?_
  refine J.callV (pc' := 217) (t := 16) rfl MX12_pay ml_X12_259 iv_X12_pay (by decide) ⟨_, rfl, rfl⟩ B.1 (cm_payB B R (by omega)) rfl rfl (Nat.le_of_ble_eq_true rfl) (by first | omega | (exact R.r _ _) | (simp only [jM.len_sI, jM.len_sL, jM.len_sR, jM.len_fI, jM.len_fL, jM.len_fR]; omega) | (simp [jM.len_nw, jM.len_sI, jM.len_sL, jM.len_sR, jM.len_fI, jM.len_fL, jM.len_fR, *]; omega)) (by first | omega | (exact R.r _ _) | (simp only [jM.len_sI, jM.len_sL, jM.len_sR, jM.len_fI, jM.len_fL, jM.len_fR]; omega) | (simp [jM.len_nw, jM.len_sI, jM.len_sL, jM.len_sR, jM.len_fI, jM.len_fL, jM.len_fR, *]; omega)) (by first | omega | (exact R.r _ _) | (simp only [jM.len_sI, jM.len_sL, jM.len_sR, jM.len_fI, jM.len_fL, jM.len_fR]; omega) | (simp [jM.len_nw, jM.len_sI, jM.len_sL, jM.len_sR, jM.len_fI, jM.len_fL, jM.len_fR, *]; omega)) rfl rfl ?_ ?_
  · exact fun _ _ h => h
  rintro _ _ ⟨rfl, rfl⟩
  exact ct_217 B R hc rfl (by omega) (fun lv hlv => ct_b131 B ⟨gwV_R R (by omega) (by omega), gwV_S S (by omega), a1, a2, a3, a4⟩ hlv) ⟨rfl, rfl, rfl, rfl, rfl, trivial⟩
theorem ct_b180 {n sel dy c e : Int} {U : VV} (B : isB β) (h : cB U V c n e) (hc : 0 ≤ c ∧ c < 20) (hg : U 119 c < 12) {lv : List (Nat × Value)} (hlv : hasL lv (ctL β n sel dy c)) : J γ mX12_contract 4 0 0 0 0 (jP β U) 180 lv [] (ctR β V c sel dy (.inl e)) X0 := by
  have h0 := h
  obtain ⟨R, S, a1, a2, a3, a4⟩ := h0
  refine J.lc hlv ?_
  first | refine J.aload_n (pc' := 181) rfl rfl rfl ?_ | refine J.aload_nN (pc' := 181) rfl rfl rfl ?_
  refine J.callV (pc' := 184) (t := 16) rfl MX12_fine ml_X12_212 iv_X12_fine (by decide) ⟨_, rfl, rfl⟩ B.1 (cm_fine B R) rfl rfl (Nat.le_of_ble_eq_true rfl) (by first | omega | (exact R.r _ _) | (simp only [jM.len_sI, jM.len_sL, jM.len_sR, jM.len_fI, jM.len_fL, jM.len_fR]; omega) | (simp [jM.len_nw, jM.len_sI, jM.len_sL, jM.len_sR, jM.len_fI, jM.len_fL, jM.len_fR, *]; omega)) (by first | omega | (exact R.r _ _) | (simp only [jM.len_sI, jM.len_sL, jM.len_sR, jM.len_fI, jM.len_fL, jM.len_fR]; omega) | (simp [jM.len_nw, jM.len_sI, jM.len_sL, jM.len_sR, jM.len_fI, jM.len_fL, jM.len_fR, *]; omega)) (by first | omega | (exact R.r _ _) | (simp only [jM.len_sI, jM.len_sL, jM.len_sR, jM.len_fI, jM.len_fL, jM.len_fR]; omega) | (simp [jM.len_nw, jM.len_sI, jM.len_sL, jM.len_sR, jM.len_fI, jM.len_fL, jM.len_fR, *]; omega)) rfl rfl ?_ ?_
  · exact fun _ _ h => h
  rintro _ _ ⟨rfl, rfl⟩
  rw [if_neg (by omega)]
  refine J.if_eq (tgt := 213) (pc' := 187) rfl rfl rfl (by first | omega | (exact R.r _ _) | (simp only [jM.len_sI, jM.len_sL, jM.len_sR, jM.len_fI, jM.len_fL, jM.len_fR]; omega) | (simp [jM.len_nw, jM.len_sI, jM.len_sL, jM.len_sR, jM.len_fI, jM.len_fL, jM.len_fR, *]; omega)) (fun c1 => ?_) (fun c1 => ?_)
  · exact ct_b213 B h hc hg ⟨rfl, rfl, rfl, rfl, rfl, trivial⟩
  · omega
/-- the end of the text, else read -/
theorem ct_308 {n sel dy c p k K ep : Int} {U : VV} {gl : List Grd} (B : isB β) (R : isR U) (S : scc c U V) (e12 : U 16 12 = n) (e13 : U 16 13 = p) (e14 : U 16 14 = -1) (hp : p ≤ n) (hc : 0 ≤ c ∧ c < 20) (e11 : U 16 11 = c) (hG : gRep U c gl K) (hE : U 120 c = ep) {lv : List (Nat × Value)} (hlv : hasL lv (ctL β n sel dy c)) : J γ mX12_contract 4 0 0 0 0 (jP β U) 308 lv [] (ctR β V c sel dy (if sk (V 116) n p = n then .inr (gl, ep) else .inl (sk (V 116) n p))) X0 := by
  have hf := R.f
  have sb := sk_b (T := V 116) (n := n) (p := p) (by omega)
  have eT := S.T
  obtain ⟨s, hs⟩ : ∃ s, sk (V 116) n p = s := ⟨_, rfl⟩
  rw [hs] at sb
  have R' : isR (jU U 16 13 s) := R.up (fun _ => by show (0 : Int) ≤ s ∧ s ≤ 400; omega)
  have S' : scc c (jU U 16 13 s) V := S.up (cSc_16 (by omega))
  have e4 : (jU U 16 13 s) 16 14 = -1 := e14
  rw [hs]
  refine J.lc hlv ?_
  first | refine J.aload_n (pc' := 309) rfl rfl rfl ?_ | refine J.aload_nN (pc' := 309) rfl rfl rfl ?_
  refine J.callV (pc' := 312) (t := 16) rfl MX12_here ml_X12_197 iv_X12_here (by decide) ⟨_, rfl, rfl⟩ B.1 (cm_here B R (by omega)) rfl rfl (Nat.le_of_ble_eq_true rfl) (by first | omega | (exact R.r _ _) | (simp only [jM.len_sI, jM.len_sL, jM.len_sR, jM.len_fI, jM.len_fL, jM.len_fR]; omega) | (simp [jM.len_nw, jM.len_sI, jM.len_sL, jM.len_sR, jM.len_fI, jM.len_fL, jM.len_fR, *]; omega)) (by first | omega | (exact R.r _ _) | (simp only [jM.len_sI, jM.len_sL, jM.len_sR, jM.len_fI, jM.len_fL, jM.len_fR]; omega) | (simp [jM.len_nw, jM.len_sI, jM.len_sL, jM.len_sR, jM.len_fI, jM.len_fL, jM.len_fR, *]; omega)) (by first | omega | (exact R.r _ _) | (simp only [jM.len_sI, jM.len_sL, jM.len_sR, jM.len_fI, jM.len_fL, jM.len_fR]; omega) | (simp [jM.len_nw, jM.len_sI, jM.len_sL, jM.len_sR, jM.len_fI, jM.len_fL, jM.len_fR, *]; omega)) rfl rfl ?_ ?_
  · exact fun _ _ h => h
  rintro _ _ ⟨rfl, rfl⟩
  rw [eT, e12, e13, hs]
  refine J.pop (pc' := 313) rfl rfl rfl ?_
  first | refine J.aload_n (pc' := 314) rfl rfl rfl ?_ | refine J.aload_nN (pc' := 314) rfl rfl rfl ?_
  refine J.callV (pc' := 317) (t := 16) rfl MX12_fine ml_X12_212 iv_X12_fine (by decide) ⟨_, rfl, rfl⟩ B.1 (cm_fine B R') rfl rfl (Nat.le_of_ble_eq_true rfl) (by first | omega | (exact R.r _ _) | (simp only [jM.len_sI, jM.len_sL, jM.len_sR, jM.len_fI, jM.len_fL, jM.len_fR]; omega) | (simp [jM.len_nw, jM.len_sI, jM.len_sL, jM.len_sR, jM.len_fI, jM.len_fL, jM.len_fR, *]; omega)) (by first | omega | (exact R.r _ _) | (simp only [jM.len_sI, jM.len_sL, jM.len_sR, jM.len_fI, jM.len_fL, jM.len_fR]; omega) | (simp [jM.len_nw, jM.len_sI, jM.len_sL, jM.len_sR, jM.len_fI, jM.len_fL, jM.len_fR, *]; omega)) (by first | omega | (exact R.r _ _) | (simp only [jM.len_sI, jM.len_sL, jM.len_sR, jM.len_fI, jM.len_fL, jM.len_fR]; omega) | (simp [jM.len_nw, jM.len_sI, jM.len_sL, jM.len_sR, jM.len_fI, jM.len_fL, jM.len_fR, *]; omega)) rfl rfl ?_ ?_
  · exact fun _ _ h => h
  rintro _ _ ⟨rfl, rfl⟩
  rw [if_pos e4]
  refine J.if_eq (tgt := 339) (pc' := 320) rfl rfl rfl (by first | omega | (exact R.r _ _) | (simp only [jM.len_sI, jM.len_sL, jM.len_sR, jM.len_fI, jM.len_fL, jM.len_fR]; omega) | (simp [jM.len_nw, jM.len_sI, jM.len_sL, jM.len_sR, jM.len_fI, jM.len_fL, jM.len_fR, *]; omega)) (fun c1 => ?_) (fun c1 => ?_)
  · omega
  · first | refine J.aload_n (pc' := 321) rfl rfl rfl ?_ | refine J.aload_nN (pc' := 321) rfl rfl rfl ?_
    refine J.mgI (pc' := 324) (j := 13) B rfl fl_X12_191 rfl rfl rfl ?_
    first | refine J.aload_n (pc' := 325) rfl rfl rfl ?_ | refine J.aload_nN (pc' := 325) rfl rfl rfl ?_
    refine J.mgI (pc' := 328) (j := 12) B rfl fl_X12_194 rfl rfl rfl ?_
    rw [jU_same, jU_i _ (by decide), e12]
    refine J.icmp_ge (tgt := 339) (pc' := 331) rfl rfl rfl (by first | omega | (exact R.r _ _) | (simp only [jM.len_sI, jM.len_sL, jM.len_sR, jM.len_fI, jM.len_fL, jM.len_fR]; omega) | (simp [jM.len_nw, jM.len_sI, jM.len_sL, jM.len_sR, jM.len_fI, jM.len_fL, jM.len_fR, *]; omega)) (by first | omega | (exact R.r _ _) | (simp only [jM.len_sI, jM.len_sL, jM.len_sR, jM.len_fI, jM.len_fL, jM.len_fR]; omega) | (simp [jM.len_nw, jM.len_sI, jM.len_sL, jM.len_sR, jM.len_fI, jM.len_fL, jM.len_fR, *]; omega)) (fun c2 => ?_) (fun c2 => ?_)
    · first | refine J.aload_n (pc' := 340) rfl rfl rfl ?_ | refine J.aload_nN (pc' := 340) rfl rfl rfl ?_
      refine J.callV (pc' := 343) (t := 16) rfl MX12_fine ml_X12_212 iv_X12_fine (by decide) ⟨_, rfl, rfl⟩ B.1 (cm_fine B R') rfl rfl (Nat.le_of_ble_eq_true rfl) (by first | omega | (exact R.r _ _) | (simp only [jM.len_sI, jM.len_sL, jM.len_sR, jM.len_fI, jM.len_fL, jM.len_fR]; omega) | (simp [jM.len_nw, jM.len_sI, jM.len_sL, jM.len_sR, jM.len_fI, jM.len_fL, jM.len_fR, *]; omega)) (by first | omega | (exact R.r _ _) | (simp only [jM.len_sI, jM.len_sL, jM.len_sR, jM.len_fI, jM.len_fL, jM.len_fR]; omega) | (simp [jM.len_nw, jM.len_sI, jM.len_sL, jM.len_sR, jM.len_fI, jM.len_fL, jM.len_fR, *]; omega)) (by first | omega | (exact R.r _ _) | (simp only [jM.len_sI, jM.len_sL, jM.len_sR, jM.len_fI, jM.len_fL, jM.len_fR]; omega) | (simp [jM.len_nw, jM.len_sI, jM.len_sL, jM.len_sR, jM.len_fI, jM.len_fL, jM.len_fR, *]; omega)) rfl rfl ?_ ?_
      · exact fun _ _ h => h
      rintro _ _ ⟨rfl, rfl⟩
      rw [if_pos e4]
      refine J.if_ne (tgt := 354) (pc' := 346) rfl rfl rfl (by first | omega | (exact R.r _ _) | (simp only [jM.len_sI, jM.len_sL, jM.len_sR, jM.len_fI, jM.len_fL, jM.len_fR]; omega) | (simp [jM.len_nw, jM.len_sI, jM.len_sL, jM.len_sR, jM.len_fI, jM.len_fL, jM.len_fR, *]; omega)) (fun c3 => ?_) (fun c3 => ?_)
      · rw [if_pos (by omega)]
        first | refine J.aload_n (pc' := 355) rfl rfl rfl ?_ | refine J.aload_nN (pc' := 355) rfl rfl rfl ?_
        refine J.mgR (pc' := 358) (t := 117) B rfl fl_X12_37 rfl rfl (by decide) rfl ?_
        refine J.iload (pc' := 360) rfl rfl rfl ?_
        refine J.iload_n (pc' := 361) rfl rfl rfl ?_
        refine J.mast (pc' := 362) B rfl rfl rfl rfl (by omega) (by simp only [jLn]; omega) rfl ?_
        first | refine J.aload_n (pc' := 363) rfl rfl rfl ?_ | refine J.aload_nN (pc' := 363) rfl rfl rfl ?_
        refine J.mgR (pc' := 366) (t := 118) B rfl fl_X12_40 rfl rfl (by decide) rfl ?_
        refine J.iload (pc' := 368) rfl rfl rfl ?_
        refine J.iload_n (pc' := 369) rfl rfl rfl ?_
        refine J.mast (pc' := 370) B rfl rfl rfl rfl (by omega) (by simp only [jLn]; omega) rfl ?_
        first | refine J.aload_n (pc' := 371) rfl rfl rfl ?_ | refine J.aload_nN (pc' := 371) rfl rfl rfl ?_
        refine J.dup (pc' := 372) rfl rfl rfl ?_
        refine J.mgI (pc' := 375) (j := 11) B rfl fl_X12_239 rfl rfl rfl ?_
        rw [jU_o _ (by decide), jU_o _ (by decide), jU_i _ (by decide), e11]
        refine J.iconst (pc' := 376) rfl rfl ?_
        refine J.iadd (pc' := 377) rfl rfl ?_
        refine J.mpI (pc' := 380) (j := 11) B rfl fl_X12_239 rfl rfl rfl rfl ?_
        refine J.iload (pc' := 382) rfl rfl rfl ?_
        refine J.iret rfl rfl (by first | omega | (exact R.r _ _) | (simp only [jM.len_sI, jM.len_sL, jM.len_sR, jM.len_fI, jM.len_fL, jM.len_fR]; omega) | (simp [jM.len_nw, jM.len_sI, jM.len_sL, jM.len_sR, jM.len_fI, jM.len_fL, jM.len_fR, *]; omega)) (by first | omega | (exact R.r _ _) | (simp only [jM.len_sI, jM.len_sL, jM.len_sR, jM.len_fI, jM.len_fL, jM.len_fR]; omega) | (simp [jM.len_nw, jM.len_sI, jM.len_sL, jM.len_sR, jM.len_fI, jM.len_fL, jM.len_fR, *]; omega)) ?_
        exact ⟨rfl, jU U 16 13 s, K, R', S', hG, hE, rfl⟩
      · omega
    · rw [if_neg (by omega)]
      first | refine J.aload_n (pc' := 332) rfl rfl rfl ?_ | refine J.aload_nN (pc' := 332) rfl rfl rfl ?_
      first | refine J.aload_n (pc' := 333) rfl rfl rfl ?_ | refine J.aload_nN (pc' := 333) rfl rfl rfl ?_
      refine J.mgI (pc' := 336) (j := 13) B rfl fl_X12_191 rfl rfl rfl ?_
      rw [jU_same]
      refine J.callV (pc' := 339) (t := 16) rfl MX12_wrong ml_X12_208 iv_X12_wrong (by decide) ⟨_, rfl, rfl⟩ B.1 (cm_wrong B R') rfl rfl (Nat.le_of_ble_eq_true rfl) (by first | omega | (exact R.r _ _) | (simp only [jM.len_sI, jM.len_sL, jM.len_sR, jM.len_fI, jM.len_fL, jM.len_fR]; omega) | (simp [jM.len_nw, jM.len_sI, jM.len_sL, jM.len_sR, jM.len_fI, jM.len_fL, jM.len_fR, *]; omega)) (by first | omega | (exact R.r _ _) | (simp only [jM.len_sI, jM.len_sL, jM.len_sR, jM.len_fI, jM.len_fL, jM.len_fR]; omega) | (simp [jM.len_nw, jM.len_sI, jM.len_sL, jM.len_sR, jM.len_fI, jM.len_fL, jM.len_fR, *]; omega)) (by first | omega | (exact R.r _ _) | (simp only [jM.len_sI, jM.len_sL, jM.len_sR, jM.len_fI, jM.len_fL, jM.len_fR]; omega) | (simp [jM.len_nw, jM.len_sI, jM.len_sL, jM.len_sR, jM.len_fI, jM.len_fL, jM.len_fR, *]; omega)) rfl rfl ?_ ?_
      · exact fun _ _ h => h
      rintro _ _ ⟨rfl, rfl⟩
      rw [if_pos e4]
      have R2 : isR (jU (jU U 16 13 s) 16 14 s) := R'.up (fun _ => by show (-1 : Int) ≤ s ∧ s ≤ 400; omega)
      first | refine J.aload_n (pc' := 340) rfl rfl rfl ?_ | refine J.aload_nN (pc' := 340) rfl rfl rfl ?_
      refine J.callV (pc' := 343) (t := 16) rfl MX12_fine ml_X12_212 iv_X12_fine (by decide) ⟨_, rfl, rfl⟩ B.1 (cm_fine B R2) rfl rfl (Nat.le_of_ble_eq_true rfl) (by first | omega | (exact R.r _ _) | (simp only [jM.len_sI, jM.len_sL, jM.len_sR, jM.len_fI, jM.len_fL, jM.len_fR]; omega) | (simp [jM.len_nw, jM.len_sI, jM.len_sL, jM.len_sR, jM.len_fI, jM.len_fL, jM.len_fR, *]; omega)) (by first | omega | (exact R.r _ _) | (simp only [jM.len_sI, jM.len_sL, jM.len_sR, jM.len_fI, jM.len_fL, jM.len_fR]; omega) | (simp [jM.len_nw, jM.len_sI, jM.len_sL, jM.len_sR, jM.len_fI, jM.len_fL, jM.len_fR, *]; omega)) (by first | omega | (exact R.r _ _) | (simp only [jM.len_sI, jM.len_sL, jM.len_sR, jM.len_fI, jM.len_fL, jM.len_fR]; omega) | (simp [jM.len_nw, jM.len_sI, jM.len_sL, jM.len_sR, jM.len_fI, jM.len_fL, jM.len_fR, *]; omega)) rfl rfl ?_ ?_
      · exact fun _ _ h => h
      rintro _ _ ⟨rfl, rfl⟩
      rw [if_neg (by rw [jU_same]; omega)]
      refine J.if_ne (tgt := 354) (pc' := 346) rfl rfl rfl (by first | omega | (exact R.r _ _) | (simp only [jM.len_sI, jM.len_sL, jM.len_sR, jM.len_fI, jM.len_fL, jM.len_fR]; omega) | (simp [jM.len_nw, jM.len_sI, jM.len_sL, jM.len_sR, jM.len_fI, jM.len_fL, jM.len_fR, *]; omega)) (fun c3 => ?_) (fun c3 => ?_)
      · omega
      · refine J.bipush (pc' := 348) rfl rfl (by decide) ?_
        first | refine J.aload_n (pc' := 349) rfl rfl rfl ?_ | refine J.aload_nN (pc' := 349) rfl rfl rfl ?_
        refine J.mgI (pc' := 352) (j := 14) B rfl fl_X12_188 rfl rfl rfl ?_
        rw [jU_same]
        refine J.isub (pc' := 353) rfl rfl ?_
        refine J.iret rfl rfl (by first | omega | (exact R.r _ _) | (simp only [jM.len_sI, jM.len_sL, jM.len_sR, jM.len_fI, jM.len_fL, jM.len_fR]; omega) | (simp [jM.len_nw, jM.len_sI, jM.len_sL, jM.len_sR, jM.len_fI, jM.len_fL, jM.len_fR, *]; omega)) (by first | omega | (exact R.r _ _) | (simp only [jM.len_sI, jM.len_sL, jM.len_sR, jM.len_fI, jM.len_fL, jM.len_fR]; omega) | (simp [jM.len_nw, jM.len_sI, jM.len_sL, jM.len_sR, jM.len_fI, jM.len_fL, jM.len_fR, *]; omega)) ?_
        exact ⟨rfl, _, R2, S'.up (cSc_16 (by omega)), rfl⟩
theorem pPay_e {T : Int → Int} {n p e : Int} (hp : 0 ≤ p ∧ p ≤ n) (h : pPay T n p = .inl e) : 0 ≤ e ∧ e ≤ n := by
  have s1 := sk_b (T := T) hp.2
  have w1 := we_b (T := T) s1.2.1
  have s2 := sk_b (T := T) w1.2.1
  have nb := numN_b (T := T) (n := n) 5 (sk T n (we T n (sk T n p))) 0 s2.2.1 (by omega)
  have s3 := sk_b (T := T) nb.2.2.1
  unfold pPay at h
  split at h
  · have := Sum.inl.inj h; omega
  · split at h
    · have := Sum.inl.inj h; omega
    · split at h
      · cases h
      · have := Sum.inl.inj h; omega
theorem pTest_e {T : Int → Int} {n p e : Int} (hp : 0 ≤ p ∧ p ≤ n) (h : pTest T n p = .inl e) : 0 ≤ e ∧ e ≤ n := by
  have s1 := sk_b (T := T) hp.2
  have w1 := we_b (T := T) s1.2.1
  have s2 := sk_b (T := T) w1.2.1
  unfold pTest at h
  split at h
  · have := Sum.inl.inj h; omega
  · split at h
    · have := Sum.inl.inj h; omega
    · rename_i h2
      have h2' := Classical.not_not.mp h2
      have s3 := sk_b (T := T) (n := n) (p := sk T n (we T n (sk T n p)) + 1) (by omega)
      split at h
      · have := Sum.inl.inj h; omega
      · cases h
/-- behind the grades -/
theorem ct_275 {n sel dy c p k K : Int} {U : VV} {gl : List Grd} (B : isB β) (h : cS U V c n p k) (hn : 0 ≤ p ∧ n ≤ 400) (hc : 0 ≤ c ∧ c < 20) (e11 : U 16 11 = c) (hG : gRep U c gl K) {lv : List (Nat × Value)} (hlv : hasL lv (ctL β n sel dy c)) : J γ mX12_contract 4 0 0 0 0 (jP β U) 275 lv [] (ctR β V c sel dy (pFin (V 116) n gl p)) X0 := by
  have h0 := h
  obtain ⟨R, S, a1, a2, a3, a4, a5, a6, a7⟩ := h0
  have hf := R.f
  have eT := S.T
  have sb := sk_b (T := V 116) (n := n) (p := p) (by omega)
  unfold pFin
  obtain ⟨s, hs⟩ : ∃ s, sk (V 116) n p = s := ⟨_, rfl⟩
  rw [hs] at sb ⊢
  have hS := h.at (q := s) hn.2 (by omega)
  have wb := wcode_b (T := V 116) sb.2.1
  refine J.lc hlv ?_
  first | refine J.aload_n (pc' := 276) rfl rfl rfl ?_ | refine J.aload_nN (pc' := 276) rfl rfl rfl ?_
  refine J.callV (pc' := 279) (t := 16) rfl MX12_fine ml_X12_212 iv_X12_fine (by decide) ⟨_, rfl, rfl⟩ B.1 (cm_fine B R) rfl rfl (Nat.le_of_ble_eq_true rfl) (by first | omega | (exact R.r _ _) | (simp only [jM.len_sI, jM.len_sL, jM.len_sR, jM.len_fI, jM.len_fL, jM.len_fR]; omega) | (simp [jM.len_nw, jM.len_sI, jM.len_sL, jM.len_sR, jM.len_fI, jM.len_fL, jM.len_fR, *]; omega)) (by first | omega | (exact R.r _ _) | (simp only [jM.len_sI, jM.len_sL, jM.len_sR, jM.len_fI, jM.len_fL, jM.len_fR]; omega) | (simp [jM.len_nw, jM.len_sI, jM.len_sL, jM.len_sR, jM.len_fI, jM.len_fL, jM.len_fR, *]; omega)) (by first | omega | (exact R.r _ _) | (simp only [jM.len_sI, jM.len_sL, jM.len_sR, jM.len_fI, jM.len_fL, jM.len_fR]; omega) | (simp [jM.len_nw, jM.len_sI, jM.len_sL, jM.len_sR, jM.len_fI, jM.len_fL, jM.len_fR, *]; omega)) rfl rfl ?_ ?_
  · exact fun _ _ h => h
  rintro _ _ ⟨rfl, rfl⟩
  rw [if_pos a3]
  refine J.if_eq (tgt := 308) (pc' := 282) rfl rfl rfl (by first | omega | (exact R.r _ _) | (simp only [jM.len_sI, jM.len_sL, jM.len_sR, jM.len_fI, jM.len_fL, jM.len_fR]; omega) | (simp [jM.len_nw, jM.len_sI, jM.len_sL, jM.len_sR, jM.len_fI, jM.len_fL, jM.len_fR, *]; omega)) (fun c1 => ?_) (fun c1 => ?_)
  · omega
  · first | refine J.aload_n (pc' := 283) rfl rfl rfl ?_ | refine J.aload_nN (pc' := 283) rfl rfl rfl ?_
    refine J.callV (pc' := 286) (t := 16) rfl MX12_word ml_X12_204 iv_X12_word (by decide) ⟨_, rfl, rfl⟩ B.1 (cm_word B R (by omega)) rfl rfl (Nat.le_of_ble_eq_true rfl) (by first | omega | (exact R.r _ _) | (simp only [jM.len_sI, jM.len_sL, jM.len_sR, jM.len_fI, jM.len_fL, jM.len_fR]; omega) | (simp [jM.len_nw, jM.len_sI, jM.len_sL, jM.len_sR, jM.len_fI, jM.len_fL, jM.len_fR, *]; omega)) (by first | omega | (exact R.r _ _) | (simp only [jM.len_sI, jM.len_sL, jM.len_sR, jM.len_fI, jM.len_fL, jM.len_fR]; omega) | (simp [jM.len_nw, jM.len_sI, jM.len_sL, jM.len_sR, jM.len_fI, jM.len_fL, jM.len_fR, *]; omega)) (by first | omega | (exact R.r _ _) | (simp only [jM.len_sI, jM.len_sL, jM.len_sR, jM.len_fI, jM.len_fL, jM.len_fR]; omega) | (simp [jM.len_nw, jM.len_sI, jM.len_sL, jM.len_sR, jM.len_fI, jM.len_fL, jM.len_fR, *]; omega)) rfl rfl ?_ ?_
    · exact fun _ _ h => h
    rintro _ _ ⟨rfl, rfl⟩
    rw [eT, a1, a2, hs]
    refine J.ldc2 (pc' := 289) (z := 1701606245) (v := 1701606245) rfl (List.mem_of_getElem? (i := 1731) (by decide +kernel)) (by decide) rfl ?_
    refine J.lcmp (pc' := 290) rfl rfl (by first | omega | (exact R.r _ _) | (simp only [jM.len_sI, jM.len_sL, jM.len_sR, jM.len_fI, jM.len_fL, jM.len_fR]; omega) | (simp [jM.len_nw, jM.len_sI, jM.len_sL, jM.len_sR, jM.len_fI, jM.len_fL, jM.len_fR, *]; omega)) (by first | omega | (exact R.r _ _) | (simp only [jM.len_sI, jM.len_sL, jM.len_sR, jM.len_fI, jM.len_fL, jM.len_fR]; omega) | (simp [jM.len_nw, jM.len_sI, jM.len_sL, jM.len_sR, jM.len_fI, jM.len_fL, jM.len_fR, *]; omega)) ?_
    refine J.if_ne (tgt := 308) (pc' := 293) rfl rfl rfl (lcr _ _) (fun c2 => ?_) (fun c2 => ?_)
    · replace c2 := mt (lc0 _ _).mpr c2
      rw [if_neg c2]
      have h9 := ct_308 (γ := γ) (V := V) (p := s) (ep := -1) (sel := sel) (dy := dy) (k := k) (lv := ctL β n sel dy c) B hS.1 hS.2.1 hS.2.2.1 hS.2.2.2.1 hS.2.2.2.2.1 sb.2.1 hc e11 (hG.at (i := 13) (q := s)) a7 ⟨rfl, rfl, rfl, rfl, rfl, trivial⟩
      rw [show sk (V 116) n s = s by rw [← hs]; exact sk_sk (by omega)] at h9
      exact h9
    · replace c2 := (lc0 _ _).mp c2
      rw [if_pos c2]
      have w0 := wcode_0 (T := V 116) sb.2.1 (by rw [c2]; decide)
      have web := we_b (T := V 116) sb.2.1
      first | refine J.aload_n (pc' := 294) rfl rfl rfl ?_ | refine J.aload_nN (pc' := 294) rfl rfl rfl ?_
      refine J.callV (pc' := 297) (t := 16) rfl MX12_pass ml_X12_216 iv_X12_pass (by decide) ⟨_, rfl, rfl⟩ B.1 (cm_pass B hS.1 (by rw [hS.2.2.2.1, hS.2.2.1]; exact sb.2.1)) rfl rfl (Nat.le_of_ble_eq_true rfl) (by first | omega | (exact R.r _ _) | (simp only [jM.len_sI, jM.len_sL, jM.len_sR, jM.len_fI, jM.len_fL, jM.len_fR]; omega) | (simp [jM.len_nw, jM.len_sI, jM.len_sL, jM.len_sR, jM.len_fI, jM.len_fL, jM.len_fR, *]; omega)) (by first | omega | (exact R.r _ _) | (simp only [jM.len_sI, jM.len_sL, jM.len_sR, jM.len_fI, jM.len_fL, jM.len_fR]; omega) | (simp [jM.len_nw, jM.len_sI, jM.len_sL, jM.len_sR, jM.len_fI, jM.len_fL, jM.len_fR, *]; omega)) (by first | omega | (exact R.r _ _) | (simp only [jM.len_sI, jM.len_sL, jM.len_sR, jM.len_fI, jM.len_fL, jM.len_fR]; omega) | (simp [jM.len_nw, jM.len_sI, jM.len_sL, jM.len_sR, jM.len_fI, jM.len_fL, jM.len_fR, *]; omega)) rfl rfl ?_ ?_
      · exact fun _ _ h => h
      rintro _ _ ⟨rfl, rfl⟩
      rw [jU_116, eT, jU_i _ (by decide), jU_same, jU_jU, a1]
      obtain ⟨q1, hq1⟩ : ∃ x, we (V 116) n s = x := ⟨_, rfl⟩
      rw [hq1] at web ⊢
      have hS1 := h.at (q := q1) hn.2 (by omega)
      first | refine J.aload_n (pc' := 298) rfl rfl rfl ?_ | refine J.aload_nN (pc' := 298) rfl rfl rfl ?_
      refine J.mgR (pc' := 301) (t := 120) B rfl fl_X12_46 rfl rfl (by decide) rfl ?_
      refine J.iload (pc' := 303) rfl rfl rfl ?_
      first | refine J.aload_n (pc' := 304) rfl rfl rfl ?_ | refine J.aload_nN (pc' := 304) rfl rfl rfl ?_
      refine J.callV (pc' := 307) (t := 16) rfl MX12_pay ml_X12_259 iv_X12_pay (by decide) ⟨_, rfl, rfl⟩ B.1 (cm_pay B hS1.1 (by rw [hS1.2.2.2.1, hS1.2.2.1]; exact web.2.1) hS1.2.2.2.2.1) rfl rfl (Nat.le_of_ble_eq_true rfl) (by first | omega | (exact R.r _ _) | (simp only [jM.len_sI, jM.len_sL, jM.len_sR, jM.len_fI, jM.len_fL, jM.len_fR]; omega) | (simp [jM.len_nw, jM.len_sI, jM.len_sL, jM.len_sR, jM.len_fI, jM.len_fL, jM.len_fR, *]; omega)) (by first | omega | (exact R.r _ _) | (simp only [jM.len_sI, jM.len_sL, jM.len_sR, jM.len_fI, jM.len_fL, jM.len_fR]; omega) | (simp [jM.len_nw, jM.len_sI, jM.len_sL, jM.len_sR, jM.len_fI, jM.len_fL, jM.len_fR, *]; omega)) (by first | omega | (exact R.r _ _) | (simp only [jM.len_sI, jM.len_sL, jM.len_sR, jM.len_fI, jM.len_fL, jM.len_fR]; omega) | (simp [jM.len_nw, jM.len_sI, jM.len_sL, jM.len_sR, jM.len_fI, jM.len_fL, jM.len_fR, *]; omega)) rfl rfl ?_ ?_
      · exact fun _ _ h => h
      rintro _ _ ⟨x, U', rfl, rfl, hx, hq⟩
      rw [jU_116, eT, jU_i _ (show (12 : Int) ≠ 13 by decide), jU_same, a1, jU_i _ (show (11 : Int) ≠ 13 by decide), e11] at hq
      refine J.mast (pc' := 308) B rfl rfl rfl rfl (by omega) (by simp only [jLn]; omega) rfl ?_
      rcases hq with ⟨e, hP, hb⟩ | ⟨q, hP, hU, hq1', hq2⟩
      · rw [hP]
        simp only
        have eb := pPay_e (by omega) hP
        have hB := hb.cB hS1.2.1 hS1.2.2.1 eb.1
        exact ct_b308 B ⟨hB.1.up (fun _ => by show (-1 : Int) ≤ x ∧ x ≤ 99999; omega), hB.2.1.up (Or.inr (Or.inl ⟨Or.inr rfl, rfl⟩)), hB.2.2.1, hB.2.2.2.1, hB.2.2.2.2.1, hB.2.2.2.2.2⟩ ⟨rfl, rfl, rfl, rfl, rfl, trivial⟩
      · rw [hP]
        simp only
        subst hU
        rw [jU_jU]
        have hS2 := h.at (q := q) hn.2 (by omega)
        exact ct_308 (k := k) (p := q) (ep := x) B (hS2.1.up (fun _ => by show (-1 : Int) ≤ x ∧ x ≤ 99999; omega)) (hS2.2.1.up (Or.inr (Or.inl ⟨Or.inr rfl, rfl⟩))) hS2.2.2.1 hS2.2.2.2.1 hS2.2.2.2.2.1 hq2 hc e11 hG (jU_same _ _ _ _) ⟨rfl, rfl, rfl, rfl, rfl, trivial⟩
end M22

