section M6
variable {γ : jG} {β : jB} {V : VV}
theorem layAll_b (R : isR V) : 0 ≤ layAll V ∧ layAll V ≤ 240 := by
  have h := Sm_le (f := fun h => V 138 h) (n := 6) (a := 0) (b := 40) (fun i _ => by
    have h1 := R 138 (i : Int) rfl
    simp [jLo, jHi] at h1
    exact h1)
  unfold layAll
  omega
theorem isR.ld {s k l m : Int} (R : isR V) : isR (ldV V s k l m) := by
  intro t i h
  have hb := low_b (s := s) (k := k) (m := i - 5 * l) R
  unfold ldV
  split
  · rename_i q
    rcases q.1 with q1 | q1
    · subst q1
      rw [if_pos rfl]
      exact hb.1
    · subst q1
      rw [if_neg (by decide)]
      exact hb.2
  · exact R t i h
theorem gr_b (R : isR V) (c l : Int) : (-1 ≤ grF V c l ∧ grF V c l ≤ 12) ∧ (0 ≤ payF V c l ∧ payF V c l ≤ 99999) := by
  have h1 := R 119 c rfl
  have h2 := R 120 c rfl
  have h3 := R 121 (12 * c + gF V c l (V 119 c).toNat) rfl
  have h4 := gF_b V c l (V 119 c).toNat
  simp [jLo, jHi] at h1 h2 h3
  unfold grF payF pF
  split
  · omega
  · split <;> omega
theorem isR.fg {g p : Int} (R : isR V) (hg : -1 ≤ g ∧ g ≤ 12) (hp : 0 ≤ p ∧ p ≤ 99999) : isR (fgV V g p) := (R.up (fun _ => hg)).up (fun _ => hp)
theorem isR.ldA {s k n d l c g p : Int} (R : isR V) (hs : 0 ≤ s ∧ s ≤ 7) (hk : 0 ≤ k ∧ k ≤ 9) (hn : 0 ≤ n ∧ n ≤ 50) (hd : 0 ≤ d ∧ d ≤ 10000) (hl : 0 ≤ l ∧ l ≤ 99) (hc : 0 ≤ c ∧ c ≤ 19) (hg : -1 ≤ g ∧ g ≤ 12) (hp : 0 ≤ p ∧ p ≤ 99999) : isR (ldA V s k n d l c g p) :=
  ((((((((R.up (fun _ => hs)).up (fun _ => hk)).up (fun _ => hn)).up (fun _ => hd)).up (fun _ => hc)).up (fun _ => hg)).up (fun _ => hp)).up (fun q => (by cases q))).up (fun _ => (by show (0 : Int) ≤ l + 1 ∧ l + 1 ≤ 100; omega))
theorem isR.put {g n l c like : Int} (R : isR V) (hn : 0 ≤ n ∧ n ≤ 5000) (hl : -1 ≤ l ∧ l ≤ 99) (hc : 0 ≤ c ∧ c ≤ 99999) (hg : V 138 g < 40) : isR (putV V g n l c like) := by
  have h1 := R 138 g rfl
  simp [jLo, jHi] at h1
  have RA : isR (putA V g n l c) := ((R.up (fun _ => hn)).up (fun _ => hl)).up (fun _ => hc)
  have RC : isR (if like = -1 then putA V g n l c else putC (putA V g n l c) (41 * g + V 138 g) like 5) := by
    split
    · exact RA
    · intro t i h
      unfold putC
      split
      · rename_i q
        rcases q.1 with q1 | q1 <;> subst q1 <;> exact RA _ _ rfl
      · exact RA t i h
  unfold putV
  exact RC.up (fun _ => (by show (0 : Int) ≤ V 138 g + 1 ∧ V 138 g + 1 ≤ 40; omega))
theorem cm_load {s k g n : Int} (B : isB β) (R : isR V) (hs : r32 s) (hk : r32 k) (hg : r32 g) (hn : r32 n) : CT γ mX12_load 2 0 0 [.ref (β.2 16), .int (jI s), .int (jI k), .int (jI g), .int (jI n)] (jP β V) (mQ β (sp_load (jU V 16 0 0) s k g n)) X0 := by
  refine CT.of MX12_load (Nat.le_of_ble_eq_true rfl) ?_
  show J γ mX12_load 2 0 0 0 0 (jP β V) 0 [(0, .ref (β.2 16)), (1, .int (jI s)), (2, .int (jI k)), (3, .int (jI g)), (4, .int (jI n))] [] _ _
  first | refine J.aload_n (pc' := 1) rfl rfl rfl ?_ | refine J.aload_nN (pc' := 1) rfl rfl rfl ?_
  refine J.iconst (pc' := 2) rfl rfl ?_
  refine J.mpI (pc' := 5) (j := 0) B rfl fl_X12_1 rfl rfl rfl rfl ?_
  have h0 := jU_same V 16 0 0
  replace R : isR (jU V 16 0 0) := R.up (fun _ => by decide)
  generalize jU V 16 0 0 = V at h0 R ⊢
  have hf := R.f
  have hla := layAll_b R
  have hcb := inF_b V s (V 16 3) (V 16 11).toNat
  have rest : (0 ≤ s ∧ s < V 16 2) → (0 ≤ k ∧ k < V 16 1) → (0 ≤ g ∧ g < 6 ∧ 1 ≤ n ∧ n ≤ 50) → ¬ V 16 26 = 100 → ¬ layAll V = 40 → ¬ ldC V s = -1 → J γ mX12_load 2 0 0 0 0 (jP β V) 120 [(0, .ref (β.2 16)), (1, .int (jI s)), (2, .int (jI k)), (3, .int (jI g)), (4, .int (jI n)), (5, .int (jI (ldC V s)))] [] (mQ β (sp_load V s k g n)) X0 := by
    intro b1 b2 b3 b4 b5 b6
    have hcb : 0 ≤ ldC V s ∧ ldC V s < 20 := by unfold ldC at b6 ⊢; omega
    have fin : J γ mX12_load 2 0 0 0 0 (jP β (ldF V s k)) 181 [(0, .ref (β.2 16)), (1, .int (jI s)), (2, .int (jI k)), (3, .int (jI g)), (4, .int (jI n)), (5, .int (jI (ldC V s))), (6, .int (jI (V 16 26))), (7, .int (jI 5))] [] (mQ β (sp_load V s k g n)) X0 := by
      have R1 : isR (ldF V s k) := R.ld
      first | refine J.aload_n (pc' := 182) rfl rfl rfl ?_ | refine J.aload_nN (pc' := 182) rfl rfl rfl ?_
      refine J.iload (pc' := 184) rfl rfl rfl ?_
      refine J.iload (pc' := 186) rfl rfl rfl ?_
      refine J.callV (pc' := 189) (t := 16) rfl MX12_findGrade ml_X12_286 iv_X12_findGrade (by decide) ⟨_, rfl, rfl⟩ B.1 (cm_findGrade B R1 hcb (by omega)) rfl rfl (Nat.le_of_ble_eq_true rfl) (by first | omega | (exact R.r _ _) | (simp only [jM.len_sI, jM.len_sL, jM.len_sR, jM.len_fI, jM.len_fL, jM.len_fR]; omega) | (simp [jM.len_nw, jM.len_sI, jM.len_sL, jM.len_sR, jM.len_fI, jM.len_fL, jM.len_fR, *]; omega)) (by first | omega | (exact R.r _ _) | (simp only [jM.len_sI, jM.len_sL, jM.len_sR, jM.len_fI, jM.len_fL, jM.len_fR]; omega) | (simp [jM.len_nw, jM.len_sI, jM.len_sL, jM.len_sR, jM.len_fI, jM.len_fL, jM.len_fR, *]; omega)) (by first | omega | (exact R.r _ _) | (simp only [jM.len_sI, jM.len_sL, jM.len_sR, jM.len_fI, jM.len_fL, jM.len_fR]; omega) | (simp [jM.len_nw, jM.len_sI, jM.len_sL, jM.len_sR, jM.len_fI, jM.len_fL, jM.len_fR, *]; omega)) rfl rfl ?_ ?_
      · exact fun _ _ h => h
      rintro _ _ ⟨rfl, rfl⟩
      have hgp := gr_b R1 (ldC V s) (V 16 26)
      have spE : sp_load V s k g n = if grF (ldF V s k) (ldC V s) (V 16 26) = -1 then (-1, fgV (ldF V s k) (grF (ldF V s k) (ldC V s) (V 16 26)) (payF (ldF V s k) (ldC V s) (V 16 26))) else (V 16 26, putV (ldA (fgV (ldF V s k) (grF (ldF V s k) (ldC V s) (V 16 26)) (payF (ldF V s k) (ldC V s) (V 16 26))) s k n (V 16 3) (V 16 26) (ldC V s) (grF (ldF V s k) (ldC V s) (V 16 26)) (payF (ldF V s k) (ldC V s) (V 16 26))) g n (V 16 26) (payF (ldF V s k) (ldC V s) (V 16 26)) (-1)) := by
        unfold sp_load
        rw [if_pos b1, if_pos b2, if_pos b3, if_neg b4, if_neg b5, if_neg b6]
      rw [spE]
      generalize ldC V s = c at hcb hgp ⊢
      generalize grF (ldF V s k) c (V 16 26) = gr at hgp ⊢
      generalize payF (ldF V s k) c (V 16 26) = py at hgp ⊢
      have RF : isR (fgV (ldF V s k) gr py) := R1.fg hgp.1 hgp.2
      have f1 : (fgV (ldF V s k) gr py) 16 36 = gr := rfl
      have f2 : (fgV (ldF V s k) gr py) 16 37 = py := rfl
      have f3 : (fgV (ldF V s k) gr py) 16 3 = V 16 3 := rfl
      have f4 : (fgV (ldF V s k) gr py) 16 26 = V 16 26 := rfl
      generalize fgV (ldF V s k) gr py = F at RF f1 f2 f3 f4 ⊢
      first | refine J.aload_n (pc' := 190) rfl rfl rfl ?_ | refine J.aload_nN (pc' := 190) rfl rfl rfl ?_
      refine J.mgI (pc' := 193) (j := 36) B rfl fl_X12_268 rfl rfl rfl ?_
      try simp (disch := omega) only [jU_o, jU_i, jU_same]
      rw [f1]
      refine J.iconst (pc' := 194) rfl rfl ?_
      refine J.icmp_ne (tgt := 199) (pc' := 197) rfl rfl rfl (by first | omega | (exact R.r _ _) | (simp only [jM.len_sI, jM.len_sL, jM.len_sR, jM.len_fI, jM.len_fL, jM.len_fR]; omega) | (simp [jM.len_nw, jM.len_sI, jM.len_sL, jM.len_sR, jM.len_fI, jM.len_fL, jM.len_fR, *]; omega)) (by first | omega | (exact R.r _ _) | (simp only [jM.len_sI, jM.len_sL, jM.len_sR, jM.len_fI, jM.len_fL, jM.len_fR]; omega) | (simp [jM.len_nw, jM.len_sI, jM.len_sL, jM.len_sR, jM.len_fI, jM.len_fL, jM.len_fR, *]; omega)) (fun c194 => ?_) (fun c194 => ?_)
      · first | refine J.aload_n (pc' := 200) rfl rfl rfl ?_ | refine J.aload_nN (pc' := 200) rfl rfl rfl ?_
        refine J.mgR (pc' := 203) (t := 127) B rfl fl_X12_64 rfl rfl (by decide) rfl ?_
        refine J.iload (pc' := 205) rfl rfl rfl ?_
        refine J.iload_n (pc' := 206) rfl rfl rfl ?_
        refine J.mast (pc' := 207) B rfl rfl rfl rfl (by omega) (by simp only [jLn]; omega) rfl ?_
        first | refine J.aload_n (pc' := 208) rfl rfl rfl ?_ | refine J.aload_nN (pc' := 208) rfl rfl rfl ?_
        refine J.mgR (pc' := 211) (t := 128) B rfl fl_X12_67 rfl rfl (by decide) rfl ?_
        refine J.iload (pc' := 213) rfl rfl rfl ?_
        refine J.iload_n (pc' := 214) rfl rfl rfl ?_
        refine J.mast (pc' := 215) B rfl rfl rfl rfl (by omega) (by simp only [jLn]; omega) rfl ?_
        first | refine J.aload_n (pc' := 216) rfl rfl rfl ?_ | refine J.aload_nN (pc' := 216) rfl rfl rfl ?_
        refine J.mgR (pc' := 219) (t := 129) B rfl fl_X12_70 rfl rfl (by decide) rfl ?_
        refine J.iload (pc' := 221) rfl rfl rfl ?_
        refine J.iload (pc' := 223) rfl rfl rfl ?_
        refine J.mast (pc' := 224) B rfl rfl rfl rfl (by omega) (by simp only [jLn]; omega) rfl ?_
        first | refine J.aload_n (pc' := 225) rfl rfl rfl ?_ | refine J.aload_nN (pc' := 225) rfl rfl rfl ?_
        refine J.mgR (pc' := 228) (t := 130) B rfl fl_X12_73 rfl rfl (by decide) rfl ?_
        refine J.iload (pc' := 230) rfl rfl rfl ?_
        first | refine J.aload_n (pc' := 231) rfl rfl rfl ?_ | refine J.aload_nN (pc' := 231) rfl rfl rfl ?_
        refine J.mgI (pc' := 234) (j := 3) B rfl fl_X12_283 rfl rfl rfl ?_
        try simp (disch := omega) only [jU_o, jU_i, jU_same]
        rw [f3]
        refine J.mast (pc' := 235) B rfl rfl rfl rfl (by omega) (by simp only [jLn]; omega) rfl ?_
        first | refine J.aload_n (pc' := 236) rfl rfl rfl ?_ | refine J.aload_nN (pc' := 236) rfl rfl rfl ?_
        refine J.mgR (pc' := 239) (t := 131) B rfl fl_X12_76 rfl rfl (by decide) rfl ?_
        refine J.iload (pc' := 241) rfl rfl rfl ?_
        refine J.iload (pc' := 243) rfl rfl rfl ?_
        refine J.mast (pc' := 244) B rfl rfl rfl rfl (by omega) (by simp only [jLn]; omega) rfl ?_
        first | refine J.aload_n (pc' := 245) rfl rfl rfl ?_ | refine J.aload_nN (pc' := 245) rfl rfl rfl ?_
        refine J.mgR (pc' := 248) (t := 132) B rfl fl_X12_79 rfl rfl (by decide) rfl ?_
        refine J.iload (pc' := 250) rfl rfl rfl ?_
        first | refine J.aload_n (pc' := 251) rfl rfl rfl ?_ | refine J.aload_nN (pc' := 251) rfl rfl rfl ?_
        refine J.mgI (pc' := 254) (j := 36) B rfl fl_X12_268 rfl rfl rfl ?_
        try simp (disch := omega) only [jU_o, jU_i, jU_same]
        rw [f1]
        refine J.mast (pc' := 255) B rfl rfl rfl rfl (by omega) (by simp only [jLn]; omega) rfl ?_
        first | refine J.aload_n (pc' := 256) rfl rfl rfl ?_ | refine J.aload_nN (pc' := 256) rfl rfl rfl ?_
        refine J.mgR (pc' := 259) (t := 133) B rfl fl_X12_82 rfl rfl (by decide) rfl ?_
        refine J.iload (pc' := 261) rfl rfl rfl ?_
        first | refine J.aload_n (pc' := 262) rfl rfl rfl ?_ | refine J.aload_nN (pc' := 262) rfl rfl rfl ?_
        refine J.mgI (pc' := 265) (j := 37) B rfl fl_X12_271 rfl rfl rfl ?_
        try simp (disch := omega) only [jU_o, jU_i, jU_same]
        rw [f2]
        refine J.mast (pc' := 266) B rfl rfl rfl rfl (by omega) (by simp only [jLn]; omega) rfl ?_
        first | refine J.aload_n (pc' := 267) rfl rfl rfl ?_ | refine J.aload_nN (pc' := 267) rfl rfl rfl ?_
        refine J.mgR (pc' := 270) (t := 109) B rfl fl_X12_30 rfl rfl (by decide) rfl ?_
        refine J.iload_n (pc' := 271) rfl rfl rfl ?_
        first | refine J.dup2 (pc' := 272) rfl rfl rfl rfl ?_ | refine J.dup2L (pc' := 272) rfl rfl rfl ?_
        refine J.mlald (pc' := 273) B rfl rfl rfl (by omega) (by simp only [jLn]; omega) rfl ?_
        try simp (disch := omega) only [jU_o, jU_i, jU_same]
        refine J.iload (pc' := 275) rfl rfl rfl ?_
        refine J.i2l (pc' := 276) rfl rfl (by first | omega | (exact R.r _ _) | (simp only [jM.len_sI, jM.len_sL, jM.len_sR, jM.len_fI, jM.len_fL, jM.len_fR]; omega) | (simp [jM.len_nw, jM.len_sI, jM.len_sL, jM.len_sR, jM.len_fI, jM.len_fL, jM.len_fR, *]; omega)) ?_
        first | refine J.aload_n (pc' := 277) rfl rfl rfl ?_ | refine J.aload_nN (pc' := 277) rfl rfl rfl ?_
        refine J.mgI (pc' := 280) (j := 37) B rfl fl_X12_271 rfl rfl rfl ?_
        try simp (disch := omega) only [jU_o, jU_i, jU_same]
        rw [f2]
        refine J.i2l (pc' := 281) rfl rfl (by first | omega | (exact R.r _ _) | (simp only [jM.len_sI, jM.len_sL, jM.len_sR, jM.len_fI, jM.len_fL, jM.len_fR]; omega) | (simp [jM.len_nw, jM.len_sI, jM.len_sL, jM.len_sR, jM.len_fI, jM.len_fL, jM.len_fR, *]; omega)) ?_
        refine J.lmul (pc' := 282) rfl rfl ?_
        refine J.ladd (pc' := 283) rfl rfl ?_
        refine J.mlast (pc' := 284) B rfl rfl rfl rfl (by omega) (by simp only [jLn]; omega) rfl ?_
        first | refine J.aload_n (pc' := 285) rfl rfl rfl ?_ | refine J.aload_nN (pc' := 285) rfl rfl rfl ?_
        refine J.dup (pc' := 286) rfl rfl rfl ?_
        refine J.mgI (pc' := 289) (j := 26) B rfl fl_X12_277 rfl rfl rfl ?_
        try simp (disch := omega) only [jU_o, jU_i, jU_same]
        rw [f4]
        refine J.iconst (pc' := 290) rfl rfl ?_
        refine J.iadd (pc' := 291) rfl rfl ?_
        refine J.mpI (pc' := 294) (j := 26) B rfl fl_X12_277 rfl rfl rfl rfl ?_
        first | refine J.aload_n (pc' := 295) rfl rfl rfl ?_ | refine J.aload_nN (pc' := 295) rfl rfl rfl ?_
        refine J.iload_n (pc' := 296) rfl rfl rfl ?_
        refine J.iload (pc' := 298) rfl rfl rfl ?_
        refine J.iload (pc' := 300) rfl rfl rfl ?_
        first | refine J.aload_n (pc' := 301) rfl rfl rfl ?_ | refine J.aload_nN (pc' := 301) rfl rfl rfl ?_
        refine J.mgI (pc' := 304) (j := 37) B rfl fl_X12_271 rfl rfl rfl ?_
        try simp (disch := omega) only [jU_o, jU_i, jU_same]
        rw [f2]
        refine J.iconst (pc' := 305) rfl rfl ?_
        refine J.callV (pc' := 308) (t := 16) rfl MX12_put ml_X12_290 iv_X12_put (by decide) ⟨_, rfl, rfl⟩ B.1 (cm_put (V := ldA F s k n (V 16 3) (V 16 26) c gr py) B (RF.ldA (by omega) (by omega) (by omega) (by omega) (by omega) (by omega) (by omega) (by omega)) (by omega) (Or.inl rfl)) rfl rfl (Nat.le_of_ble_eq_true rfl) (by first | omega | (exact R.r _ _) | (simp only [jM.len_sI, jM.len_sL, jM.len_sR, jM.len_fI, jM.len_fL, jM.len_fR]; omega) | (simp [jM.len_nw, jM.len_sI, jM.len_sL, jM.len_sR, jM.len_fI, jM.len_fL, jM.len_fR, *]; omega)) (by first | omega | (exact R.r _ _) | (simp only [jM.len_sI, jM.len_sL, jM.len_sR, jM.len_fI, jM.len_fL, jM.len_fR]; omega) | (simp [jM.len_nw, jM.len_sI, jM.len_sL, jM.len_sR, jM.len_fI, jM.len_fL, jM.len_fR, *]; omega)) (by first | omega | (exact R.r _ _) | (simp only [jM.len_sI, jM.len_sL, jM.len_sR, jM.len_fI, jM.len_fL, jM.len_fR]; omega) | (simp [jM.len_nw, jM.len_sI, jM.len_sL, jM.len_sR, jM.len_fI, jM.len_fL, jM.len_fR, *]; omega)) rfl rfl ?_ ?_
        · exact fun _ _ h => h
        rintro _ _ ⟨rfl, rfl⟩
        refine J.iload (pc' := 310) rfl rfl rfl ?_
        refine J.iret rfl rfl (by first | omega | (exact R.r _ _) | (simp only [jM.len_sI, jM.len_sL, jM.len_sR, jM.len_fI, jM.len_fL, jM.len_fR]; omega) | (simp [jM.len_nw, jM.len_sI, jM.len_sL, jM.len_sR, jM.len_fI, jM.len_fL, jM.len_fR, *]; omega)) (by first | omega | (exact R.r _ _) | (simp only [jM.len_sI, jM.len_sL, jM.len_sR, jM.len_fI, jM.len_fL, jM.len_fR]; omega) | (simp [jM.len_nw, jM.len_sI, jM.len_sL, jM.len_sR, jM.len_fI, jM.len_fL, jM.len_fR, *]; omega)) ?_
        exact mQ.of (by rw [if_neg (by omega)])
      · refine J.iconst (pc' := 198) rfl rfl ?_
        refine J.iret rfl rfl (by first | omega | (exact R.r _ _) | (simp only [jM.len_sI, jM.len_sL, jM.len_sR, jM.len_fI, jM.len_fL, jM.len_fR]; omega) | (simp [jM.len_nw, jM.len_sI, jM.len_sL, jM.len_sR, jM.len_fI, jM.len_fL, jM.len_fR, *]; omega)) (by first | omega | (exact R.r _ _) | (simp only [jM.len_sI, jM.len_sL, jM.len_sR, jM.len_fI, jM.len_fL, jM.len_fR]; omega) | (simp [jM.len_nw, jM.len_sI, jM.len_sL, jM.len_sR, jM.len_fI, jM.len_fL, jM.len_fR, *]; omega)) ?_
        exact mQ.of (by rw [if_pos (by omega)])
    have key : ∀ (m i : Nat), i + m = 5 → J γ mX12_load 2 0 0 0 0 (jP β (ldV V s k (V 16 26) i)) 129 [(0, .ref (β.2 16)), (1, .int (jI s)), (2, .int (jI k)), (3, .int (jI g)), (4, .int (jI n)), (5, .int (jI (ldC V s))), (6, .int (jI (V 16 26))), (7, .int (jI (i : Int)))] [] (mQ β (sp_load V s k g n)) X0 := by
      intro m
      induction m with
      | zero =>
        intro i hi
        have e5 : i = 5 := by omega
        subst e5
        refine J.iload (pc' := 131) rfl rfl rfl ?_
        refine J.iconst (pc' := 132) rfl rfl ?_
        refine J.icmp_ge (tgt := 181) (pc' := 135) rfl rfl rfl (by first | omega | (exact R.r _ _) | (simp only [jM.len_sI, jM.len_sL, jM.len_sR, jM.len_fI, jM.len_fL, jM.len_fR]; omega) | (simp [jM.len_nw, jM.len_sI, jM.len_sL, jM.len_sR, jM.len_fI, jM.len_fL, jM.len_fR, *]; omega)) (by first | omega | (exact R.r _ _) | (simp only [jM.len_sI, jM.len_sL, jM.len_sR, jM.len_fI, jM.len_fL, jM.len_fR]; omega) | (simp [jM.len_nw, jM.len_sI, jM.len_sL, jM.len_sR, jM.len_fI, jM.len_fL, jM.len_fR, *]; omega)) (fun c1 => ?_) (fun c1 => ?_)
        · exact fin
        · omega
      | succ m ih =>
        intro i hi
        have h9 := ih (i + 1) (by omega)
        rw [show ((i + 1 : Nat) : Int) = (i : Int) + 1 by omega] at h9
        have R1 : isR (ldV V s k (V 16 26) i) := R.ld
        refine J.iload (pc' := 131) rfl rfl rfl ?_
        refine J.iconst (pc' := 132) rfl rfl ?_
        refine J.icmp_ge (tgt := 181) (pc' := 135) rfl rfl rfl (by first | omega | (exact R.r _ _) | (simp only [jM.len_sI, jM.len_sL, jM.len_sR, jM.len_fI, jM.len_fL, jM.len_fR]; omega) | (simp [jM.len_nw, jM.len_sI, jM.len_sL, jM.len_sR, jM.len_fI, jM.len_fL, jM.len_fR, *]; omega)) (by first | omega | (exact R.r _ _) | (simp only [jM.len_sI, jM.len_sL, jM.len_sR, jM.len_fI, jM.len_fL, jM.len_fR]; omega) | (simp [jM.len_nw, jM.len_sI, jM.len_sL, jM.len_sR, jM.len_fI, jM.len_fL, jM.len_fR, *]; omega)) (fun c1 => ?_) (fun c1 => ?_)
        · omega
        · first | refine J.aload_n (pc' := 136) rfl rfl rfl ?_ | refine J.aload_nN (pc' := 136) rfl rfl rfl ?_
          refine J.mgR (pc' := 139) (t := 134) B rfl fl_X12_85 rfl rfl (by decide) rfl ?_
          refine J.iconst (pc' := 140) rfl rfl ?_
          refine J.iload (pc' := 142) rfl rfl rfl ?_
          refine J.imul (pc' := 143) rfl rfl ?_
          refine J.iload (pc' := 145) rfl rfl rfl ?_
          refine J.iadd (pc' := 146) rfl rfl ?_
          first | refine J.aload_n (pc' := 147) rfl rfl rfl ?_ | refine J.aload_nN (pc' := 147) rfl rfl rfl ?_
          refine J.iload_n (pc' := 148) rfl rfl rfl ?_
          refine J.iload_n (pc' := 149) rfl rfl rfl ?_
          refine J.iload (pc' := 151) rfl rfl rfl ?_
          refine J.callV (pc' := 154) (t := 16) rfl MX12_lowOf ml_X12_179 iv_X12_lowOf (by decide) ⟨_, rfl, rfl⟩ B.1 (cm_lowOf B R1 (by omega) (by omega) (by omega)) rfl rfl (Nat.le_of_ble_eq_true rfl) (by first | omega | (exact R.r _ _) | (simp only [jM.len_sI, jM.len_sL, jM.len_sR, jM.len_fI, jM.len_fL, jM.len_fR]; omega) | (simp [jM.len_nw, jM.len_sI, jM.len_sL, jM.len_sR, jM.len_fI, jM.len_fL, jM.len_fR, *]; omega)) (by first | omega | (exact R.r _ _) | (simp only [jM.len_sI, jM.len_sL, jM.len_sR, jM.len_fI, jM.len_fL, jM.len_fR]; omega) | (simp [jM.len_nw, jM.len_sI, jM.len_sL, jM.len_sR, jM.len_fI, jM.len_fL, jM.len_fR, *]; omega)) (by first | omega | (exact R.r _ _) | (simp only [jM.len_sI, jM.len_sL, jM.len_sR, jM.len_fI, jM.len_fL, jM.len_fR]; omega) | (simp [jM.len_nw, jM.len_sI, jM.len_sL, jM.len_sR, jM.len_fI, jM.len_fL, jM.len_fR, *]; omega)) rfl rfl ?_ ?_
          · exact fun _ _ h => h
          rintro _ _ ⟨rfl, rfl⟩
          rw [show lowOf (ldV V s k (V 16 26) i) s k i = lowOf V s k i from rfl]
          refine J.mast (pc' := 155) B rfl rfl rfl rfl (by omega) (by simp only [jLn]; omega) rfl ?_
          first | refine J.aload_n (pc' := 156) rfl rfl rfl ?_ | refine J.aload_nN (pc' := 156) rfl rfl rfl ?_
          refine J.mgR (pc' := 159) (t := 135) B rfl fl_X12_88 rfl rfl (by decide) rfl ?_
          refine J.iconst (pc' := 160) rfl rfl ?_
          refine J.iload (pc' := 162) rfl rfl rfl ?_
          refine J.imul (pc' := 163) rfl rfl ?_
          refine J.iload (pc' := 165) rfl rfl rfl ?_
          refine J.iadd (pc' := 166) rfl rfl ?_
          first | refine J.aload_n (pc' := 167) rfl rfl rfl ?_ | refine J.aload_nN (pc' := 167) rfl rfl rfl ?_
          refine J.iload_n (pc' := 168) rfl rfl rfl ?_
          refine J.iload_n (pc' := 169) rfl rfl rfl ?_
          refine J.iload (pc' := 171) rfl rfl rfl ?_
          refine J.callV (pc' := 174) (t := 16) rfl MX12_highOf ml_X12_182 iv_X12_highOf (by decide) ⟨_, rfl, rfl⟩ B.1 (cm_highOf B (R1.up (fun _ => (low_b (s := s) (k := k) (m := (i : Int)) R).1)) (by omega) (by omega) (by omega)) rfl rfl (Nat.le_of_ble_eq_true rfl) (by first | omega | (exact R.r _ _) | (simp only [jM.len_sI, jM.len_sL, jM.len_sR, jM.len_fI, jM.len_fL, jM.len_fR]; omega) | (simp [jM.len_nw, jM.len_sI, jM.len_sL, jM.len_sR, jM.len_fI, jM.len_fL, jM.len_fR, *]; omega)) (by first | omega | (exact R.r _ _) | (simp only [jM.len_sI, jM.len_sL, jM.len_sR, jM.len_fI, jM.len_fL, jM.len_fR]; omega) | (simp [jM.len_nw, jM.len_sI, jM.len_sL, jM.len_sR, jM.len_fI, jM.len_fL, jM.len_fR, *]; omega)) (by first | omega | (exact R.r _ _) | (simp only [jM.len_sI, jM.len_sL, jM.len_sR, jM.len_fI, jM.len_fL, jM.len_fR]; omega) | (simp [jM.len_nw, jM.len_sI, jM.len_sL, jM.len_sR, jM.len_fI, jM.len_fL, jM.len_fR, *]; omega)) rfl rfl ?_ ?_
          · exact fun _ _ h => h
          rintro _ _ ⟨rfl, rfl⟩
          rw [show highOf (jU (ldV V s k (V 16 26) i) 134 (5 * V 16 26 + i) (lowOf V s k i)) s k i = highOf V s k i from rfl]
          refine J.mast (pc' := 175) B rfl rfl rfl rfl (by omega) (by simp only [jLn]; omega) rfl ?_
          refine J.iinc (pc' := 178) rfl rfl rfl (by decide) ?_
          refine J.goto (tgt := 129) rfl rfl ?_
          refine (congrArg (fun W => J γ mX12_load 2 0 0 0 0 (jP β W) 129 [(0, .ref (β.2 16)), (1, .int (jI s)), (2, .int (jI k)), (3, .int (jI g)), (4, .int (jI n)), (5, .int (jI (ldC V s))), (6, .int (jI (V 16 26))), (7, .int (jI ((i : Int) + 1)))] [] (mQ β (sp_load V s k g n)) X0) ?_).mpr h9
          funext t j
          unfold jU ldV
          by_cases t1 : t = 135 ∧ j = 5 * V 16 26 + i
          · rw [if_pos t1, if_pos (by omega), if_neg (by omega), t1.2, show 5 * V 16 26 + (i : Int) - 5 * V 16 26 = i by omega]
          · rw [if_neg t1]
            by_cases t2 : t = 134 ∧ j = 5 * V 16 26 + i
            · rw [if_pos t2, if_pos (by omega), if_pos (by omega), t2.2, show 5 * V 16 26 + (i : Int) - 5 * V 16 26 = i by omega]
            · rw [if_neg t2]
              by_cases t3 : (t = 134 ∨ t = 135) ∧ 5 * V 16 26 ≤ j ∧ j < 5 * V 16 26 + (i : Int)
              · rw [if_pos t3, if_pos (c := (t = 134 ∨ t = 135) ∧ 5 * V 16 26 ≤ j ∧ j < 5 * V 16 26 + ((i : Int) + 1)) (by omega)]
              · rw [if_neg t3, if_neg (by omega)]
    have h9 := key 5 0 (by omega)
    rw [show ldV V s k (V 16 26) ((0 : Nat) : Int) = V by funext t i; unfold ldV; rw [if_neg (by omega)]] at h9
    first | refine J.aload_n (pc' := 121) rfl rfl rfl ?_ | refine J.aload_nN (pc' := 121) rfl rfl rfl ?_
    refine J.mgI (pc' := 124) (j := 26) B rfl fl_X12_277 rfl rfl rfl ?_
    refine J.istore (pc' := 126) rfl rfl (by decide) ?_
    refine J.iconst (pc' := 127) rfl rfl ?_
    refine J.istore (pc' := 129) rfl rfl (by decide) ?_
    exact h9
  first | refine J.aload_n (pc' := 6) rfl rfl rfl ?_ | refine J.aload_nN (pc' := 6) rfl rfl rfl ?_
  refine J.iload_n (pc' := 7) rfl rfl rfl ?_
  refine J.callV (pc' := 10) (t := 16) rfl MX12_isSeller ml_X12_176 iv_X12_isSeller (by decide) ⟨_, rfl, rfl⟩ B.1 (cm_isSeller B R h0 hs) rfl rfl (Nat.le_of_ble_eq_true rfl) (by first | omega | (exact R.r _ _) | (simp only [jM.len_sI, jM.len_sL, jM.len_sR, jM.len_fI, jM.len_fL, jM.len_fR]; omega) | (simp [jM.len_nw, jM.len_sI, jM.len_sL, jM.len_sR, jM.len_fI, jM.len_fL, jM.len_fR, *]; omega)) (by first | omega | (exact R.r _ _) | (simp only [jM.len_sI, jM.len_sL, jM.len_sR, jM.len_fI, jM.len_fL, jM.len_fR]; omega) | (simp [jM.len_nw, jM.len_sI, jM.len_sL, jM.len_sR, jM.len_fI, jM.len_fL, jM.len_fR, *]; omega)) (by first | omega | (exact R.r _ _) | (simp only [jM.len_sI, jM.len_sL, jM.len_sR, jM.len_fI, jM.len_fL, jM.len_fR]; omega) | (simp [jM.len_nw, jM.len_sI, jM.len_sL, jM.len_sR, jM.len_fI, jM.len_fL, jM.len_fR, *]; omega)) rfl rfl ?_ ?_
  · exact fun _ _ h => h
  rintro _ _ ⟨b, hb, rfl⟩
  rcases hb with ⟨rfl, hb, rfl⟩ | ⟨rfl, hb, rfl⟩
  · first
    | (exfalso; omega)
    | (refine J.if_eq (tgt := 74) (pc' := 13) rfl rfl rfl (by first | omega | (exact R.r _ _) | (simp only [jM.len_sI, jM.len_sL, jM.len_sR, jM.len_fI, jM.len_fL, jM.len_fR]; omega) | (simp [jM.len_nw, jM.len_sI, jM.len_sL, jM.len_sR, jM.len_fI, jM.len_fL, jM.len_fR, *]; omega)) (fun c10 => ?_) (fun c10 => ?_)
       · first
         | (exfalso; omega)
         | (refine J.iconst (pc' := 75) rfl rfl ?_
            refine J.iret rfl rfl (by first | omega | (exact R.r _ _) | (simp only [jM.len_sI, jM.len_sL, jM.len_sR, jM.len_fI, jM.len_fL, jM.len_fR]; omega) | (simp [jM.len_nw, jM.len_sI, jM.len_sL, jM.len_sR, jM.len_fI, jM.len_fL, jM.len_fR, *]; omega)) (by first | omega | (exact R.r _ _) | (simp only [jM.len_sI, jM.len_sL, jM.len_sR, jM.len_fI, jM.len_fL, jM.len_fR]; omega) | (simp [jM.len_nw, jM.len_sI, jM.len_sL, jM.len_sR, jM.len_fI, jM.len_fL, jM.len_fR, *]; omega)) ?_
            exact mQ.of (by unfold sp_load ldC; (repeat (first | rw [if_pos (by omega)] | rw [if_neg (by omega)]))))
       · first
         | (exfalso; omega)
         | (first | refine J.aload_n (pc' := 14) rfl rfl rfl ?_ | refine J.aload_nN (pc' := 14) rfl rfl rfl ?_
            refine J.iload_n (pc' := 15) rfl rfl rfl ?_
            refine J.if_lt (tgt := 30) (pc' := 18) rfl rfl rfl (by first | omega | (exact R.r _ _) | (simp only [jM.len_sI, jM.len_sL, jM.len_sR, jM.len_fI, jM.len_fL, jM.len_fR]; omega) | (simp [jM.len_nw, jM.len_sI, jM.len_sL, jM.len_sR, jM.len_fI, jM.len_fL, jM.len_fR, *]; omega)) (fun c15 => ?_) (fun c15 => ?_)
            · first
              | (exfalso; omega)
              | (refine J.iconst (pc' := 31) rfl rfl ?_
                 refine J.iconst (pc' := 32) rfl rfl ?_
                 first | refine J.callV (pc' := 35) (t := 16) rfl MX12_may ml_X12_161 iv_X12_may (by decide) ⟨_, rfl, rfl⟩ B.1 (cm_may1 B h0) rfl rfl (Nat.le_of_ble_eq_true rfl) (by first | omega | (exact R.r _ _) | (simp only [jM.len_sI, jM.len_sL, jM.len_sR, jM.len_fI, jM.len_fL, jM.len_fR]; omega) | (simp [jM.len_nw, jM.len_sI, jM.len_sL, jM.len_sR, jM.len_fI, jM.len_fL, jM.len_fR, *]; omega)) (by first | omega | (exact R.r _ _) | (simp only [jM.len_sI, jM.len_sL, jM.len_sR, jM.len_fI, jM.len_fL, jM.len_fR]; omega) | (simp [jM.len_nw, jM.len_sI, jM.len_sL, jM.len_sR, jM.len_fI, jM.len_fL, jM.len_fR, *]; omega)) (by first | omega | (exact R.r _ _) | (simp only [jM.len_sI, jM.len_sL, jM.len_sR, jM.len_fI, jM.len_fL, jM.len_fR]; omega) | (simp [jM.len_nw, jM.len_sI, jM.len_sL, jM.len_sR, jM.len_fI, jM.len_fL, jM.len_fR, *]; omega)) rfl rfl ?_ ?_ | refine J.callV (pc' := 35) (t := 16) rfl MX12_may ml_X12_161 iv_X12_may (by decide) ⟨_, rfl, rfl⟩ B.1 (cm_may0 B h0 (by omega)) rfl rfl (Nat.le_of_ble_eq_true rfl) (by first | omega | (exact R.r _ _) | (simp only [jM.len_sI, jM.len_sL, jM.len_sR, jM.len_fI, jM.len_fL, jM.len_fR]; omega) | (simp [jM.len_nw, jM.len_sI, jM.len_sL, jM.len_sR, jM.len_fI, jM.len_fL, jM.len_fR, *]; omega)) (by first | omega | (exact R.r _ _) | (simp only [jM.len_sI, jM.len_sL, jM.len_sR, jM.len_fI, jM.len_fL, jM.len_fR]; omega) | (simp [jM.len_nw, jM.len_sI, jM.len_sL, jM.len_sR, jM.len_fI, jM.len_fL, jM.len_fR, *]; omega)) (by first | omega | (exact R.r _ _) | (simp only [jM.len_sI, jM.len_sL, jM.len_sR, jM.len_fI, jM.len_fL, jM.len_fR]; omega) | (simp [jM.len_nw, jM.len_sI, jM.len_sL, jM.len_sR, jM.len_fI, jM.len_fL, jM.len_fR, *]; omega)) rfl rfl ?_ ?_
                 · exact fun _ _ h => h
                 rintro _ _ ⟨rfl, rfl⟩
                 refine J.if_eq (tgt := 74) (pc' := 38) rfl rfl rfl (by first | omega | (exact R.r _ _) | (simp only [jM.len_sI, jM.len_sL, jM.len_sR, jM.len_fI, jM.len_fL, jM.len_fR]; omega) | (simp [jM.len_nw, jM.len_sI, jM.len_sL, jM.len_sR, jM.len_fI, jM.len_fL, jM.len_fR, *]; omega)) (fun c35 => ?_) (fun c35 => ?_)
                 · first
                   | (exfalso; omega)
                   | (refine J.iconst (pc' := 75) rfl rfl ?_
                      refine J.iret rfl rfl (by first | omega | (exact R.r _ _) | (simp only [jM.len_sI, jM.len_sL, jM.len_sR, jM.len_fI, jM.len_fL, jM.len_fR]; omega) | (simp [jM.len_nw, jM.len_sI, jM.len_sL, jM.len_sR, jM.len_fI, jM.len_fL, jM.len_fR, *]; omega)) (by first | omega | (exact R.r _ _) | (simp only [jM.len_sI, jM.len_sL, jM.len_sR, jM.len_fI, jM.len_fL, jM.len_fR]; omega) | (simp [jM.len_nw, jM.len_sI, jM.len_sL, jM.len_sR, jM.len_fI, jM.len_fL, jM.len_fR, *]; omega)) ?_
                      exact mQ.of (by unfold sp_load ldC; (repeat (first | rw [if_pos (by omega)] | rw [if_neg (by omega)]))))
                 · first
                   | (exfalso; omega)
                   | (first | refine J.aload_n (pc' := 39) rfl rfl rfl ?_ | refine J.aload_nN (pc' := 39) rfl rfl rfl ?_
                      refine J.iload_n (pc' := 40) rfl rfl rfl ?_
                      refine J.if_lt (tgt := 66) (pc' := 43) rfl rfl rfl (by first | omega | (exact R.r _ _) | (simp only [jM.len_sI, jM.len_sL, jM.len_sR, jM.len_fI, jM.len_fL, jM.len_fR]; omega) | (simp [jM.len_nw, jM.len_sI, jM.len_sL, jM.len_sR, jM.len_fI, jM.len_fL, jM.len_fR, *]; omega)) (fun c40 => ?_) (fun c40 => ?_)
                      · first
                        | (exfalso; omega)
                        | (refine J.iconst (pc' := 67) rfl rfl ?_
                           refine J.iconst (pc' := 68) rfl rfl ?_
                           first | refine J.callV (pc' := 71) (t := 16) rfl MX12_may ml_X12_161 iv_X12_may (by decide) ⟨_, rfl, rfl⟩ B.1 (cm_may1 B h0) rfl rfl (Nat.le_of_ble_eq_true rfl) (by first | omega | (exact R.r _ _) | (simp only [jM.len_sI, jM.len_sL, jM.len_sR, jM.len_fI, jM.len_fL, jM.len_fR]; omega) | (simp [jM.len_nw, jM.len_sI, jM.len_sL, jM.len_sR, jM.len_fI, jM.len_fL, jM.len_fR, *]; omega)) (by first | omega | (exact R.r _ _) | (simp only [jM.len_sI, jM.len_sL, jM.len_sR, jM.len_fI, jM.len_fL, jM.len_fR]; omega) | (simp [jM.len_nw, jM.len_sI, jM.len_sL, jM.len_sR, jM.len_fI, jM.len_fL, jM.len_fR, *]; omega)) (by first | omega | (exact R.r _ _) | (simp only [jM.len_sI, jM.len_sL, jM.len_sR, jM.len_fI, jM.len_fL, jM.len_fR]; omega) | (simp [jM.len_nw, jM.len_sI, jM.len_sL, jM.len_sR, jM.len_fI, jM.len_fL, jM.len_fR, *]; omega)) rfl rfl ?_ ?_ | refine J.callV (pc' := 71) (t := 16) rfl MX12_may ml_X12_161 iv_X12_may (by decide) ⟨_, rfl, rfl⟩ B.1 (cm_may0 B h0 (by omega)) rfl rfl (Nat.le_of_ble_eq_true rfl) (by first | omega | (exact R.r _ _) | (simp only [jM.len_sI, jM.len_sL, jM.len_sR, jM.len_fI, jM.len_fL, jM.len_fR]; omega) | (simp [jM.len_nw, jM.len_sI, jM.len_sL, jM.len_sR, jM.len_fI, jM.len_fL, jM.len_fR, *]; omega)) (by first | omega | (exact R.r _ _) | (simp only [jM.len_sI, jM.len_sL, jM.len_sR, jM.len_fI, jM.len_fL, jM.len_fR]; omega) | (simp [jM.len_nw, jM.len_sI, jM.len_sL, jM.len_sR, jM.len_fI, jM.len_fL, jM.len_fR, *]; omega)) (by first | omega | (exact R.r _ _) | (simp only [jM.len_sI, jM.len_sL, jM.len_sR, jM.len_fI, jM.len_fL, jM.len_fR]; omega) | (simp [jM.len_nw, jM.len_sI, jM.len_sL, jM.len_sR, jM.len_fI, jM.len_fL, jM.len_fR, *]; omega)) rfl rfl ?_ ?_
                           · exact fun _ _ h => h
                           rintro _ _ ⟨rfl, rfl⟩
                           refine J.if_ne (tgt := 76) (pc' := 74) rfl rfl rfl (by first | omega | (exact R.r _ _) | (simp only [jM.len_sI, jM.len_sL, jM.len_sR, jM.len_fI, jM.len_fL, jM.len_fR]; omega) | (simp [jM.len_nw, jM.len_sI, jM.len_sL, jM.len_sR, jM.len_fI, jM.len_fL, jM.len_fR, *]; omega)) (fun c71 => ?_) (fun c71 => ?_)
                           · first
                             | (exfalso; omega)
                             | (first | refine J.aload_n (pc' := 77) rfl rfl rfl ?_ | refine J.aload_nN (pc' := 77) rfl rfl rfl ?_
                                refine J.mgI (pc' := 80) (j := 26) B rfl fl_X12_277 rfl rfl rfl ?_
                                refine J.bipush (pc' := 82) rfl rfl (by decide) ?_
                                refine J.icmp_ne (tgt := 88) (pc' := 85) rfl rfl rfl (by first | omega | (exact R.r _ _) | (simp only [jM.len_sI, jM.len_sL, jM.len_sR, jM.len_fI, jM.len_fL, jM.len_fR]; omega) | (simp [jM.len_nw, jM.len_sI, jM.len_sL, jM.len_sR, jM.len_fI, jM.len_fL, jM.len_fR, *]; omega)) (by first | omega | (exact R.r _ _) | (simp only [jM.len_sI, jM.len_sL, jM.len_sR, jM.len_fI, jM.len_fL, jM.len_fR]; omega) | (simp [jM.len_nw, jM.len_sI, jM.len_sL, jM.len_sR, jM.len_fI, jM.len_fL, jM.len_fR, *]; omega)) (fun c82 => ?_) (fun c82 => ?_)
                                · first
                                  | (exfalso; omega)
                                  | (first | refine J.aload_n (pc' := 89) rfl rfl rfl ?_ | refine J.aload_nN (pc' := 89) rfl rfl rfl ?_
                                     refine J.callV (pc' := 92) (t := 16) rfl MX12_layersInAll ml_X12_280 iv_X12_layersInAll (by decide) ⟨_, rfl, rfl⟩ B.1 (cm_layersInAll B) rfl rfl (Nat.le_of_ble_eq_true rfl) (by first | omega | (exact R.r _ _) | (simp only [jM.len_sI, jM.len_sL, jM.len_sR, jM.len_fI, jM.len_fL, jM.len_fR]; omega) | (simp [jM.len_nw, jM.len_sI, jM.len_sL, jM.len_sR, jM.len_fI, jM.len_fL, jM.len_fR, *]; omega)) (by first | omega | (exact R.r _ _) | (simp only [jM.len_sI, jM.len_sL, jM.len_sR, jM.len_fI, jM.len_fL, jM.len_fR]; omega) | (simp [jM.len_nw, jM.len_sI, jM.len_sL, jM.len_sR, jM.len_fI, jM.len_fL, jM.len_fR, *]; omega)) (by first | omega | (exact R.r _ _) | (simp only [jM.len_sI, jM.len_sL, jM.len_sR, jM.len_fI, jM.len_fL, jM.len_fR]; omega) | (simp [jM.len_nw, jM.len_sI, jM.len_sL, jM.len_sR, jM.len_fI, jM.len_fL, jM.len_fR, *]; omega)) rfl rfl ?_ ?_
                                     · exact fun _ _ h => h
                                     rintro _ _ ⟨rfl, rfl⟩
                                     refine J.bipush (pc' := 94) rfl rfl (by decide) ?_
                                     refine J.icmp_ne (tgt := 100) (pc' := 97) rfl rfl rfl (by first | omega | (exact R.r _ _) | (simp only [jM.len_sI, jM.len_sL, jM.len_sR, jM.len_fI, jM.len_fL, jM.len_fR]; omega) | (simp [jM.len_nw, jM.len_sI, jM.len_sL, jM.len_sR, jM.len_fI, jM.len_fL, jM.len_fR, *]; omega)) (by first | omega | (exact R.r _ _) | (simp only [jM.len_sI, jM.len_sL, jM.len_sR, jM.len_fI, jM.len_fL, jM.len_fR]; omega) | (simp [jM.len_nw, jM.len_sI, jM.len_sL, jM.len_sR, jM.len_fI, jM.len_fL, jM.len_fR, *]; omega)) (fun c94 => ?_) (fun c94 => ?_)
                                     · first
                                       | (exfalso; omega)
                                       | (first | refine J.aload_n (pc' := 101) rfl rfl rfl ?_ | refine J.aload_nN (pc' := 101) rfl rfl rfl ?_
                                          refine J.iload_n (pc' := 102) rfl rfl rfl ?_
                                          first | refine J.aload_n (pc' := 103) rfl rfl rfl ?_ | refine J.aload_nN (pc' := 103) rfl rfl rfl ?_
                                          refine J.mgI (pc' := 106) (j := 3) B rfl fl_X12_283 rfl rfl rfl ?_
                                          refine J.callV (pc' := 109) (t := 16) rfl MX12_inForce ml_X12_264 iv_X12_inForce (by decide) ⟨_, rfl, rfl⟩ B.1 (cm_inForce B R hs (by omega)) rfl rfl (Nat.le_of_ble_eq_true rfl) (by first | omega | (exact R.r _ _) | (simp only [jM.len_sI, jM.len_sL, jM.len_sR, jM.len_fI, jM.len_fL, jM.len_fR]; omega) | (simp [jM.len_nw, jM.len_sI, jM.len_sL, jM.len_sR, jM.len_fI, jM.len_fL, jM.len_fR, *]; omega)) (by first | omega | (exact R.r _ _) | (simp only [jM.len_sI, jM.len_sL, jM.len_sR, jM.len_fI, jM.len_fL, jM.len_fR]; omega) | (simp [jM.len_nw, jM.len_sI, jM.len_sL, jM.len_sR, jM.len_fI, jM.len_fL, jM.len_fR, *]; omega)) (by first | omega | (exact R.r _ _) | (simp only [jM.len_sI, jM.len_sL, jM.len_sR, jM.len_fI, jM.len_fL, jM.len_fR]; omega) | (simp [jM.len_nw, jM.len_sI, jM.len_sL, jM.len_sR, jM.len_fI, jM.len_fL, jM.len_fR, *]; omega)) rfl rfl ?_ ?_
                                          · exact fun _ _ h => h
                                          rintro _ _ ⟨rfl, rfl⟩
                                          refine J.istore (pc' := 111) rfl rfl (by decide) ?_
                                          refine J.iload (pc' := 113) rfl rfl rfl ?_
                                          refine J.iconst (pc' := 114) rfl rfl ?_
                                          refine J.icmp_ne (tgt := 120) (pc' := 117) rfl rfl rfl (by first | omega | (exact R.r _ _) | (simp only [jM.len_sI, jM.len_sL, jM.len_sR, jM.len_fI, jM.len_fL, jM.len_fR]; omega) | (simp [jM.len_nw, jM.len_sI, jM.len_sL, jM.len_sR, jM.len_fI, jM.len_fL, jM.len_fR, *]; omega)) (by first | omega | (exact R.r _ _) | (simp only [jM.len_sI, jM.len_sL, jM.len_sR, jM.len_fI, jM.len_fL, jM.len_fR]; omega) | (simp [jM.len_nw, jM.len_sI, jM.len_sL, jM.len_sR, jM.len_fI, jM.len_fL, jM.len_fR, *]; omega)) (fun c114 => ?_) (fun c114 => ?_)
                                          · first
                                            | (exfalso; omega)
                                            | (exact rest (by omega) (by omega) (by omega) (by omega) (by omega) (by unfold ldC; omega))
                                          · first
                                            | (exfalso; omega)
                                            | (refine J.bipush (pc' := 119) rfl rfl (by decide) ?_
                                               refine J.iret rfl rfl (by first | omega | (exact R.r _ _) | (simp only [jM.len_sI, jM.len_sL, jM.len_sR, jM.len_fI, jM.len_fL, jM.len_fR]; omega) | (simp [jM.len_nw, jM.len_sI, jM.len_sL, jM.len_sR, jM.len_fI, jM.len_fL, jM.len_fR, *]; omega)) (by first | omega | (exact R.r _ _) | (simp only [jM.len_sI, jM.len_sL, jM.len_sR, jM.len_fI, jM.len_fL, jM.len_fR]; omega) | (simp [jM.len_nw, jM.len_sI, jM.len_sL, jM.len_sR, jM.len_fI, jM.len_fL, jM.len_fR, *]; omega)) ?_
                                               exact mQ.of (by unfold sp_load ldC; (repeat (first | rw [if_pos (by omega)] | rw [if_neg (by omega)])))))
                                     · first
                                       | (exfalso; omega)
                                       | (refine J.bipush (pc' := 99) rfl rfl (by decide) ?_
                                          refine J.iret rfl rfl (by first | omega | (exact R.r _ _) | (simp only [jM.len_sI, jM.len_sL, jM.len_sR, jM.len_fI, jM.len_fL, jM.len_fR]; omega) | (simp [jM.len_nw, jM.len_sI, jM.len_sL, jM.len_sR, jM.len_fI, jM.len_fL, jM.len_fR, *]; omega)) (by first | omega | (exact R.r _ _) | (simp only [jM.len_sI, jM.len_sL, jM.len_sR, jM.len_fI, jM.len_fL, jM.len_fR]; omega) | (simp [jM.len_nw, jM.len_sI, jM.len_sL, jM.len_sR, jM.len_fI, jM.len_fL, jM.len_fR, *]; omega)) ?_
                                          exact mQ.of (by unfold sp_load ldC; (repeat (first | rw [if_pos (by omega)] | rw [if_neg (by omega)])))))
                                · first
                                  | (exfalso; omega)
                                  | (refine J.bipush (pc' := 87) rfl rfl (by decide) ?_
                                     refine J.iret rfl rfl (by first | omega | (exact R.r _ _) | (simp only [jM.len_sI, jM.len_sL, jM.len_sR, jM.len_fI, jM.len_fL, jM.len_fR]; omega) | (simp [jM.len_nw, jM.len_sI, jM.len_sL, jM.len_sR, jM.len_fI, jM.len_fL, jM.len_fR, *]; omega)) (by first | omega | (exact R.r _ _) | (simp only [jM.len_sI, jM.len_sL, jM.len_sR, jM.len_fI, jM.len_fL, jM.len_fR]; omega) | (simp [jM.len_nw, jM.len_sI, jM.len_sL, jM.len_sR, jM.len_fI, jM.len_fL, jM.len_fR, *]; omega)) ?_
                                     exact mQ.of (by unfold sp_load ldC; (repeat (first | rw [if_pos (by omega)] | rw [if_neg (by omega)])))))
                           · first
                             | (exfalso; omega)
                             | (refine J.iconst (pc' := 75) rfl rfl ?_
                                refine J.iret rfl rfl (by first | omega | (exact R.r _ _) | (simp only [jM.len_sI, jM.len_sL, jM.len_sR, jM.len_fI, jM.len_fL, jM.len_fR]; omega) | (simp [jM.len_nw, jM.len_sI, jM.len_sL, jM.len_sR, jM.len_fI, jM.len_fL, jM.len_fR, *]; omega)) (by first | omega | (exact R.r _ _) | (simp only [jM.len_sI, jM.len_sL, jM.len_sR, jM.len_fI, jM.len_fL, jM.len_fR]; omega) | (simp [jM.len_nw, jM.len_sI, jM.len_sL, jM.len_sR, jM.len_fI, jM.len_fL, jM.len_fR, *]; omega)) ?_
                                exact mQ.of (by unfold sp_load ldC; (repeat (first | rw [if_pos (by omega)] | rw [if_neg (by omega)])))))
                      · first
                        | (exfalso; omega)
                        | (refine J.iload_n (pc' := 44) rfl rfl rfl ?_
                           refine J.bipush (pc' := 46) rfl rfl (by decide) ?_
                           refine J.icmp_ge (tgt := 66) (pc' := 49) rfl rfl rfl (by first | omega | (exact R.r _ _) | (simp only [jM.len_sI, jM.len_sL, jM.len_sR, jM.len_fI, jM.len_fL, jM.len_fR]; omega) | (simp [jM.len_nw, jM.len_sI, jM.len_sL, jM.len_sR, jM.len_fI, jM.len_fL, jM.len_fR, *]; omega)) (by first | omega | (exact R.r _ _) | (simp only [jM.len_sI, jM.len_sL, jM.len_sR, jM.len_fI, jM.len_fL, jM.len_fR]; omega) | (simp [jM.len_nw, jM.len_sI, jM.len_sL, jM.len_sR, jM.len_fI, jM.len_fL, jM.len_fR, *]; omega)) (fun c46 => ?_) (fun c46 => ?_)
                           · first
                             | (exfalso; omega)
                             | (refine J.iconst (pc' := 67) rfl rfl ?_
                                refine J.iconst (pc' := 68) rfl rfl ?_
                                first | refine J.callV (pc' := 71) (t := 16) rfl MX12_may ml_X12_161 iv_X12_may (by decide) ⟨_, rfl, rfl⟩ B.1 (cm_may1 B h0) rfl rfl (Nat.le_of_ble_eq_true rfl) (by first | omega | (exact R.r _ _) | (simp only [jM.len_sI, jM.len_sL, jM.len_sR, jM.len_fI, jM.len_fL, jM.len_fR]; omega) | (simp [jM.len_nw, jM.len_sI, jM.len_sL, jM.len_sR, jM.len_fI, jM.len_fL, jM.len_fR, *]; omega)) (by first | omega | (exact R.r _ _) | (simp only [jM.len_sI, jM.len_sL, jM.len_sR, jM.len_fI, jM.len_fL, jM.len_fR]; omega) | (simp [jM.len_nw, jM.len_sI, jM.len_sL, jM.len_sR, jM.len_fI, jM.len_fL, jM.len_fR, *]; omega)) (by first | omega | (exact R.r _ _) | (simp only [jM.len_sI, jM.len_sL, jM.len_sR, jM.len_fI, jM.len_fL, jM.len_fR]; omega) | (simp [jM.len_nw, jM.len_sI, jM.len_sL, jM.len_sR, jM.len_fI, jM.len_fL, jM.len_fR, *]; omega)) rfl rfl ?_ ?_ | refine J.callV (pc' := 71) (t := 16) rfl MX12_may ml_X12_161 iv_X12_may (by decide) ⟨_, rfl, rfl⟩ B.1 (cm_may0 B h0 (by omega)) rfl rfl (Nat.le_of_ble_eq_true rfl) (by first | omega | (exact R.r _ _) | (simp only [jM.len_sI, jM.len_sL, jM.len_sR, jM.len_fI, jM.len_fL, jM.len_fR]; omega) | (simp [jM.len_nw, jM.len_sI, jM.len_sL, jM.len_sR, jM.len_fI, jM.len_fL, jM.len_fR, *]; omega)) (by first | omega | (exact R.r _ _) | (simp only [jM.len_sI, jM.len_sL, jM.len_sR, jM.len_fI, jM.len_fL, jM.len_fR]; omega) | (simp [jM.len_nw, jM.len_sI, jM.len_sL, jM.len_sR, jM.len_fI, jM.len_fL, jM.len_fR, *]; omega)) (by first | omega | (exact R.r _ _) | (simp only [jM.len_sI, jM.len_sL, jM.len_sR, jM.len_fI, jM.len_fL, jM.len_fR]; omega) | (simp [jM.len_nw, jM.len_sI, jM.len_sL, jM.len_sR, jM.len_fI, jM.len_fL, jM.len_fR, *]; omega)) rfl rfl ?_ ?_
                                · exact fun _ _ h => h
                                rintro _ _ ⟨rfl, rfl⟩
                                refine J.if_ne (tgt := 76) (pc' := 74) rfl rfl rfl (by first | omega | (exact R.r _ _) | (simp only [jM.len_sI, jM.len_sL, jM.len_sR, jM.len_fI, jM.len_fL, jM.len_fR]; omega) | (simp [jM.len_nw, jM.len_sI, jM.len_sL, jM.len_sR, jM.len_fI, jM.len_fL, jM.len_fR, *]; omega)) (fun c71 => ?_) (fun c71 => ?_)
                                · first
                                  | (exfalso; omega)
                                  | (first | refine J.aload_n (pc' := 77) rfl rfl rfl ?_ | refine J.aload_nN (pc' := 77) rfl rfl rfl ?_
                                     refine J.mgI (pc' := 80) (j := 26) B rfl fl_X12_277 rfl rfl rfl ?_
                                     refine J.bipush (pc' := 82) rfl rfl (by decide) ?_
                                     refine J.icmp_ne (tgt := 88) (pc' := 85) rfl rfl rfl (by first | omega | (exact R.r _ _) | (simp only [jM.len_sI, jM.len_sL, jM.len_sR, jM.len_fI, jM.len_fL, jM.len_fR]; omega) | (simp [jM.len_nw, jM.len_sI, jM.len_sL, jM.len_sR, jM.len_fI, jM.len_fL, jM.len_fR, *]; omega)) (by first | omega | (exact R.r _ _) | (simp only [jM.len_sI, jM.len_sL, jM.len_sR, jM.len_fI, jM.len_fL, jM.len_fR]; omega) | (simp [jM.len_nw, jM.len_sI, jM.len_sL, jM.len_sR, jM.len_fI, jM.len_fL, jM.len_fR, *]; omega)) (fun c82 => ?_) (fun c82 => ?_)
                                     · first
                                       | (exfalso; omega)
                                       | (first | refine J.aload_n (pc' := 89) rfl rfl rfl ?_ | refine J.aload_nN (pc' := 89) rfl rfl rfl ?_
                                          refine J.callV (pc' := 92) (t := 16) rfl MX12_layersInAll ml_X12_280 iv_X12_layersInAll (by decide) ⟨_, rfl, rfl⟩ B.1 (cm_layersInAll B) rfl rfl (Nat.le_of_ble_eq_true rfl) (by first | omega | (exact R.r _ _) | (simp only [jM.len_sI, jM.len_sL, jM.len_sR, jM.len_fI, jM.len_fL, jM.len_fR]; omega) | (simp [jM.len_nw, jM.len_sI, jM.len_sL, jM.len_sR, jM.len_fI, jM.len_fL, jM.len_fR, *]; omega)) (by first | omega | (exact R.r _ _) | (simp only [jM.len_sI, jM.len_sL, jM.len_sR, jM.len_fI, jM.len_fL, jM.len_fR]; omega) | (simp [jM.len_nw, jM.len_sI, jM.len_sL, jM.len_sR, jM.len_fI, jM.len_fL, jM.len_fR, *]; omega)) (by first | omega | (exact R.r _ _) | (simp only [jM.len_sI, jM.len_sL, jM.len_sR, jM.len_fI, jM.len_fL, jM.len_fR]; omega) | (simp [jM.len_nw, jM.len_sI, jM.len_sL, jM.len_sR, jM.len_fI, jM.len_fL, jM.len_fR, *]; omega)) rfl rfl ?_ ?_
                                          · exact fun _ _ h => h
                                          rintro _ _ ⟨rfl, rfl⟩
                                          refine J.bipush (pc' := 94) rfl rfl (by decide) ?_
                                          refine J.icmp_ne (tgt := 100) (pc' := 97) rfl rfl rfl (by first | omega | (exact R.r _ _) | (simp only [jM.len_sI, jM.len_sL, jM.len_sR, jM.len_fI, jM.len_fL, jM.len_fR]; omega) | (simp [jM.len_nw, jM.len_sI, jM.len_sL, jM.len_sR, jM.len_fI, jM.len_fL, jM.len_fR, *]; omega)) (by first | omega | (exact R.r _ _) | (simp only [jM.len_sI, jM.len_sL, jM.len_sR, jM.len_fI, jM.len_fL, jM.len_fR]; omega) | (simp [jM.len_nw, jM.len_sI, jM.len_sL, jM.len_sR, jM.len_fI, jM.len_fL, jM.len_fR, *]; omega)) (fun c94 => ?_) (fun c94 => ?_)
                                          · first
                                            | (exfalso; omega)
                                            | (first | refine J.aload_n (pc' := 101) rfl rfl rfl ?_ | refine J.aload_nN (pc' := 101) rfl rfl rfl ?_
                                               refine J.iload_n (pc' := 102) rfl rfl rfl ?_
                                               first | refine J.aload_n (pc' := 103) rfl rfl rfl ?_ | refine J.aload_nN (pc' := 103) rfl rfl rfl ?_
                                               refine J.mgI (pc' := 106) (j := 3) B rfl fl_X12_283 rfl rfl rfl ?_
                                               refine J.callV (pc' := 109) (t := 16) rfl MX12_inForce ml_X12_264 iv_X12_inForce (by decide) ⟨_, rfl, rfl⟩ B.1 (cm_inForce B R hs (by omega)) rfl rfl (Nat.le_of_ble_eq_true rfl) (by first | omega | (exact R.r _ _) | (simp only [jM.len_sI, jM.len_sL, jM.len_sR, jM.len_fI, jM.len_fL, jM.len_fR]; omega) | (simp [jM.len_nw, jM.len_sI, jM.len_sL, jM.len_sR, jM.len_fI, jM.len_fL, jM.len_fR, *]; omega)) (by first | omega | (exact R.r _ _) | (simp only [jM.len_sI, jM.len_sL, jM.len_sR, jM.len_fI, jM.len_fL, jM.len_fR]; omega) | (simp [jM.len_nw, jM.len_sI, jM.len_sL, jM.len_sR, jM.len_fI, jM.len_fL, jM.len_fR, *]; omega)) (by first | omega | (exact R.r _ _) | (simp only [jM.len_sI, jM.len_sL, jM.len_sR, jM.len_fI, jM.len_fL, jM.len_fR]; omega) | (simp [jM.len_nw, jM.len_sI, jM.len_sL, jM.len_sR, jM.len_fI, jM.len_fL, jM.len_fR, *]; omega)) rfl rfl ?_ ?_
                                               · exact fun _ _ h => h
                                               rintro _ _ ⟨rfl, rfl⟩
                                               refine J.istore (pc' := 111) rfl rfl (by decide) ?_
                                               refine J.iload (pc' := 113) rfl rfl rfl ?_
                                               refine J.iconst (pc' := 114) rfl rfl ?_
                                               refine J.icmp_ne (tgt := 120) (pc' := 117) rfl rfl rfl (by first | omega | (exact R.r _ _) | (simp only [jM.len_sI, jM.len_sL, jM.len_sR, jM.len_fI, jM.len_fL, jM.len_fR]; omega) | (simp [jM.len_nw, jM.len_sI, jM.len_sL, jM.len_sR, jM.len_fI, jM.len_fL, jM.len_fR, *]; omega)) (by first | omega | (exact R.r _ _) | (simp only [jM.len_sI, jM.len_sL, jM.len_sR, jM.len_fI, jM.len_fL, jM.len_fR]; omega) | (simp [jM.len_nw, jM.len_sI, jM.len_sL, jM.len_sR, jM.len_fI, jM.len_fL, jM.len_fR, *]; omega)) (fun c114 => ?_) (fun c114 => ?_)
                                               · first
                                                 | (exfalso; omega)
                                                 | (exact rest (by omega) (by omega) (by omega) (by omega) (by omega) (by unfold ldC; omega))
                                               · first
                                                 | (exfalso; omega)
                                                 | (refine J.bipush (pc' := 119) rfl rfl (by decide) ?_
                                                    refine J.iret rfl rfl (by first | omega | (exact R.r _ _) | (simp only [jM.len_sI, jM.len_sL, jM.len_sR, jM.len_fI, jM.len_fL, jM.len_fR]; omega) | (simp [jM.len_nw, jM.len_sI, jM.len_sL, jM.len_sR, jM.len_fI, jM.len_fL, jM.len_fR, *]; omega)) (by first | omega | (exact R.r _ _) | (simp only [jM.len_sI, jM.len_sL, jM.len_sR, jM.len_fI, jM.len_fL, jM.len_fR]; omega) | (simp [jM.len_nw, jM.len_sI, jM.len_sL, jM.len_sR, jM.len_fI, jM.len_fL, jM.len_fR, *]; omega)) ?_
                                                    exact mQ.of (by unfold sp_load ldC; (repeat (first | rw [if_pos (by omega)] | rw [if_neg (by omega)])))))
                                          · first
                                            | (exfalso; omega)
                                            | (refine J.bipush (pc' := 99) rfl rfl (by decide) ?_
                                               refine J.iret rfl rfl (by first | omega | (exact R.r _ _) | (simp only [jM.len_sI, jM.len_sL, jM.len_sR, jM.len_fI, jM.len_fL, jM.len_fR]; omega) | (simp [jM.len_nw, jM.len_sI, jM.len_sL, jM.len_sR, jM.len_fI, jM.len_fL, jM.len_fR, *]; omega)) (by first | omega | (exact R.r _ _) | (simp only [jM.len_sI, jM.len_sL, jM.len_sR, jM.len_fI, jM.len_fL, jM.len_fR]; omega) | (simp [jM.len_nw, jM.len_sI, jM.len_sL, jM.len_sR, jM.len_fI, jM.len_fL, jM.len_fR, *]; omega)) ?_
                                               exact mQ.of (by unfold sp_load ldC; (repeat (first | rw [if_pos (by omega)] | rw [if_neg (by omega)])))))
                                     · first
                                       | (exfalso; omega)
                                       | (refine J.bipush (pc' := 87) rfl rfl (by decide) ?_
                                          refine J.iret rfl rfl (by first | omega | (exact R.r _ _) | (simp only [jM.len_sI, jM.len_sL, jM.len_sR, jM.len_fI, jM.len_fL, jM.len_fR]; omega) | (simp [jM.len_nw, jM.len_sI, jM.len_sL, jM.len_sR, jM.len_fI, jM.len_fL, jM.len_fR, *]; omega)) (by first | omega | (exact R.r _ _) | (simp only [jM.len_sI, jM.len_sL, jM.len_sR, jM.len_fI, jM.len_fL, jM.len_fR]; omega) | (simp [jM.len_nw, jM.len_sI, jM.len_sL, jM.len_sR, jM.len_fI, jM.len_fL, jM.len_fR, *]; omega)) ?_
                                          exact mQ.of (by unfold sp_load ldC; (repeat (first | rw [if_pos (by omega)] | rw [if_neg (by omega)])))))
                                · first
                                  | (exfalso; omega)
                                  | (refine J.iconst (pc' := 75) rfl rfl ?_
                                     refine J.iret rfl rfl (by first | omega | (exact R.r _ _) | (simp only [jM.len_sI, jM.len_sL, jM.len_sR, jM.len_fI, jM.len_fL, jM.len_fR]; omega) | (simp [jM.len_nw, jM.len_sI, jM.len_sL, jM.len_sR, jM.len_fI, jM.len_fL, jM.len_fR, *]; omega)) (by first | omega | (exact R.r _ _) | (simp only [jM.len_sI, jM.len_sL, jM.len_sR, jM.len_fI, jM.len_fL, jM.len_fR]; omega) | (simp [jM.len_nw, jM.len_sI, jM.len_sL, jM.len_sR, jM.len_fI, jM.len_fL, jM.len_fR, *]; omega)) ?_
                                     exact mQ.of (by unfold sp_load ldC; (repeat (first | rw [if_pos (by omega)] | rw [if_neg (by omega)])))))
                           · first
                             | (exfalso; omega)
                             | (refine J.iload (pc' := 51) rfl rfl rfl ?_
                                refine J.iconst (pc' := 52) rfl rfl ?_
                                refine J.icmp_lt (tgt := 66) (pc' := 55) rfl rfl rfl (by first | omega | (exact R.r _ _) | (simp only [jM.len_sI, jM.len_sL, jM.len_sR, jM.len_fI, jM.len_fL, jM.len_fR]; omega) | (simp [jM.len_nw, jM.len_sI, jM.len_sL, jM.len_sR, jM.len_fI, jM.len_fL, jM.len_fR, *]; omega)) (by first | omega | (exact R.r _ _) | (simp only [jM.len_sI, jM.len_sL, jM.len_sR, jM.len_fI, jM.len_fL, jM.len_fR]; omega) | (simp [jM.len_nw, jM.len_sI, jM.len_sL, jM.len_sR, jM.len_fI, jM.len_fL, jM.len_fR, *]; omega)) (fun c52 => ?_) (fun c52 => ?_)
                                · first
                                  | (exfalso; omega)
                                  | (refine J.iconst (pc' := 67) rfl rfl ?_
                                     refine J.iconst (pc' := 68) rfl rfl ?_
                                     first | refine J.callV (pc' := 71) (t := 16) rfl MX12_may ml_X12_161 iv_X12_may (by decide) ⟨_, rfl, rfl⟩ B.1 (cm_may1 B h0) rfl rfl (Nat.le_of_ble_eq_true rfl) (by first | omega | (exact R.r _ _) | (simp only [jM.len_sI, jM.len_sL, jM.len_sR, jM.len_fI, jM.len_fL, jM.len_fR]; omega) | (simp [jM.len_nw, jM.len_sI, jM.len_sL, jM.len_sR, jM.len_fI, jM.len_fL, jM.len_fR, *]; omega)) (by first | omega | (exact R.r _ _) | (simp only [jM.len_sI, jM.len_sL, jM.len_sR, jM.len_fI, jM.len_fL, jM.len_fR]; omega) | (simp [jM.len_nw, jM.len_sI, jM.len_sL, jM.len_sR, jM.len_fI, jM.len_fL, jM.len_fR, *]; omega)) (by first | omega | (exact R.r _ _) | (simp only [jM.len_sI, jM.len_sL, jM.len_sR, jM.len_fI, jM.len_fL, jM.len_fR]; omega) | (simp [jM.len_nw, jM.len_sI, jM.len_sL, jM.len_sR, jM.len_fI, jM.len_fL, jM.len_fR, *]; omega)) rfl rfl ?_ ?_ | refine J.callV (pc' := 71) (t := 16) rfl MX12_may ml_X12_161 iv_X12_may (by decide) ⟨_, rfl, rfl⟩ B.1 (cm_may0 B h0 (by omega)) rfl rfl (Nat.le_of_ble_eq_true rfl) (by first | omega | (exact R.r _ _) | (simp only [jM.len_sI, jM.len_sL, jM.len_sR, jM.len_fI, jM.len_fL, jM.len_fR]; omega) | (simp [jM.len_nw, jM.len_sI, jM.len_sL, jM.len_sR, jM.len_fI, jM.len_fL, jM.len_fR, *]; omega)) (by first | omega | (exact R.r _ _) | (simp only [jM.len_sI, jM.len_sL, jM.len_sR, jM.len_fI, jM.len_fL, jM.len_fR]; omega) | (simp [jM.len_nw, jM.len_sI, jM.len_sL, jM.len_sR, jM.len_fI, jM.len_fL, jM.len_fR, *]; omega)) (by first | omega | (exact R.r _ _) | (simp only [jM.len_sI, jM.len_sL, jM.len_sR, jM.len_fI, jM.len_fL, jM.len_fR]; omega) | (simp [jM.len_nw, jM.len_sI, jM.len_sL, jM.len_sR, jM.len_fI, jM.len_fL, jM.len_fR, *]; omega)) rfl rfl ?_ ?_
                                     · exact fun _ _ h => h
                                     rintro _ _ ⟨rfl, rfl⟩
                                     refine J.if_ne (tgt := 76) (pc' := 74) rfl rfl rfl (by first | omega | (exact R.r _ _) | (simp only [jM.len_sI, jM.len_sL, jM.len_sR, jM.len_fI, jM.len_fL, jM.len_fR]; omega) | (simp [jM.len_nw, jM.len_sI, jM.len_sL, jM.len_sR, jM.len_fI, jM.len_fL, jM.len_fR, *]; omega)) (fun c71 => ?_) (fun c71 => ?_)
                                     · first
                                       | (exfalso; omega)
                                       | (first | refine J.aload_n (pc' := 77) rfl rfl rfl ?_ | refine J.aload_nN (pc' := 77) rfl rfl rfl ?_
                                          refine J.mgI (pc' := 80) (j := 26) B rfl fl_X12_277 rfl rfl rfl ?_
                                          refine J.bipush (pc' := 82) rfl rfl (by decide) ?_
                                          refine J.icmp_ne (tgt := 88) (pc' := 85) rfl rfl rfl (by first | omega | (exact R.r _ _) | (simp only [jM.len_sI, jM.len_sL, jM.len_sR, jM.len_fI, jM.len_fL, jM.len_fR]; omega) | (simp [jM.len_nw, jM.len_sI, jM.len_sL, jM.len_sR, jM.len_fI, jM.len_fL, jM.len_fR, *]; omega)) (by first | omega | (exact R.r _ _) | (simp only [jM.len_sI, jM.len_sL, jM.len_sR, jM.len_fI, jM.len_fL, jM.len_fR]; omega) | (simp [jM.len_nw, jM.len_sI, jM.len_sL, jM.len_sR, jM.len_fI, jM.len_fL, jM.len_fR, *]; omega)) (fun c82 => ?_) (fun c82 => ?_)
                                          · first
                                            | (exfalso; omega)
                                            | (first | refine J.aload_n (pc' := 89) rfl rfl rfl ?_ | refine J.aload_nN (pc' := 89) rfl rfl rfl ?_
                                               refine J.callV (pc' := 92) (t := 16) rfl MX12_layersInAll ml_X12_280 iv_X12_layersInAll (by decide) ⟨_, rfl, rfl⟩ B.1 (cm_layersInAll B) rfl rfl (Nat.le_of_ble_eq_true rfl) (by first | omega | (exact R.r _ _) | (simp only [jM.len_sI, jM.len_sL, jM.len_sR, jM.len_fI, jM.len_fL, jM.len_fR]; omega) | (simp [jM.len_nw, jM.len_sI, jM.len_sL, jM.len_sR, jM.len_fI, jM.len_fL, jM.len_fR, *]; omega)) (by first | omega | (exact R.r _ _) | (simp only [jM.len_sI, jM.len_sL, jM.len_sR, jM.len_fI, jM.len_fL, jM.len_fR]; omega) | (simp [jM.len_nw, jM.len_sI, jM.len_sL, jM.len_sR, jM.len_fI, jM.len_fL, jM.len_fR, *]; omega)) (by first | omega | (exact R.r _ _) | (simp only [jM.len_sI, jM.len_sL, jM.len_sR, jM.len_fI, jM.len_fL, jM.len_fR]; omega) | (simp [jM.len_nw, jM.len_sI, jM.len_sL, jM.len_sR, jM.len_fI, jM.len_fL, jM.len_fR, *]; omega)) rfl rfl ?_ ?_
                                               · exact fun _ _ h => h
                                               rintro _ _ ⟨rfl, rfl⟩
                                               refine J.bipush (pc' := 94) rfl rfl (by decide) ?_
                                               refine J.icmp_ne (tgt := 100) (pc' := 97) rfl rfl rfl (by first | omega | (exact R.r _ _) | (simp only [jM.len_sI, jM.len_sL, jM.len_sR, jM.len_fI, jM.len_fL, jM.len_fR]; omega) | (simp [jM.len_nw, jM.len_sI, jM.len_sL, jM.len_sR, jM.len_fI, jM.len_fL, jM.len_fR, *]; omega)) (by first | omega | (exact R.r _ _) | (simp only [jM.len_sI, jM.len_sL, jM.len_sR, jM.len_fI, jM.len_fL, jM.len_fR]; omega) | (simp [jM.len_nw, jM.len_sI, jM.len_sL, jM.len_sR, jM.len_fI, jM.len_fL, jM.len_fR, *]; omega)) (fun c94 => ?_) (fun c94 => ?_)
                                               · first
                                                 | (exfalso; omega)
                                                 | (first | refine J.aload_n (pc' := 101) rfl rfl rfl ?_ | refine J.aload_nN (pc' := 101) rfl rfl rfl ?_
                                                    refine J.iload_n (pc' := 102) rfl rfl rfl ?_
                                                    first | refine J.aload_n (pc' := 103) rfl rfl rfl ?_ | refine J.aload_nN (pc' := 103) rfl rfl rfl ?_
                                                    refine J.mgI (pc' := 106) (j := 3) B rfl fl_X12_283 rfl rfl rfl ?_
                                                    refine J.callV (pc' := 109) (t := 16) rfl MX12_inForce ml_X12_264 iv_X12_inForce (by decide) ⟨_, rfl, rfl⟩ B.1 (cm_inForce B R hs (by omega)) rfl rfl (Nat.le_of_ble_eq_true rfl) (by first | omega | (exact R.r _ _) | (simp only [jM.len_sI, jM.len_sL, jM.len_sR, jM.len_fI, jM.len_fL, jM.len_fR]; omega) | (simp [jM.len_nw, jM.len_sI, jM.len_sL, jM.len_sR, jM.len_fI, jM.len_fL, jM.len_fR, *]; omega)) (by first | omega | (exact R.r _ _) | (simp only [jM.len_sI, jM.len_sL, jM.len_sR, jM.len_fI, jM.len_fL, jM.len_fR]; omega) | (simp [jM.len_nw, jM.len_sI, jM.len_sL, jM.len_sR, jM.len_fI, jM.len_fL, jM.len_fR, *]; omega)) (by first | omega | (exact R.r _ _) | (simp only [jM.len_sI, jM.len_sL, jM.len_sR, jM.len_fI, jM.len_fL, jM.len_fR]; omega) | (simp [jM.len_nw, jM.len_sI, jM.len_sL, jM.len_sR, jM.len_fI, jM.len_fL, jM.len_fR, *]; omega)) rfl rfl ?_ ?_
                                                    · exact fun _ _ h => h
                                                    rintro _ _ ⟨rfl, rfl⟩
                                                    refine J.istore (pc' := 111) rfl rfl (by decide) ?_
                                                    refine J.iload (pc' := 113) rfl rfl rfl ?_
                                                    refine J.iconst (pc' := 114) rfl rfl ?_
                                                    refine J.icmp_ne (tgt := 120) (pc' := 117) rfl rfl rfl (by first | omega | (exact R.r _ _) | (simp only [jM.len_sI, jM.len_sL, jM.len_sR, jM.len_fI, jM.len_fL, jM.len_fR]; omega) | (simp [jM.len_nw, jM.len_sI, jM.len_sL, jM.len_sR, jM.len_fI, jM.len_fL, jM.len_fR, *]; omega)) (by first | omega | (exact R.r _ _) | (simp only [jM.len_sI, jM.len_sL, jM.len_sR, jM.len_fI, jM.len_fL, jM.len_fR]; omega) | (simp [jM.len_nw, jM.len_sI, jM.len_sL, jM.len_sR, jM.len_fI, jM.len_fL, jM.len_fR, *]; omega)) (fun c114 => ?_) (fun c114 => ?_)
                                                    · first
                                                      | (exfalso; omega)
                                                      | (exact rest (by omega) (by omega) (by omega) (by omega) (by omega) (by unfold ldC; omega))
                                                    · first
                                                      | (exfalso; omega)
                                                      | (refine J.bipush (pc' := 119) rfl rfl (by decide) ?_
                                                         refine J.iret rfl rfl (by first | omega | (exact R.r _ _) | (simp only [jM.len_sI, jM.len_sL, jM.len_sR, jM.len_fI, jM.len_fL, jM.len_fR]; omega) | (simp [jM.len_nw, jM.len_sI, jM.len_sL, jM.len_sR, jM.len_fI, jM.len_fL, jM.len_fR, *]; omega)) (by first | omega | (exact R.r _ _) | (simp only [jM.len_sI, jM.len_sL, jM.len_sR, jM.len_fI, jM.len_fL, jM.len_fR]; omega) | (simp [jM.len_nw, jM.len_sI, jM.len_sL, jM.len_sR, jM.len_fI, jM.len_fL, jM.len_fR, *]; omega)) ?_
                                                         exact mQ.of (by unfold sp_load ldC; (repeat (first | rw [if_pos (by omega)] | rw [if_neg (by omega)])))))
                                               · first
                                                 | (exfalso; omega)
                                                 | (refine J.bipush (pc' := 99) rfl rfl (by decide) ?_
                                                    refine J.iret rfl rfl (by first | omega | (exact R.r _ _) | (simp only [jM.len_sI, jM.len_sL, jM.len_sR, jM.len_fI, jM.len_fL, jM.len_fR]; omega) | (simp [jM.len_nw, jM.len_sI, jM.len_sL, jM.len_sR, jM.len_fI, jM.len_fL, jM.len_fR, *]; omega)) (by first | omega | (exact R.r _ _) | (simp only [jM.len_sI, jM.len_sL, jM.len_sR, jM.len_fI, jM.len_fL, jM.len_fR]; omega) | (simp [jM.len_nw, jM.len_sI, jM.len_sL, jM.len_sR, jM.len_fI, jM.len_fL, jM.len_fR, *]; omega)) ?_
                                                    exact mQ.of (by unfold sp_load ldC; (repeat (first | rw [if_pos (by omega)] | rw [if_neg (by omega)])))))
                                          · first
                                            | (exfalso; omega)
                                            | (refine J.bipush (pc' := 87) rfl rfl (by decide) ?_
                                               refine J.iret rfl rfl (by first | omega | (exact R.r _ _) | (simp only [jM.len_sI, jM.len_sL, jM.len_sR, jM.len_fI, jM.len_fL, jM.len_fR]; omega) | (simp [jM.len_nw, jM.len_sI, jM.len_sL, jM.len_sR, jM.len_fI, jM.len_fL, jM.len_fR, *]; omega)) (by first | omega | (exact R.r _ _) | (simp only [jM.len_sI, jM.len_sL, jM.len_sR, jM.len_fI, jM.len_fL, jM.len_fR]; omega) | (simp [jM.len_nw, jM.len_sI, jM.len_sL, jM.len_sR, jM.len_fI, jM.len_fL, jM.len_fR, *]; omega)) ?_
                                               exact mQ.of (by unfold sp_load ldC; (repeat (first | rw [if_pos (by omega)] | rw [if_neg (by omega)])))))
                                     · first
                                       | (exfalso; omega)
                                       | (refine J.iconst (pc' := 75) rfl rfl ?_
                                          refine J.iret rfl rfl (by first | omega | (exact R.r _ _) | (simp only [jM.len_sI, jM.len_sL, jM.len_sR, jM.len_fI, jM.len_fL, jM.len_fR]; omega) | (simp [jM.len_nw, jM.len_sI, jM.len_sL, jM.len_sR, jM.len_fI, jM.len_fL, jM.len_fR, *]; omega)) (by first | omega | (exact R.r _ _) | (simp only [jM.len_sI, jM.len_sL, jM.len_sR, jM.len_fI, jM.len_fL, jM.len_fR]; omega) | (simp [jM.len_nw, jM.len_sI, jM.len_sL, jM.len_sR, jM.len_fI, jM.len_fL, jM.len_fR, *]; omega)) ?_
                                          exact mQ.of (by unfold sp_load ldC; (repeat (first | rw [if_pos (by omega)] | rw [if_neg (by omega)])))))
                                · first
                                  | (exfalso; omega)
                                  | (refine J.iload (pc' := 57) rfl rfl rfl ?_
                                     refine J.bipush (pc' := 59) rfl rfl (by decide) ?_
                                     refine J.icmp_gt (tgt := 66) (pc' := 62) rfl rfl rfl (by first | omega | (exact R.r _ _) | (simp only [jM.len_sI, jM.len_sL, jM.len_sR, jM.len_fI, jM.len_fL, jM.len_fR]; omega) | (simp [jM.len_nw, jM.len_sI, jM.len_sL, jM.len_sR, jM.len_fI, jM.len_fL, jM.len_fR, *]; omega)) (by first | omega | (exact R.r _ _) | (simp only [jM.len_sI, jM.len_sL, jM.len_sR, jM.len_fI, jM.len_fL, jM.len_fR]; omega) | (simp [jM.len_nw, jM.len_sI, jM.len_sL, jM.len_sR, jM.len_fI, jM.len_fL, jM.len_fR, *]; omega)) (fun c59 => ?_) (fun c59 => ?_)
                                     · first
                                       | (exfalso; omega)
                                       | (refine J.iconst (pc' := 67) rfl rfl ?_
                                          refine J.iconst (pc' := 68) rfl rfl ?_
                                          first | refine J.callV (pc' := 71) (t := 16) rfl MX12_may ml_X12_161 iv_X12_may (by decide) ⟨_, rfl, rfl⟩ B.1 (cm_may1 B h0) rfl rfl (Nat.le_of_ble_eq_true rfl) (by first | omega | (exact R.r _ _) | (simp only [jM.len_sI, jM.len_sL, jM.len_sR, jM.len_fI, jM.len_fL, jM.len_fR]; omega) | (simp [jM.len_nw, jM.len_sI, jM.len_sL, jM.len_sR, jM.len_fI, jM.len_fL, jM.len_fR, *]; omega)) (by first | omega | (exact R.r _ _) | (simp only [jM.len_sI, jM.len_sL, jM.len_sR, jM.len_fI, jM.len_fL, jM.len_fR]; omega) | (simp [jM.len_nw, jM.len_sI, jM.len_sL, jM.len_sR, jM.len_fI, jM.len_fL, jM.len_fR, *]; omega)) (by first | omega | (exact R.r _ _) | (simp only [jM.len_sI, jM.len_sL, jM.len_sR, jM.len_fI, jM.len_fL, jM.len_fR]; omega) | (simp [jM.len_nw, jM.len_sI, jM.len_sL, jM.len_sR, jM.len_fI, jM.len_fL, jM.len_fR, *]; omega)) rfl rfl ?_ ?_ | refine J.callV (pc' := 71) (t := 16) rfl MX12_may ml_X12_161 iv_X12_may (by decide) ⟨_, rfl, rfl⟩ B.1 (cm_may0 B h0 (by omega)) rfl rfl (Nat.le_of_ble_eq_true rfl) (by first | omega | (exact R.r _ _) | (simp only [jM.len_sI, jM.len_sL, jM.len_sR, jM.len_fI, jM.len_fL, jM.len_fR]; omega) | (simp [jM.len_nw, jM.len_sI, jM.len_sL, jM.len_sR, jM.len_fI, jM.len_fL, jM.len_fR, *]; omega)) (by first | omega | (exact R.r _ _) | (simp only [jM.len_sI, jM.len_sL, jM.len_sR, jM.len_fI, jM.len_fL, jM.len_fR]; omega) | (simp [jM.len_nw, jM.len_sI, jM.len_sL, jM.len_sR, jM.len_fI, jM.len_fL, jM.len_fR, *]; omega)) (by first | omega | (exact R.r _ _) | (simp only [jM.len_sI, jM.len_sL, jM.len_sR, jM.len_fI, jM.len_fL, jM.len_fR]; omega) | (simp [jM.len_nw, jM.len_sI, jM.len_sL, jM.len_sR, jM.len_fI, jM.len_fL, jM.len_fR, *]; omega)) rfl rfl ?_ ?_
                                          · exact fun _ _ h => h
                                          rintro _ _ ⟨rfl, rfl⟩
                                          refine J.if_ne (tgt := 76) (pc' := 74) rfl rfl rfl (by first | omega | (exact R.r _ _) | (simp only [jM.len_sI, jM.len_sL, jM.len_sR, jM.len_fI, jM.len_fL, jM.len_fR]; omega) | (simp [jM.len_nw, jM.len_sI, jM.len_sL, jM.len_sR, jM.len_fI, jM.len_fL, jM.len_fR, *]; omega)) (fun c71 => ?_) (fun c71 => ?_)
                                          · first
                                            | (exfalso; omega)
                                            | (first | refine J.aload_n (pc' := 77) rfl rfl rfl ?_ | refine J.aload_nN (pc' := 77) rfl rfl rfl ?_
                                               refine J.mgI (pc' := 80) (j := 26) B rfl fl_X12_277 rfl rfl rfl ?_
                                               refine J.bipush (pc' := 82) rfl rfl (by decide) ?_
                                               refine J.icmp_ne (tgt := 88) (pc' := 85) rfl rfl rfl (by first | omega | (exact R.r _ _) | (simp only [jM.len_sI, jM.len_sL, jM.len_sR, jM.len_fI, jM.len_fL, jM.len_fR]; omega) | (simp [jM.len_nw, jM.len_sI, jM.len_sL, jM.len_sR, jM.len_fI, jM.len_fL, jM.len_fR, *]; omega)) (by first | omega | (exact R.r _ _) | (simp only [jM.len_sI, jM.len_sL, jM.len_sR, jM.len_fI, jM.len_fL, jM.len_fR]; omega) | (simp [jM.len_nw, jM.len_sI, jM.len_sL, jM.len_sR, jM.len_fI, jM.len_fL, jM.len_fR, *]; omega)) (fun c82 => ?_) (fun c82 => ?_)
                                               · first
                                                 | (exfalso; omega)
                                                 | (first | refine J.aload_n (pc' := 89) rfl rfl rfl ?_ | refine J.aload_nN (pc' := 89) rfl rfl rfl ?_
                                                    refine J.callV (pc' := 92) (t := 16) rfl MX12_layersInAll ml_X12_280 iv_X12_layersInAll (by decide) ⟨_, rfl, rfl⟩ B.1 (cm_layersInAll B) rfl rfl (Nat.le_of_ble_eq_true rfl) (by first | omega | (exact R.r _ _) | (simp only [jM.len_sI, jM.len_sL, jM.len_sR, jM.len_fI, jM.len_fL, jM.len_fR]; omega) | (simp [jM.len_nw, jM.len_sI, jM.len_sL, jM.len_sR, jM.len_fI, jM.len_fL, jM.len_fR, *]; omega)) (by first | omega | (exact R.r _ _) | (simp only [jM.len_sI, jM.len_sL, jM.len_sR, jM.len_fI, jM.len_fL, jM.len_fR]; omega) | (simp [jM.len_nw, jM.len_sI, jM.len_sL, jM.len_sR, jM.len_fI, jM.len_fL, jM.len_fR, *]; omega)) (by first | omega | (exact R.r _ _) | (simp only [jM.len_sI, jM.len_sL, jM.len_sR, jM.len_fI, jM.len_fL, jM.len_fR]; omega) | (simp [jM.len_nw, jM.len_sI, jM.len_sL, jM.len_sR, jM.len_fI, jM.len_fL, jM.len_fR, *]; omega)) rfl rfl ?_ ?_
                                                    · exact fun _ _ h => h
                                                    rintro _ _ ⟨rfl, rfl⟩
                                                    refine J.bipush (pc' := 94) rfl rfl (by decide) ?_
                                                    refine J.icmp_ne (tgt := 100) (pc' := 97) rfl rfl rfl (by first | omega | (exact R.r _ _) | (simp only [jM.len_sI, jM.len_sL, jM.len_sR, jM.len_fI, jM.len_fL, jM.len_fR]; omega) | (simp [jM.len_nw, jM.len_sI, jM.len_sL, jM.len_sR, jM.len_fI, jM.len_fL, jM.len_fR, *]; omega)) (by first | omega | (exact R.r _ _) | (simp only [jM.len_sI, jM.len_sL, jM.len_sR, jM.len_fI, jM.len_fL, jM.len_fR]; omega) | (simp [jM.len_nw, jM.len_sI, jM.len_sL, jM.len_sR, jM.len_fI, jM.len_fL, jM.len_fR, *]; omega)) (fun c94 => ?_) (fun c94 => ?_)
                                                    · first
                                                      | (exfalso; omega)
                                                      | (first | refine J.aload_n (pc' := 101) rfl rfl rfl ?_ | refine J.aload_nN (pc' := 101) rfl rfl rfl ?_
                                                         refine J.iload_n (pc' := 102) rfl rfl rfl ?_
                                                         first | refine J.aload_n (pc' := 103) rfl rfl rfl ?_ | refine J.aload_nN (pc' := 103) rfl rfl rfl ?_
                                                         refine J.mgI (pc' := 106) (j := 3) B rfl fl_X12_283 rfl rfl rfl ?_
                                                         refine J.callV (pc' := 109) (t := 16) rfl MX12_inForce ml_X12_264 iv_X12_inForce (by decide) ⟨_, rfl, rfl⟩ B.1 (cm_inForce B R hs (by omega)) rfl rfl (Nat.le_of_ble_eq_true rfl) (by first | omega | (exact R.r _ _) | (simp only [jM.len_sI, jM.len_sL, jM.len_sR, jM.len_fI, jM.len_fL, jM.len_fR]; omega) | (simp [jM.len_nw, jM.len_sI, jM.len_sL, jM.len_sR, jM.len_fI, jM.len_fL, jM.len_fR, *]; omega)) (by first | omega | (exact R.r _ _) | (simp only [jM.len_sI, jM.len_sL, jM.len_sR, jM.len_fI, jM.len_fL, jM.len_fR]; omega) | (simp [jM.len_nw, jM.len_sI, jM.len_sL, jM.len_sR, jM.len_fI, jM.len_fL, jM.len_fR, *]; omega)) (by first | omega | (exact R.r _ _) | (simp only [jM.len_sI, jM.len_sL, jM.len_sR, jM.len_fI, jM.len_fL, jM.len_fR]; omega) | (simp [jM.len_nw, jM.len_sI, jM.len_sL, jM.len_sR, jM.len_fI, jM.len_fL, jM.len_fR, *]; omega)) rfl rfl ?_ ?_
                                                         · exact fun _ _ h => h
                                                         rintro _ _ ⟨rfl, rfl⟩
                                                         refine J.istore (pc' := 111) rfl rfl (by decide) ?_
                                                         refine J.iload (pc' := 113) rfl rfl rfl ?_
                                                         refine J.iconst (pc' := 114) rfl rfl ?_
                                                         refine J.icmp_ne (tgt := 120) (pc' := 117) rfl rfl rfl (by first | omega | (exact R.r _ _) | (simp only [jM.len_sI, jM.len_sL, jM.len_sR, jM.len_fI, jM.len_fL, jM.len_fR]; omega) | (simp [jM.len_nw, jM.len_sI, jM.len_sL, jM.len_sR, jM.len_fI, jM.len_fL, jM.len_fR, *]; omega)) (by first | omega | (exact R.r _ _) | (simp only [jM.len_sI, jM.len_sL, jM.len_sR, jM.len_fI, jM.len_fL, jM.len_fR]; omega) | (simp [jM.len_nw, jM.len_sI, jM.len_sL, jM.len_sR, jM.len_fI, jM.len_fL, jM.len_fR, *]; omega)) (fun c114 => ?_) (fun c114 => ?_)
                                                         · first
                                                           | (exfalso; omega)
                                                           | (exact rest (by omega) (by omega) (by omega) (by omega) (by omega) (by unfold ldC; omega))
                                                         · first
                                                           | (exfalso; omega)
                                                           | (refine J.bipush (pc' := 119) rfl rfl (by decide) ?_
                                                              refine J.iret rfl rfl (by first | omega | (exact R.r _ _) | (simp only [jM.len_sI, jM.len_sL, jM.len_sR, jM.len_fI, jM.len_fL, jM.len_fR]; omega) | (simp [jM.len_nw, jM.len_sI, jM.len_sL, jM.len_sR, jM.len_fI, jM.len_fL, jM.len_fR, *]; omega)) (by first | omega | (exact R.r _ _) | (simp only [jM.len_sI, jM.len_sL, jM.len_sR, jM.len_fI, jM.len_fL, jM.len_fR]; omega) | (simp [jM.len_nw, jM.len_sI, jM.len_sL, jM.len_sR, jM.len_fI, jM.len_fL, jM.len_fR, *]; omega)) ?_
                                                              exact mQ.of (by unfold sp_load ldC; (repeat (first | rw [if_pos (by omega)] | rw [if_neg (by omega)])))))
                                                    · first
                                                      | (exfalso; omega)
                                                      | (refine J.bipush (pc' := 99) rfl rfl (by decide) ?_
                                                         refine J.iret rfl rfl (by first | omega | (exact R.r _ _) | (simp only [jM.len_sI, jM.len_sL, jM.len_sR, jM.len_fI, jM.len_fL, jM.len_fR]; omega) | (simp [jM.len_nw, jM.len_sI, jM.len_sL, jM.len_sR, jM.len_fI, jM.len_fL, jM.len_fR, *]; omega)) (by first | omega | (exact R.r _ _) | (simp only [jM.len_sI, jM.len_sL, jM.len_sR, jM.len_fI, jM.len_fL, jM.len_fR]; omega) | (simp [jM.len_nw, jM.len_sI, jM.len_sL, jM.len_sR, jM.len_fI, jM.len_fL, jM.len_fR, *]; omega)) ?_
                                                         exact mQ.of (by unfold sp_load ldC; (repeat (first | rw [if_pos (by omega)] | rw [if_neg (by omega)])))))
                                               · first
                                                 | (exfalso; omega)
                                                 | (refine J.bipush (pc' := 87) rfl rfl (by decide) ?_
                                                    refine J.iret rfl rfl (by first | omega | (exact R.r _ _) | (simp only [jM.len_sI, jM.len_sL, jM.len_sR, jM.len_fI, jM.len_fL, jM.len_fR]; omega) | (simp [jM.len_nw, jM.len_sI, jM.len_sL, jM.len_sR, jM.len_fI, jM.len_fL, jM.len_fR, *]; omega)) (by first | omega | (exact R.r _ _) | (simp only [jM.len_sI, jM.len_sL, jM.len_sR, jM.len_fI, jM.len_fL, jM.len_fR]; omega) | (simp [jM.len_nw, jM.len_sI, jM.len_sL, jM.len_sR, jM.len_fI, jM.len_fL, jM.len_fR, *]; omega)) ?_
                                                    exact mQ.of (by unfold sp_load ldC; (repeat (first | rw [if_pos (by omega)] | rw [if_neg (by omega)])))))
                                          · first
                                            | (exfalso; omega)
                                            | (refine J.iconst (pc' := 75) rfl rfl ?_
                                               refine J.iret rfl rfl (by first | omega | (exact R.r _ _) | (simp only [jM.len_sI, jM.len_sL, jM.len_sR, jM.len_fI, jM.len_fL, jM.len_fR]; omega) | (simp [jM.len_nw, jM.len_sI, jM.len_sL, jM.len_sR, jM.len_fI, jM.len_fL, jM.len_fR, *]; omega)) (by first | omega | (exact R.r _ _) | (simp only [jM.len_sI, jM.len_sL, jM.len_sR, jM.len_fI, jM.len_fL, jM.len_fR]; omega) | (simp [jM.len_nw, jM.len_sI, jM.len_sL, jM.len_sR, jM.len_fI, jM.len_fL, jM.len_fR, *]; omega)) ?_
                                               exact mQ.of (by unfold sp_load ldC; (repeat (first | rw [if_pos (by omega)] | rw [if_neg (by omega)])))))
                                     · first
                                       | (exfalso; omega)
                                       | (refine J.iconst (pc' := 63) rfl rfl ?_
                                          refine J.goto (tgt := 67) rfl rfl ?_
                                          refine J.iconst (pc' := 68) rfl rfl ?_
                                          first | refine J.callV (pc' := 71) (t := 16) rfl MX12_may ml_X12_161 iv_X12_may (by decide) ⟨_, rfl, rfl⟩ B.1 (cm_may1 B h0) rfl rfl (Nat.le_of_ble_eq_true rfl) (by first | omega | (exact R.r _ _) | (simp only [jM.len_sI, jM.len_sL, jM.len_sR, jM.len_fI, jM.len_fL, jM.len_fR]; omega) | (simp [jM.len_nw, jM.len_sI, jM.len_sL, jM.len_sR, jM.len_fI, jM.len_fL, jM.len_fR, *]; omega)) (by first | omega | (exact R.r _ _) | (simp only [jM.len_sI, jM.len_sL, jM.len_sR, jM.len_fI, jM.len_fL, jM.len_fR]; omega) | (simp [jM.len_nw, jM.len_sI, jM.len_sL, jM.len_sR, jM.len_fI, jM.len_fL, jM.len_fR, *]; omega)) (by first | omega | (exact R.r _ _) | (simp only [jM.len_sI, jM.len_sL, jM.len_sR, jM.len_fI, jM.len_fL, jM.len_fR]; omega) | (simp [jM.len_nw, jM.len_sI, jM.len_sL, jM.len_sR, jM.len_fI, jM.len_fL, jM.len_fR, *]; omega)) rfl rfl ?_ ?_ | refine J.callV (pc' := 71) (t := 16) rfl MX12_may ml_X12_161 iv_X12_may (by decide) ⟨_, rfl, rfl⟩ B.1 (cm_may0 B h0 (by omega)) rfl rfl (Nat.le_of_ble_eq_true rfl) (by first | omega | (exact R.r _ _) | (simp only [jM.len_sI, jM.len_sL, jM.len_sR, jM.len_fI, jM.len_fL, jM.len_fR]; omega) | (simp [jM.len_nw, jM.len_sI, jM.len_sL, jM.len_sR, jM.len_fI, jM.len_fL, jM.len_fR, *]; omega)) (by first | omega | (exact R.r _ _) | (simp only [jM.len_sI, jM.len_sL, jM.len_sR, jM.len_fI, jM.len_fL, jM.len_fR]; omega) | (simp [jM.len_nw, jM.len_sI, jM.len_sL, jM.len_sR, jM.len_fI, jM.len_fL, jM.len_fR, *]; omega)) (by first | omega | (exact R.r _ _) | (simp only [jM.len_sI, jM.len_sL, jM.len_sR, jM.len_fI, jM.len_fL, jM.len_fR]; omega) | (simp [jM.len_nw, jM.len_sI, jM.len_sL, jM.len_sR, jM.len_fI, jM.len_fL, jM.len_fR, *]; omega)) rfl rfl ?_ ?_
                                          · exact fun _ _ h => h
                                          rintro _ _ ⟨rfl, rfl⟩
                                          refine J.if_ne (tgt := 76) (pc' := 74) rfl rfl rfl (by first | omega | (exact R.r _ _) | (simp only [jM.len_sI, jM.len_sL, jM.len_sR, jM.len_fI, jM.len_fL, jM.len_fR]; omega) | (simp [jM.len_nw, jM.len_sI, jM.len_sL, jM.len_sR, jM.len_fI, jM.len_fL, jM.len_fR, *]; omega)) (fun c71 => ?_) (fun c71 => ?_)
                                          · first
                                            | (exfalso; omega)
                                            | (first | refine J.aload_n (pc' := 77) rfl rfl rfl ?_ | refine J.aload_nN (pc' := 77) rfl rfl rfl ?_
                                               refine J.mgI (pc' := 80) (j := 26) B rfl fl_X12_277 rfl rfl rfl ?_
                                               refine J.bipush (pc' := 82) rfl rfl (by decide) ?_
                                               refine J.icmp_ne (tgt := 88) (pc' := 85) rfl rfl rfl (by first | omega | (exact R.r _ _) | (simp only [jM.len_sI, jM.len_sL, jM.len_sR, jM.len_fI, jM.len_fL, jM.len_fR]; omega) | (simp [jM.len_nw, jM.len_sI, jM.len_sL, jM.len_sR, jM.len_fI, jM.len_fL, jM.len_fR, *]; omega)) (by first | omega | (exact R.r _ _) | (simp only [jM.len_sI, jM.len_sL, jM.len_sR, jM.len_fI, jM.len_fL, jM.len_fR]; omega) | (simp [jM.len_nw, jM.len_sI, jM.len_sL, jM.len_sR, jM.len_fI, jM.len_fL, jM.len_fR, *]; omega)) (fun c82 => ?_) (fun c82 => ?_)
                                               · first
                                                 | (exfalso; omega)
                                                 | (first | refine J.aload_n (pc' := 89) rfl rfl rfl ?_ | refine J.aload_nN (pc' := 89) rfl rfl rfl ?_
                                                    refine J.callV (pc' := 92) (t := 16) rfl MX12_layersInAll ml_X12_280 iv_X12_layersInAll (by decide) ⟨_, rfl, rfl⟩ B.1 (cm_layersInAll B) rfl rfl (Nat.le_of_ble_eq_true rfl) (by first | omega | (exact R.r _ _) | (simp only [jM.len_sI, jM.len_sL, jM.len_sR, jM.len_fI, jM.len_fL, jM.len_fR]; omega) | (simp [jM.len_nw, jM.len_sI, jM.len_sL, jM.len_sR, jM.len_fI, jM.len_fL, jM.len_fR, *]; omega)) (by first | omega | (exact R.r _ _) | (simp only [jM.len_sI, jM.len_sL, jM.len_sR, jM.len_fI, jM.len_fL, jM.len_fR]; omega) | (simp [jM.len_nw, jM.len_sI, jM.len_sL, jM.len_sR, jM.len_fI, jM.len_fL, jM.len_fR, *]; omega)) (by first | omega | (exact R.r _ _) | (simp only [jM.len_sI, jM.len_sL, jM.len_sR, jM.len_fI, jM.len_fL, jM.len_fR]; omega) | (simp [jM.len_nw, jM.len_sI, jM.len_sL, jM.len_sR, jM.len_fI, jM.len_fL, jM.len_fR, *]; omega)) rfl rfl ?_ ?_
                                                    · exact fun _ _ h => h
                                                    rintro _ _ ⟨rfl, rfl⟩
                                                    refine J.bipush (pc' := 94) rfl rfl (by decide) ?_
                                                    refine J.icmp_ne (tgt := 100) (pc' := 97) rfl rfl rfl (by first | omega | (exact R.r _ _) | (simp only [jM.len_sI, jM.len_sL, jM.len_sR, jM.len_fI, jM.len_fL, jM.len_fR]; omega) | (simp [jM.len_nw, jM.len_sI, jM.len_sL, jM.len_sR, jM.len_fI, jM.len_fL, jM.len_fR, *]; omega)) (by first | omega | (exact R.r _ _) | (simp only [jM.len_sI, jM.len_sL, jM.len_sR, jM.len_fI, jM.len_fL, jM.len_fR]; omega) | (simp [jM.len_nw, jM.len_sI, jM.len_sL, jM.len_sR, jM.len_fI, jM.len_fL, jM.len_fR, *]; omega)) (fun c94 => ?_) (fun c94 => ?_)
                                                    · first
                                                      | (exfalso; omega)
                                                      | (first | refine J.aload_n (pc' := 101) rfl rfl rfl ?_ | refine J.aload_nN (pc' := 101) rfl rfl rfl ?_
                                                         refine J.iload_n (pc' := 102) rfl rfl rfl ?_
                                                         first | refine J.aload_n (pc' := 103) rfl rfl rfl ?_ | refine J.aload_nN (pc' := 103) rfl rfl rfl ?_
                                                         refine J.mgI (pc' := 106) (j := 3) B rfl fl_X12_283 rfl rfl rfl ?_
                                                         refine J.callV (pc' := 109) (t := 16) rfl MX12_inForce ml_X12_264 iv_X12_inForce (by decide) ⟨_, rfl, rfl⟩ B.1 (cm_inForce B R hs (by omega)) rfl rfl (Nat.le_of_ble_eq_true rfl) (by first | omega | (exact R.r _ _) | (simp only [jM.len_sI, jM.len_sL, jM.len_sR, jM.len_fI, jM.len_fL, jM.len_fR]; omega) | (simp [jM.len_nw, jM.len_sI, jM.len_sL, jM.len_sR, jM.len_fI, jM.len_fL, jM.len_fR, *]; omega)) (by first | omega | (exact R.r _ _) | (simp only [jM.len_sI, jM.len_sL, jM.len_sR, jM.len_fI, jM.len_fL, jM.len_fR]; omega) | (simp [jM.len_nw, jM.len_sI, jM.len_sL, jM.len_sR, jM.len_fI, jM.len_fL, jM.len_fR, *]; omega)) (by first | omega | (exact R.r _ _) | (simp only [jM.len_sI, jM.len_sL, jM.len_sR, jM.len_fI, jM.len_fL, jM.len_fR]; omega) | (simp [jM.len_nw, jM.len_sI, jM.len_sL, jM.len_sR, jM.len_fI, jM.len_fL, jM.len_fR, *]; omega)) rfl rfl ?_ ?_
                                                         · exact fun _ _ h => h
                                                         rintro _ _ ⟨rfl, rfl⟩
                                                         refine J.istore (pc' := 111) rfl rfl (by decide) ?_
                                                         refine J.iload (pc' := 113) rfl rfl rfl ?_
                                                         refine J.iconst (pc' := 114) rfl rfl ?_
                                                         refine J.icmp_ne (tgt := 120) (pc' := 117) rfl rfl rfl (by first | omega | (exact R.r _ _) | (simp only [jM.len_sI, jM.len_sL, jM.len_sR, jM.len_fI, jM.len_fL, jM.len_fR]; omega) | (simp [jM.len_nw, jM.len_sI, jM.len_sL, jM.len_sR, jM.len_fI, jM.len_fL, jM.len_fR, *]; omega)) (by first | omega | (exact R.r _ _) | (simp only [jM.len_sI, jM.len_sL, jM.len_sR, jM.len_fI, jM.len_fL, jM.len_fR]; omega) | (simp [jM.len_nw, jM.len_sI, jM.len_sL, jM.len_sR, jM.len_fI, jM.len_fL, jM.len_fR, *]; omega)) (fun c114 => ?_) (fun c114 => ?_)
                                                         · first
                                                           | (exfalso; omega)
                                                           | (exact rest (by omega) (by omega) (by omega) (by omega) (by omega) (by unfold ldC; omega))
                                                         · first
                                                           | (exfalso; omega)
                                                           | (refine J.bipush (pc' := 119) rfl rfl (by decide) ?_
                                                              refine J.iret rfl rfl (by first | omega | (exact R.r _ _) | (simp only [jM.len_sI, jM.len_sL, jM.len_sR, jM.len_fI, jM.len_fL, jM.len_fR]; omega) | (simp [jM.len_nw, jM.len_sI, jM.len_sL, jM.len_sR, jM.len_fI, jM.len_fL, jM.len_fR, *]; omega)) (by first | omega | (exact R.r _ _) | (simp only [jM.len_sI, jM.len_sL, jM.len_sR, jM.len_fI, jM.len_fL, jM.len_fR]; omega) | (simp [jM.len_nw, jM.len_sI, jM.len_sL, jM.len_sR, jM.len_fI, jM.len_fL, jM.len_fR, *]; omega)) ?_
                                                              exact mQ.of (by unfold sp_load ldC; (repeat (first | rw [if_pos (by omega)] | rw [if_neg (by omega)])))))
                                                    · first
                                                      | (exfalso; omega)
                                                      | (refine J.bipush (pc' := 99) rfl rfl (by decide) ?_
                                                         refine J.iret rfl rfl (by first | omega | (exact R.r _ _) | (simp only [jM.len_sI, jM.len_sL, jM.len_sR, jM.len_fI, jM.len_fL, jM.len_fR]; omega) | (simp [jM.len_nw, jM.len_sI, jM.len_sL, jM.len_sR, jM.len_fI, jM.len_fL, jM.len_fR, *]; omega)) (by first | omega | (exact R.r _ _) | (simp only [jM.len_sI, jM.len_sL, jM.len_sR, jM.len_fI, jM.len_fL, jM.len_fR]; omega) | (simp [jM.len_nw, jM.len_sI, jM.len_sL, jM.len_sR, jM.len_fI, jM.len_fL, jM.len_fR, *]; omega)) ?_
                                                         exact mQ.of (by unfold sp_load ldC; (repeat (first | rw [if_pos (by omega)] | rw [if_neg (by omega)])))))
                                               · first
                                                 | (exfalso; omega)
                                                 | (refine J.bipush (pc' := 87) rfl rfl (by decide) ?_
                                                    refine J.iret rfl rfl (by first | omega | (exact R.r _ _) | (simp only [jM.len_sI, jM.len_sL, jM.len_sR, jM.len_fI, jM.len_fL, jM.len_fR]; omega) | (simp [jM.len_nw, jM.len_sI, jM.len_sL, jM.len_sR, jM.len_fI, jM.len_fL, jM.len_fR, *]; omega)) (by first | omega | (exact R.r _ _) | (simp only [jM.len_sI, jM.len_sL, jM.len_sR, jM.len_fI, jM.len_fL, jM.len_fR]; omega) | (simp [jM.len_nw, jM.len_sI, jM.len_sL, jM.len_sR, jM.len_fI, jM.len_fL, jM.len_fR, *]; omega)) ?_
                                                    exact mQ.of (by unfold sp_load ldC; (repeat (first | rw [if_pos (by omega)] | rw [if_neg (by omega)])))))
                                          · first
                                            | (exfalso; omega)
                                            | (refine J.iconst (pc' := 75) rfl rfl ?_
                                               refine J.iret rfl rfl (by first | omega | (exact R.r _ _) | (simp only [jM.len_sI, jM.len_sL, jM.len_sR, jM.len_fI, jM.len_fL, jM.len_fR]; omega) | (simp [jM.len_nw, jM.len_sI, jM.len_sL, jM.len_sR, jM.len_fI, jM.len_fL, jM.len_fR, *]; omega)) (by first | omega | (exact R.r _ _) | (simp only [jM.len_sI, jM.len_sL, jM.len_sR, jM.len_fI, jM.len_fL, jM.len_fR]; omega) | (simp [jM.len_nw, jM.len_sI, jM.len_sL, jM.len_sR, jM.len_fI, jM.len_fL, jM.len_fR, *]; omega)) ?_
                                               exact mQ.of (by unfold sp_load ldC; (repeat (first | rw [if_pos (by omega)] | rw [if_neg (by omega)]))))))))))
            · first
              | (exfalso; omega)
              | (refine J.iload_n (pc' := 19) rfl rfl rfl ?_
                 first | refine J.aload_n (pc' := 20) rfl rfl rfl ?_ | refine J.aload_nN (pc' := 20) rfl rfl rfl ?_
                 refine J.mgI (pc' := 23) (j := 1) B rfl fl_X12_154 rfl rfl rfl ?_
                 refine J.icmp_ge (tgt := 30) (pc' := 26) rfl rfl rfl (by first | omega | (exact R.r _ _) | (simp only [jM.len_sI, jM.len_sL, jM.len_sR, jM.len_fI, jM.len_fL, jM.len_fR]; omega) | (simp [jM.len_nw, jM.len_sI, jM.len_sL, jM.len_sR, jM.len_fI, jM.len_fL, jM.len_fR, *]; omega)) (by first | omega | (exact R.r _ _) | (simp only [jM.len_sI, jM.len_sL, jM.len_sR, jM.len_fI, jM.len_fL, jM.len_fR]; omega) | (simp [jM.len_nw, jM.len_sI, jM.len_sL, jM.len_sR, jM.len_fI, jM.len_fL, jM.len_fR, *]; omega)) (fun c23 => ?_) (fun c23 => ?_)
                 · first
                   | (exfalso; omega)
                   | (refine J.iconst (pc' := 31) rfl rfl ?_
                      refine J.iconst (pc' := 32) rfl rfl ?_
                      first | refine J.callV (pc' := 35) (t := 16) rfl MX12_may ml_X12_161 iv_X12_may (by decide) ⟨_, rfl, rfl⟩ B.1 (cm_may1 B h0) rfl rfl (Nat.le_of_ble_eq_true rfl) (by first | omega | (exact R.r _ _) | (simp only [jM.len_sI, jM.len_sL, jM.len_sR, jM.len_fI, jM.len_fL, jM.len_fR]; omega) | (simp [jM.len_nw, jM.len_sI, jM.len_sL, jM.len_sR, jM.len_fI, jM.len_fL, jM.len_fR, *]; omega)) (by first | omega | (exact R.r _ _) | (simp only [jM.len_sI, jM.len_sL, jM.len_sR, jM.len_fI, jM.len_fL, jM.len_fR]; omega) | (simp [jM.len_nw, jM.len_sI, jM.len_sL, jM.len_sR, jM.len_fI, jM.len_fL, jM.len_fR, *]; omega)) (by first | omega | (exact R.r _ _) | (simp only [jM.len_sI, jM.len_sL, jM.len_sR, jM.len_fI, jM.len_fL, jM.len_fR]; omega) | (simp [jM.len_nw, jM.len_sI, jM.len_sL, jM.len_sR, jM.len_fI, jM.len_fL, jM.len_fR, *]; omega)) rfl rfl ?_ ?_ | refine J.callV (pc' := 35) (t := 16) rfl MX12_may ml_X12_161 iv_X12_may (by decide) ⟨_, rfl, rfl⟩ B.1 (cm_may0 B h0 (by omega)) rfl rfl (Nat.le_of_ble_eq_true rfl) (by first | omega | (exact R.r _ _) | (simp only [jM.len_sI, jM.len_sL, jM.len_sR, jM.len_fI, jM.len_fL, jM.len_fR]; omega) | (simp [jM.len_nw, jM.len_sI, jM.len_sL, jM.len_sR, jM.len_fI, jM.len_fL, jM.len_fR, *]; omega)) (by first | omega | (exact R.r _ _) | (simp only [jM.len_sI, jM.len_sL, jM.len_sR, jM.len_fI, jM.len_fL, jM.len_fR]; omega) | (simp [jM.len_nw, jM.len_sI, jM.len_sL, jM.len_sR, jM.len_fI, jM.len_fL, jM.len_fR, *]; omega)) (by first | omega | (exact R.r _ _) | (simp only [jM.len_sI, jM.len_sL, jM.len_sR, jM.len_fI, jM.len_fL, jM.len_fR]; omega) | (simp [jM.len_nw, jM.len_sI, jM.len_sL, jM.len_sR, jM.len_fI, jM.len_fL, jM.len_fR, *]; omega)) rfl rfl ?_ ?_
                      · exact fun _ _ h => h
                      rintro _ _ ⟨rfl, rfl⟩
                      refine J.if_eq (tgt := 74) (pc' := 38) rfl rfl rfl (by first | omega | (exact R.r _ _) | (simp only [jM.len_sI, jM.len_sL, jM.len_sR, jM.len_fI, jM.len_fL, jM.len_fR]; omega) | (simp [jM.len_nw, jM.len_sI, jM.len_sL, jM.len_sR, jM.len_fI, jM.len_fL, jM.len_fR, *]; omega)) (fun c35 => ?_) (fun c35 => ?_)
                      · first
                        | (exfalso; omega)
                        | (refine J.iconst (pc' := 75) rfl rfl ?_
                           refine J.iret rfl rfl (by first | omega | (exact R.r _ _) | (simp only [jM.len_sI, jM.len_sL, jM.len_sR, jM.len_fI, jM.len_fL, jM.len_fR]; omega) | (simp [jM.len_nw, jM.len_sI, jM.len_sL, jM.len_sR, jM.len_fI, jM.len_fL, jM.len_fR, *]; omega)) (by first | omega | (exact R.r _ _) | (simp only [jM.len_sI, jM.len_sL, jM.len_sR, jM.len_fI, jM.len_fL, jM.len_fR]; omega) | (simp [jM.len_nw, jM.len_sI, jM.len_sL, jM.len_sR, jM.len_fI, jM.len_fL, jM.len_fR, *]; omega)) ?_
                           exact mQ.of (by unfold sp_load ldC; (repeat (first | rw [if_pos (by omega)] | rw [if_neg (by omega)]))))
                      · first
                        | (exfalso; omega)
                        | (first | refine J.aload_n (pc' := 39) rfl rfl rfl ?_ | refine J.aload_nN (pc' := 39) rfl rfl rfl ?_
                           refine J.iload_n (pc' := 40) rfl rfl rfl ?_
                           refine J.if_lt (tgt := 66) (pc' := 43) rfl rfl rfl (by first | omega | (exact R.r _ _) | (simp only [jM.len_sI, jM.len_sL, jM.len_sR, jM.len_fI, jM.len_fL, jM.len_fR]; omega) | (simp [jM.len_nw, jM.len_sI, jM.len_sL, jM.len_sR, jM.len_fI, jM.len_fL, jM.len_fR, *]; omega)) (fun c40 => ?_) (fun c40 => ?_)
                           · first
                             | (exfalso; omega)
                             | (refine J.iconst (pc' := 67) rfl rfl ?_
                                refine J.iconst (pc' := 68) rfl rfl ?_
                                first | refine J.callV (pc' := 71) (t := 16) rfl MX12_may ml_X12_161 iv_X12_may (by decide) ⟨_, rfl, rfl⟩ B.1 (cm_may1 B h0) rfl rfl (Nat.le_of_ble_eq_true rfl) (by first | omega | (exact R.r _ _) | (simp only [jM.len_sI, jM.len_sL, jM.len_sR, jM.len_fI, jM.len_fL, jM.len_fR]; omega) | (simp [jM.len_nw, jM.len_sI, jM.len_sL, jM.len_sR, jM.len_fI, jM.len_fL, jM.len_fR, *]; omega)) (by first | omega | (exact R.r _ _) | (simp only [jM.len_sI, jM.len_sL, jM.len_sR, jM.len_fI, jM.len_fL, jM.len_fR]; omega) | (simp [jM.len_nw, jM.len_sI, jM.len_sL, jM.len_sR, jM.len_fI, jM.len_fL, jM.len_fR, *]; omega)) (by first | omega | (exact R.r _ _) | (simp only [jM.len_sI, jM.len_sL, jM.len_sR, jM.len_fI, jM.len_fL, jM.len_fR]; omega) | (simp [jM.len_nw, jM.len_sI, jM.len_sL, jM.len_sR, jM.len_fI, jM.len_fL, jM.len_fR, *]; omega)) rfl rfl ?_ ?_ | refine J.callV (pc' := 71) (t := 16) rfl MX12_may ml_X12_161 iv_X12_may (by decide) ⟨_, rfl, rfl⟩ B.1 (cm_may0 B h0 (by omega)) rfl rfl (Nat.le_of_ble_eq_true rfl) (by first | omega | (exact R.r _ _) | (simp only [jM.len_sI, jM.len_sL, jM.len_sR, jM.len_fI, jM.len_fL, jM.len_fR]; omega) | (simp [jM.len_nw, jM.len_sI, jM.len_sL, jM.len_sR, jM.len_fI, jM.len_fL, jM.len_fR, *]; omega)) (by first | omega | (exact R.r _ _) | (simp only [jM.len_sI, jM.len_sL, jM.len_sR, jM.len_fI, jM.len_fL, jM.len_fR]; omega) | (simp [jM.len_nw, jM.len_sI, jM.len_sL, jM.len_sR, jM.len_fI, jM.len_fL, jM.len_fR, *]; omega)) (by first | omega | (exact R.r _ _) | (simp only [jM.len_sI, jM.len_sL, jM.len_sR, jM.len_fI, jM.len_fL, jM.len_fR]; omega) | (simp [jM.len_nw, jM.len_sI, jM.len_sL, jM.len_sR, jM.len_fI, jM.len_fL, jM.len_fR, *]; omega)) rfl rfl ?_ ?_
                                · exact fun _ _ h => h
                                rintro _ _ ⟨rfl, rfl⟩
                                refine J.if_ne (tgt := 76) (pc' := 74) rfl rfl rfl (by first | omega | (exact R.r _ _) | (simp only [jM.len_sI, jM.len_sL, jM.len_sR, jM.len_fI, jM.len_fL, jM.len_fR]; omega) | (simp [jM.len_nw, jM.len_sI, jM.len_sL, jM.len_sR, jM.len_fI, jM.len_fL, jM.len_fR, *]; omega)) (fun c71 => ?_) (fun c71 => ?_)
                                · first
                                  | (exfalso; omega)
                                  | (first | refine J.aload_n (pc' := 77) rfl rfl rfl ?_ | refine J.aload_nN (pc' := 77) rfl rfl rfl ?_
                                     refine J.mgI (pc' := 80) (j := 26) B rfl fl_X12_277 rfl rfl rfl ?_
                                     refine J.bipush (pc' := 82) rfl rfl (by decide) ?_
                                     refine J.icmp_ne (tgt := 88) (pc' := 85) rfl rfl rfl (by first | omega | (exact R.r _ _) | (simp only [jM.len_sI, jM.len_sL, jM.len_sR, jM.len_fI, jM.len_fL, jM.len_fR]; omega) | (simp [jM.len_nw, jM.len_sI, jM.len_sL, jM.len_sR, jM.len_fI, jM.len_fL, jM.len_fR, *]; omega)) (by first | omega | (exact R.r _ _) | (simp only [jM.len_sI, jM.len_sL, jM.len_sR, jM.len_fI, jM.len_fL, jM.len_fR]; omega) | (simp [jM.len_nw, jM.len_sI, jM.len_sL, jM.len_sR, jM.len_fI, jM.len_fL, jM.len_fR, *]; omega)) (fun c82 => ?_) (fun c82 => ?_)
                                     · first
                                       | (exfalso; omega)
                                       | (first | refine J.aload_n (pc' := 89) rfl rfl rfl ?_ | refine J.aload_nN (pc' := 89) rfl rfl rfl ?_
                                          refine J.callV (pc' := 92) (t := 16) rfl MX12_layersInAll ml_X12_280 iv_X12_layersInAll (by decide) ⟨_, rfl, rfl⟩ B.1 (cm_layersInAll B) rfl rfl (Nat.le_of_ble_eq_true rfl) (by first | omega | (exact R.r _ _) | (simp only [jM.len_sI, jM.len_sL, jM.len_sR, jM.len_fI, jM.len_fL, jM.len_fR]; omega) | (simp [jM.len_nw, jM.len_sI, jM.len_sL, jM.len_sR, jM.len_fI, jM.len_fL, jM.len_fR, *]; omega)) (by first | omega | (exact R.r _ _) | (simp only [jM.len_sI, jM.len_sL, jM.len_sR, jM.len_fI, jM.len_fL, jM.len_fR]; omega) | (simp [jM.len_nw, jM.len_sI, jM.len_sL, jM.len_sR, jM.len_fI, jM.len_fL, jM.len_fR, *]; omega)) (by first | omega | (exact R.r _ _) | (simp only [jM.len_sI, jM.len_sL, jM.len_sR, jM.len_fI, jM.len_fL, jM.len_fR]; omega) | (simp [jM.len_nw, jM.len_sI, jM.len_sL, jM.len_sR, jM.len_fI, jM.len_fL, jM.len_fR, *]; omega)) rfl rfl ?_ ?_
                                          · exact fun _ _ h => h
                                          rintro _ _ ⟨rfl, rfl⟩
                                          refine J.bipush (pc' := 94) rfl rfl (by decide) ?_
                                          refine J.icmp_ne (tgt := 100) (pc' := 97) rfl rfl rfl (by first | omega | (exact R.r _ _) | (simp only [jM.len_sI, jM.len_sL, jM.len_sR, jM.len_fI, jM.len_fL, jM.len_fR]; omega) | (simp [jM.len_nw, jM.len_sI, jM.len_sL, jM.len_sR, jM.len_fI, jM.len_fL, jM.len_fR, *]; omega)) (by first | omega | (exact R.r _ _) | (simp only [jM.len_sI, jM.len_sL, jM.len_sR, jM.len_fI, jM.len_fL, jM.len_fR]; omega) | (simp [jM.len_nw, jM.len_sI, jM.len_sL, jM.len_sR, jM.len_fI, jM.len_fL, jM.len_fR, *]; omega)) (fun c94 => ?_) (fun c94 => ?_)
                                          · first
                                            | (exfalso; omega)
                                            | (first | refine J.aload_n (pc' := 101) rfl rfl rfl ?_ | refine J.aload_nN (pc' := 101) rfl rfl rfl ?_
                                               refine J.iload_n (pc' := 102) rfl rfl rfl ?_
                                               first | refine J.aload_n (pc' := 103) rfl rfl rfl ?_ | refine J.aload_nN (pc' := 103) rfl rfl rfl ?_
                                               refine J.mgI (pc' := 106) (j := 3) B rfl fl_X12_283 rfl rfl rfl ?_
                                               refine J.callV (pc' := 109) (t := 16) rfl MX12_inForce ml_X12_264 iv_X12_inForce (by decide) ⟨_, rfl, rfl⟩ B.1 (cm_inForce B R hs (by omega)) rfl rfl (Nat.le_of_ble_eq_true rfl) (by first | omega | (exact R.r _ _) | (simp only [jM.len_sI, jM.len_sL, jM.len_sR, jM.len_fI, jM.len_fL, jM.len_fR]; omega) | (simp [jM.len_nw, jM.len_sI, jM.len_sL, jM.len_sR, jM.len_fI, jM.len_fL, jM.len_fR, *]; omega)) (by first | omega | (exact R.r _ _) | (simp only [jM.len_sI, jM.len_sL, jM.len_sR, jM.len_fI, jM.len_fL, jM.len_fR]; omega) | (simp [jM.len_nw, jM.len_sI, jM.len_sL, jM.len_sR, jM.len_fI, jM.len_fL, jM.len_fR, *]; omega)) (by first | omega | (exact R.r _ _) | (simp only [jM.len_sI, jM.len_sL, jM.len_sR, jM.len_fI, jM.len_fL, jM.len_fR]; omega) | (simp [jM.len_nw, jM.len_sI, jM.len_sL, jM.len_sR, jM.len_fI, jM.len_fL, jM.len_fR, *]; omega)) rfl rfl ?_ ?_
                                               · exact fun _ _ h => h
                                               rintro _ _ ⟨rfl, rfl⟩
                                               refine J.istore (pc' := 111) rfl rfl (by decide) ?_
                                               refine J.iload (pc' := 113) rfl rfl rfl ?_
                                               refine J.iconst (pc' := 114) rfl rfl ?_
                                               refine J.icmp_ne (tgt := 120) (pc' := 117) rfl rfl rfl (by first | omega | (exact R.r _ _) | (simp only [jM.len_sI, jM.len_sL, jM.len_sR, jM.len_fI, jM.len_fL, jM.len_fR]; omega) | (simp [jM.len_nw, jM.len_sI, jM.len_sL, jM.len_sR, jM.len_fI, jM.len_fL, jM.len_fR, *]; omega)) (by first | omega | (exact R.r _ _) | (simp only [jM.len_sI, jM.len_sL, jM.len_sR, jM.len_fI, jM.len_fL, jM.len_fR]; omega) | (simp [jM.len_nw, jM.len_sI, jM.len_sL, jM.len_sR, jM.len_fI, jM.len_fL, jM.len_fR, *]; omega)) (fun c114 => ?_) (fun c114 => ?_)
                                               · first
                                                 | (exfalso; omega)
                                                 | (exact rest (by omega) (by omega) (by omega) (by omega) (by omega) (by unfold ldC; omega))
                                               · first
                                                 | (exfalso; omega)
                                                 | (refine J.bipush (pc' := 119) rfl rfl (by decide) ?_
                                                    refine J.iret rfl rfl (by first | omega | (exact R.r _ _) | (simp only [jM.len_sI, jM.len_sL, jM.len_sR, jM.len_fI, jM.len_fL, jM.len_fR]; omega) | (simp [jM.len_nw, jM.len_sI, jM.len_sL, jM.len_sR, jM.len_fI, jM.len_fL, jM.len_fR, *]; omega)) (by first | omega | (exact R.r _ _) | (simp only [jM.len_sI, jM.len_sL, jM.len_sR, jM.len_fI, jM.len_fL, jM.len_fR]; omega) | (simp [jM.len_nw, jM.len_sI, jM.len_sL, jM.len_sR, jM.len_fI, jM.len_fL, jM.len_fR, *]; omega)) ?_
                                                    exact mQ.of (by unfold sp_load ldC; (repeat (first | rw [if_pos (by omega)] | rw [if_neg (by omega)])))))
                                          · first
                                            | (exfalso; omega)
                                            | (refine J.bipush (pc' := 99) rfl rfl (by decide) ?_
                                               refine J.iret rfl rfl (by first | omega | (exact R.r _ _) | (simp only [jM.len_sI, jM.len_sL, jM.len_sR, jM.len_fI, jM.len_fL, jM.len_fR]; omega) | (simp [jM.len_nw, jM.len_sI, jM.len_sL, jM.len_sR, jM.len_fI, jM.len_fL, jM.len_fR, *]; omega)) (by first | omega | (exact R.r _ _) | (simp only [jM.len_sI, jM.len_sL, jM.len_sR, jM.len_fI, jM.len_fL, jM.len_fR]; omega) | (simp [jM.len_nw, jM.len_sI, jM.len_sL, jM.len_sR, jM.len_fI, jM.len_fL, jM.len_fR, *]; omega)) ?_
                                               exact mQ.of (by unfold sp_load ldC; (repeat (first | rw [if_pos (by omega)] | rw [if_neg (by omega)])))))
                                     · first
                                       | (exfalso; omega)
                                       | (refine J.bipush (pc' := 87) rfl rfl (by decide) ?_
                                          refine J.iret rfl rfl (by first | omega | (exact R.r _ _) | (simp only [jM.len_sI, jM.len_sL, jM.len_sR, jM.len_fI, jM.len_fL, jM.len_fR]; omega) | (simp [jM.len_nw, jM.len_sI, jM.len_sL, jM.len_sR, jM.len_fI, jM.len_fL, jM.len_fR, *]; omega)) (by first | omega | (exact R.r _ _) | (simp only [jM.len_sI, jM.len_sL, jM.len_sR, jM.len_fI, jM.len_fL, jM.len_fR]; omega) | (simp [jM.len_nw, jM.len_sI, jM.len_sL, jM.len_sR, jM.len_fI, jM.len_fL, jM.len_fR, *]; omega)) ?_
                                          exact mQ.of (by unfold sp_load ldC; (repeat (first | rw [if_pos (by omega)] | rw [if_neg (by omega)])))))
                                · first
                                  | (exfalso; omega)
                                  | (refine J.iconst (pc' := 75) rfl rfl ?_
                                     refine J.iret rfl rfl (by first | omega | (exact R.r _ _) | (simp only [jM.len_sI, jM.len_sL, jM.len_sR, jM.len_fI, jM.len_fL, jM.len_fR]; omega) | (simp [jM.len_nw, jM.len_sI, jM.len_sL, jM.len_sR, jM.len_fI, jM.len_fL, jM.len_fR, *]; omega)) (by first | omega | (exact R.r _ _) | (simp only [jM.len_sI, jM.len_sL, jM.len_sR, jM.len_fI, jM.len_fL, jM.len_fR]; omega) | (simp [jM.len_nw, jM.len_sI, jM.len_sL, jM.len_sR, jM.len_fI, jM.len_fL, jM.len_fR, *]; omega)) ?_
                                     exact mQ.of (by unfold sp_load ldC; (repeat (first | rw [if_pos (by omega)] | rw [if_neg (by omega)])))))
                           · first
                             | (exfalso; omega)
                             | (refine J.iload_n (pc' := 44) rfl rfl rfl ?_
                                refine J.bipush (pc' := 46) rfl rfl (by decide) ?_
                                refine J.icmp_ge (tgt := 66) (pc' := 49) rfl rfl rfl (by first | omega | (exact R.r _ _) | (simp only [jM.len_sI, jM.len_sL, jM.len_sR, jM.len_fI, jM.len_fL, jM.len_fR]; omega) | (simp [jM.len_nw, jM.len_sI, jM.len_sL, jM.len_sR, jM.len_fI, jM.len_fL, jM.len_fR, *]; omega)) (by first | omega | (exact R.r _ _) | (simp only [jM.len_sI, jM.len_sL, jM.len_sR, jM.len_fI, jM.len_fL, jM.len_fR]; omega) | (simp [jM.len_nw, jM.len_sI, jM.len_sL, jM.len_sR, jM.len_fI, jM.len_fL, jM.len_fR, *]; omega)) (fun c46 => ?_) (fun c46 => ?_)
                                · first
                                  | (exfalso; omega)
                                  | (refine J.iconst (pc' := 67) rfl rfl ?_
                                     refine J.iconst (pc' := 68) rfl rfl ?_
                                     first | refine J.callV (pc' := 71) (t := 16) rfl MX12_may ml_X12_161 iv_X12_may (by decide) ⟨_, rfl, rfl⟩ B.1 (cm_may1 B h0) rfl rfl (Nat.le_of_ble_eq_true rfl) (by first | omega | (exact R.r _ _) | (simp only [jM.len_sI, jM.len_sL, jM.len_sR, jM.len_fI, jM.len_fL, jM.len_fR]; omega) | (simp [jM.len_nw, jM.len_sI, jM.len_sL, jM.len_sR, jM.len_fI, jM.len_fL, jM.len_fR, *]; omega)) (by first | omega | (exact R.r _ _) | (simp only [jM.len_sI, jM.len_sL, jM.len_sR, jM.len_fI, jM.len_fL, jM.len_fR]; omega) | (simp [jM.len_nw, jM.len_sI, jM.len_sL, jM.len_sR, jM.len_fI, jM.len_fL, jM.len_fR, *]; omega)) (by first | omega | (exact R.r _ _) | (simp only [jM.len_sI, jM.len_sL, jM.len_sR, jM.len_fI, jM.len_fL, jM.len_fR]; omega) | (simp [jM.len_nw, jM.len_sI, jM.len_sL, jM.len_sR, jM.len_fI, jM.len_fL, jM.len_fR, *]; omega)) rfl rfl ?_ ?_ | refine J.callV (pc' := 71) (t := 16) rfl MX12_may ml_X12_161 iv_X12_may (by decide) ⟨_, rfl, rfl⟩ B.1 (cm_may0 B h0 (by omega)) rfl rfl (Nat.le_of_ble_eq_true rfl) (by first | omega | (exact R.r _ _) | (simp only [jM.len_sI, jM.len_sL, jM.len_sR, jM.len_fI, jM.len_fL, jM.len_fR]; omega) | (simp [jM.len_nw, jM.len_sI, jM.len_sL, jM.len_sR, jM.len_fI, jM.len_fL, jM.len_fR, *]; omega)) (by first | omega | (exact R.r _ _) | (simp only [jM.len_sI, jM.len_sL, jM.len_sR, jM.len_fI, jM.len_fL, jM.len_fR]; omega) | (simp [jM.len_nw, jM.len_sI, jM.len_sL, jM.len_sR, jM.len_fI, jM.len_fL, jM.len_fR, *]; omega)) (by first | omega | (exact R.r _ _) | (simp only [jM.len_sI, jM.len_sL, jM.len_sR, jM.len_fI, jM.len_fL, jM.len_fR]; omega) | (simp [jM.len_nw, jM.len_sI, jM.len_sL, jM.len_sR, jM.len_fI, jM.len_fL, jM.len_fR, *]; omega)) rfl rfl ?_ ?_
                                     · exact fun _ _ h => h
                                     rintro _ _ ⟨rfl, rfl⟩
                                     refine J.if_ne (tgt := 76) (pc' := 74) rfl rfl rfl (by first | omega | (exact R.r _ _) | (simp only [jM.len_sI, jM.len_sL, jM.len_sR, jM.len_fI, jM.len_fL, jM.len_fR]; omega) | (simp [jM.len_nw, jM.len_sI, jM.len_sL, jM.len_sR, jM.len_fI, jM.len_fL, jM.len_fR, *]; omega)) (fun c71 => ?_) (fun c71 => ?_)
                                     · first
                                       | (exfalso; omega)
                                       | (first | refine J.aload_n (pc' := 77) rfl rfl rfl ?_ | refine J.aload_nN (pc' := 77) rfl rfl rfl ?_
                                          refine J.mgI (pc' := 80) (j := 26) B rfl fl_X12_277 rfl rfl rfl ?_
                                          refine J.bipush (pc' := 82) rfl rfl (by decide) ?_
                                          refine J.icmp_ne (tgt := 88) (pc' := 85) rfl rfl rfl (by first | omega | (exact R.r _ _) | (simp only [jM.len_sI, jM.len_sL, jM.len_sR, jM.len_fI, jM.len_fL, jM.len_fR]; omega) | (simp [jM.len_nw, jM.len_sI, jM.len_sL, jM.len_sR, jM.len_fI, jM.len_fL, jM.len_fR, *]; omega)) (by first | omega | (exact R.r _ _) | (simp only [jM.len_sI, jM.len_sL, jM.len_sR, jM.len_fI, jM.len_fL, jM.len_fR]; omega) | (simp [jM.len_nw, jM.len_sI, jM.len_sL, jM.len_sR, jM.len_fI, jM.len_fL, jM.len_fR, *]; omega)) (fun c82 => ?_) (fun c82 => ?_)
                                          · first
                                            | (exfalso; omega)
                                            | (first | refine J.aload_n (pc' := 89) rfl rfl rfl ?_ | refine J.aload_nN (pc' := 89) rfl rfl rfl ?_
                                               refine J.callV (pc' := 92) (t := 16) rfl MX12_layersInAll ml_X12_280 iv_X12_layersInAll (by decide) ⟨_, rfl, rfl⟩ B.1 (cm_layersInAll B) rfl rfl (Nat.le_of_ble_eq_true rfl) (by first | omega | (exact R.r _ _) | (simp only [jM.len_sI, jM.len_sL, jM.len_sR, jM.len_fI, jM.len_fL, jM.len_fR]; omega) | (simp [jM.len_nw, jM.len_sI, jM.len_sL, jM.len_sR, jM.len_fI, jM.len_fL, jM.len_fR, *]; omega)) (by first | omega | (exact R.r _ _) | (simp only [jM.len_sI, jM.len_sL, jM.len_sR, jM.len_fI, jM.len_fL, jM.len_fR]; omega) | (simp [jM.len_nw, jM.len_sI, jM.len_sL, jM.len_sR, jM.len_fI, jM.len_fL, jM.len_fR, *]; omega)) (by first | omega | (exact R.r _ _) | (simp only [jM.len_sI, jM.len_sL, jM.len_sR, jM.len_fI, jM.len_fL, jM.len_fR]; omega) | (simp [jM.len_nw, jM.len_sI, jM.len_sL, jM.len_sR, jM.len_fI, jM.len_fL, jM.len_fR, *]; omega)) rfl rfl ?_ ?_
                                               · exact fun _ _ h => h
                                               rintro _ _ ⟨rfl, rfl⟩
                                               refine J.bipush (pc' := 94) rfl rfl (by decide) ?_
                                               refine J.icmp_ne (tgt := 100) (pc' := 97) rfl rfl rfl (by first | omega | (exact R.r _ _) | (simp only [jM.len_sI, jM.len_sL, jM.len_sR, jM.len_fI, jM.len_fL, jM.len_fR]; omega) | (simp [jM.len_nw, jM.len_sI, jM.len_sL, jM.len_sR, jM.len_fI, jM.len_fL, jM.len_fR, *]; omega)) (by first | omega | (exact R.r _ _) | (simp only [jM.len_sI, jM.len_sL, jM.len_sR, jM.len_fI, jM.len_fL, jM.len_fR]; omega) | (simp [jM.len_nw, jM.len_sI, jM.len_sL, jM.len_sR, jM.len_fI, jM.len_fL, jM.len_fR, *]; omega)) (fun c94 => ?_) (fun c94 => ?_)
                                               · first
                                                 | (exfalso; omega)
                                                 | (first | refine J.aload_n (pc' := 101) rfl rfl rfl ?_ | refine J.aload_nN (pc' := 101) rfl rfl rfl ?_
                                                    refine J.iload_n (pc' := 102) rfl rfl rfl ?_
                                                    first | refine J.aload_n (pc' := 103) rfl rfl rfl ?_ | refine J.aload_nN (pc' := 103) rfl rfl rfl ?_
                                                    refine J.mgI (pc' := 106) (j := 3) B rfl fl_X12_283 rfl rfl rfl ?_
                                                    refine J.callV (pc' := 109) (t := 16) rfl MX12_inForce ml_X12_264 iv_X12_inForce (by decide) ⟨_, rfl, rfl⟩ B.1 (cm_inForce B R hs (by omega)) rfl rfl (Nat.le_of_ble_eq_true rfl) (by first | omega | (exact R.r _ _) | (simp only [jM.len_sI, jM.len_sL, jM.len_sR, jM.len_fI, jM.len_fL, jM.len_fR]; omega) | (simp [jM.len_nw, jM.len_sI, jM.len_sL, jM.len_sR, jM.len_fI, jM.len_fL, jM.len_fR, *]; omega)) (by first | omega | (exact R.r _ _) | (simp only [jM.len_sI, jM.len_sL, jM.len_sR, jM.len_fI, jM.len_fL, jM.len_fR]; omega) | (simp [jM.len_nw, jM.len_sI, jM.len_sL, jM.len_sR, jM.len_fI, jM.len_fL, jM.len_fR, *]; omega)) (by first | omega | (exact R.r _ _) | (simp only [jM.len_sI, jM.len_sL, jM.len_sR, jM.len_fI, jM.len_fL, jM.len_fR]; omega) | (simp [jM.len_nw, jM.len_sI, jM.len_sL, jM.len_sR, jM.len_fI, jM.len_fL, jM.len_fR, *]; omega)) rfl rfl ?_ ?_
                                                    · exact fun _ _ h => h
                                                    rintro _ _ ⟨rfl, rfl⟩
                                                    refine J.istore (pc' := 111) rfl rfl (by decide) ?_
                                                    refine J.iload (pc' := 113) rfl rfl rfl ?_
                                                    refine J.iconst (pc' := 114) rfl rfl ?_
                                                    refine J.icmp_ne (tgt := 120) (pc' := 117) rfl rfl rfl (by first | omega | (exact R.r _ _) | (simp only [jM.len_sI, jM.len_sL, jM.len_sR, jM.len_fI, jM.len_fL, jM.len_fR]; omega) | (simp [jM.len_nw, jM.len_sI, jM.len_sL, jM.len_sR, jM.len_fI, jM.len_fL, jM.len_fR, *]; omega)) (by first | omega | (exact R.r _ _) | (simp only [jM.len_sI, jM.len_sL, jM.len_sR, jM.len_fI, jM.len_fL, jM.len_fR]; omega) | (simp [jM.len_nw, jM.len_sI, jM.len_sL, jM.len_sR, jM.len_fI, jM.len_fL, jM.len_fR, *]; omega)) (fun c114 => ?_) (fun c114 => ?_)
                                                    · first
                                                      | (exfalso; omega)
                                                      | (exact rest (by omega) (by omega) (by omega) (by omega) (by omega) (by unfold ldC; omega))
                                                    · first
                                                      | (exfalso; omega)
                                                      | (refine J.bipush (pc' := 119) rfl rfl (by decide) ?_
                                                         refine J.iret rfl rfl (by first | omega | (exact R.r _ _) | (simp only [jM.len_sI, jM.len_sL, jM.len_sR, jM.len_fI, jM.len_fL, jM.len_fR]; omega) | (simp [jM.len_nw, jM.len_sI, jM.len_sL, jM.len_sR, jM.len_fI, jM.len_fL, jM.len_fR, *]; omega)) (by first | omega | (exact R.r _ _) | (simp only [jM.len_sI, jM.len_sL, jM.len_sR, jM.len_fI, jM.len_fL, jM.len_fR]; omega) | (simp [jM.len_nw, jM.len_sI, jM.len_sL, jM.len_sR, jM.len_fI, jM.len_fL, jM.len_fR, *]; omega)) ?_
                                                         exact mQ.of (by unfold sp_load ldC; (repeat (first | rw [if_pos (by omega)] | rw [if_neg (by omega)])))))
                                               · first
                                                 | (exfalso; omega)
                                                 | (refine J.bipush (pc' := 99) rfl rfl (by decide) ?_
                                                    refine J.iret rfl rfl (by first | omega | (exact R.r _ _) | (simp only [jM.len_sI, jM.len_sL, jM.len_sR, jM.len_fI, jM.len_fL, jM.len_fR]; omega) | (simp [jM.len_nw, jM.len_sI, jM.len_sL, jM.len_sR, jM.len_fI, jM.len_fL, jM.len_fR, *]; omega)) (by first | omega | (exact R.r _ _) | (simp only [jM.len_sI, jM.len_sL, jM.len_sR, jM.len_fI, jM.len_fL, jM.len_fR]; omega) | (simp [jM.len_nw, jM.len_sI, jM.len_sL, jM.len_sR, jM.len_fI, jM.len_fL, jM.len_fR, *]; omega)) ?_
                                                    exact mQ.of (by unfold sp_load ldC; (repeat (first | rw [if_pos (by omega)] | rw [if_neg (by omega)])))))
                                          · first
                                            | (exfalso; omega)
                                            | (refine J.bipush (pc' := 87) rfl rfl (by decide) ?_
                                               refine J.iret rfl rfl (by first | omega | (exact R.r _ _) | (simp only [jM.len_sI, jM.len_sL, jM.len_sR, jM.len_fI, jM.len_fL, jM.len_fR]; omega) | (simp [jM.len_nw, jM.len_sI, jM.len_sL, jM.len_sR, jM.len_fI, jM.len_fL, jM.len_fR, *]; omega)) (by first | omega | (exact R.r _ _) | (simp only [jM.len_sI, jM.len_sL, jM.len_sR, jM.len_fI, jM.len_fL, jM.len_fR]; omega) | (simp [jM.len_nw, jM.len_sI, jM.len_sL, jM.len_sR, jM.len_fI, jM.len_fL, jM.len_fR, *]; omega)) ?_
                                               exact mQ.of (by unfold sp_load ldC; (repeat (first | rw [if_pos (by omega)] | rw [if_neg (by omega)])))))
                                     · first
                                       | (exfalso; omega)
                                       | (refine J.iconst (pc' := 75) rfl rfl ?_
                                          refine J.iret rfl rfl (by first | omega | (exact R.r _ _) | (simp only [jM.len_sI, jM.len_sL, jM.len_sR, jM.len_fI, jM.len_fL, jM.len_fR]; omega) | (simp [jM.len_nw, jM.len_sI, jM.len_sL, jM.len_sR, jM.len_fI, jM.len_fL, jM.len_fR, *]; omega)) (by first | omega | (exact R.r _ _) | (simp only [jM.len_sI, jM.len_sL, jM.len_sR, jM.len_fI, jM.len_fL, jM.len_fR]; omega) | (simp [jM.len_nw, jM.len_sI, jM.len_sL, jM.len_sR, jM.len_fI, jM.len_fL, jM.len_fR, *]; omega)) ?_
                                          exact mQ.of (by unfold sp_load ldC; (repeat (first | rw [if_pos (by omega)] | rw [if_neg (by omega)])))))
                                · first
                                  | (exfalso; omega)
                                  | (refine J.iload (pc' := 51) rfl rfl rfl ?_
                                     refine J.iconst (pc' := 52) rfl rfl ?_
                                     refine J.icmp_lt (tgt := 66) (pc' := 55) rfl rfl rfl (by first | omega | (exact R.r _ _) | (simp only [jM.len_sI, jM.len_sL, jM.len_sR, jM.len_fI, jM.len_fL, jM.len_fR]; omega) | (simp [jM.len_nw, jM.len_sI, jM.len_sL, jM.len_sR, jM.len_fI, jM.len_fL, jM.len_fR, *]; omega)) (by first | omega | (exact R.r _ _) | (simp only [jM.len_sI, jM.len_sL, jM.len_sR, jM.len_fI, jM.len_fL, jM.len_fR]; omega) | (simp [jM.len_nw, jM.len_sI, jM.len_sL, jM.len_sR, jM.len_fI, jM.len_fL, jM.len_fR, *]; omega)) (fun c52 => ?_) (fun c52 => ?_)
                                     · first
                                       | (exfalso; omega)
                                       | (refine J.iconst (pc' := 67) rfl rfl ?_
                                          refine J.iconst (pc' := 68) rfl rfl ?_
                                          first | refine J.callV (pc' := 71) (t := 16) rfl MX12_may ml_X12_161 iv_X12_may (by decide) ⟨_, rfl, rfl⟩ B.1 (cm_may1 B h0) rfl rfl (Nat.le_of_ble_eq_true rfl) (by first | omega | (exact R.r _ _) | (simp only [jM.len_sI, jM.len_sL, jM.len_sR, jM.len_fI, jM.len_fL, jM.len_fR]; omega) | (simp [jM.len_nw, jM.len_sI, jM.len_sL, jM.len_sR, jM.len_fI, jM.len_fL, jM.len_fR, *]; omega)) (by first | omega | (exact R.r _ _) | (simp only [jM.len_sI, jM.len_sL, jM.len_sR, jM.len_fI, jM.len_fL, jM.len_fR]; omega) | (simp [jM.len_nw, jM.len_sI, jM.len_sL, jM.len_sR, jM.len_fI, jM.len_fL, jM.len_fR, *]; omega)) (by first | omega | (exact R.r _ _) | (simp only [jM.len_sI, jM.len_sL, jM.len_sR, jM.len_fI, jM.len_fL, jM.len_fR]; omega) | (simp [jM.len_nw, jM.len_sI, jM.len_sL, jM.len_sR, jM.len_fI, jM.len_fL, jM.len_fR, *]; omega)) rfl rfl ?_ ?_ | refine J.callV (pc' := 71) (t := 16) rfl MX12_may ml_X12_161 iv_X12_may (by decide) ⟨_, rfl, rfl⟩ B.1 (cm_may0 B h0 (by omega)) rfl rfl (Nat.le_of_ble_eq_true rfl) (by first | omega | (exact R.r _ _) | (simp only [jM.len_sI, jM.len_sL, jM.len_sR, jM.len_fI, jM.len_fL, jM.len_fR]; omega) | (simp [jM.len_nw, jM.len_sI, jM.len_sL, jM.len_sR, jM.len_fI, jM.len_fL, jM.len_fR, *]; omega)) (by first | omega | (exact R.r _ _) | (simp only [jM.len_sI, jM.len_sL, jM.len_sR, jM.len_fI, jM.len_fL, jM.len_fR]; omega) | (simp [jM.len_nw, jM.len_sI, jM.len_sL, jM.len_sR, jM.len_fI, jM.len_fL, jM.len_fR, *]; omega)) (by first | omega | (exact R.r _ _) | (simp only [jM.len_sI, jM.len_sL, jM.len_sR, jM.len_fI, jM.len_fL, jM.len_fR]; omega) | (simp [jM.len_nw, jM.len_sI, jM.len_sL, jM.len_sR, jM.len_fI, jM.len_fL, jM.len_fR, *]; omega)) rfl rfl ?_ ?_
                                          · exact fun _ _ h => h
                                          rintro _ _ ⟨rfl, rfl⟩
                                          refine J.if_ne (tgt := 76) (pc' := 74) rfl rfl rfl (by first | omega | (exact R.r _ _) | (simp only [jM.len_sI, jM.len_sL, jM.len_sR, jM.len_fI, jM.len_fL, jM.len_fR]; omega) | (simp [jM.len_nw, jM.len_sI, jM.len_sL, jM.len_sR, jM.len_fI, jM.len_fL, jM.len_fR, *]; omega)) (fun c71 => ?_) (fun c71 => ?_)
                                          · first
                                            | (exfalso; omega)
                                            | (first | refine J.aload_n (pc' := 77) rfl rfl rfl ?_ | refine J.aload_nN (pc' := 77) rfl rfl rfl ?_
                                               refine J.mgI (pc' := 80) (j := 26) B rfl fl_X12_277 rfl rfl rfl ?_
                                               refine J.bipush (pc' := 82) rfl rfl (by decide) ?_
                                               refine J.icmp_ne (tgt := 88) (pc' := 85) rfl rfl rfl (by first | omega | (exact R.r _ _) | (simp only [jM.len_sI, jM.len_sL, jM.len_sR, jM.len_fI, jM.len_fL, jM.len_fR]; omega) | (simp [jM.len_nw, jM.len_sI, jM.len_sL, jM.len_sR, jM.len_fI, jM.len_fL, jM.len_fR, *]; omega)) (by first | omega | (exact R.r _ _) | (simp only [jM.len_sI, jM.len_sL, jM.len_sR, jM.len_fI, jM.len_fL, jM.len_fR]; omega) | (simp [jM.len_nw, jM.len_sI, jM.len_sL, jM.len_sR, jM.len_fI, jM.len_fL, jM.len_fR, *]; omega)) (fun c82 => ?_) (fun c82 => ?_)
                                               · first
                                                 | (exfalso; omega)
                                                 | (first | refine J.aload_n (pc' := 89) rfl rfl rfl ?_ | refine J.aload_nN (pc' := 89) rfl rfl rfl ?_
                                                    refine J.callV (pc' := 92) (t := 16) rfl MX12_layersInAll ml_X12_280 iv_X12_layersInAll (by decide) ⟨_, rfl, rfl⟩ B.1 (cm_layersInAll B) rfl rfl (Nat.le_of_ble_eq_true rfl) (by first | omega | (exact R.r _ _) | (simp only [jM.len_sI, jM.len_sL, jM.len_sR, jM.len_fI, jM.len_fL, jM.len_fR]; omega) | (simp [jM.len_nw, jM.len_sI, jM.len_sL, jM.len_sR, jM.len_fI, jM.len_fL, jM.len_fR, *]; omega)) (by first | omega | (exact R.r _ _) | (simp only [jM.len_sI, jM.len_sL, jM.len_sR, jM.len_fI, jM.len_fL, jM.len_fR]; omega) | (simp [jM.len_nw, jM.len_sI, jM.len_sL, jM.len_sR, jM.len_fI, jM.len_fL, jM.len_fR, *]; omega)) (by first | omega | (exact R.r _ _) | (simp only [jM.len_sI, jM.len_sL, jM.len_sR, jM.len_fI, jM.len_fL, jM.len_fR]; omega) | (simp [jM.len_nw, jM.len_sI, jM.len_sL, jM.len_sR, jM.len_fI, jM.len_fL, jM.len_fR, *]; omega)) rfl rfl ?_ ?_
                                                    · exact fun _ _ h => h
                                                    rintro _ _ ⟨rfl, rfl⟩
                                                    refine J.bipush (pc' := 94) rfl rfl (by decide) ?_
                                                    refine J.icmp_ne (tgt := 100) (pc' := 97) rfl rfl rfl (by first | omega | (exact R.r _ _) | (simp only [jM.len_sI, jM.len_sL, jM.len_sR, jM.len_fI, jM.len_fL, jM.len_fR]; omega) | (simp [jM.len_nw, jM.len_sI, jM.len_sL, jM.len_sR, jM.len_fI, jM.len_fL, jM.len_fR, *]; omega)) (by first | omega | (exact R.r _ _) | (simp only [jM.len_sI, jM.len_sL, jM.len_sR, jM.len_fI, jM.len_fL, jM.len_fR]; omega) | (simp [jM.len_nw, jM.len_sI, jM.len_sL, jM.len_sR, jM.len_fI, jM.len_fL, jM.len_fR, *]; omega)) (fun c94 => ?_) (fun c94 => ?_)
                                                    · first
                                                      | (exfalso; omega)
                                                      | (first | refine J.aload_n (pc' := 101) rfl rfl rfl ?_ | refine J.aload_nN (pc' := 101) rfl rfl rfl ?_
                                                         refine J.iload_n (pc' := 102) rfl rfl rfl ?_
                                                         first | refine J.aload_n (pc' := 103) rfl rfl rfl ?_ | refine J.aload_nN (pc' := 103) rfl rfl rfl ?_
                                                         refine J.mgI (pc' := 106) (j := 3) B rfl fl_X12_283 rfl rfl rfl ?_
                                                         refine J.callV (pc' := 109) (t := 16) rfl MX12_inForce ml_X12_264 iv_X12_inForce (by decide) ⟨_, rfl, rfl⟩ B.1 (cm_inForce B R hs (by omega)) rfl rfl (Nat.le_of_ble_eq_true rfl) (by first | omega | (exact R.r _ _) | (simp only [jM.len_sI, jM.len_sL, jM.len_sR, jM.len_fI, jM.len_fL, jM.len_fR]; omega) | (simp [jM.len_nw, jM.len_sI, jM.len_sL, jM.len_sR, jM.len_fI, jM.len_fL, jM.len_fR, *]; omega)) (by first | omega | (exact R.r _ _) | (simp only [jM.len_sI, jM.len_sL, jM.len_sR, jM.len_fI, jM.len_fL, jM.len_fR]; omega) | (simp [jM.len_nw, jM.len_sI, jM.len_sL, jM.len_sR, jM.len_fI, jM.len_fL, jM.len_fR, *]; omega)) (by first | omega | (exact R.r _ _) | (simp only [jM.len_sI, jM.len_sL, jM.len_sR, jM.len_fI, jM.len_fL, jM.len_fR]; omega) | (simp [jM.len_nw, jM.len_sI, jM.len_sL, jM.len_sR, jM.len_fI, jM.len_fL, jM.len_fR, *]; omega)) rfl rfl ?_ ?_
                                                         · exact fun _ _ h => h
                                                         rintro _ _ ⟨rfl, rfl⟩
                                                         refine J.istore (pc' := 111) rfl rfl (by decide) ?_
                                                         refine J.iload (pc' := 113) rfl rfl rfl ?_
                                                         refine J.iconst (pc' := 114) rfl rfl ?_
                                                         refine J.icmp_ne (tgt := 120) (pc' := 117) rfl rfl rfl (by first | omega | (exact R.r _ _) | (simp only [jM.len_sI, jM.len_sL, jM.len_sR, jM.len_fI, jM.len_fL, jM.len_fR]; omega) | (simp [jM.len_nw, jM.len_sI, jM.len_sL, jM.len_sR, jM.len_fI, jM.len_fL, jM.len_fR, *]; omega)) (by first | omega | (exact R.r _ _) | (simp only [jM.len_sI, jM.len_sL, jM.len_sR, jM.len_fI, jM.len_fL, jM.len_fR]; omega) | (simp [jM.len_nw, jM.len_sI, jM.len_sL, jM.len_sR, jM.len_fI, jM.len_fL, jM.len_fR, *]; omega)) (fun c114 => ?_) (fun c114 => ?_)
                                                         · first
                                                           | (exfalso; omega)
                                                           | (exact rest (by omega) (by omega) (by omega) (by omega) (by omega) (by unfold ldC; omega))
                                                         · first
                                                           | (exfalso; omega)
                                                           | (refine J.bipush (pc' := 119) rfl rfl (by decide) ?_
                                                              refine J.iret rfl rfl (by first | omega | (exact R.r _ _) | (simp only [jM.len_sI, jM.len_sL, jM.len_sR, jM.len_fI, jM.len_fL, jM.len_fR]; omega) | (simp [jM.len_nw, jM.len_sI, jM.len_sL, jM.len_sR, jM.len_fI, jM.len_fL, jM.len_fR, *]; omega)) (by first | omega | (exact R.r _ _) | (simp only [jM.len_sI, jM.len_sL, jM.len_sR, jM.len_fI, jM.len_fL, jM.len_fR]; omega) | (simp [jM.len_nw, jM.len_sI, jM.len_sL, jM.len_sR, jM.len_fI, jM.len_fL, jM.len_fR, *]; omega)) ?_
                                                              exact mQ.of (by unfold sp_load ldC; (repeat (first | rw [if_pos (by omega)] | rw [if_neg (by omega)])))))
                                                    · first
                                                      | (exfalso; omega)
                                                      | (refine J.bipush (pc' := 99) rfl rfl (by decide) ?_
                                                         refine J.iret rfl rfl (by first | omega | (exact R.r _ _) | (simp only [jM.len_sI, jM.len_sL, jM.len_sR, jM.len_fI, jM.len_fL, jM.len_fR]; omega) | (simp [jM.len_nw, jM.len_sI, jM.len_sL, jM.len_sR, jM.len_fI, jM.len_fL, jM.len_fR, *]; omega)) (by first | omega | (exact R.r _ _) | (simp only [jM.len_sI, jM.len_sL, jM.len_sR, jM.len_fI, jM.len_fL, jM.len_fR]; omega) | (simp [jM.len_nw, jM.len_sI, jM.len_sL, jM.len_sR, jM.len_fI, jM.len_fL, jM.len_fR, *]; omega)) ?_
                                                         exact mQ.of (by unfold sp_load ldC; (repeat (first | rw [if_pos (by omega)] | rw [if_neg (by omega)])))))
                                               · first
                                                 | (exfalso; omega)
                                                 | (refine J.bipush (pc' := 87) rfl rfl (by decide) ?_
                                                    refine J.iret rfl rfl (by first | omega | (exact R.r _ _) | (simp only [jM.len_sI, jM.len_sL, jM.len_sR, jM.len_fI, jM.len_fL, jM.len_fR]; omega) | (simp [jM.len_nw, jM.len_sI, jM.len_sL, jM.len_sR, jM.len_fI, jM.len_fL, jM.len_fR, *]; omega)) (by first | omega | (exact R.r _ _) | (simp only [jM.len_sI, jM.len_sL, jM.len_sR, jM.len_fI, jM.len_fL, jM.len_fR]; omega) | (simp [jM.len_nw, jM.len_sI, jM.len_sL, jM.len_sR, jM.len_fI, jM.len_fL, jM.len_fR, *]; omega)) ?_
                                                    exact mQ.of (by unfold sp_load ldC; (repeat (first | rw [if_pos (by omega)] | rw [if_neg (by omega)])))))
                                          · first
                                            | (exfalso; omega)
                                            | (refine J.iconst (pc' := 75) rfl rfl ?_
                                               refine J.iret rfl rfl (by first | omega | (exact R.r _ _) | (simp only [jM.len_sI, jM.len_sL, jM.len_sR, jM.len_fI, jM.len_fL, jM.len_fR]; omega) | (simp [jM.len_nw, jM.len_sI, jM.len_sL, jM.len_sR, jM.len_fI, jM.len_fL, jM.len_fR, *]; omega)) (by first | omega | (exact R.r _ _) | (simp only [jM.len_sI, jM.len_sL, jM.len_sR, jM.len_fI, jM.len_fL, jM.len_fR]; omega) | (simp [jM.len_nw, jM.len_sI, jM.len_sL, jM.len_sR, jM.len_fI, jM.len_fL, jM.len_fR, *]; omega)) ?_
                                               exact mQ.of (by unfold sp_load ldC; (repeat (first | rw [if_pos (by omega)] | rw [if_neg (by omega)])))))
                                     · first
                                       | (exfalso; omega)
                                       | (refine J.iload (pc' := 57) rfl rfl rfl ?_
                                          refine J.bipush (pc' := 59) rfl rfl (by decide) ?_
                                          refine J.icmp_gt (tgt := 66) (pc' := 62) rfl rfl rfl (by first | omega | (exact R.r _ _) | (simp only [jM.len_sI, jM.len_sL, jM.len_sR, jM.len_fI, jM.len_fL, jM.len_fR]; omega) | (simp [jM.len_nw, jM.len_sI, jM.len_sL, jM.len_sR, jM.len_fI, jM.len_fL, jM.len_fR, *]; omega)) (by first | omega | (exact R.r _ _) | (simp only [jM.len_sI, jM.len_sL, jM.len_sR, jM.len_fI, jM.len_fL, jM.len_fR]; omega) | (simp [jM.len_nw, jM.len_sI, jM.len_sL, jM.len_sR, jM.len_fI, jM.len_fL, jM.len_fR, *]; omega)) (fun c59 => ?_) (fun c59 => ?_)
                                          · first
                                            | (exfalso; omega)
                                            | (refine J.iconst (pc' := 67) rfl rfl ?_
                                               refine J.iconst (pc' := 68) rfl rfl ?_
                                               first | refine J.callV (pc' := 71) (t := 16) rfl MX12_may ml_X12_161 iv_X12_may (by decide) ⟨_, rfl, rfl⟩ B.1 (cm_may1 B h0) rfl rfl (Nat.le_of_ble_eq_true rfl) (by first | omega | (exact R.r _ _) | (simp only [jM.len_sI, jM.len_sL, jM.len_sR, jM.len_fI, jM.len_fL, jM.len_fR]; omega) | (simp [jM.len_nw, jM.len_sI, jM.len_sL, jM.len_sR, jM.len_fI, jM.len_fL, jM.len_fR, *]; omega)) (by first | omega | (exact R.r _ _) | (simp only [jM.len_sI, jM.len_sL, jM.len_sR, jM.len_fI, jM.len_fL, jM.len_fR]; omega) | (simp [jM.len_nw, jM.len_sI, jM.len_sL, jM.len_sR, jM.len_fI, jM.len_fL, jM.len_fR, *]; omega)) (by first | omega | (exact R.r _ _) | (simp only [jM.len_sI, jM.len_sL, jM.len_sR, jM.len_fI, jM.len_fL, jM.len_fR]; omega) | (simp [jM.len_nw, jM.len_sI, jM.len_sL, jM.len_sR, jM.len_fI, jM.len_fL, jM.len_fR, *]; omega)) rfl rfl ?_ ?_ | refine J.callV (pc' := 71) (t := 16) rfl MX12_may ml_X12_161 iv_X12_may (by decide) ⟨_, rfl, rfl⟩ B.1 (cm_may0 B h0 (by omega)) rfl rfl (Nat.le_of_ble_eq_true rfl) (by first | omega | (exact R.r _ _) | (simp only [jM.len_sI, jM.len_sL, jM.len_sR, jM.len_fI, jM.len_fL, jM.len_fR]; omega) | (simp [jM.len_nw, jM.len_sI, jM.len_sL, jM.len_sR, jM.len_fI, jM.len_fL, jM.len_fR, *]; omega)) (by first | omega | (exact R.r _ _) | (simp only [jM.len_sI, jM.len_sL, jM.len_sR, jM.len_fI, jM.len_fL, jM.len_fR]; omega) | (simp [jM.len_nw, jM.len_sI, jM.len_sL, jM.len_sR, jM.len_fI, jM.len_fL, jM.len_fR, *]; omega)) (by first | omega | (exact R.r _ _) | (simp only [jM.len_sI, jM.len_sL, jM.len_sR, jM.len_fI, jM.len_fL, jM.len_fR]; omega) | (simp [jM.len_nw, jM.len_sI, jM.len_sL, jM.len_sR, jM.len_fI, jM.len_fL, jM.len_fR, *]; omega)) rfl rfl ?_ ?_
                                               · exact fun _ _ h => h
                                               rintro _ _ ⟨rfl, rfl⟩
                                               refine J.if_ne (tgt := 76) (pc' := 74) rfl rfl rfl (by first | omega | (exact R.r _ _) | (simp only [jM.len_sI, jM.len_sL, jM.len_sR, jM.len_fI, jM.len_fL, jM.len_fR]; omega) | (simp [jM.len_nw, jM.len_sI, jM.len_sL, jM.len_sR, jM.len_fI, jM.len_fL, jM.len_fR, *]; omega)) (fun c71 => ?_) (fun c71 => ?_)
                                               · first
                                                 | (exfalso; omega)
                                                 | (first | refine J.aload_n (pc' := 77) rfl rfl rfl ?_ | refine J.aload_nN (pc' := 77) rfl rfl rfl ?_
                                                    refine J.mgI (pc' := 80) (j := 26) B rfl fl_X12_277 rfl rfl rfl ?_
                                                    refine J.bipush (pc' := 82) rfl rfl (by decide) ?_
                                                    refine J.icmp_ne (tgt := 88) (pc' := 85) rfl rfl rfl (by first | omega | (exact R.r _ _) | (simp only [jM.len_sI, jM.len_sL, jM.len_sR, jM.len_fI, jM.len_fL, jM.len_fR]; omega) | (simp [jM.len_nw, jM.len_sI, jM.len_sL, jM.len_sR, jM.len_fI, jM.len_fL, jM.len_fR, *]; omega)) (by first | omega | (exact R.r _ _) | (simp only [jM.len_sI, jM.len_sL, jM.len_sR, jM.len_fI, jM.len_fL, jM.len_fR]; omega) | (simp [jM.len_nw, jM.len_sI, jM.len_sL, jM.len_sR, jM.len_fI, jM.len_fL, jM.len_fR, *]; omega)) (fun c82 => ?_) (fun c82 => ?_)
                                                    · first
                                                      | (exfalso; omega)
                                                      | (first | refine J.aload_n (pc' := 89) rfl rfl rfl ?_ | refine J.aload_nN (pc' := 89) rfl rfl rfl ?_
                                                         refine J.callV (pc' := 92) (t := 16) rfl MX12_layersInAll ml_X12_280 iv_X12_layersInAll (by decide) ⟨_, rfl, rfl⟩ B.1 (cm_layersInAll B) rfl rfl (Nat.le_of_ble_eq_true rfl) (by first | omega | (exact R.r _ _) | (simp only [jM.len_sI, jM.len_sL, jM.len_sR, jM.len_fI, jM.len_fL, jM.len_fR]; omega) | (simp [jM.len_nw, jM.len_sI, jM.len_sL, jM.len_sR, jM.len_fI, jM.len_fL, jM.len_fR, *]; omega)) (by first | omega | (exact R.r _ _) | (simp only [jM.len_sI, jM.len_sL, jM.len_sR, jM.len_fI, jM.len_fL, jM.len_fR]; omega) | (simp [jM.len_nw, jM.len_sI, jM.len_sL, jM.len_sR, jM.len_fI, jM.len_fL, jM.len_fR, *]; omega)) (by first | omega | (exact R.r _ _) | (simp only [jM.len_sI, jM.len_sL, jM.len_sR, jM.len_fI, jM.len_fL, jM.len_fR]; omega) | (simp [jM.len_nw, jM.len_sI, jM.len_sL, jM.len_sR, jM.len_fI, jM.len_fL, jM.len_fR, *]; omega)) rfl rfl ?_ ?_
                                                         · exact fun _ _ h => h
                                                         rintro _ _ ⟨rfl, rfl⟩
                                                         refine J.bipush (pc' := 94) rfl rfl (by decide) ?_
                                                         refine J.icmp_ne (tgt := 100) (pc' := 97) rfl rfl rfl (by first | omega | (exact R.r _ _) | (simp only [jM.len_sI, jM.len_sL, jM.len_sR, jM.len_fI, jM.len_fL, jM.len_fR]; omega) | (simp [jM.len_nw, jM.len_sI, jM.len_sL, jM.len_sR, jM.len_fI, jM.len_fL, jM.len_fR, *]; omega)) (by first | omega | (exact R.r _ _) | (simp only [jM.len_sI, jM.len_sL, jM.len_sR, jM.len_fI, jM.len_fL, jM.len_fR]; omega) | (simp [jM.len_nw, jM.len_sI, jM.len_sL, jM.len_sR, jM.len_fI, jM.len_fL, jM.len_fR, *]; omega)) (fun c94 => ?_) (fun c94 => ?_)
                                                         · first
                                                           | (exfalso; omega)
                                                           | (first | refine J.aload_n (pc' := 101) rfl rfl rfl ?_ | refine J.aload_nN (pc' := 101) rfl rfl rfl ?_
                                                              refine J.iload_n (pc' := 102) rfl rfl rfl ?_
                                                              first | refine J.aload_n (pc' := 103) rfl rfl rfl ?_ | refine J.aload_nN (pc' := 103) rfl rfl rfl ?_
                                                              refine J.mgI (pc' := 106) (j := 3) B rfl fl_X12_283 rfl rfl rfl ?_
                                                              refine J.callV (pc' := 109) (t := 16) rfl MX12_inForce ml_X12_264 iv_X12_inForce (by decide) ⟨_, rfl, rfl⟩ B.1 (cm_inForce B R hs (by omega)) rfl rfl (Nat.le_of_ble_eq_true rfl) (by first | omega | (exact R.r _ _) | (simp only [jM.len_sI, jM.len_sL, jM.len_sR, jM.len_fI, jM.len_fL, jM.len_fR]; omega) | (simp [jM.len_nw, jM.len_sI, jM.len_sL, jM.len_sR, jM.len_fI, jM.len_fL, jM.len_fR, *]; omega)) (by first | omega | (exact R.r _ _) | (simp only [jM.len_sI, jM.len_sL, jM.len_sR, jM.len_fI, jM.len_fL, jM.len_fR]; omega) | (simp [jM.len_nw, jM.len_sI, jM.len_sL, jM.len_sR, jM.len_fI, jM.len_fL, jM.len_fR, *]; omega)) (by first | omega | (exact R.r _ _) | (simp only [jM.len_sI, jM.len_sL, jM.len_sR, jM.len_fI, jM.len_fL, jM.len_fR]; omega) | (simp [jM.len_nw, jM.len_sI, jM.len_sL, jM.len_sR, jM.len_fI, jM.len_fL, jM.len_fR, *]; omega)) rfl rfl ?_ ?_
                                                              · exact fun _ _ h => h
                                                              rintro _ _ ⟨rfl, rfl⟩
                                                              refine J.istore (pc' := 111) rfl rfl (by decide) ?_
                                                              refine J.iload (pc' := 113) rfl rfl rfl ?_
                                                              refine J.iconst (pc' := 114) rfl rfl ?_
                                                              refine J.icmp_ne (tgt := 120) (pc' := 117) rfl rfl rfl (by first | omega | (exact R.r _ _) | (simp only [jM.len_sI, jM.len_sL, jM.len_sR, jM.len_fI, jM.len_fL, jM.len_fR]; omega) | (simp [jM.len_nw, jM.len_sI, jM.len_sL, jM.len_sR, jM.len_fI, jM.len_fL, jM.len_fR, *]; omega)) (by first | omega | (exact R.r _ _) | (simp only [jM.len_sI, jM.len_sL, jM.len_sR, jM.len_fI, jM.len_fL, jM.len_fR]; omega) | (simp [jM.len_nw, jM.len_sI, jM.len_sL, jM.len_sR, jM.len_fI, jM.len_fL, jM.len_fR, *]; omega)) (fun c114 => ?_) (fun c114 => ?_)
                                                              · first
                                                                | (exfalso; omega)
                                                                | (exact rest (by omega) (by omega) (by omega) (by omega) (by omega) (by unfold ldC; omega))
                                                              · first
                                                                | (exfalso; omega)
                                                                | (refine J.bipush (pc' := 119) rfl rfl (by decide) ?_
                                                                   refine J.iret rfl rfl (by first | omega | (exact R.r _ _) | (simp only [jM.len_sI, jM.len_sL, jM.len_sR, jM.len_fI, jM.len_fL, jM.len_fR]; omega) | (simp [jM.len_nw, jM.len_sI, jM.len_sL, jM.len_sR, jM.len_fI, jM.len_fL, jM.len_fR, *]; omega)) (by first | omega | (exact R.r _ _) | (simp only [jM.len_sI, jM.len_sL, jM.len_sR, jM.len_fI, jM.len_fL, jM.len_fR]; omega) | (simp [jM.len_nw, jM.len_sI, jM.len_sL, jM.len_sR, jM.len_fI, jM.len_fL, jM.len_fR, *]; omega)) ?_
                                                                   exact mQ.of (by unfold sp_load ldC; (repeat (first | rw [if_pos (by omega)] | rw [if_neg (by omega)])))))
                                                         · first
                                                           | (exfalso; omega)
                                                           | (refine J.bipush (pc' := 99) rfl rfl (by decide) ?_
                                                              refine J.iret rfl rfl (by first | omega | (exact R.r _ _) | (simp only [jM.len_sI, jM.len_sL, jM.len_sR, jM.len_fI, jM.len_fL, jM.len_fR]; omega) | (simp [jM.len_nw, jM.len_sI, jM.len_sL, jM.len_sR, jM.len_fI, jM.len_fL, jM.len_fR, *]; omega)) (by first | omega | (exact R.r _ _) | (simp only [jM.len_sI, jM.len_sL, jM.len_sR, jM.len_fI, jM.len_fL, jM.len_fR]; omega) | (simp [jM.len_nw, jM.len_sI, jM.len_sL, jM.len_sR, jM.len_fI, jM.len_fL, jM.len_fR, *]; omega)) ?_
                                                              exact mQ.of (by unfold sp_load ldC; (repeat (first | rw [if_pos (by omega)] | rw [if_neg (by omega)])))))
                                                    · first
                                                      | (exfalso; omega)
                                                      | (refine J.bipush (pc' := 87) rfl rfl (by decide) ?_
                                                         refine J.iret rfl rfl (by first | omega | (exact R.r _ _) | (simp only [jM.len_sI, jM.len_sL, jM.len_sR, jM.len_fI, jM.len_fL, jM.len_fR]; omega) | (simp [jM.len_nw, jM.len_sI, jM.len_sL, jM.len_sR, jM.len_fI, jM.len_fL, jM.len_fR, *]; omega)) (by first | omega | (exact R.r _ _) | (simp only [jM.len_sI, jM.len_sL, jM.len_sR, jM.len_fI, jM.len_fL, jM.len_fR]; omega) | (simp [jM.len_nw, jM.len_sI, jM.len_sL, jM.len_sR, jM.len_fI, jM.len_fL, jM.len_fR, *]; omega)) ?_
                                                         exact mQ.of (by unfold sp_load ldC; (repeat (first | rw [if_pos (by omega)] | rw [if_neg (by omega)])))))
                                               · first
                                                 | (exfalso; omega)
                                                 | (refine J.iconst (pc' := 75) rfl rfl ?_
                                                    refine J.iret rfl rfl (by first | omega | (exact R.r _ _) | (simp only [jM.len_sI, jM.len_sL, jM.len_sR, jM.len_fI, jM.len_fL, jM.len_fR]; omega) | (simp [jM.len_nw, jM.len_sI, jM.len_sL, jM.len_sR, jM.len_fI, jM.len_fL, jM.len_fR, *]; omega)) (by first | omega | (exact R.r _ _) | (simp only [jM.len_sI, jM.len_sL, jM.len_sR, jM.len_fI, jM.len_fL, jM.len_fR]; omega) | (simp [jM.len_nw, jM.len_sI, jM.len_sL, jM.len_sR, jM.len_fI, jM.len_fL, jM.len_fR, *]; omega)) ?_
                                                    exact mQ.of (by unfold sp_load ldC; (repeat (first | rw [if_pos (by omega)] | rw [if_neg (by omega)])))))
                                          · first
                                            | (exfalso; omega)
                                            | (refine J.iconst (pc' := 63) rfl rfl ?_
                                               refine J.goto (tgt := 67) rfl rfl ?_
                                               refine J.iconst (pc' := 68) rfl rfl ?_
                                               first | refine J.callV (pc' := 71) (t := 16) rfl MX12_may ml_X12_161 iv_X12_may (by decide) ⟨_, rfl, rfl⟩ B.1 (cm_may1 B h0) rfl rfl (Nat.le_of_ble_eq_true rfl) (by first | omega | (exact R.r _ _) | (simp only [jM.len_sI, jM.len_sL, jM.len_sR, jM.len_fI, jM.len_fL, jM.len_fR]; omega) | (simp [jM.len_nw, jM.len_sI, jM.len_sL, jM.len_sR, jM.len_fI, jM.len_fL, jM.len_fR, *]; omega)) (by first | omega | (exact R.r _ _) | (simp only [jM.len_sI, jM.len_sL, jM.len_sR, jM.len_fI, jM.len_fL, jM.len_fR]; omega) | (simp [jM.len_nw, jM.len_sI, jM.len_sL, jM.len_sR, jM.len_fI, jM.len_fL, jM.len_fR, *]; omega)) (by first | omega | (exact R.r _ _) | (simp only [jM.len_sI, jM.len_sL, jM.len_sR, jM.len_fI, jM.len_fL, jM.len_fR]; omega) | (simp [jM.len_nw, jM.len_sI, jM.len_sL, jM.len_sR, jM.len_fI, jM.len_fL, jM.len_fR, *]; omega)) rfl rfl ?_ ?_ | refine J.callV (pc' := 71) (t := 16) rfl MX12_may ml_X12_161 iv_X12_may (by decide) ⟨_, rfl, rfl⟩ B.1 (cm_may0 B h0 (by omega)) rfl rfl (Nat.le_of_ble_eq_true rfl) (by first | omega | (exact R.r _ _) | (simp only [jM.len_sI, jM.len_sL, jM.len_sR, jM.len_fI, jM.len_fL, jM.len_fR]; omega) | (simp [jM.len_nw, jM.len_sI, jM.len_sL, jM.len_sR, jM.len_fI, jM.len_fL, jM.len_fR, *]; omega)) (by first | omega | (exact R.r _ _) | (simp only [jM.len_sI, jM.len_sL, jM.len_sR, jM.len_fI, jM.len_fL, jM.len_fR]; omega) | (simp [jM.len_nw, jM.len_sI, jM.len_sL, jM.len_sR, jM.len_fI, jM.len_fL, jM.len_fR, *]; omega)) (by first | omega | (exact R.r _ _) | (simp only [jM.len_sI, jM.len_sL, jM.len_sR, jM.len_fI, jM.len_fL, jM.len_fR]; omega) | (simp [jM.len_nw, jM.len_sI, jM.len_sL, jM.len_sR, jM.len_fI, jM.len_fL, jM.len_fR, *]; omega)) rfl rfl ?_ ?_
                                               · exact fun _ _ h => h
                                               rintro _ _ ⟨rfl, rfl⟩
                                               refine J.if_ne (tgt := 76) (pc' := 74) rfl rfl rfl (by first | omega | (exact R.r _ _) | (simp only [jM.len_sI, jM.len_sL, jM.len_sR, jM.len_fI, jM.len_fL, jM.len_fR]; omega) | (simp [jM.len_nw, jM.len_sI, jM.len_sL, jM.len_sR, jM.len_fI, jM.len_fL, jM.len_fR, *]; omega)) (fun c71 => ?_) (fun c71 => ?_)
                                               · first
                                                 | (exfalso; omega)
                                                 | (first | refine J.aload_n (pc' := 77) rfl rfl rfl ?_ | refine J.aload_nN (pc' := 77) rfl rfl rfl ?_
                                                    refine J.mgI (pc' := 80) (j := 26) B rfl fl_X12_277 rfl rfl rfl ?_
                                                    refine J.bipush (pc' := 82) rfl rfl (by decide) ?_
                                                    refine J.icmp_ne (tgt := 88) (pc' := 85) rfl rfl rfl (by first | omega | (exact R.r _ _) | (simp only [jM.len_sI, jM.len_sL, jM.len_sR, jM.len_fI, jM.len_fL, jM.len_fR]; omega) | (simp [jM.len_nw, jM.len_sI, jM.len_sL, jM.len_sR, jM.len_fI, jM.len_fL, jM.len_fR, *]; omega)) (by first | omega | (exact R.r _ _) | (simp only [jM.len_sI, jM.len_sL, jM.len_sR, jM.len_fI, jM.len_fL, jM.len_fR]; omega) | (simp [jM.len_nw, jM.len_sI, jM.len_sL, jM.len_sR, jM.len_fI, jM.len_fL, jM.len_fR, *]; omega)) (fun c82 => ?_) (fun c82 => ?_)
                                                    · first
                                                      | (exfalso; omega)
                                                      | (first | refine J.aload_n (pc' := 89) rfl rfl rfl ?_ | refine J.aload_nN (pc' := 89) rfl rfl rfl ?_
                                                         refine J.callV (pc' := 92) (t := 16) rfl MX12_layersInAll ml_X12_280 iv_X12_layersInAll (by decide) ⟨_, rfl, rfl⟩ B.1 (cm_layersInAll B) rfl rfl (Nat.le_of_ble_eq_true rfl) (by first | omega | (exact R.r _ _) | (simp only [jM.len_sI, jM.len_sL, jM.len_sR, jM.len_fI, jM.len_fL, jM.len_fR]; omega) | (simp [jM.len_nw, jM.len_sI, jM.len_sL, jM.len_sR, jM.len_fI, jM.len_fL, jM.len_fR, *]; omega)) (by first | omega | (exact R.r _ _) | (simp only [jM.len_sI, jM.len_sL, jM.len_sR, jM.len_fI, jM.len_fL, jM.len_fR]; omega) | (simp [jM.len_nw, jM.len_sI, jM.len_sL, jM.len_sR, jM.len_fI, jM.len_fL, jM.len_fR, *]; omega)) (by first | omega | (exact R.r _ _) | (simp only [jM.len_sI, jM.len_sL, jM.len_sR, jM.len_fI, jM.len_fL, jM.len_fR]; omega) | (simp [jM.len_nw, jM.len_sI, jM.len_sL, jM.len_sR, jM.len_fI, jM.len_fL, jM.len_fR, *]; omega)) rfl rfl ?_ ?_
                                                         · exact fun _ _ h => h
                                                         rintro _ _ ⟨rfl, rfl⟩
                                                         refine J.bipush (pc' := 94) rfl rfl (by decide) ?_
                                                         refine J.icmp_ne (tgt := 100) (pc' := 97) rfl rfl rfl (by first | omega | (exact R.r _ _) | (simp only [jM.len_sI, jM.len_sL, jM.len_sR, jM.len_fI, jM.len_fL, jM.len_fR]; omega) | (simp [jM.len_nw, jM.len_sI, jM.len_sL, jM.len_sR, jM.len_fI, jM.len_fL, jM.len_fR, *]; omega)) (by first | omega | (exact R.r _ _) | (simp only [jM.len_sI, jM.len_sL, jM.len_sR, jM.len_fI, jM.len_fL, jM.len_fR]; omega) | (simp [jM.len_nw, jM.len_sI, jM.len_sL, jM.len_sR, jM.len_fI, jM.len_fL, jM.len_fR, *]; omega)) (fun c94 => ?_) (fun c94 => ?_)
                                                         · first
                                                           | (exfalso; omega)
                                                           | (first | refine J.aload_n (pc' := 101) rfl rfl rfl ?_ | refine J.aload_nN (pc' := 101) rfl rfl rfl ?_
                                                              refine J.iload_n (pc' := 102) rfl rfl rfl ?_
                                                              first | refine J.aload_n (pc' := 103) rfl rfl rfl ?_ | refine J.aload_nN (pc' := 103) rfl rfl rfl ?_
                                                              refine J.mgI (pc' := 106) (j := 3) B rfl fl_X12_283 rfl rfl rfl ?_
                                                              refine J.callV (pc' := 109) (t := 16) rfl MX12_inForce ml_X12_264 iv_X12_inForce (by decide) ⟨_, rfl, rfl⟩ B.1 (cm_inForce B R hs (by omega)) rfl rfl (Nat.le_of_ble_eq_true rfl) (by first | omega | (exact R.r _ _) | (simp only [jM.len_sI, jM.len_sL, jM.len_sR, jM.len_fI, jM.len_fL, jM.len_fR]; omega) | (simp [jM.len_nw, jM.len_sI, jM.len_sL, jM.len_sR, jM.len_fI, jM.len_fL, jM.len_fR, *]; omega)) (by first | omega | (exact R.r _ _) | (simp only [jM.len_sI, jM.len_sL, jM.len_sR, jM.len_fI, jM.len_fL, jM.len_fR]; omega) | (simp [jM.len_nw, jM.len_sI, jM.len_sL, jM.len_sR, jM.len_fI, jM.len_fL, jM.len_fR, *]; omega)) (by first | omega | (exact R.r _ _) | (simp only [jM.len_sI, jM.len_sL, jM.len_sR, jM.len_fI, jM.len_fL, jM.len_fR]; omega) | (simp [jM.len_nw, jM.len_sI, jM.len_sL, jM.len_sR, jM.len_fI, jM.len_fL, jM.len_fR, *]; omega)) rfl rfl ?_ ?_
                                                              · exact fun _ _ h => h
                                                              rintro _ _ ⟨rfl, rfl⟩
                                                              refine J.istore (pc' := 111) rfl rfl (by decide) ?_
                                                              refine J.iload (pc' := 113) rfl rfl rfl ?_
                                                              refine J.iconst (pc' := 114) rfl rfl ?_
                                                              refine J.icmp_ne (tgt := 120) (pc' := 117) rfl rfl rfl (by first | omega | (exact R.r _ _) | (simp only [jM.len_sI, jM.len_sL, jM.len_sR, jM.len_fI, jM.len_fL, jM.len_fR]; omega) | (simp [jM.len_nw, jM.len_sI, jM.len_sL, jM.len_sR, jM.len_fI, jM.len_fL, jM.len_fR, *]; omega)) (by first | omega | (exact R.r _ _) | (simp only [jM.len_sI, jM.len_sL, jM.len_sR, jM.len_fI, jM.len_fL, jM.len_fR]; omega) | (simp [jM.len_nw, jM.len_sI, jM.len_sL, jM.len_sR, jM.len_fI, jM.len_fL, jM.len_fR, *]; omega)) (fun c114 => ?_) (fun c114 => ?_)
                                                              · first
                                                                | (exfalso; omega)
                                                                | (exact rest (by omega) (by omega) (by omega) (by omega) (by omega) (by unfold ldC; omega))
                                                              · first
                                                                | (exfalso; omega)
                                                                | (refine J.bipush (pc' := 119) rfl rfl (by decide) ?_
                                                                   refine J.iret rfl rfl (by first | omega | (exact R.r _ _) | (simp only [jM.len_sI, jM.len_sL, jM.len_sR, jM.len_fI, jM.len_fL, jM.len_fR]; omega) | (simp [jM.len_nw, jM.len_sI, jM.len_sL, jM.len_sR, jM.len_fI, jM.len_fL, jM.len_fR, *]; omega)) (by first | omega | (exact R.r _ _) | (simp only [jM.len_sI, jM.len_sL, jM.len_sR, jM.len_fI, jM.len_fL, jM.len_fR]; omega) | (simp [jM.len_nw, jM.len_sI, jM.len_sL, jM.len_sR, jM.len_fI, jM.len_fL, jM.len_fR, *]; omega)) ?_
                                                                   exact mQ.of (by unfold sp_load ldC; (repeat (first | rw [if_pos (by omega)] | rw [if_neg (by omega)])))))
                                                         · first
                                                           | (exfalso; omega)
                                                           | (refine J.bipush (pc' := 99) rfl rfl (by decide) ?_
                                                              refine J.iret rfl rfl (by first | omega | (exact R.r _ _) | (simp only [jM.len_sI, jM.len_sL, jM.len_sR, jM.len_fI, jM.len_fL, jM.len_fR]; omega) | (simp [jM.len_nw, jM.len_sI, jM.len_sL, jM.len_sR, jM.len_fI, jM.len_fL, jM.len_fR, *]; omega)) (by first | omega | (exact R.r _ _) | (simp only [jM.len_sI, jM.len_sL, jM.len_sR, jM.len_fI, jM.len_fL, jM.len_fR]; omega) | (simp [jM.len_nw, jM.len_sI, jM.len_sL, jM.len_sR, jM.len_fI, jM.len_fL, jM.len_fR, *]; omega)) ?_
                                                              exact mQ.of (by unfold sp_load ldC; (repeat (first | rw [if_pos (by omega)] | rw [if_neg (by omega)])))))
                                                    · first
                                                      | (exfalso; omega)
                                                      | (refine J.bipush (pc' := 87) rfl rfl (by decide) ?_
                                                         refine J.iret rfl rfl (by first | omega | (exact R.r _ _) | (simp only [jM.len_sI, jM.len_sL, jM.len_sR, jM.len_fI, jM.len_fL, jM.len_fR]; omega) | (simp [jM.len_nw, jM.len_sI, jM.len_sL, jM.len_sR, jM.len_fI, jM.len_fL, jM.len_fR, *]; omega)) (by first | omega | (exact R.r _ _) | (simp only [jM.len_sI, jM.len_sL, jM.len_sR, jM.len_fI, jM.len_fL, jM.len_fR]; omega) | (simp [jM.len_nw, jM.len_sI, jM.len_sL, jM.len_sR, jM.len_fI, jM.len_fL, jM.len_fR, *]; omega)) ?_
                                                         exact mQ.of (by unfold sp_load ldC; (repeat (first | rw [if_pos (by omega)] | rw [if_neg (by omega)])))))
                                               · first
                                                 | (exfalso; omega)
                                                 | (refine J.iconst (pc' := 75) rfl rfl ?_
                                                    refine J.iret rfl rfl (by first | omega | (exact R.r _ _) | (simp only [jM.len_sI, jM.len_sL, jM.len_sR, jM.len_fI, jM.len_fL, jM.len_fR]; omega) | (simp [jM.len_nw, jM.len_sI, jM.len_sL, jM.len_sR, jM.len_fI, jM.len_fL, jM.len_fR, *]; omega)) (by first | omega | (exact R.r _ _) | (simp only [jM.len_sI, jM.len_sL, jM.len_sR, jM.len_fI, jM.len_fL, jM.len_fR]; omega) | (simp [jM.len_nw, jM.len_sI, jM.len_sL, jM.len_sR, jM.len_fI, jM.len_fL, jM.len_fR, *]; omega)) ?_
                                                    exact mQ.of (by unfold sp_load ldC; (repeat (first | rw [if_pos (by omega)] | rw [if_neg (by omega)]))))))))))
                 · first
                   | (exfalso; omega)
                   | (refine J.iconst (pc' := 27) rfl rfl ?_
                      refine J.goto (tgt := 31) rfl rfl ?_
                      refine J.iconst (pc' := 32) rfl rfl ?_
                      first | refine J.callV (pc' := 35) (t := 16) rfl MX12_may ml_X12_161 iv_X12_may (by decide) ⟨_, rfl, rfl⟩ B.1 (cm_may1 B h0) rfl rfl (Nat.le_of_ble_eq_true rfl) (by first | omega | (exact R.r _ _) | (simp only [jM.len_sI, jM.len_sL, jM.len_sR, jM.len_fI, jM.len_fL, jM.len_fR]; omega) | (simp [jM.len_nw, jM.len_sI, jM.len_sL, jM.len_sR, jM.len_fI, jM.len_fL, jM.len_fR, *]; omega)) (by first | omega | (exact R.r _ _) | (simp only [jM.len_sI, jM.len_sL, jM.len_sR, jM.len_fI, jM.len_fL, jM.len_fR]; omega) | (simp [jM.len_nw, jM.len_sI, jM.len_sL, jM.len_sR, jM.len_fI, jM.len_fL, jM.len_fR, *]; omega)) (by first | omega | (exact R.r _ _) | (simp only [jM.len_sI, jM.len_sL, jM.len_sR, jM.len_fI, jM.len_fL, jM.len_fR]; omega) | (simp [jM.len_nw, jM.len_sI, jM.len_sL, jM.len_sR, jM.len_fI, jM.len_fL, jM.len_fR, *]; omega)) rfl rfl ?_ ?_ | refine J.callV (pc' := 35) (t := 16) rfl MX12_may ml_X12_161 iv_X12_may (by decide) ⟨_, rfl, rfl⟩ B.1 (cm_may0 B h0 (by omega)) rfl rfl (Nat.le_of_ble_eq_true rfl) (by first | omega | (exact R.r _ _) | (simp only [jM.len_sI, jM.len_sL, jM.len_sR, jM.len_fI, jM.len_fL, jM.len_fR]; omega) | (simp [jM.len_nw, jM.len_sI, jM.len_sL, jM.len_sR, jM.len_fI, jM.len_fL, jM.len_fR, *]; omega)) (by first | omega | (exact R.r _ _) | (simp only [jM.len_sI, jM.len_sL, jM.len_sR, jM.len_fI, jM.len_fL, jM.len_fR]; omega) | (simp [jM.len_nw, jM.len_sI, jM.len_sL, jM.len_sR, jM.len_fI, jM.len_fL, jM.len_fR, *]; omega)) (by first | omega | (exact R.r _ _) | (simp only [jM.len_sI, jM.len_sL, jM.len_sR, jM.len_fI, jM.len_fL, jM.len_fR]; omega) | (simp [jM.len_nw, jM.len_sI, jM.len_sL, jM.len_sR, jM.len_fI, jM.len_fL, jM.len_fR, *]; omega)) rfl rfl ?_ ?_
                      · exact fun _ _ h => h
                      rintro _ _ ⟨rfl, rfl⟩
                      refine J.if_eq (tgt := 74) (pc' := 38) rfl rfl rfl (by first | omega | (exact R.r _ _) | (simp only [jM.len_sI, jM.len_sL, jM.len_sR, jM.len_fI, jM.len_fL, jM.len_fR]; omega) | (simp [jM.len_nw, jM.len_sI, jM.len_sL, jM.len_sR, jM.len_fI, jM.len_fL, jM.len_fR, *]; omega)) (fun c35 => ?_) (fun c35 => ?_)
                      · first
                        | (exfalso; omega)
                        | (refine J.iconst (pc' := 75) rfl rfl ?_
                           refine J.iret rfl rfl (by first | omega | (exact R.r _ _) | (simp only [jM.len_sI, jM.len_sL, jM.len_sR, jM.len_fI, jM.len_fL, jM.len_fR]; omega) | (simp [jM.len_nw, jM.len_sI, jM.len_sL, jM.len_sR, jM.len_fI, jM.len_fL, jM.len_fR, *]; omega)) (by first | omega | (exact R.r _ _) | (simp only [jM.len_sI, jM.len_sL, jM.len_sR, jM.len_fI, jM.len_fL, jM.len_fR]; omega) | (simp [jM.len_nw, jM.len_sI, jM.len_sL, jM.len_sR, jM.len_fI, jM.len_fL, jM.len_fR, *]; omega)) ?_
                           exact mQ.of (by unfold sp_load ldC; (repeat (first | rw [if_pos (by omega)] | rw [if_neg (by omega)]))))
                      · first
                        | (exfalso; omega)
                        | (first | refine J.aload_n (pc' := 39) rfl rfl rfl ?_ | refine J.aload_nN (pc' := 39) rfl rfl rfl ?_
                           refine J.iload_n (pc' := 40) rfl rfl rfl ?_
                           refine J.if_lt (tgt := 66) (pc' := 43) rfl rfl rfl (by first | omega | (exact R.r _ _) | (simp only [jM.len_sI, jM.len_sL, jM.len_sR, jM.len_fI, jM.len_fL, jM.len_fR]; omega) | (simp [jM.len_nw, jM.len_sI, jM.len_sL, jM.len_sR, jM.len_fI, jM.len_fL, jM.len_fR, *]; omega)) (fun c40 => ?_) (fun c40 => ?_)
                           · first
                             | (exfalso; omega)
                             | (refine J.iconst (pc' := 67) rfl rfl ?_
                                refine J.iconst (pc' := 68) rfl rfl ?_
                                first | refine J.callV (pc' := 71) (t := 16) rfl MX12_may ml_X12_161 iv_X12_may (by decide) ⟨_, rfl, rfl⟩ B.1 (cm_may1 B h0) rfl rfl (Nat.le_of_ble_eq_true rfl) (by first | omega | (exact R.r _ _) | (simp only [jM.len_sI, jM.len_sL, jM.len_sR, jM.len_fI, jM.len_fL, jM.len_fR]; omega) | (simp [jM.len_nw, jM.len_sI, jM.len_sL, jM.len_sR, jM.len_fI, jM.len_fL, jM.len_fR, *]; omega)) (by first | omega | (exact R.r _ _) | (simp only [jM.len_sI, jM.len_sL, jM.len_sR, jM.len_fI, jM.len_fL, jM.len_fR]; omega) | (simp [jM.len_nw, jM.len_sI, jM.len_sL, jM.len_sR, jM.len_fI, jM.len_fL, jM.len_fR, *]; omega)) (by first | omega | (exact R.r _ _) | (simp only [jM.len_sI, jM.len_sL, jM.len_sR, jM.len_fI, jM.len_fL, jM.len_fR]; omega) | (simp [jM.len_nw, jM.len_sI, jM.len_sL, jM.len_sR, jM.len_fI, jM.len_fL, jM.len_fR, *]; omega)) rfl rfl ?_ ?_ | refine J.callV (pc' := 71) (t := 16) rfl MX12_may ml_X12_161 iv_X12_may (by decide) ⟨_, rfl, rfl⟩ B.1 (cm_may0 B h0 (by omega)) rfl rfl (Nat.le_of_ble_eq_true rfl) (by first | omega | (exact R.r _ _) | (simp only [jM.len_sI, jM.len_sL, jM.len_sR, jM.len_fI, jM.len_fL, jM.len_fR]; omega) | (simp [jM.len_nw, jM.len_sI, jM.len_sL, jM.len_sR, jM.len_fI, jM.len_fL, jM.len_fR, *]; omega)) (by first | omega | (exact R.r _ _) | (simp only [jM.len_sI, jM.len_sL, jM.len_sR, jM.len_fI, jM.len_fL, jM.len_fR]; omega) | (simp [jM.len_nw, jM.len_sI, jM.len_sL, jM.len_sR, jM.len_fI, jM.len_fL, jM.len_fR, *]; omega)) (by first | omega | (exact R.r _ _) | (simp only [jM.len_sI, jM.len_sL, jM.len_sR, jM.len_fI, jM.len_fL, jM.len_fR]; omega) | (simp [jM.len_nw, jM.len_sI, jM.len_sL, jM.len_sR, jM.len_fI, jM.len_fL, jM.len_fR, *]; omega)) rfl rfl ?_ ?_
                                · exact fun _ _ h => h
                                rintro _ _ ⟨rfl, rfl⟩
                                refine J.if_ne (tgt := 76) (pc' := 74) rfl rfl rfl (by first | omega | (exact R.r _ _) | (simp only [jM.len_sI, jM.len_sL, jM.len_sR, jM.len_fI, jM.len_fL, jM.len_fR]; omega) | (simp [jM.len_nw, jM.len_sI, jM.len_sL, jM.len_sR, jM.len_fI, jM.len_fL, jM.len_fR, *]; omega)) (fun c71 => ?_) (fun c71 => ?_)
                                · first
                                  | (exfalso; omega)
                                  | (first | refine J.aload_n (pc' := 77) rfl rfl rfl ?_ | refine J.aload_nN (pc' := 77) rfl rfl rfl ?_
                                     refine J.mgI (pc' := 80) (j := 26) B rfl fl_X12_277 rfl rfl rfl ?_
                                     refine J.bipush (pc' := 82) rfl rfl (by decide) ?_
                                     refine J.icmp_ne (tgt := 88) (pc' := 85) rfl rfl rfl (by first | omega | (exact R.r _ _) | (simp only [jM.len_sI, jM.len_sL, jM.len_sR, jM.len_fI, jM.len_fL, jM.len_fR]; omega) | (simp [jM.len_nw, jM.len_sI, jM.len_sL, jM.len_sR, jM.len_fI, jM.len_fL, jM.len_fR, *]; omega)) (by first | omega | (exact R.r _ _) | (simp only [jM.len_sI, jM.len_sL, jM.len_sR, jM.len_fI, jM.len_fL, jM.len_fR]; omega) | (simp [jM.len_nw, jM.len_sI, jM.len_sL, jM.len_sR, jM.len_fI, jM.len_fL, jM.len_fR, *]; omega)) (fun c82 => ?_) (fun c82 => ?_)
                                     · first
                                       | (exfalso; omega)
                                       | (first | refine J.aload_n (pc' := 89) rfl rfl rfl ?_ | refine J.aload_nN (pc' := 89) rfl rfl rfl ?_
                                          refine J.callV (pc' := 92) (t := 16) rfl MX12_layersInAll ml_X12_280 iv_X12_layersInAll (by decide) ⟨_, rfl, rfl⟩ B.1 (cm_layersInAll B) rfl rfl (Nat.le_of_ble_eq_true rfl) (by first | omega | (exact R.r _ _) | (simp only [jM.len_sI, jM.len_sL, jM.len_sR, jM.len_fI, jM.len_fL, jM.len_fR]; omega) | (simp [jM.len_nw, jM.len_sI, jM.len_sL, jM.len_sR, jM.len_fI, jM.len_fL, jM.len_fR, *]; omega)) (by first | omega | (exact R.r _ _) | (simp only [jM.len_sI, jM.len_sL, jM.len_sR, jM.len_fI, jM.len_fL, jM.len_fR]; omega) | (simp [jM.len_nw, jM.len_sI, jM.len_sL, jM.len_sR, jM.len_fI, jM.len_fL, jM.len_fR, *]; omega)) (by first | omega | (exact R.r _ _) | (simp only [jM.len_sI, jM.len_sL, jM.len_sR, jM.len_fI, jM.len_fL, jM.len_fR]; omega) | (simp [jM.len_nw, jM.len_sI, jM.len_sL, jM.len_sR, jM.len_fI, jM.len_fL, jM.len_fR, *]; omega)) rfl rfl ?_ ?_
                                          · exact fun _ _ h => h
                                          rintro _ _ ⟨rfl, rfl⟩
                                          refine J.bipush (pc' := 94) rfl rfl (by decide) ?_
                                          refine J.icmp_ne (tgt := 100) (pc' := 97) rfl rfl rfl (by first | omega | (exact R.r _ _) | (simp only [jM.len_sI, jM.len_sL, jM.len_sR, jM.len_fI, jM.len_fL, jM.len_fR]; omega) | (simp [jM.len_nw, jM.len_sI, jM.len_sL, jM.len_sR, jM.len_fI, jM.len_fL, jM.len_fR, *]; omega)) (by first | omega | (exact R.r _ _) | (simp only [jM.len_sI, jM.len_sL, jM.len_sR, jM.len_fI, jM.len_fL, jM.len_fR]; omega) | (simp [jM.len_nw, jM.len_sI, jM.len_sL, jM.len_sR, jM.len_fI, jM.len_fL, jM.len_fR, *]; omega)) (fun c94 => ?_) (fun c94 => ?_)
                                          · first
                                            | (exfalso; omega)
                                            | (first | refine J.aload_n (pc' := 101) rfl rfl rfl ?_ | refine J.aload_nN (pc' := 101) rfl rfl rfl ?_
                                               refine J.iload_n (pc' := 102) rfl rfl rfl ?_
                                               first | refine J.aload_n (pc' := 103) rfl rfl rfl ?_ | refine J.aload_nN (pc' := 103) rfl rfl rfl ?_
                                               refine J.mgI (pc' := 106) (j := 3) B rfl fl_X12_283 rfl rfl rfl ?_
                                               refine J.callV (pc' := 109) (t := 16) rfl MX12_inForce ml_X12_264 iv_X12_inForce (by decide) ⟨_, rfl, rfl⟩ B.1 (cm_inForce B R hs (by omega)) rfl rfl (Nat.le_of_ble_eq_true rfl) (by first | omega | (exact R.r _ _) | (simp only [jM.len_sI, jM.len_sL, jM.len_sR, jM.len_fI, jM.len_fL, jM.len_fR]; omega) | (simp [jM.len_nw, jM.len_sI, jM.len_sL, jM.len_sR, jM.len_fI, jM.len_fL, jM.len_fR, *]; omega)) (by first | omega | (exact R.r _ _) | (simp only [jM.len_sI, jM.len_sL, jM.len_sR, jM.len_fI, jM.len_fL, jM.len_fR]; omega) | (simp [jM.len_nw, jM.len_sI, jM.len_sL, jM.len_sR, jM.len_fI, jM.len_fL, jM.len_fR, *]; omega)) (by first | omega | (exact R.r _ _) | (simp only [jM.len_sI, jM.len_sL, jM.len_sR, jM.len_fI, jM.len_fL, jM.len_fR]; omega) | (simp [jM.len_nw, jM.len_sI, jM.len_sL, jM.len_sR, jM.len_fI, jM.len_fL, jM.len_fR, *]; omega)) rfl rfl ?_ ?_
                                               · exact fun _ _ h => h
                                               rintro _ _ ⟨rfl, rfl⟩
                                               refine J.istore (pc' := 111) rfl rfl (by decide) ?_
                                               refine J.iload (pc' := 113) rfl rfl rfl ?_
                                               refine J.iconst (pc' := 114) rfl rfl ?_
                                               refine J.icmp_ne (tgt := 120) (pc' := 117) rfl rfl rfl (by first | omega | (exact R.r _ _) | (simp only [jM.len_sI, jM.len_sL, jM.len_sR, jM.len_fI, jM.len_fL, jM.len_fR]; omega) | (simp [jM.len_nw, jM.len_sI, jM.len_sL, jM.len_sR, jM.len_fI, jM.len_fL, jM.len_fR, *]; omega)) (by first | omega | (exact R.r _ _) | (simp only [jM.len_sI, jM.len_sL, jM.len_sR, jM.len_fI, jM.len_fL, jM.len_fR]; omega) | (simp [jM.len_nw, jM.len_sI, jM.len_sL, jM.len_sR, jM.len_fI, jM.len_fL, jM.len_fR, *]; omega)) (fun c114 => ?_) (fun c114 => ?_)
                                               · first
                                                 | (exfalso; omega)
                                                 | (exact rest (by omega) (by omega) (by omega) (by omega) (by omega) (by unfold ldC; omega))
                                               · first
                                                 | (exfalso; omega)
                                                 | (refine J.bipush (pc' := 119) rfl rfl (by decide) ?_
                                                    refine J.iret rfl rfl (by first | omega | (exact R.r _ _) | (simp only [jM.len_sI, jM.len_sL, jM.len_sR, jM.len_fI, jM.len_fL, jM.len_fR]; omega) | (simp [jM.len_nw, jM.len_sI, jM.len_sL, jM.len_sR, jM.len_fI, jM.len_fL, jM.len_fR, *]; omega)) (by first | omega | (exact R.r _ _) | (simp only [jM.len_sI, jM.len_sL, jM.len_sR, jM.len_fI, jM.len_fL, jM.len_fR]; omega) | (simp [jM.len_nw, jM.len_sI, jM.len_sL, jM.len_sR, jM.len_fI, jM.len_fL, jM.len_fR, *]; omega)) ?_
                                                    exact mQ.of (by unfold sp_load ldC; (repeat (first | rw [if_pos (by omega)] | rw [if_neg (by omega)])))))
                                          · first
                                            | (exfalso; omega)
                                            | (refine J.bipush (pc' := 99) rfl rfl (by decide) ?_
                                               refine J.iret rfl rfl (by first | omega | (exact R.r _ _) | (simp only [jM.len_sI, jM.len_sL, jM.len_sR, jM.len_fI, jM.len_fL, jM.len_fR]; omega) | (simp [jM.len_nw, jM.len_sI, jM.len_sL, jM.len_sR, jM.len_fI, jM.len_fL, jM.len_fR, *]; omega)) (by first | omega | (exact R.r _ _) | (simp only [jM.len_sI, jM.len_sL, jM.len_sR, jM.len_fI, jM.len_fL, jM.len_fR]; omega) | (simp [jM.len_nw, jM.len_sI, jM.len_sL, jM.len_sR, jM.len_fI, jM.len_fL, jM.len_fR, *]; omega)) ?_
                                               exact mQ.of (by unfold sp_load ldC; (repeat (first | rw [if_pos (by omega)] | rw [if_neg (by omega)])))))
                                     · first
                                       | (exfalso; omega)
                                       | (refine J.bipush (pc' := 87) rfl rfl (by decide) ?_
                                          refine J.iret rfl rfl (by first | omega | (exact R.r _ _) | (simp only [jM.len_sI, jM.len_sL, jM.len_sR, jM.len_fI, jM.len_fL, jM.len_fR]; omega) | (simp [jM.len_nw, jM.len_sI, jM.len_sL, jM.len_sR, jM.len_fI, jM.len_fL, jM.len_fR, *]; omega)) (by first | omega | (exact R.r _ _) | (simp only [jM.len_sI, jM.len_sL, jM.len_sR, jM.len_fI, jM.len_fL, jM.len_fR]; omega) | (simp [jM.len_nw, jM.len_sI, jM.len_sL, jM.len_sR, jM.len_fI, jM.len_fL, jM.len_fR, *]; omega)) ?_
                                          exact mQ.of (by unfold sp_load ldC; (repeat (first | rw [if_pos (by omega)] | rw [if_neg (by omega)])))))
                                · first
                                  | (exfalso; omega)
                                  | (refine J.iconst (pc' := 75) rfl rfl ?_
                                     refine J.iret rfl rfl (by first | omega | (exact R.r _ _) | (simp only [jM.len_sI, jM.len_sL, jM.len_sR, jM.len_fI, jM.len_fL, jM.len_fR]; omega) | (simp [jM.len_nw, jM.len_sI, jM.len_sL, jM.len_sR, jM.len_fI, jM.len_fL, jM.len_fR, *]; omega)) (by first | omega | (exact R.r _ _) | (simp only [jM.len_sI, jM.len_sL, jM.len_sR, jM.len_fI, jM.len_fL, jM.len_fR]; omega) | (simp [jM.len_nw, jM.len_sI, jM.len_sL, jM.len_sR, jM.len_fI, jM.len_fL, jM.len_fR, *]; omega)) ?_
                                     exact mQ.of (by unfold sp_load ldC; (repeat (first | rw [if_pos (by omega)] | rw [if_neg (by omega)])))))
                           · first
                             | (exfalso; omega)
                             | (refine J.iload_n (pc' := 44) rfl rfl rfl ?_
                                refine J.bipush (pc' := 46) rfl rfl (by decide) ?_
                                refine J.icmp_ge (tgt := 66) (pc' := 49) rfl rfl rfl (by first | omega | (exact R.r _ _) | (simp only [jM.len_sI, jM.len_sL, jM.len_sR, jM.len_fI, jM.len_fL, jM.len_fR]; omega) | (simp [jM.len_nw, jM.len_sI, jM.len_sL, jM.len_sR, jM.len_fI, jM.len_fL, jM.len_fR, *]; omega)) (by first | omega | (exact R.r _ _) | (simp only [jM.len_sI, jM.len_sL, jM.len_sR, jM.len_fI, jM.len_fL, jM.len_fR]; omega) | (simp [jM.len_nw, jM.len_sI, jM.len_sL, jM.len_sR, jM.len_fI, jM.len_fL, jM.len_fR, *]; omega)) (fun c46 => ?_) (fun c46 => ?_)
                                · first
                                  | (exfalso; omega)
                                  | (refine J.iconst (pc' := 67) rfl rfl ?_
                                     refine J.iconst (pc' := 68) rfl rfl ?_
                                     first | refine J.callV (pc' := 71) (t := 16) rfl MX12_may ml_X12_161 iv_X12_may (by decide) ⟨_, rfl, rfl⟩ B.1 (cm_may1 B h0) rfl rfl (Nat.le_of_ble_eq_true rfl) (by first | omega | (exact R.r _ _) | (simp only [jM.len_sI, jM.len_sL, jM.len_sR, jM.len_fI, jM.len_fL, jM.len_fR]; omega) | (simp [jM.len_nw, jM.len_sI, jM.len_sL, jM.len_sR, jM.len_fI, jM.len_fL, jM.len_fR, *]; omega)) (by first | omega | (exact R.r _ _) | (simp only [jM.len_sI, jM.len_sL, jM.len_sR, jM.len_fI, jM.len_fL, jM.len_fR]; omega) | (simp [jM.len_nw, jM.len_sI, jM.len_sL, jM.len_sR, jM.len_fI, jM.len_fL, jM.len_fR, *]; omega)) (by first | omega | (exact R.r _ _) | (simp only [jM.len_sI, jM.len_sL, jM.len_sR, jM.len_fI, jM.len_fL, jM.len_fR]; omega) | (simp [jM.len_nw, jM.len_sI, jM.len_sL, jM.len_sR, jM.len_fI, jM.len_fL, jM.len_fR, *]; omega)) rfl rfl ?_ ?_ | refine J.callV (pc' := 71) (t := 16) rfl MX12_may ml_X12_161 iv_X12_may (by decide) ⟨_, rfl, rfl⟩ B.1 (cm_may0 B h0 (by omega)) rfl rfl (Nat.le_of_ble_eq_true rfl) (by first | omega | (exact R.r _ _) | (simp only [jM.len_sI, jM.len_sL, jM.len_sR, jM.len_fI, jM.len_fL, jM.len_fR]; omega) | (simp [jM.len_nw, jM.len_sI, jM.len_sL, jM.len_sR, jM.len_fI, jM.len_fL, jM.len_fR, *]; omega)) (by first | omega | (exact R.r _ _) | (simp only [jM.len_sI, jM.len_sL, jM.len_sR, jM.len_fI, jM.len_fL, jM.len_fR]; omega) | (simp [jM.len_nw, jM.len_sI, jM.len_sL, jM.len_sR, jM.len_fI, jM.len_fL, jM.len_fR, *]; omega)) (by first | omega | (exact R.r _ _) | (simp only [jM.len_sI, jM.len_sL, jM.len_sR, jM.len_fI, jM.len_fL, jM.len_fR]; omega) | (simp [jM.len_nw, jM.len_sI, jM.len_sL, jM.len_sR, jM.len_fI, jM.len_fL, jM.len_fR, *]; omega)) rfl rfl ?_ ?_
                                     · exact fun _ _ h => h
                                     rintro _ _ ⟨rfl, rfl⟩
                                     refine J.if_ne (tgt := 76) (pc' := 74) rfl rfl rfl (by first | omega | (exact R.r _ _) | (simp only [jM.len_sI, jM.len_sL, jM.len_sR, jM.len_fI, jM.len_fL, jM.len_fR]; omega) | (simp [jM.len_nw, jM.len_sI, jM.len_sL, jM.len_sR, jM.len_fI, jM.len_fL, jM.len_fR, *]; omega)) (fun c71 => ?_) (fun c71 => ?_)
                                     · first
                                       | (exfalso; omega)
                                       | (first | refine J.aload_n (pc' := 77) rfl rfl rfl ?_ | refine J.aload_nN (pc' := 77) rfl rfl rfl ?_
                                          refine J.mgI (pc' := 80) (j := 26) B rfl fl_X12_277 rfl rfl rfl ?_
                                          refine J.bipush (pc' := 82) rfl rfl (by decide) ?_
                                          refine J.icmp_ne (tgt := 88) (pc' := 85) rfl rfl rfl (by first | omega | (exact R.r _ _) | (simp only [jM.len_sI, jM.len_sL, jM.len_sR, jM.len_fI, jM.len_fL, jM.len_fR]; omega) | (simp [jM.len_nw, jM.len_sI, jM.len_sL, jM.len_sR, jM.len_fI, jM.len_fL, jM.len_fR, *]; omega)) (by first | omega | (exact R.r _ _) | (simp only [jM.len_sI, jM.len_sL, jM.len_sR, jM.len_fI, jM.len_fL, jM.len_fR]; omega) | (simp [jM.len_nw, jM.len_sI, jM.len_sL, jM.len_sR, jM.len_fI, jM.len_fL, jM.len_fR, *]; omega)) (fun c82 => ?_) (fun c82 => ?_)
                                          · first
                                            | (exfalso; omega)
                                            | (first | refine J.aload_n (pc' := 89) rfl rfl rfl ?_ | refine J.aload_nN (pc' := 89) rfl rfl rfl ?_
                                               refine J.callV (pc' := 92) (t := 16) rfl MX12_layersInAll ml_X12_280 iv_X12_layersInAll (by decide) ⟨_, rfl, rfl⟩ B.1 (cm_layersInAll B) rfl rfl (Nat.le_of_ble_eq_true rfl) (by first | omega | (exact R.r _ _) | (simp only [jM.len_sI, jM.len_sL, jM.len_sR, jM.len_fI, jM.len_fL, jM.len_fR]; omega) | (simp [jM.len_nw, jM.len_sI, jM.len_sL, jM.len_sR, jM.len_fI, jM.len_fL, jM.len_fR, *]; omega)) (by first | omega | (exact R.r _ _) | (simp only [jM.len_sI, jM.len_sL, jM.len_sR, jM.len_fI, jM.len_fL, jM.len_fR]; omega) | (simp [jM.len_nw, jM.len_sI, jM.len_sL, jM.len_sR, jM.len_fI, jM.len_fL, jM.len_fR, *]; omega)) (by first | omega | (exact R.r _ _) | (simp only [jM.len_sI, jM.len_sL, jM.len_sR, jM.len_fI, jM.len_fL, jM.len_fR]; omega) | (simp [jM.len_nw, jM.len_sI, jM.len_sL, jM.len_sR, jM.len_fI, jM.len_fL, jM.len_fR, *]; omega)) rfl rfl ?_ ?_
                                               · exact fun _ _ h => h
                                               rintro _ _ ⟨rfl, rfl⟩
                                               refine J.bipush (pc' := 94) rfl rfl (by decide) ?_
                                               refine J.icmp_ne (tgt := 100) (pc' := 97) rfl rfl rfl (by first | omega | (exact R.r _ _) | (simp only [jM.len_sI, jM.len_sL, jM.len_sR, jM.len_fI, jM.len_fL, jM.len_fR]; omega) | (simp [jM.len_nw, jM.len_sI, jM.len_sL, jM.len_sR, jM.len_fI, jM.len_fL, jM.len_fR, *]; omega)) (by first | omega | (exact R.r _ _) | (simp only [jM.len_sI, jM.len_sL, jM.len_sR, jM.len_fI, jM.len_fL, jM.len_fR]; omega) | (simp [jM.len_nw, jM.len_sI, jM.len_sL, jM.len_sR, jM.len_fI, jM.len_fL, jM.len_fR, *]; omega)) (fun c94 => ?_) (fun c94 => ?_)
                                               · first
                                                 | (exfalso; omega)
                                                 | (first | refine J.aload_n (pc' := 101) rfl rfl rfl ?_ | refine J.aload_nN (pc' := 101) rfl rfl rfl ?_
                                                    refine J.iload_n (pc' := 102) rfl rfl rfl ?_
                                                    first | refine J.aload_n (pc' := 103) rfl rfl rfl ?_ | refine J.aload_nN (pc' := 103) rfl rfl rfl ?_
                                                    refine J.mgI (pc' := 106) (j := 3) B rfl fl_X12_283 rfl rfl rfl ?_
                                                    refine J.callV (pc' := 109) (t := 16) rfl MX12_inForce ml_X12_264 iv_X12_inForce (by decide) ⟨_, rfl, rfl⟩ B.1 (cm_inForce B R hs (by omega)) rfl rfl (Nat.le_of_ble_eq_true rfl) (by first | omega | (exact R.r _ _) | (simp only [jM.len_sI, jM.len_sL, jM.len_sR, jM.len_fI, jM.len_fL, jM.len_fR]; omega) | (simp [jM.len_nw, jM.len_sI, jM.len_sL, jM.len_sR, jM.len_fI, jM.len_fL, jM.len_fR, *]; omega)) (by first | omega | (exact R.r _ _) | (simp only [jM.len_sI, jM.len_sL, jM.len_sR, jM.len_fI, jM.len_fL, jM.len_fR]; omega) | (simp [jM.len_nw, jM.len_sI, jM.len_sL, jM.len_sR, jM.len_fI, jM.len_fL, jM.len_fR, *]; omega)) (by first | omega | (exact R.r _ _) | (simp only [jM.len_sI, jM.len_sL, jM.len_sR, jM.len_fI, jM.len_fL, jM.len_fR]; omega) | (simp [jM.len_nw, jM.len_sI, jM.len_sL, jM.len_sR, jM.len_fI, jM.len_fL, jM.len_fR, *]; omega)) rfl rfl ?_ ?_
                                                    · exact fun _ _ h => h
                                                    rintro _ _ ⟨rfl, rfl⟩
                                                    refine J.istore (pc' := 111) rfl rfl (by decide) ?_
                                                    refine J.iload (pc' := 113) rfl rfl rfl ?_
                                                    refine J.iconst (pc' := 114) rfl rfl ?_
                                                    refine J.icmp_ne (tgt := 120) (pc' := 117) rfl rfl rfl (by first | omega | (exact R.r _ _) | (simp only [jM.len_sI, jM.len_sL, jM.len_sR, jM.len_fI, jM.len_fL, jM.len_fR]; omega) | (simp [jM.len_nw, jM.len_sI, jM.len_sL, jM.len_sR, jM.len_fI, jM.len_fL, jM.len_fR, *]; omega)) (by first | omega | (exact R.r _ _) | (simp only [jM.len_sI, jM.len_sL, jM.len_sR, jM.len_fI, jM.len_fL, jM.len_fR]; omega) | (simp [jM.len_nw, jM.len_sI, jM.len_sL, jM.len_sR, jM.len_fI, jM.len_fL, jM.len_fR, *]; omega)) (fun c114 => ?_) (fun c114 => ?_)
                                                    · first
                                                      | (exfalso; omega)
                                                      | (exact rest (by omega) (by omega) (by omega) (by omega) (by omega) (by unfold ldC; omega))
                                                    · first
                                                      | (exfalso; omega)
                                                      | (refine J.bipush (pc' := 119) rfl rfl (by decide) ?_
                                                         refine J.iret rfl rfl (by first | omega | (exact R.r _ _) | (simp only [jM.len_sI, jM.len_sL, jM.len_sR, jM.len_fI, jM.len_fL, jM.len_fR]; omega) | (simp [jM.len_nw, jM.len_sI, jM.len_sL, jM.len_sR, jM.len_fI, jM.len_fL, jM.len_fR, *]; omega)) (by first | omega | (exact R.r _ _) | (simp only [jM.len_sI, jM.len_sL, jM.len_sR, jM.len_fI, jM.len_fL, jM.len_fR]; omega) | (simp [jM.len_nw, jM.len_sI, jM.len_sL, jM.len_sR, jM.len_fI, jM.len_fL, jM.len_fR, *]; omega)) ?_
                                                         exact mQ.of (by unfold sp_load ldC; (repeat (first | rw [if_pos (by omega)] | rw [if_neg (by omega)])))))
                                               · first
                                                 | (exfalso; omega)
                                                 | (refine J.bipush (pc' := 99) rfl rfl (by decide) ?_
                                                    refine J.iret rfl rfl (by first | omega | (exact R.r _ _) | (simp only [jM.len_sI, jM.len_sL, jM.len_sR, jM.len_fI, jM.len_fL, jM.len_fR]; omega) | (simp [jM.len_nw, jM.len_sI, jM.len_sL, jM.len_sR, jM.len_fI, jM.len_fL, jM.len_fR, *]; omega)) (by first | omega | (exact R.r _ _) | (simp only [jM.len_sI, jM.len_sL, jM.len_sR, jM.len_fI, jM.len_fL, jM.len_fR]; omega) | (simp [jM.len_nw, jM.len_sI, jM.len_sL, jM.len_sR, jM.len_fI, jM.len_fL, jM.len_fR, *]; omega)) ?_
                                                    exact mQ.of (by unfold sp_load ldC; (repeat (first | rw [if_pos (by omega)] | rw [if_neg (by omega)])))))
                                          · first
                                            | (exfalso; omega)
                                            | (refine J.bipush (pc' := 87) rfl rfl (by decide) ?_
                                               refine J.iret rfl rfl (by first | omega | (exact R.r _ _) | (simp only [jM.len_sI, jM.len_sL, jM.len_sR, jM.len_fI, jM.len_fL, jM.len_fR]; omega) | (simp [jM.len_nw, jM.len_sI, jM.len_sL, jM.len_sR, jM.len_fI, jM.len_fL, jM.len_fR, *]; omega)) (by first | omega | (exact R.r _ _) | (simp only [jM.len_sI, jM.len_sL, jM.len_sR, jM.len_fI, jM.len_fL, jM.len_fR]; omega) | (simp [jM.len_nw, jM.len_sI, jM.len_sL, jM.len_sR, jM.len_fI, jM.len_fL, jM.len_fR, *]; omega)) ?_
                                               exact mQ.of (by unfold sp_load ldC; (repeat (first | rw [if_pos (by omega)] | rw [if_neg (by omega)])))))
                                     · first
                                       | (exfalso; omega)
                                       | (refine J.iconst (pc' := 75) rfl rfl ?_
                                          refine J.iret rfl rfl (by first | omega | (exact R.r _ _) | (simp only [jM.len_sI, jM.len_sL, jM.len_sR, jM.len_fI, jM.len_fL, jM.len_fR]; omega) | (simp [jM.len_nw, jM.len_sI, jM.len_sL, jM.len_sR, jM.len_fI, jM.len_fL, jM.len_fR, *]; omega)) (by first | omega | (exact R.r _ _) | (simp only [jM.len_sI, jM.len_sL, jM.len_sR, jM.len_fI, jM.len_fL, jM.len_fR]; omega) | (simp [jM.len_nw, jM.len_sI, jM.len_sL, jM.len_sR, jM.len_fI, jM.len_fL, jM.len_fR, *]; omega)) ?_
                                          exact mQ.of (by unfold sp_load ldC; (repeat (first | rw [if_pos (by omega)] | rw [if_neg (by omega)])))))
                                · first
                                  | (exfalso; omega)
                                  | (refine J.iload (pc' := 51) rfl rfl rfl ?_
                                     refine J.iconst (pc' := 52) rfl rfl ?_
                                     refine J.icmp_lt (tgt := 66) (pc' := 55) rfl rfl rfl (by first | omega | (exact R.r _ _) | (simp only [jM.len_sI, jM.len_sL, jM.len_sR, jM.len_fI, jM.len_fL, jM.len_fR]; omega) | (simp [jM.len_nw, jM.len_sI, jM.len_sL, jM.len_sR, jM.len_fI, jM.len_fL, jM.len_fR, *]; omega)) (by first | omega | (exact R.r _ _) | (simp only [jM.len_sI, jM.len_sL, jM.len_sR, jM.len_fI, jM.len_fL, jM.len_fR]; omega) | (simp [jM.len_nw, jM.len_sI, jM.len_sL, jM.len_sR, jM.len_fI, jM.len_fL, jM.len_fR, *]; omega)) (fun c52 => ?_) (fun c52 => ?_)
                                     · first
                                       | (exfalso; omega)
                                       | (refine J.iconst (pc' := 67) rfl rfl ?_
                                          refine J.iconst (pc' := 68) rfl rfl ?_
                                          first | refine J.callV (pc' := 71) (t := 16) rfl MX12_may ml_X12_161 iv_X12_may (by decide) ⟨_, rfl, rfl⟩ B.1 (cm_may1 B h0) rfl rfl (Nat.le_of_ble_eq_true rfl) (by first | omega | (exact R.r _ _) | (simp only [jM.len_sI, jM.len_sL, jM.len_sR, jM.len_fI, jM.len_fL, jM.len_fR]; omega) | (simp [jM.len_nw, jM.len_sI, jM.len_sL, jM.len_sR, jM.len_fI, jM.len_fL, jM.len_fR, *]; omega)) (by first | omega | (exact R.r _ _) | (simp only [jM.len_sI, jM.len_sL, jM.len_sR, jM.len_fI, jM.len_fL, jM.len_fR]; omega) | (simp [jM.len_nw, jM.len_sI, jM.len_sL, jM.len_sR, jM.len_fI, jM.len_fL, jM.len_fR, *]; omega)) (by first | omega | (exact R.r _ _) | (simp only [jM.len_sI, jM.len_sL, jM.len_sR, jM.len_fI, jM.len_fL, jM.len_fR]; omega) | (simp [jM.len_nw, jM.len_sI, jM.len_sL, jM.len_sR, jM.len_fI, jM.len_fL, jM.len_fR, *]; omega)) rfl rfl ?_ ?_ | refine J.callV (pc' := 71) (t := 16) rfl MX12_may ml_X12_161 iv_X12_may (by decide) ⟨_, rfl, rfl⟩ B.1 (cm_may0 B h0 (by omega)) rfl rfl (Nat.le_of_ble_eq_true rfl) (by first | omega | (exact R.r _ _) | (simp only [jM.len_sI, jM.len_sL, jM.len_sR, jM.len_fI, jM.len_fL, jM.len_fR]; omega) | (simp [jM.len_nw, jM.len_sI, jM.len_sL, jM.len_sR, jM.len_fI, jM.len_fL, jM.len_fR, *]; omega)) (by first | omega | (exact R.r _ _) | (simp only [jM.len_sI, jM.len_sL, jM.len_sR, jM.len_fI, jM.len_fL, jM.len_fR]; omega) | (simp [jM.len_nw, jM.len_sI, jM.len_sL, jM.len_sR, jM.len_fI, jM.len_fL, jM.len_fR, *]; omega)) (by first | omega | (exact R.r _ _) | (simp only [jM.len_sI, jM.len_sL, jM.len_sR, jM.len_fI, jM.len_fL, jM.len_fR]; omega) | (simp [jM.len_nw, jM.len_sI, jM.len_sL, jM.len_sR, jM.len_fI, jM.len_fL, jM.len_fR, *]; omega)) rfl rfl ?_ ?_
                                          · exact fun _ _ h => h
                                          rintro _ _ ⟨rfl, rfl⟩
                                          refine J.if_ne (tgt := 76) (pc' := 74) rfl rfl rfl (by first | omega | (exact R.r _ _) | (simp only [jM.len_sI, jM.len_sL, jM.len_sR, jM.len_fI, jM.len_fL, jM.len_fR]; omega) | (simp [jM.len_nw, jM.len_sI, jM.len_sL, jM.len_sR, jM.len_fI, jM.len_fL, jM.len_fR, *]; omega)) (fun c71 => ?_) (fun c71 => ?_)
                                          · first
                                            | (exfalso; omega)
                                            | (first | refine J.aload_n (pc' := 77) rfl rfl rfl ?_ | refine J.aload_nN (pc' := 77) rfl rfl rfl ?_
                                               refine J.mgI (pc' := 80) (j := 26) B rfl fl_X12_277 rfl rfl rfl ?_
                                               refine J.bipush (pc' := 82) rfl rfl (by decide) ?_
                                               refine J.icmp_ne (tgt := 88) (pc' := 85) rfl rfl rfl (by first | omega | (exact R.r _ _) | (simp only [jM.len_sI, jM.len_sL, jM.len_sR, jM.len_fI, jM.len_fL, jM.len_fR]; omega) | (simp [jM.len_nw, jM.len_sI, jM.len_sL, jM.len_sR, jM.len_fI, jM.len_fL, jM.len_fR, *]; omega)) (by first | omega | (exact R.r _ _) | (simp only [jM.len_sI, jM.len_sL, jM.len_sR, jM.len_fI, jM.len_fL, jM.len_fR]; omega) | (simp [jM.len_nw, jM.len_sI, jM.len_sL, jM.len_sR, jM.len_fI, jM.len_fL, jM.len_fR, *]; omega)) (fun c82 => ?_) (fun c82 => ?_)
                                               · first
                                                 | (exfalso; omega)
                                                 | (first | refine J.aload_n (pc' := 89) rfl rfl rfl ?_ | refine J.aload_nN (pc' := 89) rfl rfl rfl ?_
                                                    refine J.callV (pc' := 92) (t := 16) rfl MX12_layersInAll ml_X12_280 iv_X12_layersInAll (by decide) ⟨_, rfl, rfl⟩ B.1 (cm_layersInAll B) rfl rfl (Nat.le_of_ble_eq_true rfl) (by first | omega | (exact R.r _ _) | (simp only [jM.len_sI, jM.len_sL, jM.len_sR, jM.len_fI, jM.len_fL, jM.len_fR]; omega) | (simp [jM.len_nw, jM.len_sI, jM.len_sL, jM.len_sR, jM.len_fI, jM.len_fL, jM.len_fR, *]; omega)) (by first | omega | (exact R.r _ _) | (simp only [jM.len_sI, jM.len_sL, jM.len_sR, jM.len_fI, jM.len_fL, jM.len_fR]; omega) | (simp [jM.len_nw, jM.len_sI, jM.len_sL, jM.len_sR, jM.len_fI, jM.len_fL, jM.len_fR, *]; omega)) (by first | omega | (exact R.r _ _) | (simp only [jM.len_sI, jM.len_sL, jM.len_sR, jM.len_fI, jM.len_fL, jM.len_fR]; omega) | (simp [jM.len_nw, jM.len_sI, jM.len_sL, jM.len_sR, jM.len_fI, jM.len_fL, jM.len_fR, *]; omega)) rfl rfl ?_ ?_
                                                    · exact fun _ _ h => h
                                                    rintro _ _ ⟨rfl, rfl⟩
                                                    refine J.bipush (pc' := 94) rfl rfl (by decide) ?_
                                                    refine J.icmp_ne (tgt := 100) (pc' := 97) rfl rfl rfl (by first | omega | (exact R.r _ _) | (simp only [jM.len_sI, jM.len_sL, jM.len_sR, jM.len_fI, jM.len_fL, jM.len_fR]; omega) | (simp [jM.len_nw, jM.len_sI, jM.len_sL, jM.len_sR, jM.len_fI, jM.len_fL, jM.len_fR, *]; omega)) (by first | omega | (exact R.r _ _) | (simp only [jM.len_sI, jM.len_sL, jM.len_sR, jM.len_fI, jM.len_fL, jM.len_fR]; omega) | (simp [jM.len_nw, jM.len_sI, jM.len_sL, jM.len_sR, jM.len_fI, jM.len_fL, jM.len_fR, *]; omega)) (fun c94 => ?_) (fun c94 => ?_)
                                                    · first
                                                      | (exfalso; omega)
                                                      | (first | refine J.aload_n (pc' := 101) rfl rfl rfl ?_ | refine J.aload_nN (pc' := 101) rfl rfl rfl ?_
                                                         refine J.iload_n (pc' := 102) rfl rfl rfl ?_
                                                         first | refine J.aload_n (pc' := 103) rfl rfl rfl ?_ | refine J.aload_nN (pc' := 103) rfl rfl rfl ?_
                                                         refine J.mgI (pc' := 106) (j := 3) B rfl fl_X12_283 rfl rfl rfl ?_
                                                         refine J.callV (pc' := 109) (t := 16) rfl MX12_inForce ml_X12_264 iv_X12_inForce (by decide) ⟨_, rfl, rfl⟩ B.1 (cm_inForce B R hs (by omega)) rfl rfl (Nat.le_of_ble_eq_true rfl) (by first | omega | (exact R.r _ _) | (simp only [jM.len_sI, jM.len_sL, jM.len_sR, jM.len_fI, jM.len_fL, jM.len_fR]; omega) | (simp [jM.len_nw, jM.len_sI, jM.len_sL, jM.len_sR, jM.len_fI, jM.len_fL, jM.len_fR, *]; omega)) (by first | omega | (exact R.r _ _) | (simp only [jM.len_sI, jM.len_sL, jM.len_sR, jM.len_fI, jM.len_fL, jM.len_fR]; omega) | (simp [jM.len_nw, jM.len_sI, jM.len_sL, jM.len_sR, jM.len_fI, jM.len_fL, jM.len_fR, *]; omega)) (by first | omega | (exact R.r _ _) | (simp only [jM.len_sI, jM.len_sL, jM.len_sR, jM.len_fI, jM.len_fL, jM.len_fR]; omega) | (simp [jM.len_nw, jM.len_sI, jM.len_sL, jM.len_sR, jM.len_fI, jM.len_fL, jM.len_fR, *]; omega)) rfl rfl ?_ ?_
                                                         · exact fun _ _ h => h
                                                         rintro _ _ ⟨rfl, rfl⟩
                                                         refine J.istore (pc' := 111) rfl rfl (by decide) ?_
                                                         refine J.iload (pc' := 113) rfl rfl rfl ?_
                                                         refine J.iconst (pc' := 114) rfl rfl ?_
                                                         refine J.icmp_ne (tgt := 120) (pc' := 117) rfl rfl rfl (by first | omega | (exact R.r _ _) | (simp only [jM.len_sI, jM.len_sL, jM.len_sR, jM.len_fI, jM.len_fL, jM.len_fR]; omega) | (simp [jM.len_nw, jM.len_sI, jM.len_sL, jM.len_sR, jM.len_fI, jM.len_fL, jM.len_fR, *]; omega)) (by first | omega | (exact R.r _ _) | (simp only [jM.len_sI, jM.len_sL, jM.len_sR, jM.len_fI, jM.len_fL, jM.len_fR]; omega) | (simp [jM.len_nw, jM.len_sI, jM.len_sL, jM.len_sR, jM.len_fI, jM.len_fL, jM.len_fR, *]; omega)) (fun c114 => ?_) (fun c114 => ?_)
                                                         · first
                                                           | (exfalso; omega)
                                                           | (exact rest (by omega) (by omega) (by omega) (by omega) (by omega) (by unfold ldC; omega))
                                                         · first
                                                           | (exfalso; omega)
                                                           | (refine J.bipush (pc' := 119) rfl rfl (by decide) ?_
                                                              refine J.iret rfl rfl (by first | omega | (exact R.r _ _) | (simp only [jM.len_sI, jM.len_sL, jM.len_sR, jM.len_fI, jM.len_fL, jM.len_fR]; omega) | (simp [jM.len_nw, jM.len_sI, jM.len_sL, jM.len_sR, jM.len_fI, jM.len_fL, jM.len_fR, *]; omega)) (by first | omega | (exact R.r _ _) | (simp only [jM.len_sI, jM.len_sL, jM.len_sR, jM.len_fI, jM.len_fL, jM.len_fR]; omega) | (simp [jM.len_nw, jM.len_sI, jM.len_sL, jM.len_sR, jM.len_fI, jM.len_fL, jM.len_fR, *]; omega)) ?_
                                                              exact mQ.of (by unfold sp_load ldC; (repeat (first | rw [if_pos (by omega)] | rw [if_neg (by omega)])))))
                                                    · first
                                                      | (exfalso; omega)
                                                      | (refine J.bipush (pc' := 99) rfl rfl (by decide) ?_
                                                         refine J.iret rfl rfl (by first | omega | (exact R.r _ _) | (simp only [jM.len_sI, jM.len_sL, jM.len_sR, jM.len_fI, jM.len_fL, jM.len_fR]; omega) | (simp [jM.len_nw, jM.len_sI, jM.len_sL, jM.len_sR, jM.len_fI, jM.len_fL, jM.len_fR, *]; omega)) (by first | omega | (exact R.r _ _) | (simp only [jM.len_sI, jM.len_sL, jM.len_sR, jM.len_fI, jM.len_fL, jM.len_fR]; omega) | (simp [jM.len_nw, jM.len_sI, jM.len_sL, jM.len_sR, jM.len_fI, jM.len_fL, jM.len_fR, *]; omega)) ?_
                                                         exact mQ.of (by unfold sp_load ldC; (repeat (first | rw [if_pos (by omega)] | rw [if_neg (by omega)])))))
                                               · first
                                                 | (exfalso; omega)
                                                 | (refine J.bipush (pc' := 87) rfl rfl (by decide) ?_
                                                    refine J.iret rfl rfl (by first | omega | (exact R.r _ _) | (simp only [jM.len_sI, jM.len_sL, jM.len_sR, jM.len_fI, jM.len_fL, jM.len_fR]; omega) | (simp [jM.len_nw, jM.len_sI, jM.len_sL, jM.len_sR, jM.len_fI, jM.len_fL, jM.len_fR, *]; omega)) (by first | omega | (exact R.r _ _) | (simp only [jM.len_sI, jM.len_sL, jM.len_sR, jM.len_fI, jM.len_fL, jM.len_fR]; omega) | (simp [jM.len_nw, jM.len_sI, jM.len_sL, jM.len_sR, jM.len_fI, jM.len_fL, jM.len_fR, *]; omega)) ?_
                                                    exact mQ.of (by unfold sp_load ldC; (repeat (first | rw [if_pos (by omega)] | rw [if_neg (by omega)])))))
                                          · first
                                            | (exfalso; omega)
                                            | (refine J.iconst (pc' := 75) rfl rfl ?_
                                               refine J.iret rfl rfl (by first | omega | (exact R.r _ _) | (simp only [jM.len_sI, jM.len_sL, jM.len_sR, jM.len_fI, jM.len_fL, jM.len_fR]; omega) | (simp [jM.len_nw, jM.len_sI, jM.len_sL, jM.len_sR, jM.len_fI, jM.len_fL, jM.len_fR, *]; omega)) (by first | omega | (exact R.r _ _) | (simp only [jM.len_sI, jM.len_sL, jM.len_sR, jM.len_fI, jM.len_fL, jM.len_fR]; omega) | (simp [jM.len_nw, jM.len_sI, jM.len_sL, jM.len_sR, jM.len_fI, jM.len_fL, jM.len_fR, *]; omega)) ?_
                                               exact mQ.of (by unfold sp_load ldC; (repeat (first | rw [if_pos (by omega)] | rw [if_neg (by omega)])))))
                                     · first
                                       | (exfalso; omega)
                                       | (refine J.iload (pc' := 57) rfl rfl rfl ?_
                                          refine J.bipush (pc' := 59) rfl rfl (by decide) ?_
                                          refine J.icmp_gt (tgt := 66) (pc' := 62) rfl rfl rfl (by first | omega | (exact R.r _ _) | (simp only [jM.len_sI, jM.len_sL, jM.len_sR, jM.len_fI, jM.len_fL, jM.len_fR]; omega) | (simp [jM.len_nw, jM.len_sI, jM.len_sL, jM.len_sR, jM.len_fI, jM.len_fL, jM.len_fR, *]; omega)) (by first | omega | (exact R.r _ _) | (simp only [jM.len_sI, jM.len_sL, jM.len_sR, jM.len_fI, jM.len_fL, jM.len_fR]; omega) | (simp [jM.len_nw, jM.len_sI, jM.len_sL, jM.len_sR, jM.len_fI, jM.len_fL, jM.len_fR, *]; omega)) (fun c59 => ?_) (fun c59 => ?_)
                                          · first
                                            | (exfalso; omega)
                                            | (refine J.iconst (pc' := 67) rfl rfl ?_
                                               refine J.iconst (pc' := 68) rfl rfl ?_
                                               first | refine J.callV (pc' := 71) (t := 16) rfl MX12_may ml_X12_161 iv_X12_may (by decide) ⟨_, rfl, rfl⟩ B.1 (cm_may1 B h0) rfl rfl (Nat.le_of_ble_eq_true rfl) (by first | omega | (exact R.r _ _) | (simp only [jM.len_sI, jM.len_sL, jM.len_sR, jM.len_fI, jM.len_fL, jM.len_fR]; omega) | (simp [jM.len_nw, jM.len_sI, jM.len_sL, jM.len_sR, jM.len_fI, jM.len_fL, jM.len_fR, *]; omega)) (by first | omega | (exact R.r _ _) | (simp only [jM.len_sI, jM.len_sL, jM.len_sR, jM.len_fI, jM.len_fL, jM.len_fR]; omega) | (simp [jM.len_nw, jM.len_sI, jM.len_sL, jM.len_sR, jM.len_fI, jM.len_fL, jM.len_fR, *]; omega)) (by first | omega | (exact R.r _ _) | (simp only [jM.len_sI, jM.len_sL, jM.len_sR, jM.len_fI, jM.len_fL, jM.len_fR]; omega) | (simp [jM.len_nw, jM.len_sI, jM.len_sL, jM.len_sR, jM.len_fI, jM.len_fL, jM.len_fR, *]; omega)) rfl rfl ?_ ?_ | refine J.callV (pc' := 71) (t := 16) rfl MX12_may ml_X12_161 iv_X12_may (by decide) ⟨_, rfl, rfl⟩ B.1 (cm_may0 B h0 (by omega)) rfl rfl (Nat.le_of_ble_eq_true rfl) (by first | omega | (exact R.r _ _) | (simp only [jM.len_sI, jM.len_sL, jM.len_sR, jM.len_fI, jM.len_fL, jM.len_fR]; omega) | (simp [jM.len_nw, jM.len_sI, jM.len_sL, jM.len_sR, jM.len_fI, jM.len_fL, jM.len_fR, *]; omega)) (by first | omega | (exact R.r _ _) | (simp only [jM.len_sI, jM.len_sL, jM.len_sR, jM.len_fI, jM.len_fL, jM.len_fR]; omega) | (simp [jM.len_nw, jM.len_sI, jM.len_sL, jM.len_sR, jM.len_fI, jM.len_fL, jM.len_fR, *]; omega)) (by first | omega | (exact R.r _ _) | (simp only [jM.len_sI, jM.len_sL, jM.len_sR, jM.len_fI, jM.len_fL, jM.len_fR]; omega) | (simp [jM.len_nw, jM.len_sI, jM.len_sL, jM.len_sR, jM.len_fI, jM.len_fL, jM.len_fR, *]; omega)) rfl rfl ?_ ?_
                                               · exact fun _ _ h => h
                                               rintro _ _ ⟨rfl, rfl⟩
                                               refine J.if_ne (tgt := 76) (pc' := 74) rfl rfl rfl (by first | omega | (exact R.r _ _) | (simp only [jM.len_sI, jM.len_sL, jM.len_sR, jM.len_fI, jM.len_fL, jM.len_fR]; omega) | (simp [jM.len_nw, jM.len_sI, jM.len_sL, jM.len_sR, jM.len_fI, jM.len_fL, jM.len_fR, *]; omega)) (fun c71 => ?_) (fun c71 => ?_)
                                               · first
                                                 | (exfalso; omega)
                                                 | (first | refine J.aload_n (pc' := 77) rfl rfl rfl ?_ | refine J.aload_nN (pc' := 77) rfl rfl rfl ?_
                                                    refine J.mgI (pc' := 80) (j := 26) B rfl fl_X12_277 rfl rfl rfl ?_
                                                    refine J.bipush (pc' := 82) rfl rfl (by decide) ?_
                                                    refine J.icmp_ne (tgt := 88) (pc' := 85) rfl rfl rfl (by first | omega | (exact R.r _ _) | (simp only [jM.len_sI, jM.len_sL, jM.len_sR, jM.len_fI, jM.len_fL, jM.len_fR]; omega) | (simp [jM.len_nw, jM.len_sI, jM.len_sL, jM.len_sR, jM.len_fI, jM.len_fL, jM.len_fR, *]; omega)) (by first | omega | (exact R.r _ _) | (simp only [jM.len_sI, jM.len_sL, jM.len_sR, jM.len_fI, jM.len_fL, jM.len_fR]; omega) | (simp [jM.len_nw, jM.len_sI, jM.len_sL, jM.len_sR, jM.len_fI, jM.len_fL, jM.len_fR, *]; omega)) (fun c82 => ?_) (fun c82 => ?_)
                                                    · first
                                                      | (exfalso; omega)
                                                      | (first | refine J.aload_n (pc' := 89) rfl rfl rfl ?_ | refine J.aload_nN (pc' := 89) rfl rfl rfl ?_
                                                         refine J.callV (pc' := 92) (t := 16) rfl MX12_layersInAll ml_X12_280 iv_X12_layersInAll (by decide) ⟨_, rfl, rfl⟩ B.1 (cm_layersInAll B) rfl rfl (Nat.le_of_ble_eq_true rfl) (by first | omega | (exact R.r _ _) | (simp only [jM.len_sI, jM.len_sL, jM.len_sR, jM.len_fI, jM.len_fL, jM.len_fR]; omega) | (simp [jM.len_nw, jM.len_sI, jM.len_sL, jM.len_sR, jM.len_fI, jM.len_fL, jM.len_fR, *]; omega)) (by first | omega | (exact R.r _ _) | (simp only [jM.len_sI, jM.len_sL, jM.len_sR, jM.len_fI, jM.len_fL, jM.len_fR]; omega) | (simp [jM.len_nw, jM.len_sI, jM.len_sL, jM.len_sR, jM.len_fI, jM.len_fL, jM.len_fR, *]; omega)) (by first | omega | (exact R.r _ _) | (simp only [jM.len_sI, jM.len_sL, jM.len_sR, jM.len_fI, jM.len_fL, jM.len_fR]; omega) | (simp [jM.len_nw, jM.len_sI, jM.len_sL, jM.len_sR, jM.len_fI, jM.len_fL, jM.len_fR, *]; omega)) rfl rfl ?_ ?_
                                                         · exact fun _ _ h => h
                                                         rintro _ _ ⟨rfl, rfl⟩
                                                         refine J.bipush (pc' := 94) rfl rfl (by decide) ?_
                                                         refine J.icmp_ne (tgt := 100) (pc' := 97) rfl rfl rfl (by first | omega | (exact R.r _ _) | (simp only [jM.len_sI, jM.len_sL, jM.len_sR, jM.len_fI, jM.len_fL, jM.len_fR]; omega) | (simp [jM.len_nw, jM.len_sI, jM.len_sL, jM.len_sR, jM.len_fI, jM.len_fL, jM.len_fR, *]; omega)) (by first | omega | (exact R.r _ _) | (simp only [jM.len_sI, jM.len_sL, jM.len_sR, jM.len_fI, jM.len_fL, jM.len_fR]; omega) | (simp [jM.len_nw, jM.len_sI, jM.len_sL, jM.len_sR, jM.len_fI, jM.len_fL, jM.len_fR, *]; omega)) (fun c94 => ?_) (fun c94 => ?_)
                                                         · first
                                                           | (exfalso; omega)
                                                           | (first | refine J.aload_n (pc' := 101) rfl rfl rfl ?_ | refine J.aload_nN (pc' := 101) rfl rfl rfl ?_
                                                              refine J.iload_n (pc' := 102) rfl rfl rfl ?_
                                                              first | refine J.aload_n (pc' := 103) rfl rfl rfl ?_ | refine J.aload_nN (pc' := 103) rfl rfl rfl ?_
                                                              refine J.mgI (pc' := 106) (j := 3) B rfl fl_X12_283 rfl rfl rfl ?_
                                                              refine J.callV (pc' := 109) (t := 16) rfl MX12_inForce ml_X12_264 iv_X12_inForce (by decide) ⟨_, rfl, rfl⟩ B.1 (cm_inForce B R hs (by omega)) rfl rfl (Nat.le_of_ble_eq_true rfl) (by first | omega | (exact R.r _ _) | (simp only [jM.len_sI, jM.len_sL, jM.len_sR, jM.len_fI, jM.len_fL, jM.len_fR]; omega) | (simp [jM.len_nw, jM.len_sI, jM.len_sL, jM.len_sR, jM.len_fI, jM.len_fL, jM.len_fR, *]; omega)) (by first | omega | (exact R.r _ _) | (simp only [jM.len_sI, jM.len_sL, jM.len_sR, jM.len_fI, jM.len_fL, jM.len_fR]; omega) | (simp [jM.len_nw, jM.len_sI, jM.len_sL, jM.len_sR, jM.len_fI, jM.len_fL, jM.len_fR, *]; omega)) (by first | omega | (exact R.r _ _) | (simp only [jM.len_sI, jM.len_sL, jM.len_sR, jM.len_fI, jM.len_fL, jM.len_fR]; omega) | (simp [jM.len_nw, jM.len_sI, jM.len_sL, jM.len_sR, jM.len_fI, jM.len_fL, jM.len_fR, *]; omega)) rfl rfl ?_ ?_
                                                              · exact fun _ _ h => h
                                                              rintro _ _ ⟨rfl, rfl⟩
                                                              refine J.istore (pc' := 111) rfl rfl (by decide) ?_
                                                              refine J.iload (pc' := 113) rfl rfl rfl ?_
                                                              refine J.iconst (pc' := 114) rfl rfl ?_
                                                              refine J.icmp_ne (tgt := 120) (pc' := 117) rfl rfl rfl (by first | omega | (exact R.r _ _) | (simp only [jM.len_sI, jM.len_sL, jM.len_sR, jM.len_fI, jM.len_fL, jM.len_fR]; omega) | (simp [jM.len_nw, jM.len_sI, jM.len_sL, jM.len_sR, jM.len_fI, jM.len_fL, jM.len_fR, *]; omega)) (by first | omega | (exact R.r _ _) | (simp only [jM.len_sI, jM.len_sL, jM.len_sR, jM.len_fI, jM.len_fL, jM.len_fR]; omega) | (simp [jM.len_nw, jM.len_sI, jM.len_sL, jM.len_sR, jM.len_fI, jM.len_fL, jM.len_fR, *]; omega)) (fun c114 => ?_) (fun c114 => ?_)
                                                              · first
                                                                | (exfalso; omega)
                                                                | (exact rest (by omega) (by omega) (by omega) (by omega) (by omega) (by unfold ldC; omega))
                                                              · first
                                                                | (exfalso; omega)
                                                                | (refine J.bipush (pc' := 119) rfl rfl (by decide) ?_
                                                                   refine J.iret rfl rfl (by first | omega | (exact R.r _ _) | (simp only [jM.len_sI, jM.len_sL, jM.len_sR, jM.len_fI, jM.len_fL, jM.len_fR]; omega) | (simp [jM.len_nw, jM.len_sI, jM.len_sL, jM.len_sR, jM.len_fI, jM.len_fL, jM.len_fR, *]; omega)) (by first | omega | (exact R.r _ _) | (simp only [jM.len_sI, jM.len_sL, jM.len_sR, jM.len_fI, jM.len_fL, jM.len_fR]; omega) | (simp [jM.len_nw, jM.len_sI, jM.len_sL, jM.len_sR, jM.len_fI, jM.len_fL, jM.len_fR, *]; omega)) ?_
                                                                   exact mQ.of (by unfold sp_load ldC; (repeat (first | rw [if_pos (by omega)] | rw [if_neg (by omega)])))))
                                                         · first
                                                           | (exfalso; omega)
                                                           | (refine J.bipush (pc' := 99) rfl rfl (by decide) ?_
                                                              refine J.iret rfl rfl (by first | omega | (exact R.r _ _) | (simp only [jM.len_sI, jM.len_sL, jM.len_sR, jM.len_fI, jM.len_fL, jM.len_fR]; omega) | (simp [jM.len_nw, jM.len_sI, jM.len_sL, jM.len_sR, jM.len_fI, jM.len_fL, jM.len_fR, *]; omega)) (by first | omega | (exact R.r _ _) | (simp only [jM.len_sI, jM.len_sL, jM.len_sR, jM.len_fI, jM.len_fL, jM.len_fR]; omega) | (simp [jM.len_nw, jM.len_sI, jM.len_sL, jM.len_sR, jM.len_fI, jM.len_fL, jM.len_fR, *]; omega)) ?_
                                                              exact mQ.of (by unfold sp_load ldC; (repeat (first | rw [if_pos (by omega)] | rw [if_neg (by omega)])))))
                                                    · first
                                                      | (exfalso; omega)
                                                      | (refine J.bipush (pc' := 87) rfl rfl (by decide) ?_
                                                         refine J.iret rfl rfl (by first | omega | (exact R.r _ _) | (simp only [jM.len_sI, jM.len_sL, jM.len_sR, jM.len_fI, jM.len_fL, jM.len_fR]; omega) | (simp [jM.len_nw, jM.len_sI, jM.len_sL, jM.len_sR, jM.len_fI, jM.len_fL, jM.len_fR, *]; omega)) (by first | omega | (exact R.r _ _) | (simp only [jM.len_sI, jM.len_sL, jM.len_sR, jM.len_fI, jM.len_fL, jM.len_fR]; omega) | (simp [jM.len_nw, jM.len_sI, jM.len_sL, jM.len_sR, jM.len_fI, jM.len_fL, jM.len_fR, *]; omega)) ?_
                                                         exact mQ.of (by unfold sp_load ldC; (repeat (first | rw [if_pos (by omega)] | rw [if_neg (by omega)])))))
                                               · first
                                                 | (exfalso; omega)
                                                 | (refine J.iconst (pc' := 75) rfl rfl ?_
                                                    refine J.iret rfl rfl (by first | omega | (exact R.r _ _) | (simp only [jM.len_sI, jM.len_sL, jM.len_sR, jM.len_fI, jM.len_fL, jM.len_fR]; omega) | (simp [jM.len_nw, jM.len_sI, jM.len_sL, jM.len_sR, jM.len_fI, jM.len_fL, jM.len_fR, *]; omega)) (by first | omega | (exact R.r _ _) | (simp only [jM.len_sI, jM.len_sL, jM.len_sR, jM.len_fI, jM.len_fL, jM.len_fR]; omega) | (simp [jM.len_nw, jM.len_sI, jM.len_sL, jM.len_sR, jM.len_fI, jM.len_fL, jM.len_fR, *]; omega)) ?_
                                                    exact mQ.of (by unfold sp_load ldC; (repeat (first | rw [if_pos (by omega)] | rw [if_neg (by omega)])))))
                                          · first
                                            | (exfalso; omega)
                                            | (refine J.iconst (pc' := 63) rfl rfl ?_
                                               refine J.goto (tgt := 67) rfl rfl ?_
                                               refine J.iconst (pc' := 68) rfl rfl ?_
                                               first | refine J.callV (pc' := 71) (t := 16) rfl MX12_may ml_X12_161 iv_X12_may (by decide) ⟨_, rfl, rfl⟩ B.1 (cm_may1 B h0) rfl rfl (Nat.le_of_ble_eq_true rfl) (by first | omega | (exact R.r _ _) | (simp only [jM.len_sI, jM.len_sL, jM.len_sR, jM.len_fI, jM.len_fL, jM.len_fR]; omega) | (simp [jM.len_nw, jM.len_sI, jM.len_sL, jM.len_sR, jM.len_fI, jM.len_fL, jM.len_fR, *]; omega)) (by first | omega | (exact R.r _ _) | (simp only [jM.len_sI, jM.len_sL, jM.len_sR, jM.len_fI, jM.len_fL, jM.len_fR]; omega) | (simp [jM.len_nw, jM.len_sI, jM.len_sL, jM.len_sR, jM.len_fI, jM.len_fL, jM.len_fR, *]; omega)) (by first | omega | (exact R.r _ _) | (simp only [jM.len_sI, jM.len_sL, jM.len_sR, jM.len_fI, jM.len_fL, jM.len_fR]; omega) | (simp [jM.len_nw, jM.len_sI, jM.len_sL, jM.len_sR, jM.len_fI, jM.len_fL, jM.len_fR, *]; omega)) rfl rfl ?_ ?_ | refine J.callV (pc' := 71) (t := 16) rfl MX12_may ml_X12_161 iv_X12_may (by decide) ⟨_, rfl, rfl⟩ B.1 (cm_may0 B h0 (by omega)) rfl rfl (Nat.le_of_ble_eq_true rfl) (by first | omega | (exact R.r _ _) | (simp only [jM.len_sI, jM.len_sL, jM.len_sR, jM.len_fI, jM.len_fL, jM.len_fR]; omega) | (simp [jM.len_nw, jM.len_sI, jM.len_sL, jM.len_sR, jM.len_fI, jM.len_fL, jM.len_fR, *]; omega)) (by first | omega | (exact R.r _ _) | (simp only [jM.len_sI, jM.len_sL, jM.len_sR, jM.len_fI, jM.len_fL, jM.len_fR]; omega) | (simp [jM.len_nw, jM.len_sI, jM.len_sL, jM.len_sR, jM.len_fI, jM.len_fL, jM.len_fR, *]; omega)) (by first | omega | (exact R.r _ _) | (simp only [jM.len_sI, jM.len_sL, jM.len_sR, jM.len_fI, jM.len_fL, jM.len_fR]; omega) | (simp [jM.len_nw, jM.len_sI, jM.len_sL, jM.len_sR, jM.len_fI, jM.len_fL, jM.len_fR, *]; omega)) rfl rfl ?_ ?_
                                               · exact fun _ _ h => h
                                               rintro _ _ ⟨rfl, rfl⟩
                                               refine J.if_ne (tgt := 76) (pc' := 74) rfl rfl rfl (by first | omega | (exact R.r _ _) | (simp only [jM.len_sI, jM.len_sL, jM.len_sR, jM.len_fI, jM.len_fL, jM.len_fR]; omega) | (simp [jM.len_nw, jM.len_sI, jM.len_sL, jM.len_sR, jM.len_fI, jM.len_fL, jM.len_fR, *]; omega)) (fun c71 => ?_) (fun c71 => ?_)
                                               · first
                                                 | (exfalso; omega)
                                                 | (first | refine J.aload_n (pc' := 77) rfl rfl rfl ?_ | refine J.aload_nN (pc' := 77) rfl rfl rfl ?_
                                                    refine J.mgI (pc' := 80) (j := 26) B rfl fl_X12_277 rfl rfl rfl ?_
                                                    refine J.bipush (pc' := 82) rfl rfl (by decide) ?_
                                                    refine J.icmp_ne (tgt := 88) (pc' := 85) rfl rfl rfl (by first | omega | (exact R.r _ _) | (simp only [jM.len_sI, jM.len_sL, jM.len_sR, jM.len_fI, jM.len_fL, jM.len_fR]; omega) | (simp [jM.len_nw, jM.len_sI, jM.len_sL, jM.len_sR, jM.len_fI, jM.len_fL, jM.len_fR, *]; omega)) (by first | omega | (exact R.r _ _) | (simp only [jM.len_sI, jM.len_sL, jM.len_sR, jM.len_fI, jM.len_fL, jM.len_fR]; omega) | (simp [jM.len_nw, jM.len_sI, jM.len_sL, jM.len_sR, jM.len_fI, jM.len_fL, jM.len_fR, *]; omega)) (fun c82 => ?_) (fun c82 => ?_)
                                                    · first
                                                      | (exfalso; omega)
                                                      | (first | refine J.aload_n (pc' := 89) rfl rfl rfl ?_ | refine J.aload_nN (pc' := 89) rfl rfl rfl ?_
                                                         refine J.callV (pc' := 92) (t := 16) rfl MX12_layersInAll ml_X12_280 iv_X12_layersInAll (by decide) ⟨_, rfl, rfl⟩ B.1 (cm_layersInAll B) rfl rfl (Nat.le_of_ble_eq_true rfl) (by first | omega | (exact R.r _ _) | (simp only [jM.len_sI, jM.len_sL, jM.len_sR, jM.len_fI, jM.len_fL, jM.len_fR]; omega) | (simp [jM.len_nw, jM.len_sI, jM.len_sL, jM.len_sR, jM.len_fI, jM.len_fL, jM.len_fR, *]; omega)) (by first | omega | (exact R.r _ _) | (simp only [jM.len_sI, jM.len_sL, jM.len_sR, jM.len_fI, jM.len_fL, jM.len_fR]; omega) | (simp [jM.len_nw, jM.len_sI, jM.len_sL, jM.len_sR, jM.len_fI, jM.len_fL, jM.len_fR, *]; omega)) (by first | omega | (exact R.r _ _) | (simp only [jM.len_sI, jM.len_sL, jM.len_sR, jM.len_fI, jM.len_fL, jM.len_fR]; omega) | (simp [jM.len_nw, jM.len_sI, jM.len_sL, jM.len_sR, jM.len_fI, jM.len_fL, jM.len_fR, *]; omega)) rfl rfl ?_ ?_
                                                         · exact fun _ _ h => h
                                                         rintro _ _ ⟨rfl, rfl⟩
                                                         refine J.bipush (pc' := 94) rfl rfl (by decide) ?_
                                                         refine J.icmp_ne (tgt := 100) (pc' := 97) rfl rfl rfl (by first | omega | (exact R.r _ _) | (simp only [jM.len_sI, jM.len_sL, jM.len_sR, jM.len_fI, jM.len_fL, jM.len_fR]; omega) | (simp [jM.len_nw, jM.len_sI, jM.len_sL, jM.len_sR, jM.len_fI, jM.len_fL, jM.len_fR, *]; omega)) (by first | omega | (exact R.r _ _) | (simp only [jM.len_sI, jM.len_sL, jM.len_sR, jM.len_fI, jM.len_fL, jM.len_fR]; omega) | (simp [jM.len_nw, jM.len_sI, jM.len_sL, jM.len_sR, jM.len_fI, jM.len_fL, jM.len_fR, *]; omega)) (fun c94 => ?_) (fun c94 => ?_)
                                                         · first
                                                           | (exfalso; omega)
                                                           | (first | refine J.aload_n (pc' := 101) rfl rfl rfl ?_ | refine J.aload_nN (pc' := 101) rfl rfl rfl ?_
                                                              refine J.iload_n (pc' := 102) rfl rfl rfl ?_
                                                              first | refine J.aload_n (pc' := 103) rfl rfl rfl ?_ | refine J.aload_nN (pc' := 103) rfl rfl rfl ?_
                                                              refine J.mgI (pc' := 106) (j := 3) B rfl fl_X12_283 rfl rfl rfl ?_
                                                              refine J.callV (pc' := 109) (t := 16) rfl MX12_inForce ml_X12_264 iv_X12_inForce (by decide) ⟨_, rfl, rfl⟩ B.1 (cm_inForce B R hs (by omega)) rfl rfl (Nat.le_of_ble_eq_true rfl) (by first | omega | (exact R.r _ _) | (simp only [jM.len_sI, jM.len_sL, jM.len_sR, jM.len_fI, jM.len_fL, jM.len_fR]; omega) | (simp [jM.len_nw, jM.len_sI, jM.len_sL, jM.len_sR, jM.len_fI, jM.len_fL, jM.len_fR, *]; omega)) (by first | omega | (exact R.r _ _) | (simp only [jM.len_sI, jM.len_sL, jM.len_sR, jM.len_fI, jM.len_fL, jM.len_fR]; omega) | (simp [jM.len_nw, jM.len_sI, jM.len_sL, jM.len_sR, jM.len_fI, jM.len_fL, jM.len_fR, *]; omega)) (by first | omega | (exact R.r _ _) | (simp only [jM.len_sI, jM.len_sL, jM.len_sR, jM.len_fI, jM.len_fL, jM.len_fR]; omega) | (simp [jM.len_nw, jM.len_sI, jM.len_sL, jM.len_sR, jM.len_fI, jM.len_fL, jM.len_fR, *]; omega)) rfl rfl ?_ ?_
                                                              · exact fun _ _ h => h
                                                              rintro _ _ ⟨rfl, rfl⟩
                                                              refine J.istore (pc' := 111) rfl rfl (by decide) ?_
                                                              refine J.iload (pc' := 113) rfl rfl rfl ?_
                                                              refine J.iconst (pc' := 114) rfl rfl ?_
                                                              refine J.icmp_ne (tgt := 120) (pc' := 117) rfl rfl rfl (by first | omega | (exact R.r _ _) | (simp only [jM.len_sI, jM.len_sL, jM.len_sR, jM.len_fI, jM.len_fL, jM.len_fR]; omega) | (simp [jM.len_nw, jM.len_sI, jM.len_sL, jM.len_sR, jM.len_fI, jM.len_fL, jM.len_fR, *]; omega)) (by first | omega | (exact R.r _ _) | (simp only [jM.len_sI, jM.len_sL, jM.len_sR, jM.len_fI, jM.len_fL, jM.len_fR]; omega) | (simp [jM.len_nw, jM.len_sI, jM.len_sL, jM.len_sR, jM.len_fI, jM.len_fL, jM.len_fR, *]; omega)) (fun c114 => ?_) (fun c114 => ?_)
                                                              · first
                                                                | (exfalso; omega)
                                                                | (exact rest (by omega) (by omega) (by omega) (by omega) (by omega) (by unfold ldC; omega))
                                                              · first
                                                                | (exfalso; omega)
                                                                | (refine J.bipush (pc' := 119) rfl rfl (by decide) ?_
                                                                   refine J.iret rfl rfl (by first | omega | (exact R.r _ _) | (simp only [jM.len_sI, jM.len_sL, jM.len_sR, jM.len_fI, jM.len_fL, jM.len_fR]; omega) | (simp [jM.len_nw, jM.len_sI, jM.len_sL, jM.len_sR, jM.len_fI, jM.len_fL, jM.len_fR, *]; omega)) (by first | omega | (exact R.r _ _) | (simp only [jM.len_sI, jM.len_sL, jM.len_sR, jM.len_fI, jM.len_fL, jM.len_fR]; omega) | (simp [jM.len_nw, jM.len_sI, jM.len_sL, jM.len_sR, jM.len_fI, jM.len_fL, jM.len_fR, *]; omega)) ?_
                                                                   exact mQ.of (by unfold sp_load ldC; (repeat (first | rw [if_pos (by omega)] | rw [if_neg (by omega)])))))
                                                         · first
                                                           | (exfalso; omega)
                                                           | (refine J.bipush (pc' := 99) rfl rfl (by decide) ?_
                                                              refine J.iret rfl rfl (by first | omega | (exact R.r _ _) | (simp only [jM.len_sI, jM.len_sL, jM.len_sR, jM.len_fI, jM.len_fL, jM.len_fR]; omega) | (simp [jM.len_nw, jM.len_sI, jM.len_sL, jM.len_sR, jM.len_fI, jM.len_fL, jM.len_fR, *]; omega)) (by first | omega | (exact R.r _ _) | (simp only [jM.len_sI, jM.len_sL, jM.len_sR, jM.len_fI, jM.len_fL, jM.len_fR]; omega) | (simp [jM.len_nw, jM.len_sI, jM.len_sL, jM.len_sR, jM.len_fI, jM.len_fL, jM.len_fR, *]; omega)) ?_
                                                              exact mQ.of (by unfold sp_load ldC; (repeat (first | rw [if_pos (by omega)] | rw [if_neg (by omega)])))))
                                                    · first
                                                      | (exfalso; omega)
                                                      | (refine J.bipush (pc' := 87) rfl rfl (by decide) ?_
                                                         refine J.iret rfl rfl (by first | omega | (exact R.r _ _) | (simp only [jM.len_sI, jM.len_sL, jM.len_sR, jM.len_fI, jM.len_fL, jM.len_fR]; omega) | (simp [jM.len_nw, jM.len_sI, jM.len_sL, jM.len_sR, jM.len_fI, jM.len_fL, jM.len_fR, *]; omega)) (by first | omega | (exact R.r _ _) | (simp only [jM.len_sI, jM.len_sL, jM.len_sR, jM.len_fI, jM.len_fL, jM.len_fR]; omega) | (simp [jM.len_nw, jM.len_sI, jM.len_sL, jM.len_sR, jM.len_fI, jM.len_fL, jM.len_fR, *]; omega)) ?_
                                                         exact mQ.of (by unfold sp_load ldC; (repeat (first | rw [if_pos (by omega)] | rw [if_neg (by omega)])))))
                                               · first
                                                 | (exfalso; omega)
                                                 | (refine J.iconst (pc' := 75) rfl rfl ?_
                                                    refine J.iret rfl rfl (by first | omega | (exact R.r _ _) | (simp only [jM.len_sI, jM.len_sL, jM.len_sR, jM.len_fI, jM.len_fL, jM.len_fR]; omega) | (simp [jM.len_nw, jM.len_sI, jM.len_sL, jM.len_sR, jM.len_fI, jM.len_fL, jM.len_fR, *]; omega)) (by first | omega | (exact R.r _ _) | (simp only [jM.len_sI, jM.len_sL, jM.len_sR, jM.len_fI, jM.len_fL, jM.len_fR]; omega) | (simp [jM.len_nw, jM.len_sI, jM.len_sL, jM.len_sR, jM.len_fI, jM.len_fL, jM.len_fR, *]; omega)) ?_
                                                    exact mQ.of (by unfold sp_load ldC; (repeat (first | rw [if_pos (by omega)] | rw [if_neg (by omega)])))))))))))))
  · first
    | (exfalso; omega)
    | (refine J.if_eq (tgt := 74) (pc' := 13) rfl rfl rfl (by first | omega | (exact R.r _ _) | (simp only [jM.len_sI, jM.len_sL, jM.len_sR, jM.len_fI, jM.len_fL, jM.len_fR]; omega) | (simp [jM.len_nw, jM.len_sI, jM.len_sL, jM.len_sR, jM.len_fI, jM.len_fL, jM.len_fR, *]; omega)) (fun c10 => ?_) (fun c10 => ?_)
       · first
         | (exfalso; omega)
         | (refine J.iconst (pc' := 75) rfl rfl ?_
            refine J.iret rfl rfl (by first | omega | (exact R.r _ _) | (simp only [jM.len_sI, jM.len_sL, jM.len_sR, jM.len_fI, jM.len_fL, jM.len_fR]; omega) | (simp [jM.len_nw, jM.len_sI, jM.len_sL, jM.len_sR, jM.len_fI, jM.len_fL, jM.len_fR, *]; omega)) (by first | omega | (exact R.r _ _) | (simp only [jM.len_sI, jM.len_sL, jM.len_sR, jM.len_fI, jM.len_fL, jM.len_fR]; omega) | (simp [jM.len_nw, jM.len_sI, jM.len_sL, jM.len_sR, jM.len_fI, jM.len_fL, jM.len_fR, *]; omega)) ?_
            exact mQ.of (by unfold sp_load ldC; (repeat (first | rw [if_pos (by omega)] | rw [if_neg (by omega)]))))
       · first
         | (exfalso; omega)
         | (first | refine J.aload_n (pc' := 14) rfl rfl rfl ?_ | refine J.aload_nN (pc' := 14) rfl rfl rfl ?_
            refine J.iload_n (pc' := 15) rfl rfl rfl ?_
            refine J.if_lt (tgt := 30) (pc' := 18) rfl rfl rfl (by first | omega | (exact R.r _ _) | (simp only [jM.len_sI, jM.len_sL, jM.len_sR, jM.len_fI, jM.len_fL, jM.len_fR]; omega) | (simp [jM.len_nw, jM.len_sI, jM.len_sL, jM.len_sR, jM.len_fI, jM.len_fL, jM.len_fR, *]; omega)) (fun c15 => ?_) (fun c15 => ?_)
            · first
              | (exfalso; omega)
              | (refine J.iconst (pc' := 31) rfl rfl ?_
                 refine J.iconst (pc' := 32) rfl rfl ?_
                 first | refine J.callV (pc' := 35) (t := 16) rfl MX12_may ml_X12_161 iv_X12_may (by decide) ⟨_, rfl, rfl⟩ B.1 (cm_may1 B h0) rfl rfl (Nat.le_of_ble_eq_true rfl) (by first | omega | (exact R.r _ _) | (simp only [jM.len_sI, jM.len_sL, jM.len_sR, jM.len_fI, jM.len_fL, jM.len_fR]; omega) | (simp [jM.len_nw, jM.len_sI, jM.len_sL, jM.len_sR, jM.len_fI, jM.len_fL, jM.len_fR, *]; omega)) (by first | omega | (exact R.r _ _) | (simp only [jM.len_sI, jM.len_sL, jM.len_sR, jM.len_fI, jM.len_fL, jM.len_fR]; omega) | (simp [jM.len_nw, jM.len_sI, jM.len_sL, jM.len_sR, jM.len_fI, jM.len_fL, jM.len_fR, *]; omega)) (by first | omega | (exact R.r _ _) | (simp only [jM.len_sI, jM.len_sL, jM.len_sR, jM.len_fI, jM.len_fL, jM.len_fR]; omega) | (simp [jM.len_nw, jM.len_sI, jM.len_sL, jM.len_sR, jM.len_fI, jM.len_fL, jM.len_fR, *]; omega)) rfl rfl ?_ ?_ | refine J.callV (pc' := 35) (t := 16) rfl MX12_may ml_X12_161 iv_X12_may (by decide) ⟨_, rfl, rfl⟩ B.1 (cm_may0 B h0 (by omega)) rfl rfl (Nat.le_of_ble_eq_true rfl) (by first | omega | (exact R.r _ _) | (simp only [jM.len_sI, jM.len_sL, jM.len_sR, jM.len_fI, jM.len_fL, jM.len_fR]; omega) | (simp [jM.len_nw, jM.len_sI, jM.len_sL, jM.len_sR, jM.len_fI, jM.len_fL, jM.len_fR, *]; omega)) (by first | omega | (exact R.r _ _) | (simp only [jM.len_sI, jM.len_sL, jM.len_sR, jM.len_fI, jM.len_fL, jM.len_fR]; omega) | (simp [jM.len_nw, jM.len_sI, jM.len_sL, jM.len_sR, jM.len_fI, jM.len_fL, jM.len_fR, *]; omega)) (by first | omega | (exact R.r _ _) | (simp only [jM.len_sI, jM.len_sL, jM.len_sR, jM.len_fI, jM.len_fL, jM.len_fR]; omega) | (simp [jM.len_nw, jM.len_sI, jM.len_sL, jM.len_sR, jM.len_fI, jM.len_fL, jM.len_fR, *]; omega)) rfl rfl ?_ ?_
                 · exact fun _ _ h => h
                 rintro _ _ ⟨rfl, rfl⟩
                 refine J.if_eq (tgt := 74) (pc' := 38) rfl rfl rfl (by first | omega | (exact R.r _ _) | (simp only [jM.len_sI, jM.len_sL, jM.len_sR, jM.len_fI, jM.len_fL, jM.len_fR]; omega) | (simp [jM.len_nw, jM.len_sI, jM.len_sL, jM.len_sR, jM.len_fI, jM.len_fL, jM.len_fR, *]; omega)) (fun c35 => ?_) (fun c35 => ?_)
                 · first
                   | (exfalso; omega)
                   | (refine J.iconst (pc' := 75) rfl rfl ?_
                      refine J.iret rfl rfl (by first | omega | (exact R.r _ _) | (simp only [jM.len_sI, jM.len_sL, jM.len_sR, jM.len_fI, jM.len_fL, jM.len_fR]; omega) | (simp [jM.len_nw, jM.len_sI, jM.len_sL, jM.len_sR, jM.len_fI, jM.len_fL, jM.len_fR, *]; omega)) (by first | omega | (exact R.r _ _) | (simp only [jM.len_sI, jM.len_sL, jM.len_sR, jM.len_fI, jM.len_fL, jM.len_fR]; omega) | (simp [jM.len_nw, jM.len_sI, jM.len_sL, jM.len_sR, jM.len_fI, jM.len_fL, jM.len_fR, *]; omega)) ?_
                      exact mQ.of (by unfold sp_load ldC; (repeat (first | rw [if_pos (by omega)] | rw [if_neg (by omega)]))))
                 · first
                   | (exfalso; omega)
                   | (first | refine J.aload_n (pc' := 39) rfl rfl rfl ?_ | refine J.aload_nN (pc' := 39) rfl rfl rfl ?_
                      refine J.iload_n (pc' := 40) rfl rfl rfl ?_
                      refine J.if_lt (tgt := 66) (pc' := 43) rfl rfl rfl (by first | omega | (exact R.r _ _) | (simp only [jM.len_sI, jM.len_sL, jM.len_sR, jM.len_fI, jM.len_fL, jM.len_fR]; omega) | (simp [jM.len_nw, jM.len_sI, jM.len_sL, jM.len_sR, jM.len_fI, jM.len_fL, jM.len_fR, *]; omega)) (fun c40 => ?_) (fun c40 => ?_)
                      · first
                        | (exfalso; omega)
                        | (refine J.iconst (pc' := 67) rfl rfl ?_
                           refine J.iconst (pc' := 68) rfl rfl ?_
                           first | refine J.callV (pc' := 71) (t := 16) rfl MX12_may ml_X12_161 iv_X12_may (by decide) ⟨_, rfl, rfl⟩ B.1 (cm_may1 B h0) rfl rfl (Nat.le_of_ble_eq_true rfl) (by first | omega | (exact R.r _ _) | (simp only [jM.len_sI, jM.len_sL, jM.len_sR, jM.len_fI, jM.len_fL, jM.len_fR]; omega) | (simp [jM.len_nw, jM.len_sI, jM.len_sL, jM.len_sR, jM.len_fI, jM.len_fL, jM.len_fR, *]; omega)) (by first | omega | (exact R.r _ _) | (simp only [jM.len_sI, jM.len_sL, jM.len_sR, jM.len_fI, jM.len_fL, jM.len_fR]; omega) | (simp [jM.len_nw, jM.len_sI, jM.len_sL, jM.len_sR, jM.len_fI, jM.len_fL, jM.len_fR, *]; omega)) (by first | omega | (exact R.r _ _) | (simp only [jM.len_sI, jM.len_sL, jM.len_sR, jM.len_fI, jM.len_fL, jM.len_fR]; omega) | (simp [jM.len_nw, jM.len_sI, jM.len_sL, jM.len_sR, jM.len_fI, jM.len_fL, jM.len_fR, *]; omega)) rfl rfl ?_ ?_ | refine J.callV (pc' := 71) (t := 16) rfl MX12_may ml_X12_161 iv_X12_may (by decide) ⟨_, rfl, rfl⟩ B.1 (cm_may0 B h0 (by omega)) rfl rfl (Nat.le_of_ble_eq_true rfl) (by first | omega | (exact R.r _ _) | (simp only [jM.len_sI, jM.len_sL, jM.len_sR, jM.len_fI, jM.len_fL, jM.len_fR]; omega) | (simp [jM.len_nw, jM.len_sI, jM.len_sL, jM.len_sR, jM.len_fI, jM.len_fL, jM.len_fR, *]; omega)) (by first | omega | (exact R.r _ _) | (simp only [jM.len_sI, jM.len_sL, jM.len_sR, jM.len_fI, jM.len_fL, jM.len_fR]; omega) | (simp [jM.len_nw, jM.len_sI, jM.len_sL, jM.len_sR, jM.len_fI, jM.len_fL, jM.len_fR, *]; omega)) (by first | omega | (exact R.r _ _) | (simp only [jM.len_sI, jM.len_sL, jM.len_sR, jM.len_fI, jM.len_fL, jM.len_fR]; omega) | (simp [jM.len_nw, jM.len_sI, jM.len_sL, jM.len_sR, jM.len_fI, jM.len_fL, jM.len_fR, *]; omega)) rfl rfl ?_ ?_
                           · exact fun _ _ h => h
                           rintro _ _ ⟨rfl, rfl⟩
                           refine J.if_ne (tgt := 76) (pc' := 74) rfl rfl rfl (by first | omega | (exact R.r _ _) | (simp only [jM.len_sI, jM.len_sL, jM.len_sR, jM.len_fI, jM.len_fL, jM.len_fR]; omega) | (simp [jM.len_nw, jM.len_sI, jM.len_sL, jM.len_sR, jM.len_fI, jM.len_fL, jM.len_fR, *]; omega)) (fun c71 => ?_) (fun c71 => ?_)
                           · first
                             | (exfalso; omega)
                             | (first | refine J.aload_n (pc' := 77) rfl rfl rfl ?_ | refine J.aload_nN (pc' := 77) rfl rfl rfl ?_
                                refine J.mgI (pc' := 80) (j := 26) B rfl fl_X12_277 rfl rfl rfl ?_
                                refine J.bipush (pc' := 82) rfl rfl (by decide) ?_
                                refine J.icmp_ne (tgt := 88) (pc' := 85) rfl rfl rfl (by first | omega | (exact R.r _ _) | (simp only [jM.len_sI, jM.len_sL, jM.len_sR, jM.len_fI, jM.len_fL, jM.len_fR]; omega) | (simp [jM.len_nw, jM.len_sI, jM.len_sL, jM.len_sR, jM.len_fI, jM.len_fL, jM.len_fR, *]; omega)) (by first | omega | (exact R.r _ _) | (simp only [jM.len_sI, jM.len_sL, jM.len_sR, jM.len_fI, jM.len_fL, jM.len_fR]; omega) | (simp [jM.len_nw, jM.len_sI, jM.len_sL, jM.len_sR, jM.len_fI, jM.len_fL, jM.len_fR, *]; omega)) (fun c82 => ?_) (fun c82 => ?_)
                                · first
                                  | (exfalso; omega)
                                  | (first | refine J.aload_n (pc' := 89) rfl rfl rfl ?_ | refine J.aload_nN (pc' := 89) rfl rfl rfl ?_
                                     refine J.callV (pc' := 92) (t := 16) rfl MX12_layersInAll ml_X12_280 iv_X12_layersInAll (by decide) ⟨_, rfl, rfl⟩ B.1 (cm_layersInAll B) rfl rfl (Nat.le_of_ble_eq_true rfl) (by first | omega | (exact R.r _ _) | (simp only [jM.len_sI, jM.len_sL, jM.len_sR, jM.len_fI, jM.len_fL, jM.len_fR]; omega) | (simp [jM.len_nw, jM.len_sI, jM.len_sL, jM.len_sR, jM.len_fI, jM.len_fL, jM.len_fR, *]; omega)) (by first | omega | (exact R.r _ _) | (simp only [jM.len_sI, jM.len_sL, jM.len_sR, jM.len_fI, jM.len_fL, jM.len_fR]; omega) | (simp [jM.len_nw, jM.len_sI, jM.len_sL, jM.len_sR, jM.len_fI, jM.len_fL, jM.len_fR, *]; omega)) (by first | omega | (exact R.r _ _) | (simp only [jM.len_sI, jM.len_sL, jM.len_sR, jM.len_fI, jM.len_fL, jM.len_fR]; omega) | (simp [jM.len_nw, jM.len_sI, jM.len_sL, jM.len_sR, jM.len_fI, jM.len_fL, jM.len_fR, *]; omega)) rfl rfl ?_ ?_
                                     · exact fun _ _ h => h
                                     rintro _ _ ⟨rfl, rfl⟩
                                     refine J.bipush (pc' := 94) rfl rfl (by decide) ?_
                                     refine J.icmp_ne (tgt := 100) (pc' := 97) rfl rfl rfl (by first | omega | (exact R.r _ _) | (simp only [jM.len_sI, jM.len_sL, jM.len_sR, jM.len_fI, jM.len_fL, jM.len_fR]; omega) | (simp [jM.len_nw, jM.len_sI, jM.len_sL, jM.len_sR, jM.len_fI, jM.len_fL, jM.len_fR, *]; omega)) (by first | omega | (exact R.r _ _) | (simp only [jM.len_sI, jM.len_sL, jM.len_sR, jM.len_fI, jM.len_fL, jM.len_fR]; omega) | (simp [jM.len_nw, jM.len_sI, jM.len_sL, jM.len_sR, jM.len_fI, jM.len_fL, jM.len_fR, *]; omega)) (fun c94 => ?_) (fun c94 => ?_)
                                     · first
                                       | (exfalso; omega)
                                       | (first | refine J.aload_n (pc' := 101) rfl rfl rfl ?_ | refine J.aload_nN (pc' := 101) rfl rfl rfl ?_
                                          refine J.iload_n (pc' := 102) rfl rfl rfl ?_
                                          first | refine J.aload_n (pc' := 103) rfl rfl rfl ?_ | refine J.aload_nN (pc' := 103) rfl rfl rfl ?_
                                          refine J.mgI (pc' := 106) (j := 3) B rfl fl_X12_283 rfl rfl rfl ?_
                                          refine J.callV (pc' := 109) (t := 16) rfl MX12_inForce ml_X12_264 iv_X12_inForce (by decide) ⟨_, rfl, rfl⟩ B.1 (cm_inForce B R hs (by omega)) rfl rfl (Nat.le_of_ble_eq_true rfl) (by first | omega | (exact R.r _ _) | (simp only [jM.len_sI, jM.len_sL, jM.len_sR, jM.len_fI, jM.len_fL, jM.len_fR]; omega) | (simp [jM.len_nw, jM.len_sI, jM.len_sL, jM.len_sR, jM.len_fI, jM.len_fL, jM.len_fR, *]; omega)) (by first | omega | (exact R.r _ _) | (simp only [jM.len_sI, jM.len_sL, jM.len_sR, jM.len_fI, jM.len_fL, jM.len_fR]; omega) | (simp [jM.len_nw, jM.len_sI, jM.len_sL, jM.len_sR, jM.len_fI, jM.len_fL, jM.len_fR, *]; omega)) (by first | omega | (exact R.r _ _) | (simp only [jM.len_sI, jM.len_sL, jM.len_sR, jM.len_fI, jM.len_fL, jM.len_fR]; omega) | (simp [jM.len_nw, jM.len_sI, jM.len_sL, jM.len_sR, jM.len_fI, jM.len_fL, jM.len_fR, *]; omega)) rfl rfl ?_ ?_
                                          · exact fun _ _ h => h
                                          rintro _ _ ⟨rfl, rfl⟩
                                          refine J.istore (pc' := 111) rfl rfl (by decide) ?_
                                          refine J.iload (pc' := 113) rfl rfl rfl ?_
                                          refine J.iconst (pc' := 114) rfl rfl ?_
                                          refine J.icmp_ne (tgt := 120) (pc' := 117) rfl rfl rfl (by first | omega | (exact R.r _ _) | (simp only [jM.len_sI, jM.len_sL, jM.len_sR, jM.len_fI, jM.len_fL, jM.len_fR]; omega) | (simp [jM.len_nw, jM.len_sI, jM.len_sL, jM.len_sR, jM.len_fI, jM.len_fL, jM.len_fR, *]; omega)) (by first | omega | (exact R.r _ _) | (simp only [jM.len_sI, jM.len_sL, jM.len_sR, jM.len_fI, jM.len_fL, jM.len_fR]; omega) | (simp [jM.len_nw, jM.len_sI, jM.len_sL, jM.len_sR, jM.len_fI, jM.len_fL, jM.len_fR, *]; omega)) (fun c114 => ?_) (fun c114 => ?_)
                                          · first
                                            | (exfalso; omega)
                                            | (exact rest (by omega) (by omega) (by omega) (by omega) (by omega) (by unfold ldC; omega))
                                          · first
                                            | (exfalso; omega)
                                            | (refine J.bipush (pc' := 119) rfl rfl (by decide) ?_
                                               refine J.iret rfl rfl (by first | omega | (exact R.r _ _) | (simp only [jM.len_sI, jM.len_sL, jM.len_sR, jM.len_fI, jM.len_fL, jM.len_fR]; omega) | (simp [jM.len_nw, jM.len_sI, jM.len_sL, jM.len_sR, jM.len_fI, jM.len_fL, jM.len_fR, *]; omega)) (by first | omega | (exact R.r _ _) | (simp only [jM.len_sI, jM.len_sL, jM.len_sR, jM.len_fI, jM.len_fL, jM.len_fR]; omega) | (simp [jM.len_nw, jM.len_sI, jM.len_sL, jM.len_sR, jM.len_fI, jM.len_fL, jM.len_fR, *]; omega)) ?_
                                               exact mQ.of (by unfold sp_load ldC; (repeat (first | rw [if_pos (by omega)] | rw [if_neg (by omega)])))))
                                     · first
                                       | (exfalso; omega)
                                       | (refine J.bipush (pc' := 99) rfl rfl (by decide) ?_
                                          refine J.iret rfl rfl (by first | omega | (exact R.r _ _) | (simp only [jM.len_sI, jM.len_sL, jM.len_sR, jM.len_fI, jM.len_fL, jM.len_fR]; omega) | (simp [jM.len_nw, jM.len_sI, jM.len_sL, jM.len_sR, jM.len_fI, jM.len_fL, jM.len_fR, *]; omega)) (by first | omega | (exact R.r _ _) | (simp only [jM.len_sI, jM.len_sL, jM.len_sR, jM.len_fI, jM.len_fL, jM.len_fR]; omega) | (simp [jM.len_nw, jM.len_sI, jM.len_sL, jM.len_sR, jM.len_fI, jM.len_fL, jM.len_fR, *]; omega)) ?_
                                          exact mQ.of (by unfold sp_load ldC; (repeat (first | rw [if_pos (by omega)] | rw [if_neg (by omega)])))))
                                · first
                                  | (exfalso; omega)
                                  | (refine J.bipush (pc' := 87) rfl rfl (by decide) ?_
                                     refine J.iret rfl rfl (by first | omega | (exact R.r _ _) | (simp only [jM.len_sI, jM.len_sL, jM.len_sR, jM.len_fI, jM.len_fL, jM.len_fR]; omega) | (simp [jM.len_nw, jM.len_sI, jM.len_sL, jM.len_sR, jM.len_fI, jM.len_fL, jM.len_fR, *]; omega)) (by first | omega | (exact R.r _ _) | (simp only [jM.len_sI, jM.len_sL, jM.len_sR, jM.len_fI, jM.len_fL, jM.len_fR]; omega) | (simp [jM.len_nw, jM.len_sI, jM.len_sL, jM.len_sR, jM.len_fI, jM.len_fL, jM.len_fR, *]; omega)) ?_
                                     exact mQ.of (by unfold sp_load ldC; (repeat (first | rw [if_pos (by omega)] | rw [if_neg (by omega)])))))
                           · first
                             | (exfalso; omega)
                             | (refine J.iconst (pc' := 75) rfl rfl ?_
                                refine J.iret rfl rfl (by first | omega | (exact R.r _ _) | (simp only [jM.len_sI, jM.len_sL, jM.len_sR, jM.len_fI, jM.len_fL, jM.len_fR]; omega) | (simp [jM.len_nw, jM.len_sI, jM.len_sL, jM.len_sR, jM.len_fI, jM.len_fL, jM.len_fR, *]; omega)) (by first | omega | (exact R.r _ _) | (simp only [jM.len_sI, jM.len_sL, jM.len_sR, jM.len_fI, jM.len_fL, jM.len_fR]; omega) | (simp [jM.len_nw, jM.len_sI, jM.len_sL, jM.len_sR, jM.len_fI, jM.len_fL, jM.len_fR, *]; omega)) ?_
                                exact mQ.of (by unfold sp_load ldC; (repeat (first | rw [if_pos (by omega)] | rw [if_neg (by omega)])))))
                      · first
                        | (exfalso; omega)
                        | (refine J.iload_n (pc' := 44) rfl rfl rfl ?_
                           refine J.bipush (pc' := 46) rfl rfl (by decide) ?_
                           refine J.icmp_ge (tgt := 66) (pc' := 49) rfl rfl rfl (by first | omega | (exact R.r _ _) | (simp only [jM.len_sI, jM.len_sL, jM.len_sR, jM.len_fI, jM.len_fL, jM.len_fR]; omega) | (simp [jM.len_nw, jM.len_sI, jM.len_sL, jM.len_sR, jM.len_fI, jM.len_fL, jM.len_fR, *]; omega)) (by first | omega | (exact R.r _ _) | (simp only [jM.len_sI, jM.len_sL, jM.len_sR, jM.len_fI, jM.len_fL, jM.len_fR]; omega) | (simp [jM.len_nw, jM.len_sI, jM.len_sL, jM.len_sR, jM.len_fI, jM.len_fL, jM.len_fR, *]; omega)) (fun c46 => ?_) (fun c46 => ?_)
                           · first
                             | (exfalso; omega)
                             | (refine J.iconst (pc' := 67) rfl rfl ?_
                                refine J.iconst (pc' := 68) rfl rfl ?_
                                first | refine J.callV (pc' := 71) (t := 16) rfl MX12_may ml_X12_161 iv_X12_may (by decide) ⟨_, rfl, rfl⟩ B.1 (cm_may1 B h0) rfl rfl (Nat.le_of_ble_eq_true rfl) (by first | omega | (exact R.r _ _) | (simp only [jM.len_sI, jM.len_sL, jM.len_sR, jM.len_fI, jM.len_fL, jM.len_fR]; omega) | (simp [jM.len_nw, jM.len_sI, jM.len_sL, jM.len_sR, jM.len_fI, jM.len_fL, jM.len_fR, *]; omega)) (by first | omega | (exact R.r _ _) | (simp only [jM.len_sI, jM.len_sL, jM.len_sR, jM.len_fI, jM.len_fL, jM.len_fR]; omega) | (simp [jM.len_nw, jM.len_sI, jM.len_sL, jM.len_sR, jM.len_fI, jM.len_fL, jM.len_fR, *]; omega)) (by first | omega | (exact R.r _ _) | (simp only [jM.len_sI, jM.len_sL, jM.len_sR, jM.len_fI, jM.len_fL, jM.len_fR]; omega) | (simp [jM.len_nw, jM.len_sI, jM.len_sL, jM.len_sR, jM.len_fI, jM.len_fL, jM.len_fR, *]; omega)) rfl rfl ?_ ?_ | refine J.callV (pc' := 71) (t := 16) rfl MX12_may ml_X12_161 iv_X12_may (by decide) ⟨_, rfl, rfl⟩ B.1 (cm_may0 B h0 (by omega)) rfl rfl (Nat.le_of_ble_eq_true rfl) (by first | omega | (exact R.r _ _) | (simp only [jM.len_sI, jM.len_sL, jM.len_sR, jM.len_fI, jM.len_fL, jM.len_fR]; omega) | (simp [jM.len_nw, jM.len_sI, jM.len_sL, jM.len_sR, jM.len_fI, jM.len_fL, jM.len_fR, *]; omega)) (by first | omega | (exact R.r _ _) | (simp only [jM.len_sI, jM.len_sL, jM.len_sR, jM.len_fI, jM.len_fL, jM.len_fR]; omega) | (simp [jM.len_nw, jM.len_sI, jM.len_sL, jM.len_sR, jM.len_fI, jM.len_fL, jM.len_fR, *]; omega)) (by first | omega | (exact R.r _ _) | (simp only [jM.len_sI, jM.len_sL, jM.len_sR, jM.len_fI, jM.len_fL, jM.len_fR]; omega) | (simp [jM.len_nw, jM.len_sI, jM.len_sL, jM.len_sR, jM.len_fI, jM.len_fL, jM.len_fR, *]; omega)) rfl rfl ?_ ?_
                                · exact fun _ _ h => h
                                rintro _ _ ⟨rfl, rfl⟩
                                refine J.if_ne (tgt := 76) (pc' := 74) rfl rfl rfl (by first | omega | (exact R.r _ _) | (simp only [jM.len_sI, jM.len_sL, jM.len_sR, jM.len_fI, jM.len_fL, jM.len_fR]; omega) | (simp [jM.len_nw, jM.len_sI, jM.len_sL, jM.len_sR, jM.len_fI, jM.len_fL, jM.len_fR, *]; omega)) (fun c71 => ?_) (fun c71 => ?_)
                                · first
                                  | (exfalso; omega)
                                  | (first | refine J.aload_n (pc' := 77) rfl rfl rfl ?_ | refine J.aload_nN (pc' := 77) rfl rfl rfl ?_
                                     refine J.mgI (pc' := 80) (j := 26) B rfl fl_X12_277 rfl rfl rfl ?_
                                     refine J.bipush (pc' := 82) rfl rfl (by decide) ?_
                                     refine J.icmp_ne (tgt := 88) (pc' := 85) rfl rfl rfl (by first | omega | (exact R.r _ _) | (simp only [jM.len_sI, jM.len_sL, jM.len_sR, jM.len_fI, jM.len_fL, jM.len_fR]; omega) | (simp [jM.len_nw, jM.len_sI, jM.len_sL, jM.len_sR, jM.len_fI, jM.len_fL, jM.len_fR, *]; omega)) (by first | omega | (exact R.r _ _) | (simp only [jM.len_sI, jM.len_sL, jM.len_sR, jM.len_fI, jM.len_fL, jM.len_fR]; omega) | (simp [jM.len_nw, jM.len_sI, jM.len_sL, jM.len_sR, jM.len_fI, jM.len_fL, jM.len_fR, *]; omega)) (fun c82 => ?_) (fun c82 => ?_)
                                     · first
                                       | (exfalso; omega)
                                       | (first | refine J.aload_n (pc' := 89) rfl rfl rfl ?_ | refine J.aload_nN (pc' := 89) rfl rfl rfl ?_
                                          refine J.callV (pc' := 92) (t := 16) rfl MX12_layersInAll ml_X12_280 iv_X12_layersInAll (by decide) ⟨_, rfl, rfl⟩ B.1 (cm_layersInAll B) rfl rfl (Nat.le_of_ble_eq_true rfl) (by first | omega | (exact R.r _ _) | (simp only [jM.len_sI, jM.len_sL, jM.len_sR, jM.len_fI, jM.len_fL, jM.len_fR]; omega) | (simp [jM.len_nw, jM.len_sI, jM.len_sL, jM.len_sR, jM.len_fI, jM.len_fL, jM.len_fR, *]; omega)) (by first | omega | (exact R.r _ _) | (simp only [jM.len_sI, jM.len_sL, jM.len_sR, jM.len_fI, jM.len_fL, jM.len_fR]; omega) | (simp [jM.len_nw, jM.len_sI, jM.len_sL, jM.len_sR, jM.len_fI, jM.len_fL, jM.len_fR, *]; omega)) (by first | omega | (exact R.r _ _) | (simp only [jM.len_sI, jM.len_sL, jM.len_sR, jM.len_fI, jM.len_fL, jM.len_fR]; omega) | (simp [jM.len_nw, jM.len_sI, jM.len_sL, jM.len_sR, jM.len_fI, jM.len_fL, jM.len_fR, *]; omega)) rfl rfl ?_ ?_
                                          · exact fun _ _ h => h
                                          rintro _ _ ⟨rfl, rfl⟩
                                          refine J.bipush (pc' := 94) rfl rfl (by decide) ?_
                                          refine J.icmp_ne (tgt := 100) (pc' := 97) rfl rfl rfl (by first | omega | (exact R.r _ _) | (simp only [jM.len_sI, jM.len_sL, jM.len_sR, jM.len_fI, jM.len_fL, jM.len_fR]; omega) | (simp [jM.len_nw, jM.len_sI, jM.len_sL, jM.len_sR, jM.len_fI, jM.len_fL, jM.len_fR, *]; omega)) (by first | omega | (exact R.r _ _) | (simp only [jM.len_sI, jM.len_sL, jM.len_sR, jM.len_fI, jM.len_fL, jM.len_fR]; omega) | (simp [jM.len_nw, jM.len_sI, jM.len_sL, jM.len_sR, jM.len_fI, jM.len_fL, jM.len_fR, *]; omega)) (fun c94 => ?_) (fun c94 => ?_)
                                          · first
                                            | (exfalso; omega)
                                            | (first | refine J.aload_n (pc' := 101) rfl rfl rfl ?_ | refine J.aload_nN (pc' := 101) rfl rfl rfl ?_
                                               refine J.iload_n (pc' := 102) rfl rfl rfl ?_
                                               first | refine J.aload_n (pc' := 103) rfl rfl rfl ?_ | refine J.aload_nN (pc' := 103) rfl rfl rfl ?_
                                               refine J.mgI (pc' := 106) (j := 3) B rfl fl_X12_283 rfl rfl rfl ?_
                                               refine J.callV (pc' := 109) (t := 16) rfl MX12_inForce ml_X12_264 iv_X12_inForce (by decide) ⟨_, rfl, rfl⟩ B.1 (cm_inForce B R hs (by omega)) rfl rfl (Nat.le_of_ble_eq_true rfl) (by first | omega | (exact R.r _ _) | (simp only [jM.len_sI, jM.len_sL, jM.len_sR, jM.len_fI, jM.len_fL, jM.len_fR]; omega) | (simp [jM.len_nw, jM.len_sI, jM.len_sL, jM.len_sR, jM.len_fI, jM.len_fL, jM.len_fR, *]; omega)) (by first | omega | (exact R.r _ _) | (simp only [jM.len_sI, jM.len_sL, jM.len_sR, jM.len_fI, jM.len_fL, jM.len_fR]; omega) | (simp [jM.len_nw, jM.len_sI, jM.len_sL, jM.len_sR, jM.len_fI, jM.len_fL, jM.len_fR, *]; omega)) (by first | omega | (exact R.r _ _) | (simp only [jM.len_sI, jM.len_sL, jM.len_sR, jM.len_fI, jM.len_fL, jM.len_fR]; omega) | (simp [jM.len_nw, jM.len_sI, jM.len_sL, jM.len_sR, jM.len_fI, jM.len_fL, jM.len_fR, *]; omega)) rfl rfl ?_ ?_
                                               · exact fun _ _ h => h
                                               rintro _ _ ⟨rfl, rfl⟩
                                               refine J.istore (pc' := 111) rfl rfl (by decide) ?_
                                               refine J.iload (pc' := 113) rfl rfl rfl ?_
                                               refine J.iconst (pc' := 114) rfl rfl ?_
                                               refine J.icmp_ne (tgt := 120) (pc' := 117) rfl rfl rfl (by first | omega | (exact R.r _ _) | (simp only [jM.len_sI, jM.len_sL, jM.len_sR, jM.len_fI, jM.len_fL, jM.len_fR]; omega) | (simp [jM.len_nw, jM.len_sI, jM.len_sL, jM.len_sR, jM.len_fI, jM.len_fL, jM.len_fR, *]; omega)) (by first | omega | (exact R.r _ _) | (simp only [jM.len_sI, jM.len_sL, jM.len_sR, jM.len_fI, jM.len_fL, jM.len_fR]; omega) | (simp [jM.len_nw, jM.len_sI, jM.len_sL, jM.len_sR, jM.len_fI, jM.len_fL, jM.len_fR, *]; omega)) (fun c114 => ?_) (fun c114 => ?_)
                                               · first
                                                 | (exfalso; omega)
                                                 | (exact rest (by omega) (by omega) (by omega) (by omega) (by omega) (by unfold ldC; omega))
                                               · first
                                                 | (exfalso; omega)
                                                 | (refine J.bipush (pc' := 119) rfl rfl (by decide) ?_
                                                    refine J.iret rfl rfl (by first | omega | (exact R.r _ _) | (simp only [jM.len_sI, jM.len_sL, jM.len_sR, jM.len_fI, jM.len_fL, jM.len_fR]; omega) | (simp [jM.len_nw, jM.len_sI, jM.len_sL, jM.len_sR, jM.len_fI, jM.len_fL, jM.len_fR, *]; omega)) (by first | omega | (exact R.r _ _) | (simp only [jM.len_sI, jM.len_sL, jM.len_sR, jM.len_fI, jM.len_fL, jM.len_fR]; omega) | (simp [jM.len_nw, jM.len_sI, jM.len_sL, jM.len_sR, jM.len_fI, jM.len_fL, jM.len_fR, *]; omega)) ?_
                                                    exact mQ.of (by unfold sp_load ldC; (repeat (first | rw [if_pos (by omega)] | rw [if_neg (by omega)])))))
                                          · first
                                            | (exfalso; omega)
                                            | (refine J.bipush (pc' := 99) rfl rfl (by decide) ?_
                                               refine J.iret rfl rfl (by first | omega | (exact R.r _ _) | (simp only [jM.len_sI, jM.len_sL, jM.len_sR, jM.len_fI, jM.len_fL, jM.len_fR]; omega) | (simp [jM.len_nw, jM.len_sI, jM.len_sL, jM.len_sR, jM.len_fI, jM.len_fL, jM.len_fR, *]; omega)) (by first | omega | (exact R.r _ _) | (simp only [jM.len_sI, jM.len_sL, jM.len_sR, jM.len_fI, jM.len_fL, jM.len_fR]; omega) | (simp [jM.len_nw, jM.len_sI, jM.len_sL, jM.len_sR, jM.len_fI, jM.len_fL, jM.len_fR, *]; omega)) ?_
                                               exact mQ.of (by unfold sp_load ldC; (repeat (first | rw [if_pos (by omega)] | rw [if_neg (by omega)])))))
                                     · first
                                       | (exfalso; omega)
                                       | (refine J.bipush (pc' := 87) rfl rfl (by decide) ?_
                                          refine J.iret rfl rfl (by first | omega | (exact R.r _ _) | (simp only [jM.len_sI, jM.len_sL, jM.len_sR, jM.len_fI, jM.len_fL, jM.len_fR]; omega) | (simp [jM.len_nw, jM.len_sI, jM.len_sL, jM.len_sR, jM.len_fI, jM.len_fL, jM.len_fR, *]; omega)) (by first | omega | (exact R.r _ _) | (simp only [jM.len_sI, jM.len_sL, jM.len_sR, jM.len_fI, jM.len_fL, jM.len_fR]; omega) | (simp [jM.len_nw, jM.len_sI, jM.len_sL, jM.len_sR, jM.len_fI, jM.len_fL, jM.len_fR, *]; omega)) ?_
                                          exact mQ.of (by unfold sp_load ldC; (repeat (first | rw [if_pos (by omega)] | rw [if_neg (by omega)])))))
                                · first
                                  | (exfalso; omega)
                                  | (refine J.iconst (pc' := 75) rfl rfl ?_
                                     refine J.iret rfl rfl (by first | omega | (exact R.r _ _) | (simp only [jM.len_sI, jM.len_sL, jM.len_sR, jM.len_fI, jM.len_fL, jM.len_fR]; omega) | (simp [jM.len_nw, jM.len_sI, jM.len_sL, jM.len_sR, jM.len_fI, jM.len_fL, jM.len_fR, *]; omega)) (by first | omega | (exact R.r _ _) | (simp only [jM.len_sI, jM.len_sL, jM.len_sR, jM.len_fI, jM.len_fL, jM.len_fR]; omega) | (simp [jM.len_nw, jM.len_sI, jM.len_sL, jM.len_sR, jM.len_fI, jM.len_fL, jM.len_fR, *]; omega)) ?_
                                     exact mQ.of (by unfold sp_load ldC; (repeat (first | rw [if_pos (by omega)] | rw [if_neg (by omega)])))))
                           · first
                             | (exfalso; omega)
                             | (refine J.iload (pc' := 51) rfl rfl rfl ?_
                                refine J.iconst (pc' := 52) rfl rfl ?_
                                refine J.icmp_lt (tgt := 66) (pc' := 55) rfl rfl rfl (by first | omega | (exact R.r _ _) | (simp only [jM.len_sI, jM.len_sL, jM.len_sR, jM.len_fI, jM.len_fL, jM.len_fR]; omega) | (simp [jM.len_nw, jM.len_sI, jM.len_sL, jM.len_sR, jM.len_fI, jM.len_fL, jM.len_fR, *]; omega)) (by first | omega | (exact R.r _ _) | (simp only [jM.len_sI, jM.len_sL, jM.len_sR, jM.len_fI, jM.len_fL, jM.len_fR]; omega) | (simp [jM.len_nw, jM.len_sI, jM.len_sL, jM.len_sR, jM.len_fI, jM.len_fL, jM.len_fR, *]; omega)) (fun c52 => ?_) (fun c52 => ?_)
                                · first
                                  | (exfalso; omega)
                                  | (refine J.iconst (pc' := 67) rfl rfl ?_
                                     refine J.iconst (pc' := 68) rfl rfl ?_
                                     first | refine J.callV (pc' := 71) (t := 16) rfl MX12_may ml_X12_161 iv_X12_may (by decide) ⟨_, rfl, rfl⟩ B.1 (cm_may1 B h0) rfl rfl (Nat.le_of_ble_eq_true rfl) (by first | omega | (exact R.r _ _) | (simp only [jM.len_sI, jM.len_sL, jM.len_sR, jM.len_fI, jM.len_fL, jM.len_fR]; omega) | (simp [jM.len_nw, jM.len_sI, jM.len_sL, jM.len_sR, jM.len_fI, jM.len_fL, jM.len_fR, *]; omega)) (by first | omega | (exact R.r _ _) | (simp only [jM.len_sI, jM.len_sL, jM.len_sR, jM.len_fI, jM.len_fL, jM.len_fR]; omega) | (simp [jM.len_nw, jM.len_sI, jM.len_sL, jM.len_sR, jM.len_fI, jM.len_fL, jM.len_fR, *]; omega)) (by first | omega | (exact R.r _ _) | (simp only [jM.len_sI, jM.len_sL, jM.len_sR, jM.len_fI, jM.len_fL, jM.len_fR]; omega) | (simp [jM.len_nw, jM.len_sI, jM.len_sL, jM.len_sR, jM.len_fI, jM.len_fL, jM.len_fR, *]; omega)) rfl rfl ?_ ?_ | refine J.callV (pc' := 71) (t := 16) rfl MX12_may ml_X12_161 iv_X12_may (by decide) ⟨_, rfl, rfl⟩ B.1 (cm_may0 B h0 (by omega)) rfl rfl (Nat.le_of_ble_eq_true rfl) (by first | omega | (exact R.r _ _) | (simp only [jM.len_sI, jM.len_sL, jM.len_sR, jM.len_fI, jM.len_fL, jM.len_fR]; omega) | (simp [jM.len_nw, jM.len_sI, jM.len_sL, jM.len_sR, jM.len_fI, jM.len_fL, jM.len_fR, *]; omega)) (by first | omega | (exact R.r _ _) | (simp only [jM.len_sI, jM.len_sL, jM.len_sR, jM.len_fI, jM.len_fL, jM.len_fR]; omega) | (simp [jM.len_nw, jM.len_sI, jM.len_sL, jM.len_sR, jM.len_fI, jM.len_fL, jM.len_fR, *]; omega)) (by first | omega | (exact R.r _ _) | (simp only [jM.len_sI, jM.len_sL, jM.len_sR, jM.len_fI, jM.len_fL, jM.len_fR]; omega) | (simp [jM.len_nw, jM.len_sI, jM.len_sL, jM.len_sR, jM.len_fI, jM.len_fL, jM.len_fR, *]; omega)) rfl rfl ?_ ?_
                                     · exact fun _ _ h => h
                                     rintro _ _ ⟨rfl, rfl⟩
                                     refine J.if_ne (tgt := 76) (pc' := 74) rfl rfl rfl (by first | omega | (exact R.r _ _) | (simp only [jM.len_sI, jM.len_sL, jM.len_sR, jM.len_fI, jM.len_fL, jM.len_fR]; omega) | (simp [jM.len_nw, jM.len_sI, jM.len_sL, jM.len_sR, jM.len_fI, jM.len_fL, jM.len_fR, *]; omega)) (fun c71 => ?_) (fun c71 => ?_)
                                     · first
                                       | (exfalso; omega)
                                       | (first | refine J.aload_n (pc' := 77) rfl rfl rfl ?_ | refine J.aload_nN (pc' := 77) rfl rfl rfl ?_
                                          refine J.mgI (pc' := 80) (j := 26) B rfl fl_X12_277 rfl rfl rfl ?_
                                          refine J.bipush (pc' := 82) rfl rfl (by decide) ?_
                                          refine J.icmp_ne (tgt := 88) (pc' := 85) rfl rfl rfl (by first | omega | (exact R.r _ _) | (simp only [jM.len_sI, jM.len_sL, jM.len_sR, jM.len_fI, jM.len_fL, jM.len_fR]; omega) | (simp [jM.len_nw, jM.len_sI, jM.len_sL, jM.len_sR, jM.len_fI, jM.len_fL, jM.len_fR, *]; omega)) (by first | omega | (exact R.r _ _) | (simp only [jM.len_sI, jM.len_sL, jM.len_sR, jM.len_fI, jM.len_fL, jM.len_fR]; omega) | (simp [jM.len_nw, jM.len_sI, jM.len_sL, jM.len_sR, jM.len_fI, jM.len_fL, jM.len_fR, *]; omega)) (fun c82 => ?_) (fun c82 => ?_)
                                          · first
                                            | (exfalso; omega)
                                            | (first | refine J.aload_n (pc' := 89) rfl rfl rfl ?_ | refine J.aload_nN (pc' := 89) rfl rfl rfl ?_
                                               refine J.callV (pc' := 92) (t := 16) rfl MX12_layersInAll ml_X12_280 iv_X12_layersInAll (by decide) ⟨_, rfl, rfl⟩ B.1 (cm_layersInAll B) rfl rfl (Nat.le_of_ble_eq_true rfl) (by first | omega | (exact R.r _ _) | (simp only [jM.len_sI, jM.len_sL, jM.len_sR, jM.len_fI, jM.len_fL, jM.len_fR]; omega) | (simp [jM.len_nw, jM.len_sI, jM.len_sL, jM.len_sR, jM.len_fI, jM.len_fL, jM.len_fR, *]; omega)) (by first | omega | (exact R.r _ _) | (simp only [jM.len_sI, jM.len_sL, jM.len_sR, jM.len_fI, jM.len_fL, jM.len_fR]; omega) | (simp [jM.len_nw, jM.len_sI, jM.len_sL, jM.len_sR, jM.len_fI, jM.len_fL, jM.len_fR, *]; omega)) (by first | omega | (exact R.r _ _) | (simp only [jM.len_sI, jM.len_sL, jM.len_sR, jM.len_fI, jM.len_fL, jM.len_fR]; omega) | (simp [jM.len_nw, jM.len_sI, jM.len_sL, jM.len_sR, jM.len_fI, jM.len_fL, jM.len_fR, *]; omega)) rfl rfl ?_ ?_
                                               · exact fun _ _ h => h
                                               rintro _ _ ⟨rfl, rfl⟩
                                               refine J.bipush (pc' := 94) rfl rfl (by decide) ?_
                                               refine J.icmp_ne (tgt := 100) (pc' := 97) rfl rfl rfl (by first | omega | (exact R.r _ _) | (simp only [jM.len_sI, jM.len_sL, jM.len_sR, jM.len_fI, jM.len_fL, jM.len_fR]; omega) | (simp [jM.len_nw, jM.len_sI, jM.len_sL, jM.len_sR, jM.len_fI, jM.len_fL, jM.len_fR, *]; omega)) (by first | omega | (exact R.r _ _) | (simp only [jM.len_sI, jM.len_sL, jM.len_sR, jM.len_fI, jM.len_fL, jM.len_fR]; omega) | (simp [jM.len_nw, jM.len_sI, jM.len_sL, jM.len_sR, jM.len_fI, jM.len_fL, jM.len_fR, *]; omega)) (fun c94 => ?_) (fun c94 => ?_)
                                               · first
                                                 | (exfalso; omega)
                                                 | (first | refine J.aload_n (pc' := 101) rfl rfl rfl ?_ | refine J.aload_nN (pc' := 101) rfl rfl rfl ?_
                                                    refine J.iload_n (pc' := 102) rfl rfl rfl ?_
                                                    first | refine J.aload_n (pc' := 103) rfl rfl rfl ?_ | refine J.aload_nN (pc' := 103) rfl rfl rfl ?_
                                                    refine J.mgI (pc' := 106) (j := 3) B rfl fl_X12_283 rfl rfl rfl ?_
                                                    refine J.callV (pc' := 109) (t := 16) rfl MX12_inForce ml_X12_264 iv_X12_inForce (by decide) ⟨_, rfl, rfl⟩ B.1 (cm_inForce B R hs (by omega)) rfl rfl (Nat.le_of_ble_eq_true rfl) (by first | omega | (exact R.r _ _) | (simp only [jM.len_sI, jM.len_sL, jM.len_sR, jM.len_fI, jM.len_fL, jM.len_fR]; omega) | (simp [jM.len_nw, jM.len_sI, jM.len_sL, jM.len_sR, jM.len_fI, jM.len_fL, jM.len_fR, *]; omega)) (by first | omega | (exact R.r _ _) | (simp only [jM.len_sI, jM.len_sL, jM.len_sR, jM.len_fI, jM.len_fL, jM.len_fR]; omega) | (simp [jM.len_nw, jM.len_sI, jM.len_sL, jM.len_sR, jM.len_fI, jM.len_fL, jM.len_fR, *]; omega)) (by first | omega | (exact R.r _ _) | (simp only [jM.len_sI, jM.len_sL, jM.len_sR, jM.len_fI, jM.len_fL, jM.len_fR]; omega) | (simp [jM.len_nw, jM.len_sI, jM.len_sL, jM.len_sR, jM.len_fI, jM.len_fL, jM.len_fR, *]; omega)) rfl rfl ?_ ?_
                                                    · exact fun _ _ h => h
                                                    rintro _ _ ⟨rfl, rfl⟩
                                                    refine J.istore (pc' := 111) rfl rfl (by decide) ?_
                                                    refine J.iload (pc' := 113) rfl rfl rfl ?_
                                                    refine J.iconst (pc' := 114) rfl rfl ?_
                                                    refine J.icmp_ne (tgt := 120) (pc' := 117) rfl rfl rfl (by first | omega | (exact R.r _ _) | (simp only [jM.len_sI, jM.len_sL, jM.len_sR, jM.len_fI, jM.len_fL, jM.len_fR]; omega) | (simp [jM.len_nw, jM.len_sI, jM.len_sL, jM.len_sR, jM.len_fI, jM.len_fL, jM.len_fR, *]; omega)) (by first | omega | (exact R.r _ _) | (simp only [jM.len_sI, jM.len_sL, jM.len_sR, jM.len_fI, jM.len_fL, jM.len_fR]; omega) | (simp [jM.len_nw, jM.len_sI, jM.len_sL, jM.len_sR, jM.len_fI, jM.len_fL, jM.len_fR, *]; omega)) (fun c114 => ?_) (fun c114 => ?_)
                                                    · first
                                                      | (exfalso; omega)
                                                      | (exact rest (by omega) (by omega) (by omega) (by omega) (by omega) (by unfold ldC; omega))
                                                    · first
                                                      | (exfalso; omega)
                                                      | (refine J.bipush (pc' := 119) rfl rfl (by decide) ?_
                                                         refine J.iret rfl rfl (by first | omega | (exact R.r _ _) | (simp only [jM.len_sI, jM.len_sL, jM.len_sR, jM.len_fI, jM.len_fL, jM.len_fR]; omega) | (simp [jM.len_nw, jM.len_sI, jM.len_sL, jM.len_sR, jM.len_fI, jM.len_fL, jM.len_fR, *]; omega)) (by first | omega | (exact R.r _ _) | (simp only [jM.len_sI, jM.len_sL, jM.len_sR, jM.len_fI, jM.len_fL, jM.len_fR]; omega) | (simp [jM.len_nw, jM.len_sI, jM.len_sL, jM.len_sR, jM.len_fI, jM.len_fL, jM.len_fR, *]; omega)) ?_
                                                         exact mQ.of (by unfold sp_load ldC; (repeat (first | rw [if_pos (by omega)] | rw [if_neg (by omega)])))))
                                               · first
                                                 | (exfalso; omega)
                                                 | (refine J.bipush (pc' := 99) rfl rfl (by decide) ?_
                                                    refine J.iret rfl rfl (by first | omega | (exact R.r _ _) | (simp only [jM.len_sI, jM.len_sL, jM.len_sR, jM.len_fI, jM.len_fL, jM.len_fR]; omega) | (simp [jM.len_nw, jM.len_sI, jM.len_sL, jM.len_sR, jM.len_fI, jM.len_fL, jM.len_fR, *]; omega)) (by first | omega | (exact R.r _ _) | (simp only [jM.len_sI, jM.len_sL, jM.len_sR, jM.len_fI, jM.len_fL, jM.len_fR]; omega) | (simp [jM.len_nw, jM.len_sI, jM.len_sL, jM.len_sR, jM.len_fI, jM.len_fL, jM.len_fR, *]; omega)) ?_
                                                    exact mQ.of (by unfold sp_load ldC; (repeat (first | rw [if_pos (by omega)] | rw [if_neg (by omega)])))))
                                          · first
                                            | (exfalso; omega)
                                            | (refine J.bipush (pc' := 87) rfl rfl (by decide) ?_
                                               refine J.iret rfl rfl (by first | omega | (exact R.r _ _) | (simp only [jM.len_sI, jM.len_sL, jM.len_sR, jM.len_fI, jM.len_fL, jM.len_fR]; omega) | (simp [jM.len_nw, jM.len_sI, jM.len_sL, jM.len_sR, jM.len_fI, jM.len_fL, jM.len_fR, *]; omega)) (by first | omega | (exact R.r _ _) | (simp only [jM.len_sI, jM.len_sL, jM.len_sR, jM.len_fI, jM.len_fL, jM.len_fR]; omega) | (simp [jM.len_nw, jM.len_sI, jM.len_sL, jM.len_sR, jM.len_fI, jM.len_fL, jM.len_fR, *]; omega)) ?_
                                               exact mQ.of (by unfold sp_load ldC; (repeat (first | rw [if_pos (by omega)] | rw [if_neg (by omega)])))))
                                     · first
                                       | (exfalso; omega)
                                       | (refine J.iconst (pc' := 75) rfl rfl ?_
                                          refine J.iret rfl rfl (by first | omega | (exact R.r _ _) | (simp only [jM.len_sI, jM.len_sL, jM.len_sR, jM.len_fI, jM.len_fL, jM.len_fR]; omega) | (simp [jM.len_nw, jM.len_sI, jM.len_sL, jM.len_sR, jM.len_fI, jM.len_fL, jM.len_fR, *]; omega)) (by first | omega | (exact R.r _ _) | (simp only [jM.len_sI, jM.len_sL, jM.len_sR, jM.len_fI, jM.len_fL, jM.len_fR]; omega) | (simp [jM.len_nw, jM.len_sI, jM.len_sL, jM.len_sR, jM.len_fI, jM.len_fL, jM.len_fR, *]; omega)) ?_
                                          exact mQ.of (by unfold sp_load ldC; (repeat (first | rw [if_pos (by omega)] | rw [if_neg (by omega)])))))
                                · first
                                  | (exfalso; omega)
                                  | (refine J.iload (pc' := 57) rfl rfl rfl ?_
                                     refine J.bipush (pc' := 59) rfl rfl (by decide) ?_
                                     refine J.icmp_gt (tgt := 66) (pc' := 62) rfl rfl rfl (by first | omega | (exact R.r _ _) | (simp only [jM.len_sI, jM.len_sL, jM.len_sR, jM.len_fI, jM.len_fL, jM.len_fR]; omega) | (simp [jM.len_nw, jM.len_sI, jM.len_sL, jM.len_sR, jM.len_fI, jM.len_fL, jM.len_fR, *]; omega)) (by first | omega | (exact R.r _ _) | (simp only [jM.len_sI, jM.len_sL, jM.len_sR, jM.len_fI, jM.len_fL, jM.len_fR]; omega) | (simp [jM.len_nw, jM.len_sI, jM.len_sL, jM.len_sR, jM.len_fI, jM.len_fL, jM.len_fR, *]; omega)) (fun c59 => ?_) (fun c59 => ?_)
                                     · first
                                       | (exfalso; omega)
                                       | (refine J.iconst (pc' := 67) rfl rfl ?_
                                          refine J.iconst (pc' := 68) rfl rfl ?_
                                          first | refine J.callV (pc' := 71) (t := 16) rfl MX12_may ml_X12_161 iv_X12_may (by decide) ⟨_, rfl, rfl⟩ B.1 (cm_may1 B h0) rfl rfl (Nat.le_of_ble_eq_true rfl) (by first | omega | (exact R.r _ _) | (simp only [jM.len_sI, jM.len_sL, jM.len_sR, jM.len_fI, jM.len_fL, jM.len_fR]; omega) | (simp [jM.len_nw, jM.len_sI, jM.len_sL, jM.len_sR, jM.len_fI, jM.len_fL, jM.len_fR, *]; omega)) (by first | omega | (exact R.r _ _) | (simp only [jM.len_sI, jM.len_sL, jM.len_sR, jM.len_fI, jM.len_fL, jM.len_fR]; omega) | (simp [jM.len_nw, jM.len_sI, jM.len_sL, jM.len_sR, jM.len_fI, jM.len_fL, jM.len_fR, *]; omega)) (by first | omega | (exact R.r _ _) | (simp only [jM.len_sI, jM.len_sL, jM.len_sR, jM.len_fI, jM.len_fL, jM.len_fR]; omega) | (simp [jM.len_nw, jM.len_sI, jM.len_sL, jM.len_sR, jM.len_fI, jM.len_fL, jM.len_fR, *]; omega)) rfl rfl ?_ ?_ | refine J.callV (pc' := 71) (t := 16) rfl MX12_may ml_X12_161 iv_X12_may (by decide) ⟨_, rfl, rfl⟩ B.1 (cm_may0 B h0 (by omega)) rfl rfl (Nat.le_of_ble_eq_true rfl) (by first | omega | (exact R.r _ _) | (simp only [jM.len_sI, jM.len_sL, jM.len_sR, jM.len_fI, jM.len_fL, jM.len_fR]; omega) | (simp [jM.len_nw, jM.len_sI, jM.len_sL, jM.len_sR, jM.len_fI, jM.len_fL, jM.len_fR, *]; omega)) (by first | omega | (exact R.r _ _) | (simp only [jM.len_sI, jM.len_sL, jM.len_sR, jM.len_fI, jM.len_fL, jM.len_fR]; omega) | (simp [jM.len_nw, jM.len_sI, jM.len_sL, jM.len_sR, jM.len_fI, jM.len_fL, jM.len_fR, *]; omega)) (by first | omega | (exact R.r _ _) | (simp only [jM.len_sI, jM.len_sL, jM.len_sR, jM.len_fI, jM.len_fL, jM.len_fR]; omega) | (simp [jM.len_nw, jM.len_sI, jM.len_sL, jM.len_sR, jM.len_fI, jM.len_fL, jM.len_fR, *]; omega)) rfl rfl ?_ ?_
                                          · exact fun _ _ h => h
                                          rintro _ _ ⟨rfl, rfl⟩
                                          refine J.if_ne (tgt := 76) (pc' := 74) rfl rfl rfl (by first | omega | (exact R.r _ _) | (simp only [jM.len_sI, jM.len_sL, jM.len_sR, jM.len_fI, jM.len_fL, jM.len_fR]; omega) | (simp [jM.len_nw, jM.len_sI, jM.len_sL, jM.len_sR, jM.len_fI, jM.len_fL, jM.len_fR, *]; omega)) (fun c71 => ?_) (fun c71 => ?_)
                                          · first
                                            | (exfalso; omega)
                                            | (first | refine J.aload_n (pc' := 77) rfl rfl rfl ?_ | refine J.aload_nN (pc' := 77) rfl rfl rfl ?_
                                               refine J.mgI (pc' := 80) (j := 26) B rfl fl_X12_277 rfl rfl rfl ?_
                                               refine J.bipush (pc' := 82) rfl rfl (by decide) ?_
                                               refine J.icmp_ne (tgt := 88) (pc' := 85) rfl rfl rfl (by first | omega | (exact R.r _ _) | (simp only [jM.len_sI, jM.len_sL, jM.len_sR, jM.len_fI, jM.len_fL, jM.len_fR]; omega) | (simp [jM.len_nw, jM.len_sI, jM.len_sL, jM.len_sR, jM.len_fI, jM.len_fL, jM.len_fR, *]; omega)) (by first | omega | (exact R.r _ _) | (simp only [jM.len_sI, jM.len_sL, jM.len_sR, jM.len_fI, jM.len_fL, jM.len_fR]; omega) | (simp [jM.len_nw, jM.len_sI, jM.len_sL, jM.len_sR, jM.len_fI, jM.len_fL, jM.len_fR, *]; omega)) (fun c82 => ?_) (fun c82 => ?_)
                                               · first
                                                 | (exfalso; omega)
                                                 | (first | refine J.aload_n (pc' := 89) rfl rfl rfl ?_ | refine J.aload_nN (pc' := 89) rfl rfl rfl ?_
                                                    refine J.callV (pc' := 92) (t := 16) rfl MX12_layersInAll ml_X12_280 iv_X12_layersInAll (by decide) ⟨_, rfl, rfl⟩ B.1 (cm_layersInAll B) rfl rfl (Nat.le_of_ble_eq_true rfl) (by first | omega | (exact R.r _ _) | (simp only [jM.len_sI, jM.len_sL, jM.len_sR, jM.len_fI, jM.len_fL, jM.len_fR]; omega) | (simp [jM.len_nw, jM.len_sI, jM.len_sL, jM.len_sR, jM.len_fI, jM.len_fL, jM.len_fR, *]; omega)) (by first | omega | (exact R.r _ _) | (simp only [jM.len_sI, jM.len_sL, jM.len_sR, jM.len_fI, jM.len_fL, jM.len_fR]; omega) | (simp [jM.len_nw, jM.len_sI, jM.len_sL, jM.len_sR, jM.len_fI, jM.len_fL, jM.len_fR, *]; omega)) (by first | omega | (exact R.r _ _) | (simp only [jM.len_sI, jM.len_sL, jM.len_sR, jM.len_fI, jM.len_fL, jM.len_fR]; omega) | (simp [jM.len_nw, jM.len_sI, jM.len_sL, jM.len_sR, jM.len_fI, jM.len_fL, jM.len_fR, *]; omega)) rfl rfl ?_ ?_
                                                    · exact fun _ _ h => h
                                                    rintro _ _ ⟨rfl, rfl⟩
                                                    refine J.bipush (pc' := 94) rfl rfl (by decide) ?_
                                                    refine J.icmp_ne (tgt := 100) (pc' := 97) rfl rfl rfl (by first | omega | (exact R.r _ _) | (simp only [jM.len_sI, jM.len_sL, jM.len_sR, jM.len_fI, jM.len_fL, jM.len_fR]; omega) | (simp [jM.len_nw, jM.len_sI, jM.len_sL, jM.len_sR, jM.len_fI, jM.len_fL, jM.len_fR, *]; omega)) (by first | omega | (exact R.r _ _) | (simp only [jM.len_sI, jM.len_sL, jM.len_sR, jM.len_fI, jM.len_fL, jM.len_fR]; omega) | (simp [jM.len_nw, jM.len_sI, jM.len_sL, jM.len_sR, jM.len_fI, jM.len_fL, jM.len_fR, *]; omega)) (fun c94 => ?_) (fun c94 => ?_)
                                                    · first
                                                      | (exfalso; omega)
                                                      | (first | refine J.aload_n (pc' := 101) rfl rfl rfl ?_ | refine J.aload_nN (pc' := 101) rfl rfl rfl ?_
                                                         refine J.iload_n (pc' := 102) rfl rfl rfl ?_
                                                         first | refine J.aload_n (pc' := 103) rfl rfl rfl ?_ | refine J.aload_nN (pc' := 103) rfl rfl rfl ?_
                                                         refine J.mgI (pc' := 106) (j := 3) B rfl fl_X12_283 rfl rfl rfl ?_
                                                         refine J.callV (pc' := 109) (t := 16) rfl MX12_inForce ml_X12_264 iv_X12_inForce (by decide) ⟨_, rfl, rfl⟩ B.1 (cm_inForce B R hs (by omega)) rfl rfl (Nat.le_of_ble_eq_true rfl) (by first | omega | (exact R.r _ _) | (simp only [jM.len_sI, jM.len_sL, jM.len_sR, jM.len_fI, jM.len_fL, jM.len_fR]; omega) | (simp [jM.len_nw, jM.len_sI, jM.len_sL, jM.len_sR, jM.len_fI, jM.len_fL, jM.len_fR, *]; omega)) (by first | omega | (exact R.r _ _) | (simp only [jM.len_sI, jM.len_sL, jM.len_sR, jM.len_fI, jM.len_fL, jM.len_fR]; omega) | (simp [jM.len_nw, jM.len_sI, jM.len_sL, jM.len_sR, jM.len_fI, jM.len_fL, jM.len_fR, *]; omega)) (by first | omega | (exact R.r _ _) | (simp only [jM.len_sI, jM.len_sL, jM.len_sR, jM.len_fI, jM.len_fL, jM.len_fR]; omega) | (simp [jM.len_nw, jM.len_sI, jM.len_sL, jM.len_sR, jM.len_fI, jM.len_fL, jM.len_fR, *]; omega)) rfl rfl ?_ ?_
                                                         · exact fun _ _ h => h
                                                         rintro _ _ ⟨rfl, rfl⟩
                                                         refine J.istore (pc' := 111) rfl rfl (by decide) ?_
                                                         refine J.iload (pc' := 113) rfl rfl rfl ?_
                                                         refine J.iconst (pc' := 114) rfl rfl ?_
                                                         refine J.icmp_ne (tgt := 120) (pc' := 117) rfl rfl rfl (by first | omega | (exact R.r _ _) | (simp only [jM.len_sI, jM.len_sL, jM.len_sR, jM.len_fI, jM.len_fL, jM.len_fR]; omega) | (simp [jM.len_nw, jM.len_sI, jM.len_sL, jM.len_sR, jM.len_fI, jM.len_fL, jM.len_fR, *]; omega)) (by first | omega | (exact R.r _ _) | (simp only [jM.len_sI, jM.len_sL, jM.len_sR, jM.len_fI, jM.len_fL, jM.len_fR]; omega) | (simp [jM.len_nw, jM.len_sI, jM.len_sL, jM.len_sR, jM.len_fI, jM.len_fL, jM.len_fR, *]; omega)) (fun c114 => ?_) (fun c114 => ?_)
                                                         · first
                                                           | (exfalso; omega)
                                                           | (exact rest (by omega) (by omega) (by omega) (by omega) (by omega) (by unfold ldC; omega))
                                                         · first
                                                           | (exfalso; omega)
                                                           | (refine J.bipush (pc' := 119) rfl rfl (by decide) ?_
                                                              refine J.iret rfl rfl (by first | omega | (exact R.r _ _) | (simp only [jM.len_sI, jM.len_sL, jM.len_sR, jM.len_fI, jM.len_fL, jM.len_fR]; omega) | (simp [jM.len_nw, jM.len_sI, jM.len_sL, jM.len_sR, jM.len_fI, jM.len_fL, jM.len_fR, *]; omega)) (by first | omega | (exact R.r _ _) | (simp only [jM.len_sI, jM.len_sL, jM.len_sR, jM.len_fI, jM.len_fL, jM.len_fR]; omega) | (simp [jM.len_nw, jM.len_sI, jM.len_sL, jM.len_sR, jM.len_fI, jM.len_fL, jM.len_fR, *]; omega)) ?_
                                                              exact mQ.of (by unfold sp_load ldC; (repeat (first | rw [if_pos (by omega)] | rw [if_neg (by omega)])))))
                                                    · first
                                                      | (exfalso; omega)
                                                      | (refine J.bipush (pc' := 99) rfl rfl (by decide) ?_
                                                         refine J.iret rfl rfl (by first | omega | (exact R.r _ _) | (simp only [jM.len_sI, jM.len_sL, jM.len_sR, jM.len_fI, jM.len_fL, jM.len_fR]; omega) | (simp [jM.len_nw, jM.len_sI, jM.len_sL, jM.len_sR, jM.len_fI, jM.len_fL, jM.len_fR, *]; omega)) (by first | omega | (exact R.r _ _) | (simp only [jM.len_sI, jM.len_sL, jM.len_sR, jM.len_fI, jM.len_fL, jM.len_fR]; omega) | (simp [jM.len_nw, jM.len_sI, jM.len_sL, jM.len_sR, jM.len_fI, jM.len_fL, jM.len_fR, *]; omega)) ?_
                                                         exact mQ.of (by unfold sp_load ldC; (repeat (first | rw [if_pos (by omega)] | rw [if_neg (by omega)])))))
                                               · first
                                                 | (exfalso; omega)
                                                 | (refine J.bipush (pc' := 87) rfl rfl (by decide) ?_
                                                    refine J.iret rfl rfl (by first | omega | (exact R.r _ _) | (simp only [jM.len_sI, jM.len_sL, jM.len_sR, jM.len_fI, jM.len_fL, jM.len_fR]; omega) | (simp [jM.len_nw, jM.len_sI, jM.len_sL, jM.len_sR, jM.len_fI, jM.len_fL, jM.len_fR, *]; omega)) (by first | omega | (exact R.r _ _) | (simp only [jM.len_sI, jM.len_sL, jM.len_sR, jM.len_fI, jM.len_fL, jM.len_fR]; omega) | (simp [jM.len_nw, jM.len_sI, jM.len_sL, jM.len_sR, jM.len_fI, jM.len_fL, jM.len_fR, *]; omega)) ?_
                                                    exact mQ.of (by unfold sp_load ldC; (repeat (first | rw [if_pos (by omega)] | rw [if_neg (by omega)])))))
                                          · first
                                            | (exfalso; omega)
                                            | (refine J.iconst (pc' := 75) rfl rfl ?_
                                               refine J.iret rfl rfl (by first | omega | (exact R.r _ _) | (simp only [jM.len_sI, jM.len_sL, jM.len_sR, jM.len_fI, jM.len_fL, jM.len_fR]; omega) | (simp [jM.len_nw, jM.len_sI, jM.len_sL, jM.len_sR, jM.len_fI, jM.len_fL, jM.len_fR, *]; omega)) (by first | omega | (exact R.r _ _) | (simp only [jM.len_sI, jM.len_sL, jM.len_sR, jM.len_fI, jM.len_fL, jM.len_fR]; omega) | (simp [jM.len_nw, jM.len_sI, jM.len_sL, jM.len_sR, jM.len_fI, jM.len_fL, jM.len_fR, *]; omega)) ?_
                                               exact mQ.of (by unfold sp_load ldC; (repeat (first | rw [if_pos (by omega)] | rw [if_neg (by omega)])))))
                                     · first
                                       | (exfalso; omega)
                                       | (refine J.iconst (pc' := 63) rfl rfl ?_
                                          refine J.goto (tgt := 67) rfl rfl ?_
                                          refine J.iconst (pc' := 68) rfl rfl ?_
                                          first | refine J.callV (pc' := 71) (t := 16) rfl MX12_may ml_X12_161 iv_X12_may (by decide) ⟨_, rfl, rfl⟩ B.1 (cm_may1 B h0) rfl rfl (Nat.le_of_ble_eq_true rfl) (by first | omega | (exact R.r _ _) | (simp only [jM.len_sI, jM.len_sL, jM.len_sR, jM.len_fI, jM.len_fL, jM.len_fR]; omega) | (simp [jM.len_nw, jM.len_sI, jM.len_sL, jM.len_sR, jM.len_fI, jM.len_fL, jM.len_fR, *]; omega)) (by first | omega | (exact R.r _ _) | (simp only [jM.len_sI, jM.len_sL, jM.len_sR, jM.len_fI, jM.len_fL, jM.len_fR]; omega) | (simp [jM.len_nw, jM.len_sI, jM.len_sL, jM.len_sR, jM.len_fI, jM.len_fL, jM.len_fR, *]; omega)) (by first | omega | (exact R.r _ _) | (simp only [jM.len_sI, jM.len_sL, jM.len_sR, jM.len_fI, jM.len_fL, jM.len_fR]; omega) | (simp [jM.len_nw, jM.len_sI, jM.len_sL, jM.len_sR, jM.len_fI, jM.len_fL, jM.len_fR, *]; omega)) rfl rfl ?_ ?_ | refine J.callV (pc' := 71) (t := 16) rfl MX12_may ml_X12_161 iv_X12_may (by decide) ⟨_, rfl, rfl⟩ B.1 (cm_may0 B h0 (by omega)) rfl rfl (Nat.le_of_ble_eq_true rfl) (by first | omega | (exact R.r _ _) | (simp only [jM.len_sI, jM.len_sL, jM.len_sR, jM.len_fI, jM.len_fL, jM.len_fR]; omega) | (simp [jM.len_nw, jM.len_sI, jM.len_sL, jM.len_sR, jM.len_fI, jM.len_fL, jM.len_fR, *]; omega)) (by first | omega | (exact R.r _ _) | (simp only [jM.len_sI, jM.len_sL, jM.len_sR, jM.len_fI, jM.len_fL, jM.len_fR]; omega) | (simp [jM.len_nw, jM.len_sI, jM.len_sL, jM.len_sR, jM.len_fI, jM.len_fL, jM.len_fR, *]; omega)) (by first | omega | (exact R.r _ _) | (simp only [jM.len_sI, jM.len_sL, jM.len_sR, jM.len_fI, jM.len_fL, jM.len_fR]; omega) | (simp [jM.len_nw, jM.len_sI, jM.len_sL, jM.len_sR, jM.len_fI, jM.len_fL, jM.len_fR, *]; omega)) rfl rfl ?_ ?_
                                          · exact fun _ _ h => h
                                          rintro _ _ ⟨rfl, rfl⟩
                                          refine J.if_ne (tgt := 76) (pc' := 74) rfl rfl rfl (by first | omega | (exact R.r _ _) | (simp only [jM.len_sI, jM.len_sL, jM.len_sR, jM.len_fI, jM.len_fL, jM.len_fR]; omega) | (simp [jM.len_nw, jM.len_sI, jM.len_sL, jM.len_sR, jM.len_fI, jM.len_fL, jM.len_fR, *]; omega)) (fun c71 => ?_) (fun c71 => ?_)
                                          · first
                                            | (exfalso; omega)
                                            | (first | refine J.aload_n (pc' := 77) rfl rfl rfl ?_ | refine J.aload_nN (pc' := 77) rfl rfl rfl ?_
                                               refine J.mgI (pc' := 80) (j := 26) B rfl fl_X12_277 rfl rfl rfl ?_
                                               refine J.bipush (pc' := 82) rfl rfl (by decide) ?_
                                               refine J.icmp_ne (tgt := 88) (pc' := 85) rfl rfl rfl (by first | omega | (exact R.r _ _) | (simp only [jM.len_sI, jM.len_sL, jM.len_sR, jM.len_fI, jM.len_fL, jM.len_fR]; omega) | (simp [jM.len_nw, jM.len_sI, jM.len_sL, jM.len_sR, jM.len_fI, jM.len_fL, jM.len_fR, *]; omega)) (by first | omega | (exact R.r _ _) | (simp only [jM.len_sI, jM.len_sL, jM.len_sR, jM.len_fI, jM.len_fL, jM.len_fR]; omega) | (simp [jM.len_nw, jM.len_sI, jM.len_sL, jM.len_sR, jM.len_fI, jM.len_fL, jM.len_fR, *]; omega)) (fun c82 => ?_) (fun c82 => ?_)
                                               · first
                                                 | (exfalso; omega)
                                                 | (first | refine J.aload_n (pc' := 89) rfl rfl rfl ?_ | refine J.aload_nN (pc' := 89) rfl rfl rfl ?_
                                                    refine J.callV (pc' := 92) (t := 16) rfl MX12_layersInAll ml_X12_280 iv_X12_layersInAll (by decide) ⟨_, rfl, rfl⟩ B.1 (cm_layersInAll B) rfl rfl (Nat.le_of_ble_eq_true rfl) (by first | omega | (exact R.r _ _) | (simp only [jM.len_sI, jM.len_sL, jM.len_sR, jM.len_fI, jM.len_fL, jM.len_fR]; omega) | (simp [jM.len_nw, jM.len_sI, jM.len_sL, jM.len_sR, jM.len_fI, jM.len_fL, jM.len_fR, *]; omega)) (by first | omega | (exact R.r _ _) | (simp only [jM.len_sI, jM.len_sL, jM.len_sR, jM.len_fI, jM.len_fL, jM.len_fR]; omega) | (simp [jM.len_nw, jM.len_sI, jM.len_sL, jM.len_sR, jM.len_fI, jM.len_fL, jM.len_fR, *]; omega)) (by first | omega | (exact R.r _ _) | (simp only [jM.len_sI, jM.len_sL, jM.len_sR, jM.len_fI, jM.len_fL, jM.len_fR]; omega) | (simp [jM.len_nw, jM.len_sI, jM.len_sL, jM.len_sR, jM.len_fI, jM.len_fL, jM.len_fR, *]; omega)) rfl rfl ?_ ?_
                                                    · exact fun _ _ h => h
                                                    rintro _ _ ⟨rfl, rfl⟩
                                                    refine J.bipush (pc' := 94) rfl rfl (by decide) ?_
                                                    refine J.icmp_ne (tgt := 100) (pc' := 97) rfl rfl rfl (by first | omega | (exact R.r _ _) | (simp only [jM.len_sI, jM.len_sL, jM.len_sR, jM.len_fI, jM.len_fL, jM.len_fR]; omega) | (simp [jM.len_nw, jM.len_sI, jM.len_sL, jM.len_sR, jM.len_fI, jM.len_fL, jM.len_fR, *]; omega)) (by first | omega | (exact R.r _ _) | (simp only [jM.len_sI, jM.len_sL, jM.len_sR, jM.len_fI, jM.len_fL, jM.len_fR]; omega) | (simp [jM.len_nw, jM.len_sI, jM.len_sL, jM.len_sR, jM.len_fI, jM.len_fL, jM.len_fR, *]; omega)) (fun c94 => ?_) (fun c94 => ?_)
                                                    · first
                                                      | (exfalso; omega)
                                                      | (first | refine J.aload_n (pc' := 101) rfl rfl rfl ?_ | refine J.aload_nN (pc' := 101) rfl rfl rfl ?_
                                                         refine J.iload_n (pc' := 102) rfl rfl rfl ?_
                                                         first | refine J.aload_n (pc' := 103) rfl rfl rfl ?_ | refine J.aload_nN (pc' := 103) rfl rfl rfl ?_
                                                         refine J.mgI (pc' := 106) (j := 3) B rfl fl_X12_283 rfl rfl rfl ?_
                                                         refine J.callV (pc' := 109) (t := 16) rfl MX12_inForce ml_X12_264 iv_X12_inForce (by decide) ⟨_, rfl, rfl⟩ B.1 (cm_inForce B R hs (by omega)) rfl rfl (Nat.le_of_ble_eq_true rfl) (by first | omega | (exact R.r _ _) | (simp only [jM.len_sI, jM.len_sL, jM.len_sR, jM.len_fI, jM.len_fL, jM.len_fR]; omega) | (simp [jM.len_nw, jM.len_sI, jM.len_sL, jM.len_sR, jM.len_fI, jM.len_fL, jM.len_fR, *]; omega)) (by first | omega | (exact R.r _ _) | (simp only [jM.len_sI, jM.len_sL, jM.len_sR, jM.len_fI, jM.len_fL, jM.len_fR]; omega) | (simp [jM.len_nw, jM.len_sI, jM.len_sL, jM.len_sR, jM.len_fI, jM.len_fL, jM.len_fR, *]; omega)) (by first | omega | (exact R.r _ _) | (simp only [jM.len_sI, jM.len_sL, jM.len_sR, jM.len_fI, jM.len_fL, jM.len_fR]; omega) | (simp [jM.len_nw, jM.len_sI, jM.len_sL, jM.len_sR, jM.len_fI, jM.len_fL, jM.len_fR, *]; omega)) rfl rfl ?_ ?_
                                                         · exact fun _ _ h => h
                                                         rintro _ _ ⟨rfl, rfl⟩
                                                         refine J.istore (pc' := 111) rfl rfl (by decide) ?_
                                                         refine J.iload (pc' := 113) rfl rfl rfl ?_
                                                         refine J.iconst (pc' := 114) rfl rfl ?_
                                                         refine J.icmp_ne (tgt := 120) (pc' := 117) rfl rfl rfl (by first | omega | (exact R.r _ _) | (simp only [jM.len_sI, jM.len_sL, jM.len_sR, jM.len_fI, jM.len_fL, jM.len_fR]; omega) | (simp [jM.len_nw, jM.len_sI, jM.len_sL, jM.len_sR, jM.len_fI, jM.len_fL, jM.len_fR, *]; omega)) (by first | omega | (exact R.r _ _) | (simp only [jM.len_sI, jM.len_sL, jM.len_sR, jM.len_fI, jM.len_fL, jM.len_fR]; omega) | (simp [jM.len_nw, jM.len_sI, jM.len_sL, jM.len_sR, jM.len_fI, jM.len_fL, jM.len_fR, *]; omega)) (fun c114 => ?_) (fun c114 => ?_)
                                                         · first
                                                           | (exfalso; omega)
                                                           | (exact rest (by omega) (by omega) (by omega) (by omega) (by omega) (by unfold ldC; omega))
                                                         · first
                                                           | (exfalso; omega)
                                                           | (refine J.bipush (pc' := 119) rfl rfl (by decide) ?_
                                                              refine J.iret rfl rfl (by first | omega | (exact R.r _ _) | (simp only [jM.len_sI, jM.len_sL, jM.len_sR, jM.len_fI, jM.len_fL, jM.len_fR]; omega) | (simp [jM.len_nw, jM.len_sI, jM.len_sL, jM.len_sR, jM.len_fI, jM.len_fL, jM.len_fR, *]; omega)) (by first | omega | (exact R.r _ _) | (simp only [jM.len_sI, jM.len_sL, jM.len_sR, jM.len_fI, jM.len_fL, jM.len_fR]; omega) | (simp [jM.len_nw, jM.len_sI, jM.len_sL, jM.len_sR, jM.len_fI, jM.len_fL, jM.len_fR, *]; omega)) ?_
                                                              exact mQ.of (by unfold sp_load ldC; (repeat (first | rw [if_pos (by omega)] | rw [if_neg (by omega)])))))
                                                    · first
                                                      | (exfalso; omega)
                                                      | (refine J.bipush (pc' := 99) rfl rfl (by decide) ?_
                                                         refine J.iret rfl rfl (by first | omega | (exact R.r _ _) | (simp only [jM.len_sI, jM.len_sL, jM.len_sR, jM.len_fI, jM.len_fL, jM.len_fR]; omega) | (simp [jM.len_nw, jM.len_sI, jM.len_sL, jM.len_sR, jM.len_fI, jM.len_fL, jM.len_fR, *]; omega)) (by first | omega | (exact R.r _ _) | (simp only [jM.len_sI, jM.len_sL, jM.len_sR, jM.len_fI, jM.len_fL, jM.len_fR]; omega) | (simp [jM.len_nw, jM.len_sI, jM.len_sL, jM.len_sR, jM.len_fI, jM.len_fL, jM.len_fR, *]; omega)) ?_
                                                         exact mQ.of (by unfold sp_load ldC; (repeat (first | rw [if_pos (by omega)] | rw [if_neg (by omega)])))))
                                               · first
                                                 | (exfalso; omega)
                                                 | (refine J.bipush (pc' := 87) rfl rfl (by decide) ?_
                                                    refine J.iret rfl rfl (by first | omega | (exact R.r _ _) | (simp only [jM.len_sI, jM.len_sL, jM.len_sR, jM.len_fI, jM.len_fL, jM.len_fR]; omega) | (simp [jM.len_nw, jM.len_sI, jM.len_sL, jM.len_sR, jM.len_fI, jM.len_fL, jM.len_fR, *]; omega)) (by first | omega | (exact R.r _ _) | (simp only [jM.len_sI, jM.len_sL, jM.len_sR, jM.len_fI, jM.len_fL, jM.len_fR]; omega) | (simp [jM.len_nw, jM.len_sI, jM.len_sL, jM.len_sR, jM.len_fI, jM.len_fL, jM.len_fR, *]; omega)) ?_
                                                    exact mQ.of (by unfold sp_load ldC; (repeat (first | rw [if_pos (by omega)] | rw [if_neg (by omega)])))))
                                          · first
                                            | (exfalso; omega)
                                            | (refine J.iconst (pc' := 75) rfl rfl ?_
                                               refine J.iret rfl rfl (by first | omega | (exact R.r _ _) | (simp only [jM.len_sI, jM.len_sL, jM.len_sR, jM.len_fI, jM.len_fL, jM.len_fR]; omega) | (simp [jM.len_nw, jM.len_sI, jM.len_sL, jM.len_sR, jM.len_fI, jM.len_fL, jM.len_fR, *]; omega)) (by first | omega | (exact R.r _ _) | (simp only [jM.len_sI, jM.len_sL, jM.len_sR, jM.len_fI, jM.len_fL, jM.len_fR]; omega) | (simp [jM.len_nw, jM.len_sI, jM.len_sL, jM.len_sR, jM.len_fI, jM.len_fL, jM.len_fR, *]; omega)) ?_
                                               exact mQ.of (by unfold sp_load ldC; (repeat (first | rw [if_pos (by omega)] | rw [if_neg (by omega)]))))))))))
            · first
              | (exfalso; omega)
              | (refine J.iload_n (pc' := 19) rfl rfl rfl ?_
                 first | refine J.aload_n (pc' := 20) rfl rfl rfl ?_ | refine J.aload_nN (pc' := 20) rfl rfl rfl ?_
                 refine J.mgI (pc' := 23) (j := 1) B rfl fl_X12_154 rfl rfl rfl ?_
                 refine J.icmp_ge (tgt := 30) (pc' := 26) rfl rfl rfl (by first | omega | (exact R.r _ _) | (simp only [jM.len_sI, jM.len_sL, jM.len_sR, jM.len_fI, jM.len_fL, jM.len_fR]; omega) | (simp [jM.len_nw, jM.len_sI, jM.len_sL, jM.len_sR, jM.len_fI, jM.len_fL, jM.len_fR, *]; omega)) (by first | omega | (exact R.r _ _) | (simp only [jM.len_sI, jM.len_sL, jM.len_sR, jM.len_fI, jM.len_fL, jM.len_fR]; omega) | (simp [jM.len_nw, jM.len_sI, jM.len_sL, jM.len_sR, jM.len_fI, jM.len_fL, jM.len_fR, *]; omega)) (fun c23 => ?_) (fun c23 => ?_)
                 · first
                   | (exfalso; omega)
                   | (refine J.iconst (pc' := 31) rfl rfl ?_
                      refine J.iconst (pc' := 32) rfl rfl ?_
                      first | refine J.callV (pc' := 35) (t := 16) rfl MX12_may ml_X12_161 iv_X12_may (by decide) ⟨_, rfl, rfl⟩ B.1 (cm_may1 B h0) rfl rfl (Nat.le_of_ble_eq_true rfl) (by first | omega | (exact R.r _ _) | (simp only [jM.len_sI, jM.len_sL, jM.len_sR, jM.len_fI, jM.len_fL, jM.len_fR]; omega) | (simp [jM.len_nw, jM.len_sI, jM.len_sL, jM.len_sR, jM.len_fI, jM.len_fL, jM.len_fR, *]; omega)) (by first | omega | (exact R.r _ _) | (simp only [jM.len_sI, jM.len_sL, jM.len_sR, jM.len_fI, jM.len_fL, jM.len_fR]; omega) | (simp [jM.len_nw, jM.len_sI, jM.len_sL, jM.len_sR, jM.len_fI, jM.len_fL, jM.len_fR, *]; omega)) (by first | omega | (exact R.r _ _) | (simp only [jM.len_sI, jM.len_sL, jM.len_sR, jM.len_fI, jM.len_fL, jM.len_fR]; omega) | (simp [jM.len_nw, jM.len_sI, jM.len_sL, jM.len_sR, jM.len_fI, jM.len_fL, jM.len_fR, *]; omega)) rfl rfl ?_ ?_ | refine J.callV (pc' := 35) (t := 16) rfl MX12_may ml_X12_161 iv_X12_may (by decide) ⟨_, rfl, rfl⟩ B.1 (cm_may0 B h0 (by omega)) rfl rfl (Nat.le_of_ble_eq_true rfl) (by first | omega | (exact R.r _ _) | (simp only [jM.len_sI, jM.len_sL, jM.len_sR, jM.len_fI, jM.len_fL, jM.len_fR]; omega) | (simp [jM.len_nw, jM.len_sI, jM.len_sL, jM.len_sR, jM.len_fI, jM.len_fL, jM.len_fR, *]; omega)) (by first | omega | (exact R.r _ _) | (simp only [jM.len_sI, jM.len_sL, jM.len_sR, jM.len_fI, jM.len_fL, jM.len_fR]; omega) | (simp [jM.len_nw, jM.len_sI, jM.len_sL, jM.len_sR, jM.len_fI, jM.len_fL, jM.len_fR, *]; omega)) (by first | omega | (exact R.r _ _) | (simp only [jM.len_sI, jM.len_sL, jM.len_sR, jM.len_fI, jM.len_fL, jM.len_fR]; omega) | (simp [jM.len_nw, jM.len_sI, jM.len_sL, jM.len_sR, jM.len_fI, jM.len_fL, jM.len_fR, *]; omega)) rfl rfl ?_ ?_
                      · exact fun _ _ h => h
                      rintro _ _ ⟨rfl, rfl⟩
                      refine J.if_eq (tgt := 74) (pc' := 38) rfl rfl rfl (by first | omega | (exact R.r _ _) | (simp only [jM.len_sI, jM.len_sL, jM.len_sR, jM.len_fI, jM.len_fL, jM.len_fR]; omega) | (simp [jM.len_nw, jM.len_sI, jM.len_sL, jM.len_sR, jM.len_fI, jM.len_fL, jM.len_fR, *]; omega)) (fun c35 => ?_) (fun c35 => ?_)
                      · first
                        | (exfalso; omega)
                        | (refine J.iconst (pc' := 75) rfl rfl ?_
                           refine J.iret rfl rfl (by first | omega | (exact R.r _ _) | (simp only [jM.len_sI, jM.len_sL, jM.len_sR, jM.len_fI, jM.len_fL, jM.len_fR]; omega) | (simp [jM.len_nw, jM.len_sI, jM.len_sL, jM.len_sR, jM.len_fI, jM.len_fL, jM.len_fR, *]; omega)) (by first | omega | (exact R.r _ _) | (simp only [jM.len_sI, jM.len_sL, jM.len_sR, jM.len_fI, jM.len_fL, jM.len_fR]; omega) | (simp [jM.len_nw, jM.len_sI, jM.len_sL, jM.len_sR, jM.len_fI, jM.len_fL, jM.len_fR, *]; omega)) ?_
                           exact mQ.of (by unfold sp_load ldC; (repeat (first | rw [if_pos (by omega)] | rw [if_neg (by omega)]))))
                      · first
                        | (exfalso; omega)
                        | (first | refine J.aload_n (pc' := 39) rfl rfl rfl ?_ | refine J.aload_nN (pc' := 39) rfl rfl rfl ?_
                           refine J.iload_n (pc' := 40) rfl rfl rfl ?_
                           refine J.if_lt (tgt := 66) (pc' := 43) rfl rfl rfl (by first | omega | (exact R.r _ _) | (simp only [jM.len_sI, jM.len_sL, jM.len_sR, jM.len_fI, jM.len_fL, jM.len_fR]; omega) | (simp [jM.len_nw, jM.len_sI, jM.len_sL, jM.len_sR, jM.len_fI, jM.len_fL, jM.len_fR, *]; omega)) (fun c40 => ?_) (fun c40 => ?_)
                           · first
                             | (exfalso; omega)
                             | (refine J.iconst (pc' := 67) rfl rfl ?_
                                refine J.iconst (pc' := 68) rfl rfl ?_
                                first | refine J.callV (pc' := 71) (t := 16) rfl MX12_may ml_X12_161 iv_X12_may (by decide) ⟨_, rfl, rfl⟩ B.1 (cm_may1 B h0) rfl rfl (Nat.le_of_ble_eq_true rfl) (by first | omega | (exact R.r _ _) | (simp only [jM.len_sI, jM.len_sL, jM.len_sR, jM.len_fI, jM.len_fL, jM.len_fR]; omega) | (simp [jM.len_nw, jM.len_sI, jM.len_sL, jM.len_sR, jM.len_fI, jM.len_fL, jM.len_fR, *]; omega)) (by first | omega | (exact R.r _ _) | (simp only [jM.len_sI, jM.len_sL, jM.len_sR, jM.len_fI, jM.len_fL, jM.len_fR]; omega) | (simp [jM.len_nw, jM.len_sI, jM.len_sL, jM.len_sR, jM.len_fI, jM.len_fL, jM.len_fR, *]; omega)) (by first | omega | (exact R.r _ _) | (simp only [jM.len_sI, jM.len_sL, jM.len_sR, jM.len_fI, jM.len_fL, jM.len_fR]; omega) | (simp [jM.len_nw, jM.len_sI, jM.len_sL, jM.len_sR, jM.len_fI, jM.len_fL, jM.len_fR, *]; omega)) rfl rfl ?_ ?_ | refine J.callV (pc' := 71) (t := 16) rfl MX12_may ml_X12_161 iv_X12_may (by decide) ⟨_, rfl, rfl⟩ B.1 (cm_may0 B h0 (by omega)) rfl rfl (Nat.le_of_ble_eq_true rfl) (by first | omega | (exact R.r _ _) | (simp only [jM.len_sI, jM.len_sL, jM.len_sR, jM.len_fI, jM.len_fL, jM.len_fR]; omega) | (simp [jM.len_nw, jM.len_sI, jM.len_sL, jM.len_sR, jM.len_fI, jM.len_fL, jM.len_fR, *]; omega)) (by first | omega | (exact R.r _ _) | (simp only [jM.len_sI, jM.len_sL, jM.len_sR, jM.len_fI, jM.len_fL, jM.len_fR]; omega) | (simp [jM.len_nw, jM.len_sI, jM.len_sL, jM.len_sR, jM.len_fI, jM.len_fL, jM.len_fR, *]; omega)) (by first | omega | (exact R.r _ _) | (simp only [jM.len_sI, jM.len_sL, jM.len_sR, jM.len_fI, jM.len_fL, jM.len_fR]; omega) | (simp [jM.len_nw, jM.len_sI, jM.len_sL, jM.len_sR, jM.len_fI, jM.len_fL, jM.len_fR, *]; omega)) rfl rfl ?_ ?_
                                · exact fun _ _ h => h
                                rintro _ _ ⟨rfl, rfl⟩
                                refine J.if_ne (tgt := 76) (pc' := 74) rfl rfl rfl (by first | omega | (exact R.r _ _) | (simp only [jM.len_sI, jM.len_sL, jM.len_sR, jM.len_fI, jM.len_fL, jM.len_fR]; omega) | (simp [jM.len_nw, jM.len_sI, jM.len_sL, jM.len_sR, jM.len_fI, jM.len_fL, jM.len_fR, *]; omega)) (fun c71 => ?_) (fun c71 => ?_)
                                · first
                                  | (exfalso; omega)
                                  | (first | refine J.aload_n (pc' := 77) rfl rfl rfl ?_ | refine J.aload_nN (pc' := 77) rfl rfl rfl ?_
                                     refine J.mgI (pc' := 80) (j := 26) B rfl fl_X12_277 rfl rfl rfl ?_
                                     refine J.bipush (pc' := 82) rfl rfl (by decide) ?_
                                     refine J.icmp_ne (tgt := 88) (pc' := 85) rfl rfl rfl (by first | omega | (exact R.r _ _) | (simp only [jM.len_sI, jM.len_sL, jM.len_sR, jM.len_fI, jM.len_fL, jM.len_fR]; omega) | (simp [jM.len_nw, jM.len_sI, jM.len_sL, jM.len_sR, jM.len_fI, jM.len_fL, jM.len_fR, *]; omega)) (by first | omega | (exact R.r _ _) | (simp only [jM.len_sI, jM.len_sL, jM.len_sR, jM.len_fI, jM.len_fL, jM.len_fR]; omega) | (simp [jM.len_nw, jM.len_sI, jM.len_sL, jM.len_sR, jM.len_fI, jM.len_fL, jM.len_fR, *]; omega)) (fun c82 => ?_) (fun c82 => ?_)
                                     · first
                                       | (exfalso; omega)
                                       | (first | refine J.aload_n (pc' := 89) rfl rfl rfl ?_ | refine J.aload_nN (pc' := 89) rfl rfl rfl ?_
                                          refine J.callV (pc' := 92) (t := 16) rfl MX12_layersInAll ml_X12_280 iv_X12_layersInAll (by decide) ⟨_, rfl, rfl⟩ B.1 (cm_layersInAll B) rfl rfl (Nat.le_of_ble_eq_true rfl) (by first | omega | (exact R.r _ _) | (simp only [jM.len_sI, jM.len_sL, jM.len_sR, jM.len_fI, jM.len_fL, jM.len_fR]; omega) | (simp [jM.len_nw, jM.len_sI, jM.len_sL, jM.len_sR, jM.len_fI, jM.len_fL, jM.len_fR, *]; omega)) (by first | omega | (exact R.r _ _) | (simp only [jM.len_sI, jM.len_sL, jM.len_sR, jM.len_fI, jM.len_fL, jM.len_fR]; omega) | (simp [jM.len_nw, jM.len_sI, jM.len_sL, jM.len_sR, jM.len_fI, jM.len_fL, jM.len_fR, *]; omega)) (by first | omega | (exact R.r _ _) | (simp only [jM.len_sI, jM.len_sL, jM.len_sR, jM.len_fI, jM.len_fL, jM.len_fR]; omega) | (simp [jM.len_nw, jM.len_sI, jM.len_sL, jM.len_sR, jM.len_fI, jM.len_fL, jM.len_fR, *]; omega)) rfl rfl ?_ ?_
                                          · exact fun _ _ h => h
                                          rintro _ _ ⟨rfl, rfl⟩
                                          refine J.bipush (pc' := 94) rfl rfl (by decide) ?_
                                          refine J.icmp_ne (tgt := 100) (pc' := 97) rfl rfl rfl (by first | omega | (exact R.r _ _) | (simp only [jM.len_sI, jM.len_sL, jM.len_sR, jM.len_fI, jM.len_fL, jM.len_fR]; omega) | (simp [jM.len_nw, jM.len_sI, jM.len_sL, jM.len_sR, jM.len_fI, jM.len_fL, jM.len_fR, *]; omega)) (by first | omega | (exact R.r _ _) | (simp only [jM.len_sI, jM.len_sL, jM.len_sR, jM.len_fI, jM.len_fL, jM.len_fR]; omega) | (simp [jM.len_nw, jM.len_sI, jM.len_sL, jM.len_sR, jM.len_fI, jM.len_fL, jM.len_fR, *]; omega)) (fun c94 => ?_) (fun c94 => ?_)
                                          · first
                                            | (exfalso; omega)
                                            | (first | refine J.aload_n (pc' := 101) rfl rfl rfl ?_ | refine J.aload_nN (pc' := 101) rfl rfl rfl ?_
                                               refine J.iload_n (pc' := 102) rfl rfl rfl ?_
                                               first | refine J.aload_n (pc' := 103) rfl rfl rfl ?_ | refine J.aload_nN (pc' := 103) rfl rfl rfl ?_
                                               refine J.mgI (pc' := 106) (j := 3) B rfl fl_X12_283 rfl rfl rfl ?_
                                               refine J.callV (pc' := 109) (t := 16) rfl MX12_inForce ml_X12_264 iv_X12_inForce (by decide) ⟨_, rfl, rfl⟩ B.1 (cm_inForce B R hs (by omega)) rfl rfl (Nat.le_of_ble_eq_true rfl) (by first | omega | (exact R.r _ _) | (simp only [jM.len_sI, jM.len_sL, jM.len_sR, jM.len_fI, jM.len_fL, jM.len_fR]; omega) | (simp [jM.len_nw, jM.len_sI, jM.len_sL, jM.len_sR, jM.len_fI, jM.len_fL, jM.len_fR, *]; omega)) (by first | omega | (exact R.r _ _) | (simp only [jM.len_sI, jM.len_sL, jM.len_sR, jM.len_fI, jM.len_fL, jM.len_fR]; omega) | (simp [jM.len_nw, jM.len_sI, jM.len_sL, jM.len_sR, jM.len_fI, jM.len_fL, jM.len_fR, *]; omega)) (by first | omega | (exact R.r _ _) | (simp only [jM.len_sI, jM.len_sL, jM.len_sR, jM.len_fI, jM.len_fL, jM.len_fR]; omega) | (simp [jM.len_nw, jM.len_sI, jM.len_sL, jM.len_sR, jM.len_fI, jM.len_fL, jM.len_fR, *]; omega)) rfl rfl ?_ ?_
                                               · exact fun _ _ h => h
                                               rintro _ _ ⟨rfl, rfl⟩
                                               refine J.istore (pc' := 111) rfl rfl (by decide) ?_
                                               refine J.iload (pc' := 113) rfl rfl rfl ?_
                                               refine J.iconst (pc' := 114) rfl rfl ?_
                                               refine J.icmp_ne (tgt := 120) (pc' := 117) rfl rfl rfl (by first | omega | (exact R.r _ _) | (simp only [jM.len_sI, jM.len_sL, jM.len_sR, jM.len_fI, jM.len_fL, jM.len_fR]; omega) | (simp [jM.len_nw, jM.len_sI, jM.len_sL, jM.len_sR, jM.len_fI, jM.len_fL, jM.len_fR, *]; omega)) (by first | omega | (exact R.r _ _) | (simp only [jM.len_sI, jM.len_sL, jM.len_sR, jM.len_fI, jM.len_fL, jM.len_fR]; omega) | (simp [jM.len_nw, jM.len_sI, jM.len_sL, jM.len_sR, jM.len_fI, jM.len_fL, jM.len_fR, *]; omega)) (fun c114 => ?_) (fun c114 => ?_)
                                               · first
                                                 | (exfalso; omega)
                                                 | (exact rest (by omega) (by omega) (by omega) (by omega) (by omega) (by unfold ldC; omega))
                                               · first
                                                 | (exfalso; omega)
                                                 | (refine J.bipush (pc' := 119) rfl rfl (by decide) ?_
                                                    refine J.iret rfl rfl (by first | omega | (exact R.r _ _) | (simp only [jM.len_sI, jM.len_sL, jM.len_sR, jM.len_fI, jM.len_fL, jM.len_fR]; omega) | (simp [jM.len_nw, jM.len_sI, jM.len_sL, jM.len_sR, jM.len_fI, jM.len_fL, jM.len_fR, *]; omega)) (by first | omega | (exact R.r _ _) | (simp only [jM.len_sI, jM.len_sL, jM.len_sR, jM.len_fI, jM.len_fL, jM.len_fR]; omega) | (simp [jM.len_nw, jM.len_sI, jM.len_sL, jM.len_sR, jM.len_fI, jM.len_fL, jM.len_fR, *]; omega)) ?_
                                                    exact mQ.of (by unfold sp_load ldC; (repeat (first | rw [if_pos (by omega)] | rw [if_neg (by omega)])))))
                                          · first
                                            | (exfalso; omega)
                                            | (refine J.bipush (pc' := 99) rfl rfl (by decide) ?_
                                               refine J.iret rfl rfl (by first | omega | (exact R.r _ _) | (simp only [jM.len_sI, jM.len_sL, jM.len_sR, jM.len_fI, jM.len_fL, jM.len_fR]; omega) | (simp [jM.len_nw, jM.len_sI, jM.len_sL, jM.len_sR, jM.len_fI, jM.len_fL, jM.len_fR, *]; omega)) (by first | omega | (exact R.r _ _) | (simp only [jM.len_sI, jM.len_sL, jM.len_sR, jM.len_fI, jM.len_fL, jM.len_fR]; omega) | (simp [jM.len_nw, jM.len_sI, jM.len_sL, jM.len_sR, jM.len_fI, jM.len_fL, jM.len_fR, *]; omega)) ?_
                                               exact mQ.of (by unfold sp_load ldC; (repeat (first | rw [if_pos (by omega)] | rw [if_neg (by omega)])))))
                                     · first
                                       | (exfalso; omega)
                                       | (refine J.bipush (pc' := 87) rfl rfl (by decide) ?_
                                          refine J.iret rfl rfl (by first | omega | (exact R.r _ _) | (simp only [jM.len_sI, jM.len_sL, jM.len_sR, jM.len_fI, jM.len_fL, jM.len_fR]; omega) | (simp [jM.len_nw, jM.len_sI, jM.len_sL, jM.len_sR, jM.len_fI, jM.len_fL, jM.len_fR, *]; omega)) (by first | omega | (exact R.r _ _) | (simp only [jM.len_sI, jM.len_sL, jM.len_sR, jM.len_fI, jM.len_fL, jM.len_fR]; omega) | (simp [jM.len_nw, jM.len_sI, jM.len_sL, jM.len_sR, jM.len_fI, jM.len_fL, jM.len_fR, *]; omega)) ?_
                                          exact mQ.of (by unfold sp_load ldC; (repeat (first | rw [if_pos (by omega)] | rw [if_neg (by omega)])))))
                                · first
                                  | (exfalso; omega)
                                  | (refine J.iconst (pc' := 75) rfl rfl ?_
                                     refine J.iret rfl rfl (by first | omega | (exact R.r _ _) | (simp only [jM.len_sI, jM.len_sL, jM.len_sR, jM.len_fI, jM.len_fL, jM.len_fR]; omega) | (simp [jM.len_nw, jM.len_sI, jM.len_sL, jM.len_sR, jM.len_fI, jM.len_fL, jM.len_fR, *]; omega)) (by first | omega | (exact R.r _ _) | (simp only [jM.len_sI, jM.len_sL, jM.len_sR, jM.len_fI, jM.len_fL, jM.len_fR]; omega) | (simp [jM.len_nw, jM.len_sI, jM.len_sL, jM.len_sR, jM.len_fI, jM.len_fL, jM.len_fR, *]; omega)) ?_
                                     exact mQ.of (by unfold sp_load ldC; (repeat (first | rw [if_pos (by omega)] | rw [if_neg (by omega)])))))
                           · first
                             | (exfalso; omega)
                             | (refine J.iload_n (pc' := 44) rfl rfl rfl ?_
                                refine J.bipush (pc' := 46) rfl rfl (by decide) ?_
                                refine J.icmp_ge (tgt := 66) (pc' := 49) rfl rfl rfl (by first | omega | (exact R.r _ _) | (simp only [jM.len_sI, jM.len_sL, jM.len_sR, jM.len_fI, jM.len_fL, jM.len_fR]; omega) | (simp [jM.len_nw, jM.len_sI, jM.len_sL, jM.len_sR, jM.len_fI, jM.len_fL, jM.len_fR, *]; omega)) (by first | omega | (exact R.r _ _) | (simp only [jM.len_sI, jM.len_sL, jM.len_sR, jM.len_fI, jM.len_fL, jM.len_fR]; omega) | (simp [jM.len_nw, jM.len_sI, jM.len_sL, jM.len_sR, jM.len_fI, jM.len_fL, jM.len_fR, *]; omega)) (fun c46 => ?_) (fun c46 => ?_)
                                · first
                                  | (exfalso; omega)
                                  | (refine J.iconst (pc' := 67) rfl rfl ?_
                                     refine J.iconst (pc' := 68) rfl rfl ?_
                                     first | refine J.callV (pc' := 71) (t := 16) rfl MX12_may ml_X12_161 iv_X12_may (by decide) ⟨_, rfl, rfl⟩ B.1 (cm_may1 B h0) rfl rfl (Nat.le_of_ble_eq_true rfl) (by first | omega | (exact R.r _ _) | (simp only [jM.len_sI, jM.len_sL, jM.len_sR, jM.len_fI, jM.len_fL, jM.len_fR]; omega) | (simp [jM.len_nw, jM.len_sI, jM.len_sL, jM.len_sR, jM.len_fI, jM.len_fL, jM.len_fR, *]; omega)) (by first | omega | (exact R.r _ _) | (simp only [jM.len_sI, jM.len_sL, jM.len_sR, jM.len_fI, jM.len_fL, jM.len_fR]; omega) | (simp [jM.len_nw, jM.len_sI, jM.len_sL, jM.len_sR, jM.len_fI, jM.len_fL, jM.len_fR, *]; omega)) (by first | omega | (exact R.r _ _) | (simp only [jM.len_sI, jM.len_sL, jM.len_sR, jM.len_fI, jM.len_fL, jM.len_fR]; omega) | (simp [jM.len_nw, jM.len_sI, jM.len_sL, jM.len_sR, jM.len_fI, jM.len_fL, jM.len_fR, *]; omega)) rfl rfl ?_ ?_ | refine J.callV (pc' := 71) (t := 16) rfl MX12_may ml_X12_161 iv_X12_may (by decide) ⟨_, rfl, rfl⟩ B.1 (cm_may0 B h0 (by omega)) rfl rfl (Nat.le_of_ble_eq_true rfl) (by first | omega | (exact R.r _ _) | (simp only [jM.len_sI, jM.len_sL, jM.len_sR, jM.len_fI, jM.len_fL, jM.len_fR]; omega) | (simp [jM.len_nw, jM.len_sI, jM.len_sL, jM.len_sR, jM.len_fI, jM.len_fL, jM.len_fR, *]; omega)) (by first | omega | (exact R.r _ _) | (simp only [jM.len_sI, jM.len_sL, jM.len_sR, jM.len_fI, jM.len_fL, jM.len_fR]; omega) | (simp [jM.len_nw, jM.len_sI, jM.len_sL, jM.len_sR, jM.len_fI, jM.len_fL, jM.len_fR, *]; omega)) (by first | omega | (exact R.r _ _) | (simp only [jM.len_sI, jM.len_sL, jM.len_sR, jM.len_fI, jM.len_fL, jM.len_fR]; omega) | (simp [jM.len_nw, jM.len_sI, jM.len_sL, jM.len_sR, jM.len_fI, jM.len_fL, jM.len_fR, *]; omega)) rfl rfl ?_ ?_
                                     · exact fun _ _ h => h
                                     rintro _ _ ⟨rfl, rfl⟩
                                     refine J.if_ne (tgt := 76) (pc' := 74) rfl rfl rfl (by first | omega | (exact R.r _ _) | (simp only [jM.len_sI, jM.len_sL, jM.len_sR, jM.len_fI, jM.len_fL, jM.len_fR]; omega) | (simp [jM.len_nw, jM.len_sI, jM.len_sL, jM.len_sR, jM.len_fI, jM.len_fL, jM.len_fR, *]; omega)) (fun c71 => ?_) (fun c71 => ?_)
                                     · first
                                       | (exfalso; omega)
                                       | (first | refine J.aload_n (pc' := 77) rfl rfl rfl ?_ | refine J.aload_nN (pc' := 77) rfl rfl rfl ?_
                                          refine J.mgI (pc' := 80) (j := 26) B rfl fl_X12_277 rfl rfl rfl ?_
                                          refine J.bipush (pc' := 82) rfl rfl (by decide) ?_
                                          refine J.icmp_ne (tgt := 88) (pc' := 85) rfl rfl rfl (by first | omega | (exact R.r _ _) | (simp only [jM.len_sI, jM.len_sL, jM.len_sR, jM.len_fI, jM.len_fL, jM.len_fR]; omega) | (simp [jM.len_nw, jM.len_sI, jM.len_sL, jM.len_sR, jM.len_fI, jM.len_fL, jM.len_fR, *]; omega)) (by first | omega | (exact R.r _ _) | (simp only [jM.len_sI, jM.len_sL, jM.len_sR, jM.len_fI, jM.len_fL, jM.len_fR]; omega) | (simp [jM.len_nw, jM.len_sI, jM.len_sL, jM.len_sR, jM.len_fI, jM.len_fL, jM.len_fR, *]; omega)) (fun c82 => ?_) (fun c82 => ?_)
                                          · first
                                            | (exfalso; omega)
                                            | (first | refine J.aload_n (pc' := 89) rfl rfl rfl ?_ | refine J.aload_nN (pc' := 89) rfl rfl rfl ?_
                                               refine J.callV (pc' := 92) (t := 16) rfl MX12_layersInAll ml_X12_280 iv_X12_layersInAll (by decide) ⟨_, rfl, rfl⟩ B.1 (cm_layersInAll B) rfl rfl (Nat.le_of_ble_eq_true rfl) (by first | omega | (exact R.r _ _) | (simp only [jM.len_sI, jM.len_sL, jM.len_sR, jM.len_fI, jM.len_fL, jM.len_fR]; omega) | (simp [jM.len_nw, jM.len_sI, jM.len_sL, jM.len_sR, jM.len_fI, jM.len_fL, jM.len_fR, *]; omega)) (by first | omega | (exact R.r _ _) | (simp only [jM.len_sI, jM.len_sL, jM.len_sR, jM.len_fI, jM.len_fL, jM.len_fR]; omega) | (simp [jM.len_nw, jM.len_sI, jM.len_sL, jM.len_sR, jM.len_fI, jM.len_fL, jM.len_fR, *]; omega)) (by first | omega | (exact R.r _ _) | (simp only [jM.len_sI, jM.len_sL, jM.len_sR, jM.len_fI, jM.len_fL, jM.len_fR]; omega) | (simp [jM.len_nw, jM.len_sI, jM.len_sL, jM.len_sR, jM.len_fI, jM.len_fL, jM.len_fR, *]; omega)) rfl rfl ?_ ?_
                                               · exact fun _ _ h => h
                                               rintro _ _ ⟨rfl, rfl⟩
                                               refine J.bipush (pc' := 94) rfl rfl (by decide) ?_
                                               refine J.icmp_ne (tgt := 100) (pc' := 97) rfl rfl rfl (by first | omega | (exact R.r _ _) | (simp only [jM.len_sI, jM.len_sL, jM.len_sR, jM.len_fI, jM.len_fL, jM.len_fR]; omega) | (simp [jM.len_nw, jM.len_sI, jM.len_sL, jM.len_sR, jM.len_fI, jM.len_fL, jM.len_fR, *]; omega)) (by first | omega | (exact R.r _ _) | (simp only [jM.len_sI, jM.len_sL, jM.len_sR, jM.len_fI, jM.len_fL, jM.len_fR]; omega) | (simp [jM.len_nw, jM.len_sI, jM.len_sL, jM.len_sR, jM.len_fI, jM.len_fL, jM.len_fR, *]; omega)) (fun c94 => ?_) (fun c94 => ?_)
                                               · first
                                                 | (exfalso; omega)
                                                 | (first | refine J.aload_n (pc' := 101) rfl rfl rfl ?_ | refine J.aload_nN (pc' := 101) rfl rfl rfl ?_
                                                    refine J.iload_n (pc' := 102) rfl rfl rfl ?_
                                                    first | refine J.aload_n (pc' := 103) rfl rfl rfl ?_ | refine J.aload_nN (pc' := 103) rfl rfl rfl ?_
                                                    refine J.mgI (pc' := 106) (j := 3) B rfl fl_X12_283 rfl rfl rfl ?_
                                                    refine J.callV (pc' := 109) (t := 16) rfl MX12_inForce ml_X12_264 iv_X12_inForce (by decide) ⟨_, rfl, rfl⟩ B.1 (cm_inForce B R hs (by omega)) rfl rfl (Nat.le_of_ble_eq_true rfl) (by first | omega | (exact R.r _ _) | (simp only [jM.len_sI, jM.len_sL, jM.len_sR, jM.len_fI, jM.len_fL, jM.len_fR]; omega) | (simp [jM.len_nw, jM.len_sI, jM.len_sL, jM.len_sR, jM.len_fI, jM.len_fL, jM.len_fR, *]; omega)) (by first | omega | (exact R.r _ _) | (simp only [jM.len_sI, jM.len_sL, jM.len_sR, jM.len_fI, jM.len_fL, jM.len_fR]; omega) | (simp [jM.len_nw, jM.len_sI, jM.len_sL, jM.len_sR, jM.len_fI, jM.len_fL, jM.len_fR, *]; omega)) (by first | omega | (exact R.r _ _) | (simp only [jM.len_sI, jM.len_sL, jM.len_sR, jM.len_fI, jM.len_fL, jM.len_fR]; omega) | (simp [jM.len_nw, jM.len_sI, jM.len_sL, jM.len_sR, jM.len_fI, jM.len_fL, jM.len_fR, *]; omega)) rfl rfl ?_ ?_
                                                    · exact fun _ _ h => h
                                                    rintro _ _ ⟨rfl, rfl⟩
                                                    refine J.istore (pc' := 111) rfl rfl (by decide) ?_
                                                    refine J.iload (pc' := 113) rfl rfl rfl ?_
                                                    refine J.iconst (pc' := 114) rfl rfl ?_
                                                    refine J.icmp_ne (tgt := 120) (pc' := 117) rfl rfl rfl (by first | omega | (exact R.r _ _) | (simp only [jM.len_sI, jM.len_sL, jM.len_sR, jM.len_fI, jM.len_fL, jM.len_fR]; omega) | (simp [jM.len_nw, jM.len_sI, jM.len_sL, jM.len_sR, jM.len_fI, jM.len_fL, jM.len_fR, *]; omega)) (by first | omega | (exact R.r _ _) | (simp only [jM.len_sI, jM.len_sL, jM.len_sR, jM.len_fI, jM.len_fL, jM.len_fR]; omega) | (simp [jM.len_nw, jM.len_sI, jM.len_sL, jM.len_sR, jM.len_fI, jM.len_fL, jM.len_fR, *]; omega)) (fun c114 => ?_) (fun c114 => ?_)
                                                    · first
                                                      | (exfalso; omega)
                                                      | (exact rest (by omega) (by omega) (by omega) (by omega) (by omega) (by unfold ldC; omega))
                                                    · first
                                                      | (exfalso; omega)
                                                      | (refine J.bipush (pc' := 119) rfl rfl (by decide) ?_
                                                         refine J.iret rfl rfl (by first | omega | (exact R.r _ _) | (simp only [jM.len_sI, jM.len_sL, jM.len_sR, jM.len_fI, jM.len_fL, jM.len_fR]; omega) | (simp [jM.len_nw, jM.len_sI, jM.len_sL, jM.len_sR, jM.len_fI, jM.len_fL, jM.len_fR, *]; omega)) (by first | omega | (exact R.r _ _) | (simp only [jM.len_sI, jM.len_sL, jM.len_sR, jM.len_fI, jM.len_fL, jM.len_fR]; omega) | (simp [jM.len_nw, jM.len_sI, jM.len_sL, jM.len_sR, jM.len_fI, jM.len_fL, jM.len_fR, *]; omega)) ?_
                                                         exact mQ.of (by unfold sp_load ldC; (repeat (first | rw [if_pos (by omega)] | rw [if_neg (by omega)])))))
                                               · first
                                                 | (exfalso; omega)
                                                 | (refine J.bipush (pc' := 99) rfl rfl (by decide) ?_
                                                    refine J.iret rfl rfl (by first | omega | (exact R.r _ _) | (simp only [jM.len_sI, jM.len_sL, jM.len_sR, jM.len_fI, jM.len_fL, jM.len_fR]; omega) | (simp [jM.len_nw, jM.len_sI, jM.len_sL, jM.len_sR, jM.len_fI, jM.len_fL, jM.len_fR, *]; omega)) (by first | omega | (exact R.r _ _) | (simp only [jM.len_sI, jM.len_sL, jM.len_sR, jM.len_fI, jM.len_fL, jM.len_fR]; omega) | (simp [jM.len_nw, jM.len_sI, jM.len_sL, jM.len_sR, jM.len_fI, jM.len_fL, jM.len_fR, *]; omega)) ?_
                                                    exact mQ.of (by unfold sp_load ldC; (repeat (first | rw [if_pos (by omega)] | rw [if_neg (by omega)])))))
                                          · first
                                            | (exfalso; omega)
                                            | (refine J.bipush (pc' := 87) rfl rfl (by decide) ?_
                                               refine J.iret rfl rfl (by first | omega | (exact R.r _ _) | (simp only [jM.len_sI, jM.len_sL, jM.len_sR, jM.len_fI, jM.len_fL, jM.len_fR]; omega) | (simp [jM.len_nw, jM.len_sI, jM.len_sL, jM.len_sR, jM.len_fI, jM.len_fL, jM.len_fR, *]; omega)) (by first | omega | (exact R.r _ _) | (simp only [jM.len_sI, jM.len_sL, jM.len_sR, jM.len_fI, jM.len_fL, jM.len_fR]; omega) | (simp [jM.len_nw, jM.len_sI, jM.len_sL, jM.len_sR, jM.len_fI, jM.len_fL, jM.len_fR, *]; omega)) ?_
                                               exact mQ.of (by unfold sp_load ldC; (repeat (first | rw [if_pos (by omega)] | rw [if_neg (by omega)])))))
                                     · first
                                       | (exfalso; omega)
                                       | (refine J.iconst (pc' := 75) rfl rfl ?_
                                          refine J.iret rfl rfl (by first | omega | (exact R.r _ _) | (simp only [jM.len_sI, jM.len_sL, jM.len_sR, jM.len_fI, jM.len_fL, jM.len_fR]; omega) | (simp [jM.len_nw, jM.len_sI, jM.len_sL, jM.len_sR, jM.len_fI, jM.len_fL, jM.len_fR, *]; omega)) (by first | omega | (exact R.r _ _) | (simp only [jM.len_sI, jM.len_sL, jM.len_sR, jM.len_fI, jM.len_fL, jM.len_fR]; omega) | (simp [jM.len_nw, jM.len_sI, jM.len_sL, jM.len_sR, jM.len_fI, jM.len_fL, jM.len_fR, *]; omega)) ?_
                                          exact mQ.of (by unfold sp_load ldC; (repeat (first | rw [if_pos (by omega)] | rw [if_neg (by omega)])))))
                                · first
                                  | (exfalso; omega)
                                  | (refine J.iload (pc' := 51) rfl rfl rfl ?_
                                     refine J.iconst (pc' := 52) rfl rfl ?_
                                     refine J.icmp_lt (tgt := 66) (pc' := 55) rfl rfl rfl (by first | omega | (exact R.r _ _) | (simp only [jM.len_sI, jM.len_sL, jM.len_sR, jM.len_fI, jM.len_fL, jM.len_fR]; omega) | (simp [jM.len_nw, jM.len_sI, jM.len_sL, jM.len_sR, jM.len_fI, jM.len_fL, jM.len_fR, *]; omega)) (by first | omega | (exact R.r _ _) | (simp only [jM.len_sI, jM.len_sL, jM.len_sR, jM.len_fI, jM.len_fL, jM.len_fR]; omega) | (simp [jM.len_nw, jM.len_sI, jM.len_sL, jM.len_sR, jM.len_fI, jM.len_fL, jM.len_fR, *]; omega)) (fun c52 => ?_) (fun c52 => ?_)
                                     · first
                                       | (exfalso; omega)
                                       | (refine J.iconst (pc' := 67) rfl rfl ?_
                                          refine J.iconst (pc' := 68) rfl rfl ?_
                                          first | refine J.callV (pc' := 71) (t := 16) rfl MX12_may ml_X12_161 iv_X12_may (by decide) ⟨_, rfl, rfl⟩ B.1 (cm_may1 B h0) rfl rfl (Nat.le_of_ble_eq_true rfl) (by first | omega | (exact R.r _ _) | (simp only [jM.len_sI, jM.len_sL, jM.len_sR, jM.len_fI, jM.len_fL, jM.len_fR]; omega) | (simp [jM.len_nw, jM.len_sI, jM.len_sL, jM.len_sR, jM.len_fI, jM.len_fL, jM.len_fR, *]; omega)) (by first | omega | (exact R.r _ _) | (simp only [jM.len_sI, jM.len_sL, jM.len_sR, jM.len_fI, jM.len_fL, jM.len_fR]; omega) | (simp [jM.len_nw, jM.len_sI, jM.len_sL, jM.len_sR, jM.len_fI, jM.len_fL, jM.len_fR, *]; omega)) (by first | omega | (exact R.r _ _) | (simp only [jM.len_sI, jM.len_sL, jM.len_sR, jM.len_fI, jM.len_fL, jM.len_fR]; omega) | (simp [jM.len_nw, jM.len_sI, jM.len_sL, jM.len_sR, jM.len_fI, jM.len_fL, jM.len_fR, *]; omega)) rfl rfl ?_ ?_ | refine J.callV (pc' := 71) (t := 16) rfl MX12_may ml_X12_161 iv_X12_may (by decide) ⟨_, rfl, rfl⟩ B.1 (cm_may0 B h0 (by omega)) rfl rfl (Nat.le_of_ble_eq_true rfl) (by first | omega | (exact R.r _ _) | (simp only [jM.len_sI, jM.len_sL, jM.len_sR, jM.len_fI, jM.len_fL, jM.len_fR]; omega) | (simp [jM.len_nw, jM.len_sI, jM.len_sL, jM.len_sR, jM.len_fI, jM.len_fL, jM.len_fR, *]; omega)) (by first | omega | (exact R.r _ _) | (simp only [jM.len_sI, jM.len_sL, jM.len_sR, jM.len_fI, jM.len_fL, jM.len_fR]; omega) | (simp [jM.len_nw, jM.len_sI, jM.len_sL, jM.len_sR, jM.len_fI, jM.len_fL, jM.len_fR, *]; omega)) (by first | omega | (exact R.r _ _) | (simp only [jM.len_sI, jM.len_sL, jM.len_sR, jM.len_fI, jM.len_fL, jM.len_fR]; omega) | (simp [jM.len_nw, jM.len_sI, jM.len_sL, jM.len_sR, jM.len_fI, jM.len_fL, jM.len_fR, *]; omega)) rfl rfl ?_ ?_
                                          · exact fun _ _ h => h
                                          rintro _ _ ⟨rfl, rfl⟩
                                          refine J.if_ne (tgt := 76) (pc' := 74) rfl rfl rfl (by first | omega | (exact R.r _ _) | (simp only [jM.len_sI, jM.len_sL, jM.len_sR, jM.len_fI, jM.len_fL, jM.len_fR]; omega) | (simp [jM.len_nw, jM.len_sI, jM.len_sL, jM.len_sR, jM.len_fI, jM.len_fL, jM.len_fR, *]; omega)) (fun c71 => ?_) (fun c71 => ?_)
                                          · first
                                            | (exfalso; omega)
                                            | (first | refine J.aload_n (pc' := 77) rfl rfl rfl ?_ | refine J.aload_nN (pc' := 77) rfl rfl rfl ?_
                                               refine J.mgI (pc' := 80) (j := 26) B rfl fl_X12_277 rfl rfl rfl ?_
                                               refine J.bipush (pc' := 82) rfl rfl (by decide) ?_
                                               refine J.icmp_ne (tgt := 88) (pc' := 85) rfl rfl rfl (by first | omega | (exact R.r _ _) | (simp only [jM.len_sI, jM.len_sL, jM.len_sR, jM.len_fI, jM.len_fL, jM.len_fR]; omega) | (simp [jM.len_nw, jM.len_sI, jM.len_sL, jM.len_sR, jM.len_fI, jM.len_fL, jM.len_fR, *]; omega)) (by first | omega | (exact R.r _ _) | (simp only [jM.len_sI, jM.len_sL, jM.len_sR, jM.len_fI, jM.len_fL, jM.len_fR]; omega) | (simp [jM.len_nw, jM.len_sI, jM.len_sL, jM.len_sR, jM.len_fI, jM.len_fL, jM.len_fR, *]; omega)) (fun c82 => ?_) (fun c82 => ?_)
                                               · first
                                                 | (exfalso; omega)
                                                 | (first | refine J.aload_n (pc' := 89) rfl rfl rfl ?_ | refine J.aload_nN (pc' := 89) rfl rfl rfl ?_
                                                    refine J.callV (pc' := 92) (t := 16) rfl MX12_layersInAll ml_X12_280 iv_X12_layersInAll (by decide) ⟨_, rfl, rfl⟩ B.1 (cm_layersInAll B) rfl rfl (Nat.le_of_ble_eq_true rfl) (by first | omega | (exact R.r _ _) | (simp only [jM.len_sI, jM.len_sL, jM.len_sR, jM.len_fI, jM.len_fL, jM.len_fR]; omega) | (simp [jM.len_nw, jM.len_sI, jM.len_sL, jM.len_sR, jM.len_fI, jM.len_fL, jM.len_fR, *]; omega)) (by first | omega | (exact R.r _ _) | (simp only [jM.len_sI, jM.len_sL, jM.len_sR, jM.len_fI, jM.len_fL, jM.len_fR]; omega) | (simp [jM.len_nw, jM.len_sI, jM.len_sL, jM.len_sR, jM.len_fI, jM.len_fL, jM.len_fR, *]; omega)) (by first | omega | (exact R.r _ _) | (simp only [jM.len_sI, jM.len_sL, jM.len_sR, jM.len_fI, jM.len_fL, jM.len_fR]; omega) | (simp [jM.len_nw, jM.len_sI, jM.len_sL, jM.len_sR, jM.len_fI, jM.len_fL, jM.len_fR, *]; omega)) rfl rfl ?_ ?_
                                                    · exact fun _ _ h => h
                                                    rintro _ _ ⟨rfl, rfl⟩
                                                    refine J.bipush (pc' := 94) rfl rfl (by decide) ?_
                                                    refine J.icmp_ne (tgt := 100) (pc' := 97) rfl rfl rfl (by first | omega | (exact R.r _ _) | (simp only [jM.len_sI, jM.len_sL, jM.len_sR, jM.len_fI, jM.len_fL, jM.len_fR]; omega) | (simp [jM.len_nw, jM.len_sI, jM.len_sL, jM.len_sR, jM.len_fI, jM.len_fL, jM.len_fR, *]; omega)) (by first | omega | (exact R.r _ _) | (simp only [jM.len_sI, jM.len_sL, jM.len_sR, jM.len_fI, jM.len_fL, jM.len_fR]; omega) | (simp [jM.len_nw, jM.len_sI, jM.len_sL, jM.len_sR, jM.len_fI, jM.len_fL, jM.len_fR, *]; omega)) (fun c94 => ?_) (fun c94 => ?_)
                                                    · first
                                                      | (exfalso; omega)
                                                      | (first | refine J.aload_n (pc' := 101) rfl rfl rfl ?_ | refine J.aload_nN (pc' := 101) rfl rfl rfl ?_
                                                         refine J.iload_n (pc' := 102) rfl rfl rfl ?_
                                                         first | refine J.aload_n (pc' := 103) rfl rfl rfl ?_ | refine J.aload_nN (pc' := 103) rfl rfl rfl ?_
                                                         refine J.mgI (pc' := 106) (j := 3) B rfl fl_X12_283 rfl rfl rfl ?_
                                                         refine J.callV (pc' := 109) (t := 16) rfl MX12_inForce ml_X12_264 iv_X12_inForce (by decide) ⟨_, rfl, rfl⟩ B.1 (cm_inForce B R hs (by omega)) rfl rfl (Nat.le_of_ble_eq_true rfl) (by first | omega | (exact R.r _ _) | (simp only [jM.len_sI, jM.len_sL, jM.len_sR, jM.len_fI, jM.len_fL, jM.len_fR]; omega) | (simp [jM.len_nw, jM.len_sI, jM.len_sL, jM.len_sR, jM.len_fI, jM.len_fL, jM.len_fR, *]; omega)) (by first | omega | (exact R.r _ _) | (simp only [jM.len_sI, jM.len_sL, jM.len_sR, jM.len_fI, jM.len_fL, jM.len_fR]; omega) | (simp [jM.len_nw, jM.len_sI, jM.len_sL, jM.len_sR, jM.len_fI, jM.len_fL, jM.len_fR, *]; omega)) (by first | omega | (exact R.r _ _) | (simp only [jM.len_sI, jM.len_sL, jM.len_sR, jM.len_fI, jM.len_fL, jM.len_fR]; omega) | (simp [jM.len_nw, jM.len_sI, jM.len_sL, jM.len_sR, jM.len_fI, jM.len_fL, jM.len_fR, *]; omega)) rfl rfl ?_ ?_
                                                         · exact fun _ _ h => h
                                                         rintro _ _ ⟨rfl, rfl⟩
                                                         refine J.istore (pc' := 111) rfl rfl (by decide) ?_
                                                         refine J.iload (pc' := 113) rfl rfl rfl ?_
                                                         refine J.iconst (pc' := 114) rfl rfl ?_
                                                         refine J.icmp_ne (tgt := 120) (pc' := 117) rfl rfl rfl (by first | omega | (exact R.r _ _) | (simp only [jM.len_sI, jM.len_sL, jM.len_sR, jM.len_fI, jM.len_fL, jM.len_fR]; omega) | (simp [jM.len_nw, jM.len_sI, jM.len_sL, jM.len_sR, jM.len_fI, jM.len_fL, jM.len_fR, *]; omega)) (by first | omega | (exact R.r _ _) | (simp only [jM.len_sI, jM.len_sL, jM.len_sR, jM.len_fI, jM.len_fL, jM.len_fR]; omega) | (simp [jM.len_nw, jM.len_sI, jM.len_sL, jM.len_sR, jM.len_fI, jM.len_fL, jM.len_fR, *]; omega)) (fun c114 => ?_) (fun c114 => ?_)
                                                         · first
                                                           | (exfalso; omega)
                                                           | (exact rest (by omega) (by omega) (by omega) (by omega) (by omega) (by unfold ldC; omega))
                                                         · first
                                                           | (exfalso; omega)
                                                           | (refine J.bipush (pc' := 119) rfl rfl (by decide) ?_
                                                              refine J.iret rfl rfl (by first | omega | (exact R.r _ _) | (simp only [jM.len_sI, jM.len_sL, jM.len_sR, jM.len_fI, jM.len_fL, jM.len_fR]; omega) | (simp [jM.len_nw, jM.len_sI, jM.len_sL, jM.len_sR, jM.len_fI, jM.len_fL, jM.len_fR, *]; omega)) (by first | omega | (exact R.r _ _) | (simp only [jM.len_sI, jM.len_sL, jM.len_sR, jM.len_fI, jM.len_fL, jM.len_fR]; omega) | (simp [jM.len_nw, jM.len_sI, jM.len_sL, jM.len_sR, jM.len_fI, jM.len_fL, jM.len_fR, *]; omega)) ?_
                                                              exact mQ.of (by unfold sp_load ldC; (repeat (first | rw [if_pos (by omega)] | rw [if_neg (by omega)])))))
                                                    · first
                                                      | (exfalso; omega)
                                                      | (refine J.bipush (pc' := 99) rfl rfl (by decide) ?_
                                                         refine J.iret rfl rfl (by first | omega | (exact R.r _ _) | (simp only [jM.len_sI, jM.len_sL, jM.len_sR, jM.len_fI, jM.len_fL, jM.len_fR]; omega) | (simp [jM.len_nw, jM.len_sI, jM.len_sL, jM.len_sR, jM.len_fI, jM.len_fL, jM.len_fR, *]; omega)) (by first | omega | (exact R.r _ _) | (simp only [jM.len_sI, jM.len_sL, jM.len_sR, jM.len_fI, jM.len_fL, jM.len_fR]; omega) | (simp [jM.len_nw, jM.len_sI, jM.len_sL, jM.len_sR, jM.len_fI, jM.len_fL, jM.len_fR, *]; omega)) ?_
                                                         exact mQ.of (by unfold sp_load ldC; (repeat (first | rw [if_pos (by omega)] | rw [if_neg (by omega)])))))
                                               · first
                                                 | (exfalso; omega)
                                                 | (refine J.bipush (pc' := 87) rfl rfl (by decide) ?_
                                                    refine J.iret rfl rfl (by first | omega | (exact R.r _ _) | (simp only [jM.len_sI, jM.len_sL, jM.len_sR, jM.len_fI, jM.len_fL, jM.len_fR]; omega) | (simp [jM.len_nw, jM.len_sI, jM.len_sL, jM.len_sR, jM.len_fI, jM.len_fL, jM.len_fR, *]; omega)) (by first | omega | (exact R.r _ _) | (simp only [jM.len_sI, jM.len_sL, jM.len_sR, jM.len_fI, jM.len_fL, jM.len_fR]; omega) | (simp [jM.len_nw, jM.len_sI, jM.len_sL, jM.len_sR, jM.len_fI, jM.len_fL, jM.len_fR, *]; omega)) ?_
                                                    exact mQ.of (by unfold sp_load ldC; (repeat (first | rw [if_pos (by omega)] | rw [if_neg (by omega)])))))
                                          · first
                                            | (exfalso; omega)
                                            | (refine J.iconst (pc' := 75) rfl rfl ?_
                                               refine J.iret rfl rfl (by first | omega | (exact R.r _ _) | (simp only [jM.len_sI, jM.len_sL, jM.len_sR, jM.len_fI, jM.len_fL, jM.len_fR]; omega) | (simp [jM.len_nw, jM.len_sI, jM.len_sL, jM.len_sR, jM.len_fI, jM.len_fL, jM.len_fR, *]; omega)) (by first | omega | (exact R.r _ _) | (simp only [jM.len_sI, jM.len_sL, jM.len_sR, jM.len_fI, jM.len_fL, jM.len_fR]; omega) | (simp [jM.len_nw, jM.len_sI, jM.len_sL, jM.len_sR, jM.len_fI, jM.len_fL, jM.len_fR, *]; omega)) ?_
                                               exact mQ.of (by unfold sp_load ldC; (repeat (first | rw [if_pos (by omega)] | rw [if_neg (by omega)])))))
                                     · first
                                       | (exfalso; omega)
                                       | (refine J.iload (pc' := 57) rfl rfl rfl ?_
                                          refine J.bipush (pc' := 59) rfl rfl (by decide) ?_
                                          refine J.icmp_gt (tgt := 66) (pc' := 62) rfl rfl rfl (by first | omega | (exact R.r _ _) | (simp only [jM.len_sI, jM.len_sL, jM.len_sR, jM.len_fI, jM.len_fL, jM.len_fR]; omega) | (simp [jM.len_nw, jM.len_sI, jM.len_sL, jM.len_sR, jM.len_fI, jM.len_fL, jM.len_fR, *]; omega)) (by first | omega | (exact R.r _ _) | (simp only [jM.len_sI, jM.len_sL, jM.len_sR, jM.len_fI, jM.len_fL, jM.len_fR]; omega) | (simp [jM.len_nw, jM.len_sI, jM.len_sL, jM.len_sR, jM.len_fI, jM.len_fL, jM.len_fR, *]; omega)) (fun c59 => ?_) (fun c59 => ?_)
                                          · first
                                            | (exfalso; omega)
                                            | (refine J.iconst (pc' := 67) rfl rfl ?_
                                               refine J.iconst (pc' := 68) rfl rfl ?_
                                               first | refine J.callV (pc' := 71) (t := 16) rfl MX12_may ml_X12_161 iv_X12_may (by decide) ⟨_, rfl, rfl⟩ B.1 (cm_may1 B h0) rfl rfl (Nat.le_of_ble_eq_true rfl) (by first | omega | (exact R.r _ _) | (simp only [jM.len_sI, jM.len_sL, jM.len_sR, jM.len_fI, jM.len_fL, jM.len_fR]; omega) | (simp [jM.len_nw, jM.len_sI, jM.len_sL, jM.len_sR, jM.len_fI, jM.len_fL, jM.len_fR, *]; omega)) (by first | omega | (exact R.r _ _) | (simp only [jM.len_sI, jM.len_sL, jM.len_sR, jM.len_fI, jM.len_fL, jM.len_fR]; omega) | (simp [jM.len_nw, jM.len_sI, jM.len_sL, jM.len_sR, jM.len_fI, jM.len_fL, jM.len_fR, *]; omega)) (by first | omega | (exact R.r _ _) | (simp only [jM.len_sI, jM.len_sL, jM.len_sR, jM.len_fI, jM.len_fL, jM.len_fR]; omega) | (simp [jM.len_nw, jM.len_sI, jM.len_sL, jM.len_sR, jM.len_fI, jM.len_fL, jM.len_fR, *]; omega)) rfl rfl ?_ ?_ | refine J.callV (pc' := 71) (t := 16) rfl MX12_may ml_X12_161 iv_X12_may (by decide) ⟨_, rfl, rfl⟩ B.1 (cm_may0 B h0 (by omega)) rfl rfl (Nat.le_of_ble_eq_true rfl) (by first | omega | (exact R.r _ _) | (simp only [jM.len_sI, jM.len_sL, jM.len_sR, jM.len_fI, jM.len_fL, jM.len_fR]; omega) | (simp [jM.len_nw, jM.len_sI, jM.len_sL, jM.len_sR, jM.len_fI, jM.len_fL, jM.len_fR, *]; omega)) (by first | omega | (exact R.r _ _) | (simp only [jM.len_sI, jM.len_sL, jM.len_sR, jM.len_fI, jM.len_fL, jM.len_fR]; omega) | (simp [jM.len_nw, jM.len_sI, jM.len_sL, jM.len_sR, jM.len_fI, jM.len_fL, jM.len_fR, *]; omega)) (by first | omega | (exact R.r _ _) | (simp only [jM.len_sI, jM.len_sL, jM.len_sR, jM.len_fI, jM.len_fL, jM.len_fR]; omega) | (simp [jM.len_nw, jM.len_sI, jM.len_sL, jM.len_sR, jM.len_fI, jM.len_fL, jM.len_fR, *]; omega)) rfl rfl ?_ ?_
                                               · exact fun _ _ h => h
                                               rintro _ _ ⟨rfl, rfl⟩
                                               refine J.if_ne (tgt := 76) (pc' := 74) rfl rfl rfl (by first | omega | (exact R.r _ _) | (simp only [jM.len_sI, jM.len_sL, jM.len_sR, jM.len_fI, jM.len_fL, jM.len_fR]; omega) | (simp [jM.len_nw, jM.len_sI, jM.len_sL, jM.len_sR, jM.len_fI, jM.len_fL, jM.len_fR, *]; omega)) (fun c71 => ?_) (fun c71 => ?_)
                                               · first
                                                 | (exfalso; omega)
                                                 | (first | refine J.aload_n (pc' := 77) rfl rfl rfl ?_ | refine J.aload_nN (pc' := 77) rfl rfl rfl ?_
                                                    refine J.mgI (pc' := 80) (j := 26) B rfl fl_X12_277 rfl rfl rfl ?_
                                                    refine J.bipush (pc' := 82) rfl rfl (by decide) ?_
                                                    refine J.icmp_ne (tgt := 88) (pc' := 85) rfl rfl rfl (by first | omega | (exact R.r _ _) | (simp only [jM.len_sI, jM.len_sL, jM.len_sR, jM.len_fI, jM.len_fL, jM.len_fR]; omega) | (simp [jM.len_nw, jM.len_sI, jM.len_sL, jM.len_sR, jM.len_fI, jM.len_fL, jM.len_fR, *]; omega)) (by first | omega | (exact R.r _ _) | (simp only [jM.len_sI, jM.len_sL, jM.len_sR, jM.len_fI, jM.len_fL, jM.len_fR]; omega) | (simp [jM.len_nw, jM.len_sI, jM.len_sL, jM.len_sR, jM.len_fI, jM.len_fL, jM.len_fR, *]; omega)) (fun c82 => ?_) (fun c82 => ?_)
                                                    · first
                                                      | (exfalso; omega)
                                                      | (first | refine J.aload_n (pc' := 89) rfl rfl rfl ?_ | refine J.aload_nN (pc' := 89) rfl rfl rfl ?_
                                                         refine J.callV (pc' := 92) (t := 16) rfl MX12_layersInAll ml_X12_280 iv_X12_layersInAll (by decide) ⟨_, rfl, rfl⟩ B.1 (cm_layersInAll B) rfl rfl (Nat.le_of_ble_eq_true rfl) (by first | omega | (exact R.r _ _) | (simp only [jM.len_sI, jM.len_sL, jM.len_sR, jM.len_fI, jM.len_fL, jM.len_fR]; omega) | (simp [jM.len_nw, jM.len_sI, jM.len_sL, jM.len_sR, jM.len_fI, jM.len_fL, jM.len_fR, *]; omega)) (by first | omega | (exact R.r _ _) | (simp only [jM.len_sI, jM.len_sL, jM.len_sR, jM.len_fI, jM.len_fL, jM.len_fR]; omega) | (simp [jM.len_nw, jM.len_sI, jM.len_sL, jM.len_sR, jM.len_fI, jM.len_fL, jM.len_fR, *]; omega)) (by first | omega | (exact R.r _ _) | (simp only [jM.len_sI, jM.len_sL, jM.len_sR, jM.len_fI, jM.len_fL, jM.len_fR]; omega) | (simp [jM.len_nw, jM.len_sI, jM.len_sL, jM.len_sR, jM.len_fI, jM.len_fL, jM.len_fR, *]; omega)) rfl rfl ?_ ?_
                                                         · exact fun _ _ h => h
                                                         rintro _ _ ⟨rfl, rfl⟩
                                                         refine J.bipush (pc' := 94) rfl rfl (by decide) ?_
                                                         refine J.icmp_ne (tgt := 100) (pc' := 97) rfl rfl rfl (by first | omega | (exact R.r _ _) | (simp only [jM.len_sI, jM.len_sL, jM.len_sR, jM.len_fI, jM.len_fL, jM.len_fR]; omega) | (simp [jM.len_nw, jM.len_sI, jM.len_sL, jM.len_sR, jM.len_fI, jM.len_fL, jM.len_fR, *]; omega)) (by first | omega | (exact R.r _ _) | (simp only [jM.len_sI, jM.len_sL, jM.len_sR, jM.len_fI, jM.len_fL, jM.len_fR]; omega) | (simp [jM.len_nw, jM.len_sI, jM.len_sL, jM.len_sR, jM.len_fI, jM.len_fL, jM.len_fR, *]; omega)) (fun c94 => ?_) (fun c94 => ?_)
                                                         · first
                                                           | (exfalso; omega)
                                                           | (first | refine J.aload_n (pc' := 101) rfl rfl rfl ?_ | refine J.aload_nN (pc' := 101) rfl rfl rfl ?_
                                                              refine J.iload_n (pc' := 102) rfl rfl rfl ?_
                                                              first | refine J.aload_n (pc' := 103) rfl rfl rfl ?_ | refine J.aload_nN (pc' := 103) rfl rfl rfl ?_
                                                              refine J.mgI (pc' := 106) (j := 3) B rfl fl_X12_283 rfl rfl rfl ?_
                                                              refine J.callV (pc' := 109) (t := 16) rfl MX12_inForce ml_X12_264 iv_X12_inForce (by decide) ⟨_, rfl, rfl⟩ B.1 (cm_inForce B R hs (by omega)) rfl rfl (Nat.le_of_ble_eq_true rfl) (by first | omega | (exact R.r _ _) | (simp only [jM.len_sI, jM.len_sL, jM.len_sR, jM.len_fI, jM.len_fL, jM.len_fR]; omega) | (simp [jM.len_nw, jM.len_sI, jM.len_sL, jM.len_sR, jM.len_fI, jM.len_fL, jM.len_fR, *]; omega)) (by first | omega | (exact R.r _ _) | (simp only [jM.len_sI, jM.len_sL, jM.len_sR, jM.len_fI, jM.len_fL, jM.len_fR]; omega) | (simp [jM.len_nw, jM.len_sI, jM.len_sL, jM.len_sR, jM.len_fI, jM.len_fL, jM.len_fR, *]; omega)) (by first | omega | (exact R.r _ _) | (simp only [jM.len_sI, jM.len_sL, jM.len_sR, jM.len_fI, jM.len_fL, jM.len_fR]; omega) | (simp [jM.len_nw, jM.len_sI, jM.len_sL, jM.len_sR, jM.len_fI, jM.len_fL, jM.len_fR, *]; omega)) rfl rfl ?_ ?_
                                                              · exact fun _ _ h => h
                                                              rintro _ _ ⟨rfl, rfl⟩
                                                              refine J.istore (pc' := 111) rfl rfl (by decide) ?_
                                                              refine J.iload (pc' := 113) rfl rfl rfl ?_
                                                              refine J.iconst (pc' := 114) rfl rfl ?_
                                                              refine J.icmp_ne (tgt := 120) (pc' := 117) rfl rfl rfl (by first | omega | (exact R.r _ _) | (simp only [jM.len_sI, jM.len_sL, jM.len_sR, jM.len_fI, jM.len_fL, jM.len_fR]; omega) | (simp [jM.len_nw, jM.len_sI, jM.len_sL, jM.len_sR, jM.len_fI, jM.len_fL, jM.len_fR, *]; omega)) (by first | omega | (exact R.r _ _) | (simp only [jM.len_sI, jM.len_sL, jM.len_sR, jM.len_fI, jM.len_fL, jM.len_fR]; omega) | (simp [jM.len_nw, jM.len_sI, jM.len_sL, jM.len_sR, jM.len_fI, jM.len_fL, jM.len_fR, *]; omega)) (fun c114 => ?_) (fun c114 => ?_)
                                                              · first
                                                                | (exfalso; omega)
                                                                | (exact rest (by omega) (by omega) (by omega) (by omega) (by omega) (by unfold ldC; omega))
                                                              · first
                                                                | (exfalso; omega)
                                                                | (refine J.bipush (pc' := 119) rfl rfl (by decide) ?_
                                                                   refine J.iret rfl rfl (by first | omega | (exact R.r _ _) | (simp only [jM.len_sI, jM.len_sL, jM.len_sR, jM.len_fI, jM.len_fL, jM.len_fR]; omega) | (simp [jM.len_nw, jM.len_sI, jM.len_sL, jM.len_sR, jM.len_fI, jM.len_fL, jM.len_fR, *]; omega)) (by first | omega | (exact R.r _ _) | (simp only [jM.len_sI, jM.len_sL, jM.len_sR, jM.len_fI, jM.len_fL, jM.len_fR]; omega) | (simp [jM.len_nw, jM.len_sI, jM.len_sL, jM.len_sR, jM.len_fI, jM.len_fL, jM.len_fR, *]; omega)) ?_
                                                                   exact mQ.of (by unfold sp_load ldC; (repeat (first | rw [if_pos (by omega)] | rw [if_neg (by omega)])))))
                                                         · first
                                                           | (exfalso; omega)
                                                           | (refine J.bipush (pc' := 99) rfl rfl (by decide) ?_
                                                              refine J.iret rfl rfl (by first | omega | (exact R.r _ _) | (simp only [jM.len_sI, jM.len_sL, jM.len_sR, jM.len_fI, jM.len_fL, jM.len_fR]; omega) | (simp [jM.len_nw, jM.len_sI, jM.len_sL, jM.len_sR, jM.len_fI, jM.len_fL, jM.len_fR, *]; omega)) (by first | omega | (exact R.r _ _) | (simp only [jM.len_sI, jM.len_sL, jM.len_sR, jM.len_fI, jM.len_fL, jM.len_fR]; omega) | (simp [jM.len_nw, jM.len_sI, jM.len_sL, jM.len_sR, jM.len_fI, jM.len_fL, jM.len_fR, *]; omega)) ?_
                                                              exact mQ.of (by unfold sp_load ldC; (repeat (first | rw [if_pos (by omega)] | rw [if_neg (by omega)])))))
                                                    · first
                                                      | (exfalso; omega)
                                                      | (refine J.bipush (pc' := 87) rfl rfl (by decide) ?_
                                                         refine J.iret rfl rfl (by first | omega | (exact R.r _ _) | (simp only [jM.len_sI, jM.len_sL, jM.len_sR, jM.len_fI, jM.len_fL, jM.len_fR]; omega) | (simp [jM.len_nw, jM.len_sI, jM.len_sL, jM.len_sR, jM.len_fI, jM.len_fL, jM.len_fR, *]; omega)) (by first | omega | (exact R.r _ _) | (simp only [jM.len_sI, jM.len_sL, jM.len_sR, jM.len_fI, jM.len_fL, jM.len_fR]; omega) | (simp [jM.len_nw, jM.len_sI, jM.len_sL, jM.len_sR, jM.len_fI, jM.len_fL, jM.len_fR, *]; omega)) ?_
                                                         exact mQ.of (by unfold sp_load ldC; (repeat (first | rw [if_pos (by omega)] | rw [if_neg (by omega)])))))
                                               · first
                                                 | (exfalso; omega)
                                                 | (refine J.iconst (pc' := 75) rfl rfl ?_
                                                    refine J.iret rfl rfl (by first | omega | (exact R.r _ _) | (simp only [jM.len_sI, jM.len_sL, jM.len_sR, jM.len_fI, jM.len_fL, jM.len_fR]; omega) | (simp [jM.len_nw, jM.len_sI, jM.len_sL, jM.len_sR, jM.len_fI, jM.len_fL, jM.len_fR, *]; omega)) (by first | omega | (exact R.r _ _) | (simp only [jM.len_sI, jM.len_sL, jM.len_sR, jM.len_fI, jM.len_fL, jM.len_fR]; omega) | (simp [jM.len_nw, jM.len_sI, jM.len_sL, jM.len_sR, jM.len_fI, jM.len_fL, jM.len_fR, *]; omega)) ?_
                                                    exact mQ.of (by unfold sp_load ldC; (repeat (first | rw [if_pos (by omega)] | rw [if_neg (by omega)])))))
                                          · first
                                            | (exfalso; omega)
                                            | (refine J.iconst (pc' := 63) rfl rfl ?_
                                               refine J.goto (tgt := 67) rfl rfl ?_
                                               refine J.iconst (pc' := 68) rfl rfl ?_
                                               first | refine J.callV (pc' := 71) (t := 16) rfl MX12_may ml_X12_161 iv_X12_may (by decide) ⟨_, rfl, rfl⟩ B.1 (cm_may1 B h0) rfl rfl (Nat.le_of_ble_eq_true rfl) (by first | omega | (exact R.r _ _) | (simp only [jM.len_sI, jM.len_sL, jM.len_sR, jM.len_fI, jM.len_fL, jM.len_fR]; omega) | (simp [jM.len_nw, jM.len_sI, jM.len_sL, jM.len_sR, jM.len_fI, jM.len_fL, jM.len_fR, *]; omega)) (by first | omega | (exact R.r _ _) | (simp only [jM.len_sI, jM.len_sL, jM.len_sR, jM.len_fI, jM.len_fL, jM.len_fR]; omega) | (simp [jM.len_nw, jM.len_sI, jM.len_sL, jM.len_sR, jM.len_fI, jM.len_fL, jM.len_fR, *]; omega)) (by first | omega | (exact R.r _ _) | (simp only [jM.len_sI, jM.len_sL, jM.len_sR, jM.len_fI, jM.len_fL, jM.len_fR]; omega) | (simp [jM.len_nw, jM.len_sI, jM.len_sL, jM.len_sR, jM.len_fI, jM.len_fL, jM.len_fR, *]; omega)) rfl rfl ?_ ?_ | refine J.callV (pc' := 71) (t := 16) rfl MX12_may ml_X12_161 iv_X12_may (by decide) ⟨_, rfl, rfl⟩ B.1 (cm_may0 B h0 (by omega)) rfl rfl (Nat.le_of_ble_eq_true rfl) (by first | omega | (exact R.r _ _) | (simp only [jM.len_sI, jM.len_sL, jM.len_sR, jM.len_fI, jM.len_fL, jM.len_fR]; omega) | (simp [jM.len_nw, jM.len_sI, jM.len_sL, jM.len_sR, jM.len_fI, jM.len_fL, jM.len_fR, *]; omega)) (by first | omega | (exact R.r _ _) | (simp only [jM.len_sI, jM.len_sL, jM.len_sR, jM.len_fI, jM.len_fL, jM.len_fR]; omega) | (simp [jM.len_nw, jM.len_sI, jM.len_sL, jM.len_sR, jM.len_fI, jM.len_fL, jM.len_fR, *]; omega)) (by first | omega | (exact R.r _ _) | (simp only [jM.len_sI, jM.len_sL, jM.len_sR, jM.len_fI, jM.len_fL, jM.len_fR]; omega) | (simp [jM.len_nw, jM.len_sI, jM.len_sL, jM.len_sR, jM.len_fI, jM.len_fL, jM.len_fR, *]; omega)) rfl rfl ?_ ?_
                                               · exact fun _ _ h => h
                                               rintro _ _ ⟨rfl, rfl⟩
                                               refine J.if_ne (tgt := 76) (pc' := 74) rfl rfl rfl (by first | omega | (exact R.r _ _) | (simp only [jM.len_sI, jM.len_sL, jM.len_sR, jM.len_fI, jM.len_fL, jM.len_fR]; omega) | (simp [jM.len_nw, jM.len_sI, jM.len_sL, jM.len_sR, jM.len_fI, jM.len_fL, jM.len_fR, *]; omega)) (fun c71 => ?_) (fun c71 => ?_)
                                               · first
                                                 | (exfalso; omega)
                                                 | (first | refine J.aload_n (pc' := 77) rfl rfl rfl ?_ | refine J.aload_nN (pc' := 77) rfl rfl rfl ?_
                                                    refine J.mgI (pc' := 80) (j := 26) B rfl fl_X12_277 rfl rfl rfl ?_
                                                    refine J.bipush (pc' := 82) rfl rfl (by decide) ?_
                                                    refine J.icmp_ne (tgt := 88) (pc' := 85) rfl rfl rfl (by first | omega | (exact R.r _ _) | (simp only [jM.len_sI, jM.len_sL, jM.len_sR, jM.len_fI, jM.len_fL, jM.len_fR]; omega) | (simp [jM.len_nw, jM.len_sI, jM.len_sL, jM.len_sR, jM.len_fI, jM.len_fL, jM.len_fR, *]; omega)) (by first | omega | (exact R.r _ _) | (simp only [jM.len_sI, jM.len_sL, jM.len_sR, jM.len_fI, jM.len_fL, jM.len_fR]; omega) | (simp [jM.len_nw, jM.len_sI, jM.len_sL, jM.len_sR, jM.len_fI, jM.len_fL, jM.len_fR, *]; omega)) (fun c82 => ?_) (fun c82 => ?_)
                                                    · first
                                                      | (exfalso; omega)
                                                      | (first | refine J.aload_n (pc' := 89) rfl rfl rfl ?_ | refine J.aload_nN (pc' := 89) rfl rfl rfl ?_
                                                         refine J.callV (pc' := 92) (t := 16) rfl MX12_layersInAll ml_X12_280 iv_X12_layersInAll (by decide) ⟨_, rfl, rfl⟩ B.1 (cm_layersInAll B) rfl rfl (Nat.le_of_ble_eq_true rfl) (by first | omega | (exact R.r _ _) | (simp only [jM.len_sI, jM.len_sL, jM.len_sR, jM.len_fI, jM.len_fL, jM.len_fR]; omega) | (simp [jM.len_nw, jM.len_sI, jM.len_sL, jM.len_sR, jM.len_fI, jM.len_fL, jM.len_fR, *]; omega)) (by first | omega | (exact R.r _ _) | (simp only [jM.len_sI, jM.len_sL, jM.len_sR, jM.len_fI, jM.len_fL, jM.len_fR]; omega) | (simp [jM.len_nw, jM.len_sI, jM.len_sL, jM.len_sR, jM.len_fI, jM.len_fL, jM.len_fR, *]; omega)) (by first | omega | (exact R.r _ _) | (simp only [jM.len_sI, jM.len_sL, jM.len_sR, jM.len_fI, jM.len_fL, jM.len_fR]; omega) | (simp [jM.len_nw, jM.len_sI, jM.len_sL, jM.len_sR, jM.len_fI, jM.len_fL, jM.len_fR, *]; omega)) rfl rfl ?_ ?_
                                                         · exact fun _ _ h => h
                                                         rintro _ _ ⟨rfl, rfl⟩
                                                         refine J.bipush (pc' := 94) rfl rfl (by decide) ?_
                                                         refine J.icmp_ne (tgt := 100) (pc' := 97) rfl rfl rfl (by first | omega | (exact R.r _ _) | (simp only [jM.len_sI, jM.len_sL, jM.len_sR, jM.len_fI, jM.len_fL, jM.len_fR]; omega) | (simp [jM.len_nw, jM.len_sI, jM.len_sL, jM.len_sR, jM.len_fI, jM.len_fL, jM.len_fR, *]; omega)) (by first | omega | (exact R.r _ _) | (simp only [jM.len_sI, jM.len_sL, jM.len_sR, jM.len_fI, jM.len_fL, jM.len_fR]; omega) | (simp [jM.len_nw, jM.len_sI, jM.len_sL, jM.len_sR, jM.len_fI, jM.len_fL, jM.len_fR, *]; omega)) (fun c94 => ?_) (fun c94 => ?_)
                                                         · first
                                                           | (exfalso; omega)
                                                           | (first | refine J.aload_n (pc' := 101) rfl rfl rfl ?_ | refine J.aload_nN (pc' := 101) rfl rfl rfl ?_
                                                              refine J.iload_n (pc' := 102) rfl rfl rfl ?_
                                                              first | refine J.aload_n (pc' := 103) rfl rfl rfl ?_ | refine J.aload_nN (pc' := 103) rfl rfl rfl ?_
                                                              refine J.mgI (pc' := 106) (j := 3) B rfl fl_X12_283 rfl rfl rfl ?_
                                                              refine J.callV (pc' := 109) (t := 16) rfl MX12_inForce ml_X12_264 iv_X12_inForce (by decide) ⟨_, rfl, rfl⟩ B.1 (cm_inForce B R hs (by omega)) rfl rfl (Nat.le_of_ble_eq_true rfl) (by first | omega | (exact R.r _ _) | (simp only [jM.len_sI, jM.len_sL, jM.len_sR, jM.len_fI, jM.len_fL, jM.len_fR]; omega) | (simp [jM.len_nw, jM.len_sI, jM.len_sL, jM.len_sR, jM.len_fI, jM.len_fL, jM.len_fR, *]; omega)) (by first | omega | (exact R.r _ _) | (simp only [jM.len_sI, jM.len_sL, jM.len_sR, jM.len_fI, jM.len_fL, jM.len_fR]; omega) | (simp [jM.len_nw, jM.len_sI, jM.len_sL, jM.len_sR, jM.len_fI, jM.len_fL, jM.len_fR, *]; omega)) (by first | omega | (exact R.r _ _) | (simp only [jM.len_sI, jM.len_sL, jM.len_sR, jM.len_fI, jM.len_fL, jM.len_fR]; omega) | (simp [jM.len_nw, jM.len_sI, jM.len_sL, jM.len_sR, jM.len_fI, jM.len_fL, jM.len_fR, *]; omega)) rfl rfl ?_ ?_
                                                              · exact fun _ _ h => h
                                                              rintro _ _ ⟨rfl, rfl⟩
                                                              refine J.istore (pc' := 111) rfl rfl (by decide) ?_
                                                              refine J.iload (pc' := 113) rfl rfl rfl ?_
                                                              refine J.iconst (pc' := 114) rfl rfl ?_
                                                              refine J.icmp_ne (tgt := 120) (pc' := 117) rfl rfl rfl (by first | omega | (exact R.r _ _) | (simp only [jM.len_sI, jM.len_sL, jM.len_sR, jM.len_fI, jM.len_fL, jM.len_fR]; omega) | (simp [jM.len_nw, jM.len_sI, jM.len_sL, jM.len_sR, jM.len_fI, jM.len_fL, jM.len_fR, *]; omega)) (by first | omega | (exact R.r _ _) | (simp only [jM.len_sI, jM.len_sL, jM.len_sR, jM.len_fI, jM.len_fL, jM.len_fR]; omega) | (simp [jM.len_nw, jM.len_sI, jM.len_sL, jM.len_sR, jM.len_fI, jM.len_fL, jM.len_fR, *]; omega)) (fun c114 => ?_) (fun c114 => ?_)
                                                              · first
                                                                | (exfalso; omega)
                                                                | (exact rest (by omega) (by omega) (by omega) (by omega) (by omega) (by unfold ldC; omega))
                                                              · first
                                                                | (exfalso; omega)
                                                                | (refine J.bipush (pc' := 119) rfl rfl (by decide) ?_
                                                                   refine J.iret rfl rfl (by first | omega | (exact R.r _ _) | (simp only [jM.len_sI, jM.len_sL, jM.len_sR, jM.len_fI, jM.len_fL, jM.len_fR]; omega) | (simp [jM.len_nw, jM.len_sI, jM.len_sL, jM.len_sR, jM.len_fI, jM.len_fL, jM.len_fR, *]; omega)) (by first | omega | (exact R.r _ _) | (simp only [jM.len_sI, jM.len_sL, jM.len_sR, jM.len_fI, jM.len_fL, jM.len_fR]; omega) | (simp [jM.len_nw, jM.len_sI, jM.len_sL, jM.len_sR, jM.len_fI, jM.len_fL, jM.len_fR, *]; omega)) ?_
                                                                   exact mQ.of (by unfold sp_load ldC; (repeat (first | rw [if_pos (by omega)] | rw [if_neg (by omega)])))))
                                                         · first
                                                           | (exfalso; omega)
                                                           | (refine J.bipush (pc' := 99) rfl rfl (by decide) ?_
                                                              refine J.iret rfl rfl (by first | omega | (exact R.r _ _) | (simp only [jM.len_sI, jM.len_sL, jM.len_sR, jM.len_fI, jM.len_fL, jM.len_fR]; omega) | (simp [jM.len_nw, jM.len_sI, jM.len_sL, jM.len_sR, jM.len_fI, jM.len_fL, jM.len_fR, *]; omega)) (by first | omega | (exact R.r _ _) | (simp only [jM.len_sI, jM.len_sL, jM.len_sR, jM.len_fI, jM.len_fL, jM.len_fR]; omega) | (simp [jM.len_nw, jM.len_sI, jM.len_sL, jM.len_sR, jM.len_fI, jM.len_fL, jM.len_fR, *]; omega)) ?_
                                                              exact mQ.of (by unfold sp_load ldC; (repeat (first | rw [if_pos (by omega)] | rw [if_neg (by omega)])))))
                                                    · first
                                                      | (exfalso; omega)
                                                      | (refine J.bipush (pc' := 87) rfl rfl (by decide) ?_
                                                         refine J.iret rfl rfl (by first | omega | (exact R.r _ _) | (simp only [jM.len_sI, jM.len_sL, jM.len_sR, jM.len_fI, jM.len_fL, jM.len_fR]; omega) | (simp [jM.len_nw, jM.len_sI, jM.len_sL, jM.len_sR, jM.len_fI, jM.len_fL, jM.len_fR, *]; omega)) (by first | omega | (exact R.r _ _) | (simp only [jM.len_sI, jM.len_sL, jM.len_sR, jM.len_fI, jM.len_fL, jM.len_fR]; omega) | (simp [jM.len_nw, jM.len_sI, jM.len_sL, jM.len_sR, jM.len_fI, jM.len_fL, jM.len_fR, *]; omega)) ?_
                                                         exact mQ.of (by unfold sp_load ldC; (repeat (first | rw [if_pos (by omega)] | rw [if_neg (by omega)])))))
                                               · first
                                                 | (exfalso; omega)
                                                 | (refine J.iconst (pc' := 75) rfl rfl ?_
                                                    refine J.iret rfl rfl (by first | omega | (exact R.r _ _) | (simp only [jM.len_sI, jM.len_sL, jM.len_sR, jM.len_fI, jM.len_fL, jM.len_fR]; omega) | (simp [jM.len_nw, jM.len_sI, jM.len_sL, jM.len_sR, jM.len_fI, jM.len_fL, jM.len_fR, *]; omega)) (by first | omega | (exact R.r _ _) | (simp only [jM.len_sI, jM.len_sL, jM.len_sR, jM.len_fI, jM.len_fL, jM.len_fR]; omega) | (simp [jM.len_nw, jM.len_sI, jM.len_sL, jM.len_sR, jM.len_fI, jM.len_fL, jM.len_fR, *]; omega)) ?_
                                                    exact mQ.of (by unfold sp_load ldC; (repeat (first | rw [if_pos (by omega)] | rw [if_neg (by omega)]))))))))))
                 · first
                   | (exfalso; omega)
                   | (refine J.iconst (pc' := 27) rfl rfl ?_
                      refine J.goto (tgt := 31) rfl rfl ?_
                      refine J.iconst (pc' := 32) rfl rfl ?_
                      first | refine J.callV (pc' := 35) (t := 16) rfl MX12_may ml_X12_161 iv_X12_may (by decide) ⟨_, rfl, rfl⟩ B.1 (cm_may1 B h0) rfl rfl (Nat.le_of_ble_eq_true rfl) (by first | omega | (exact R.r _ _) | (simp only [jM.len_sI, jM.len_sL, jM.len_sR, jM.len_fI, jM.len_fL, jM.len_fR]; omega) | (simp [jM.len_nw, jM.len_sI, jM.len_sL, jM.len_sR, jM.len_fI, jM.len_fL, jM.len_fR, *]; omega)) (by first | omega | (exact R.r _ _) | (simp only [jM.len_sI, jM.len_sL, jM.len_sR, jM.len_fI, jM.len_fL, jM.len_fR]; omega) | (simp [jM.len_nw, jM.len_sI, jM.len_sL, jM.len_sR, jM.len_fI, jM.len_fL, jM.len_fR, *]; omega)) (by first | omega | (exact R.r _ _) | (simp only [jM.len_sI, jM.len_sL, jM.len_sR, jM.len_fI, jM.len_fL, jM.len_fR]; omega) | (simp [jM.len_nw, jM.len_sI, jM.len_sL, jM.len_sR, jM.len_fI, jM.len_fL, jM.len_fR, *]; omega)) rfl rfl ?_ ?_ | refine J.callV (pc' := 35) (t := 16) rfl MX12_may ml_X12_161 iv_X12_may (by decide) ⟨_, rfl, rfl⟩ B.1 (cm_may0 B h0 (by omega)) rfl rfl (Nat.le_of_ble_eq_true rfl) (by first | omega | (exact R.r _ _) | (simp only [jM.len_sI, jM.len_sL, jM.len_sR, jM.len_fI, jM.len_fL, jM.len_fR]; omega) | (simp [jM.len_nw, jM.len_sI, jM.len_sL, jM.len_sR, jM.len_fI, jM.len_fL, jM.len_fR, *]; omega)) (by first | omega | (exact R.r _ _) | (simp only [jM.len_sI, jM.len_sL, jM.len_sR, jM.len_fI, jM.len_fL, jM.len_fR]; omega) | (simp [jM.len_nw, jM.len_sI, jM.len_sL, jM.len_sR, jM.len_fI, jM.len_fL, jM.len_fR, *]; omega)) (by first | omega | (exact R.r _ _) | (simp only [jM.len_sI, jM.len_sL, jM.len_sR, jM.len_fI, jM.len_fL, jM.len_fR]; omega) | (simp [jM.len_nw, jM.len_sI, jM.len_sL, jM.len_sR, jM.len_fI, jM.len_fL, jM.len_fR, *]; omega)) rfl rfl ?_ ?_
                      · exact fun _ _ h => h
                      rintro _ _ ⟨rfl, rfl⟩
                      refine J.if_eq (tgt := 74) (pc' := 38) rfl rfl rfl (by first | omega | (exact R.r _ _) | (simp only [jM.len_sI, jM.len_sL, jM.len_sR, jM.len_fI, jM.len_fL, jM.len_fR]; omega) | (simp [jM.len_nw, jM.len_sI, jM.len_sL, jM.len_sR, jM.len_fI, jM.len_fL, jM.len_fR, *]; omega)) (fun c35 => ?_) (fun c35 => ?_)
                      · first
                        | (exfalso; omega)
                        | (refine J.iconst (pc' := 75) rfl rfl ?_
                           refine J.iret rfl rfl (by first | omega | (exact R.r _ _) | (simp only [jM.len_sI, jM.len_sL, jM.len_sR, jM.len_fI, jM.len_fL, jM.len_fR]; omega) | (simp [jM.len_nw, jM.len_sI, jM.len_sL, jM.len_sR, jM.len_fI, jM.len_fL, jM.len_fR, *]; omega)) (by first | omega | (exact R.r _ _) | (simp only [jM.len_sI, jM.len_sL, jM.len_sR, jM.len_fI, jM.len_fL, jM.len_fR]; omega) | (simp [jM.len_nw, jM.len_sI, jM.len_sL, jM.len_sR, jM.len_fI, jM.len_fL, jM.len_fR, *]; omega)) ?_
                           exact mQ.of (by unfold sp_load ldC; (repeat (first | rw [if_pos (by omega)] | rw [if_neg (by omega)]))))
                      · first
                        | (exfalso; omega)
                        | (first | refine J.aload_n (pc' := 39) rfl rfl rfl ?_ | refine J.aload_nN (pc' := 39) rfl rfl rfl ?_
                           refine J.iload_n (pc' := 40) rfl rfl rfl ?_
                           refine J.if_lt (tgt := 66) (pc' := 43) rfl rfl rfl (by first | omega | (exact R.r _ _) | (simp only [jM.len_sI, jM.len_sL, jM.len_sR, jM.len_fI, jM.len_fL, jM.len_fR]; omega) | (simp [jM.len_nw, jM.len_sI, jM.len_sL, jM.len_sR, jM.len_fI, jM.len_fL, jM.len_fR, *]; omega)) (fun c40 => ?_) (fun c40 => ?_)
                           · first
                             | (exfalso; omega)
                             | (refine J.iconst (pc' := 67) rfl rfl ?_
                                refine J.iconst (pc' := 68) rfl rfl ?_
                                first | refine J.callV (pc' := 71) (t := 16) rfl MX12_may ml_X12_161 iv_X12_may (by decide) ⟨_, rfl, rfl⟩ B.1 (cm_may1 B h0) rfl rfl (Nat.le_of_ble_eq_true rfl) (by first | omega | (exact R.r _ _) | (simp only [jM.len_sI, jM.len_sL, jM.len_sR, jM.len_fI, jM.len_fL, jM.len_fR]; omega) | (simp [jM.len_nw, jM.len_sI, jM.len_sL, jM.len_sR, jM.len_fI, jM.len_fL, jM.len_fR, *]; omega)) (by first | omega | (exact R.r _ _) | (simp only [jM.len_sI, jM.len_sL, jM.len_sR, jM.len_fI, jM.len_fL, jM.len_fR]; omega) | (simp [jM.len_nw, jM.len_sI, jM.len_sL, jM.len_sR, jM.len_fI, jM.len_fL, jM.len_fR, *]; omega)) (by first | omega | (exact R.r _ _) | (simp only [jM.len_sI, jM.len_sL, jM.len_sR, jM.len_fI, jM.len_fL, jM.len_fR]; omega) | (simp [jM.len_nw, jM.len_sI, jM.len_sL, jM.len_sR, jM.len_fI, jM.len_fL, jM.len_fR, *]; omega)) rfl rfl ?_ ?_ | refine J.callV (pc' := 71) (t := 16) rfl MX12_may ml_X12_161 iv_X12_may (by decide) ⟨_, rfl, rfl⟩ B.1 (cm_may0 B h0 (by omega)) rfl rfl (Nat.le_of_ble_eq_true rfl) (by first | omega | (exact R.r _ _) | (simp only [jM.len_sI, jM.len_sL, jM.len_sR, jM.len_fI, jM.len_fL, jM.len_fR]; omega) | (simp [jM.len_nw, jM.len_sI, jM.len_sL, jM.len_sR, jM.len_fI, jM.len_fL, jM.len_fR, *]; omega)) (by first | omega | (exact R.r _ _) | (simp only [jM.len_sI, jM.len_sL, jM.len_sR, jM.len_fI, jM.len_fL, jM.len_fR]; omega) | (simp [jM.len_nw, jM.len_sI, jM.len_sL, jM.len_sR, jM.len_fI, jM.len_fL, jM.len_fR, *]; omega)) (by first | omega | (exact R.r _ _) | (simp only [jM.len_sI, jM.len_sL, jM.len_sR, jM.len_fI, jM.len_fL, jM.len_fR]; omega) | (simp [jM.len_nw, jM.len_sI, jM.len_sL, jM.len_sR, jM.len_fI, jM.len_fL, jM.len_fR, *]; omega)) rfl rfl ?_ ?_
                                · exact fun _ _ h => h
                                rintro _ _ ⟨rfl, rfl⟩
                                refine J.if_ne (tgt := 76) (pc' := 74) rfl rfl rfl (by first | omega | (exact R.r _ _) | (simp only [jM.len_sI, jM.len_sL, jM.len_sR, jM.len_fI, jM.len_fL, jM.len_fR]; omega) | (simp [jM.len_nw, jM.len_sI, jM.len_sL, jM.len_sR, jM.len_fI, jM.len_fL, jM.len_fR, *]; omega)) (fun c71 => ?_) (fun c71 => ?_)
                                · first
                                  | (exfalso; omega)
                                  | (first | refine J.aload_n (pc' := 77) rfl rfl rfl ?_ | refine J.aload_nN (pc' := 77) rfl rfl rfl ?_
                                     refine J.mgI (pc' := 80) (j := 26) B rfl fl_X12_277 rfl rfl rfl ?_
                                     refine J.bipush (pc' := 82) rfl rfl (by decide) ?_
                                     refine J.icmp_ne (tgt := 88) (pc' := 85) rfl rfl rfl (by first | omega | (exact R.r _ _) | (simp only [jM.len_sI, jM.len_sL, jM.len_sR, jM.len_fI, jM.len_fL, jM.len_fR]; omega) | (simp [jM.len_nw, jM.len_sI, jM.len_sL, jM.len_sR, jM.len_fI, jM.len_fL, jM.len_fR, *]; omega)) (by first | omega | (exact R.r _ _) | (simp only [jM.len_sI, jM.len_sL, jM.len_sR, jM.len_fI, jM.len_fL, jM.len_fR]; omega) | (simp [jM.len_nw, jM.len_sI, jM.len_sL, jM.len_sR, jM.len_fI, jM.len_fL, jM.len_fR, *]; omega)) (fun c82 => ?_) (fun c82 => ?_)
                                     · first
                                       | (exfalso; omega)
                                       | (first | refine J.aload_n (pc' := 89) rfl rfl rfl ?_ | refine J.aload_nN (pc' := 89) rfl rfl rfl ?_
                                          refine J.callV (pc' := 92) (t := 16) rfl MX12_layersInAll ml_X12_280 iv_X12_layersInAll (by decide) ⟨_, rfl, rfl⟩ B.1 (cm_layersInAll B) rfl rfl (Nat.le_of_ble_eq_true rfl) (by first | omega | (exact R.r _ _) | (simp only [jM.len_sI, jM.len_sL, jM.len_sR, jM.len_fI, jM.len_fL, jM.len_fR]; omega) | (simp [jM.len_nw, jM.len_sI, jM.len_sL, jM.len_sR, jM.len_fI, jM.len_fL, jM.len_fR, *]; omega)) (by first | omega | (exact R.r _ _) | (simp only [jM.len_sI, jM.len_sL, jM.len_sR, jM.len_fI, jM.len_fL, jM.len_fR]; omega) | (simp [jM.len_nw, jM.len_sI, jM.len_sL, jM.len_sR, jM.len_fI, jM.len_fL, jM.len_fR, *]; omega)) (by first | omega | (exact R.r _ _) | (simp only [jM.len_sI, jM.len_sL, jM.len_sR, jM.len_fI, jM.len_fL, jM.len_fR]; omega) | (simp [jM.len_nw, jM.len_sI, jM.len_sL, jM.len_sR, jM.len_fI, jM.len_fL, jM.len_fR, *]; omega)) rfl rfl ?_ ?_
                                          · exact fun _ _ h => h
                                          rintro _ _ ⟨rfl, rfl⟩
                                          refine J.bipush (pc' := 94) rfl rfl (by decide) ?_
                                          refine J.icmp_ne (tgt := 100) (pc' := 97) rfl rfl rfl (by first | omega | (exact R.r _ _) | (simp only [jM.len_sI, jM.len_sL, jM.len_sR, jM.len_fI, jM.len_fL, jM.len_fR]; omega) | (simp [jM.len_nw, jM.len_sI, jM.len_sL, jM.len_sR, jM.len_fI, jM.len_fL, jM.len_fR, *]; omega)) (by first | omega | (exact R.r _ _) | (simp only [jM.len_sI, jM.len_sL, jM.len_sR, jM.len_fI, jM.len_fL, jM.len_fR]; omega) | (simp [jM.len_nw, jM.len_sI, jM.len_sL, jM.len_sR, jM.len_fI, jM.len_fL, jM.len_fR, *]; omega)) (fun c94 => ?_) (fun c94 => ?_)
                                          · first
                                            | (exfalso; omega)
                                            | (first | refine J.aload_n (pc' := 101) rfl rfl rfl ?_ | refine J.aload_nN (pc' := 101) rfl rfl rfl ?_
                                               refine J.iload_n (pc' := 102) rfl rfl rfl ?_
                                               first | refine J.aload_n (pc' := 103) rfl rfl rfl ?_ | refine J.aload_nN (pc' := 103) rfl rfl rfl ?_
                                               refine J.mgI (pc' := 106) (j := 3) B rfl fl_X12_283 rfl rfl rfl ?_
                                               refine J.callV (pc' := 109) (t := 16) rfl MX12_inForce ml_X12_264 iv_X12_inForce (by decide) ⟨_, rfl, rfl⟩ B.1 (cm_inForce B R hs (by omega)) rfl rfl (Nat.le_of_ble_eq_true rfl) (by first | omega | (exact R.r _ _) | (simp only [jM.len_sI, jM.len_sL, jM.len_sR, jM.len_fI, jM.len_fL, jM.len_fR]; omega) | (simp [jM.len_nw, jM.len_sI, jM.len_sL, jM.len_sR, jM.len_fI, jM.len_fL, jM.len_fR, *]; omega)) (by first | omega | (exact R.r _ _) | (simp only [jM.len_sI, jM.len_sL, jM.len_sR, jM.len_fI, jM.len_fL, jM.len_fR]; omega) | (simp [jM.len_nw, jM.len_sI, jM.len_sL, jM.len_sR, jM.len_fI, jM.len_fL, jM.len_fR, *]; omega)) (by first | omega | (exact R.r _ _) | (simp only [jM.len_sI, jM.len_sL, jM.len_sR, jM.len_fI, jM.len_fL, jM.len_fR]; omega) | (simp [jM.len_nw, jM.len_sI, jM.len_sL, jM.len_sR, jM.len_fI, jM.len_fL, jM.len_fR, *]; omega)) rfl rfl ?_ ?_
                                               · exact fun _ _ h => h
                                               rintro _ _ ⟨rfl, rfl⟩
                                               refine J.istore (pc' := 111) rfl rfl (by decide) ?_
                                               refine J.iload (pc' := 113) rfl rfl rfl ?_
                                               refine J.iconst (pc' := 114) rfl rfl ?_
                                               refine J.icmp_ne (tgt := 120) (pc' := 117) rfl rfl rfl (by first | omega | (exact R.r _ _) | (simp only [jM.len_sI, jM.len_sL, jM.len_sR, jM.len_fI, jM.len_fL, jM.len_fR]; omega) | (simp [jM.len_nw, jM.len_sI, jM.len_sL, jM.len_sR, jM.len_fI, jM.len_fL, jM.len_fR, *]; omega)) (by first | omega | (exact R.r _ _) | (simp only [jM.len_sI, jM.len_sL, jM.len_sR, jM.len_fI, jM.len_fL, jM.len_fR]; omega) | (simp [jM.len_nw, jM.len_sI, jM.len_sL, jM.len_sR, jM.len_fI, jM.len_fL, jM.len_fR, *]; omega)) (fun c114 => ?_) (fun c114 => ?_)
                                               · first
                                                 | (exfalso; omega)
                                                 | (exact rest (by omega) (by omega) (by omega) (by omega) (by omega) (by unfold ldC; omega))
                                               · first
                                                 | (exfalso; omega)
                                                 | (refine J.bipush (pc' := 119) rfl rfl (by decide) ?_
                                                    refine J.iret rfl rfl (by first | omega | (exact R.r _ _) | (simp only [jM.len_sI, jM.len_sL, jM.len_sR, jM.len_fI, jM.len_fL, jM.len_fR]; omega) | (simp [jM.len_nw, jM.len_sI, jM.len_sL, jM.len_sR, jM.len_fI, jM.len_fL, jM.len_fR, *]; omega)) (by first | omega | (exact R.r _ _) | (simp only [jM.len_sI, jM.len_sL, jM.len_sR, jM.len_fI, jM.len_fL, jM.len_fR]; omega) | (simp [jM.len_nw, jM.len_sI, jM.len_sL, jM.len_sR, jM.len_fI, jM.len_fL, jM.len_fR, *]; omega)) ?_
                                                    exact mQ.of (by unfold sp_load ldC; (repeat (first | rw [if_pos (by omega)] | rw [if_neg (by omega)])))))
                                          · first
                                            | (exfalso; omega)
                                            | (refine J.bipush (pc' := 99) rfl rfl (by decide) ?_
                                               refine J.iret rfl rfl (by first | omega | (exact R.r _ _) | (simp only [jM.len_sI, jM.len_sL, jM.len_sR, jM.len_fI, jM.len_fL, jM.len_fR]; omega) | (simp [jM.len_nw, jM.len_sI, jM.len_sL, jM.len_sR, jM.len_fI, jM.len_fL, jM.len_fR, *]; omega)) (by first | omega | (exact R.r _ _) | (simp only [jM.len_sI, jM.len_sL, jM.len_sR, jM.len_fI, jM.len_fL, jM.len_fR]; omega) | (simp [jM.len_nw, jM.len_sI, jM.len_sL, jM.len_sR, jM.len_fI, jM.len_fL, jM.len_fR, *]; omega)) ?_
                                               exact mQ.of (by unfold sp_load ldC; (repeat (first | rw [if_pos (by omega)] | rw [if_neg (by omega)])))))
                                     · first
                                       | (exfalso; omega)
                                       | (refine J.bipush (pc' := 87) rfl rfl (by decide) ?_
                                          refine J.iret rfl rfl (by first | omega | (exact R.r _ _) | (simp only [jM.len_sI, jM.len_sL, jM.len_sR, jM.len_fI, jM.len_fL, jM.len_fR]; omega) | (simp [jM.len_nw, jM.len_sI, jM.len_sL, jM.len_sR, jM.len_fI, jM.len_fL, jM.len_fR, *]; omega)) (by first | omega | (exact R.r _ _) | (simp only [jM.len_sI, jM.len_sL, jM.len_sR, jM.len_fI, jM.len_fL, jM.len_fR]; omega) | (simp [jM.len_nw, jM.len_sI, jM.len_sL, jM.len_sR, jM.len_fI, jM.len_fL, jM.len_fR, *]; omega)) ?_
                                          exact mQ.of (by unfold sp_load ldC; (repeat (first | rw [if_pos (by omega)] | rw [if_neg (by omega)])))))
                                · first
                                  | (exfalso; omega)
                                  | (refine J.iconst (pc' := 75) rfl rfl ?_
                                     refine J.iret rfl rfl (by first | omega | (exact R.r _ _) | (simp only [jM.len_sI, jM.len_sL, jM.len_sR, jM.len_fI, jM.len_fL, jM.len_fR]; omega) | (simp [jM.len_nw, jM.len_sI, jM.len_sL, jM.len_sR, jM.len_fI, jM.len_fL, jM.len_fR, *]; omega)) (by first | omega | (exact R.r _ _) | (simp only [jM.len_sI, jM.len_sL, jM.len_sR, jM.len_fI, jM.len_fL, jM.len_fR]; omega) | (simp [jM.len_nw, jM.len_sI, jM.len_sL, jM.len_sR, jM.len_fI, jM.len_fL, jM.len_fR, *]; omega)) ?_
                                     exact mQ.of (by unfold sp_load ldC; (repeat (first | rw [if_pos (by omega)] | rw [if_neg (by omega)])))))
                           · first
                             | (exfalso; omega)
                             | (refine J.iload_n (pc' := 44) rfl rfl rfl ?_
                                refine J.bipush (pc' := 46) rfl rfl (by decide) ?_
                                refine J.icmp_ge (tgt := 66) (pc' := 49) rfl rfl rfl (by first | omega | (exact R.r _ _) | (simp only [jM.len_sI, jM.len_sL, jM.len_sR, jM.len_fI, jM.len_fL, jM.len_fR]; omega) | (simp [jM.len_nw, jM.len_sI, jM.len_sL, jM.len_sR, jM.len_fI, jM.len_fL, jM.len_fR, *]; omega)) (by first | omega | (exact R.r _ _) | (simp only [jM.len_sI, jM.len_sL, jM.len_sR, jM.len_fI, jM.len_fL, jM.len_fR]; omega) | (simp [jM.len_nw, jM.len_sI, jM.len_sL, jM.len_sR, jM.len_fI, jM.len_fL, jM.len_fR, *]; omega)) (fun c46 => ?_) (fun c46 => ?_)
                                · first
                                  | (exfalso; omega)
                                  | (refine J.iconst (pc' := 67) rfl rfl ?_
                                     refine J.iconst (pc' := 68) rfl rfl ?_
                                     first | refine J.callV (pc' := 71) (t := 16) rfl MX12_may ml_X12_161 iv_X12_may (by decide) ⟨_, rfl, rfl⟩ B.1 (cm_may1 B h0) rfl rfl (Nat.le_of_ble_eq_true rfl) (by first | omega | (exact R.r _ _) | (simp only [jM.len_sI, jM.len_sL, jM.len_sR, jM.len_fI, jM.len_fL, jM.len_fR]; omega) | (simp [jM.len_nw, jM.len_sI, jM.len_sL, jM.len_sR, jM.len_fI, jM.len_fL, jM.len_fR, *]; omega)) (by first | omega | (exact R.r _ _) | (simp only [jM.len_sI, jM.len_sL, jM.len_sR, jM.len_fI, jM.len_fL, jM.len_fR]; omega) | (simp [jM.len_nw, jM.len_sI, jM.len_sL, jM.len_sR, jM.len_fI, jM.len_fL, jM.len_fR, *]; omega)) (by first | omega | (exact R.r _ _) | (simp only [jM.len_sI, jM.len_sL, jM.len_sR, jM.len_fI, jM.len_fL, jM.len_fR]; omega) | (simp [jM.len_nw, jM.len_sI, jM.len_sL, jM.len_sR, jM.len_fI, jM.len_fL, jM.len_fR, *]; omega)) rfl rfl ?_ ?_ | refine J.callV (pc' := 71) (t := 16) rfl MX12_may ml_X12_161 iv_X12_may (by decide) ⟨_, rfl, rfl⟩ B.1 (cm_may0 B h0 (by omega)) rfl rfl (Nat.le_of_ble_eq_true rfl) (by first | omega | (exact R.r _ _) | (simp only [jM.len_sI, jM.len_sL, jM.len_sR, jM.len_fI, jM.len_fL, jM.len_fR]; omega) | (simp [jM.len_nw, jM.len_sI, jM.len_sL, jM.len_sR, jM.len_fI, jM.len_fL, jM.len_fR, *]; omega)) (by first | omega | (exact R.r _ _) | (simp only [jM.len_sI, jM.len_sL, jM.len_sR, jM.len_fI, jM.len_fL, jM.len_fR]; omega) | (simp [jM.len_nw, jM.len_sI, jM.len_sL, jM.len_sR, jM.len_fI, jM.len_fL, jM.len_fR, *]; omega)) (by first | omega | (exact R.r _ _) | (simp only [jM.len_sI, jM.len_sL, jM.len_sR, jM.len_fI, jM.len_fL, jM.len_fR]; omega) | (simp [jM.len_nw, jM.len_sI, jM.len_sL, jM.len_sR, jM.len_fI, jM.len_fL, jM.len_fR, *]; omega)) rfl rfl ?_ ?_
                                     · exact fun _ _ h => h
                                     rintro _ _ ⟨rfl, rfl⟩
                                     refine J.if_ne (tgt := 76) (pc' := 74) rfl rfl rfl (by first | omega | (exact R.r _ _) | (simp only [jM.len_sI, jM.len_sL, jM.len_sR, jM.len_fI, jM.len_fL, jM.len_fR]; omega) | (simp [jM.len_nw, jM.len_sI, jM.len_sL, jM.len_sR, jM.len_fI, jM.len_fL, jM.len_fR, *]; omega)) (fun c71 => ?_) (fun c71 => ?_)
                                     · first
                                       | (exfalso; omega)
                                       | (first | refine J.aload_n (pc' := 77) rfl rfl rfl ?_ | refine J.aload_nN (pc' := 77) rfl rfl rfl ?_
                                          refine J.mgI (pc' := 80) (j := 26) B rfl fl_X12_277 rfl rfl rfl ?_
                                          refine J.bipush (pc' := 82) rfl rfl (by decide) ?_
                                          refine J.icmp_ne (tgt := 88) (pc' := 85) rfl rfl rfl (by first | omega | (exact R.r _ _) | (simp only [jM.len_sI, jM.len_sL, jM.len_sR, jM.len_fI, jM.len_fL, jM.len_fR]; omega) | (simp [jM.len_nw, jM.len_sI, jM.len_sL, jM.len_sR, jM.len_fI, jM.len_fL, jM.len_fR, *]; omega)) (by first | omega | (exact R.r _ _) | (simp only [jM.len_sI, jM.len_sL, jM.len_sR, jM.len_fI, jM.len_fL, jM.len_fR]; omega) | (simp [jM.len_nw, jM.len_sI, jM.len_sL, jM.len_sR, jM.len_fI, jM.len_fL, jM.len_fR, *]; omega)) (fun c82 => ?_) (fun c82 => ?_)
                                          · first
                                            | (exfalso; omega)
                                            | (first | refine J.aload_n (pc' := 89) rfl rfl rfl ?_ | refine J.aload_nN (pc' := 89) rfl rfl rfl ?_
                                               refine J.callV (pc' := 92) (t := 16) rfl MX12_layersInAll ml_X12_280 iv_X12_layersInAll (by decide) ⟨_, rfl, rfl⟩ B.1 (cm_layersInAll B) rfl rfl (Nat.le_of_ble_eq_true rfl) (by first | omega | (exact R.r _ _) | (simp only [jM.len_sI, jM.len_sL, jM.len_sR, jM.len_fI, jM.len_fL, jM.len_fR]; omega) | (simp [jM.len_nw, jM.len_sI, jM.len_sL, jM.len_sR, jM.len_fI, jM.len_fL, jM.len_fR, *]; omega)) (by first | omega | (exact R.r _ _) | (simp only [jM.len_sI, jM.len_sL, jM.len_sR, jM.len_fI, jM.len_fL, jM.len_fR]; omega) | (simp [jM.len_nw, jM.len_sI, jM.len_sL, jM.len_sR, jM.len_fI, jM.len_fL, jM.len_fR, *]; omega)) (by first | omega | (exact R.r _ _) | (simp only [jM.len_sI, jM.len_sL, jM.len_sR, jM.len_fI, jM.len_fL, jM.len_fR]; omega) | (simp [jM.len_nw, jM.len_sI, jM.len_sL, jM.len_sR, jM.len_fI, jM.len_fL, jM.len_fR, *]; omega)) rfl rfl ?_ ?_
                                               · exact fun _ _ h => h
                                               rintro _ _ ⟨rfl, rfl⟩
                                               refine J.bipush (pc' := 94) rfl rfl (by decide) ?_
                                               refine J.icmp_ne (tgt := 100) (pc' := 97) rfl rfl rfl (by first | omega | (exact R.r _ _) | (simp only [jM.len_sI, jM.len_sL, jM.len_sR, jM.len_fI, jM.len_fL, jM.len_fR]; omega) | (simp [jM.len_nw, jM.len_sI, jM.len_sL, jM.len_sR, jM.len_fI, jM.len_fL, jM.len_fR, *]; omega)) (by first | omega | (exact R.r _ _) | (simp only [jM.len_sI, jM.len_sL, jM.len_sR, jM.len_fI, jM.len_fL, jM.len_fR]; omega) | (simp [jM.len_nw, jM.len_sI, jM.len_sL, jM.len_sR, jM.len_fI, jM.len_fL, jM.len_fR, *]; omega)) (fun c94 => ?_) (fun c94 => ?_)
                                               · first
                                                 | (exfalso; omega)
                                                 | (first | refine J.aload_n (pc' := 101) rfl rfl rfl ?_ | refine J.aload_nN (pc' := 101) rfl rfl rfl ?_
                                                    refine J.iload_n (pc' := 102) rfl rfl rfl ?_
                                                    first | refine J.aload_n (pc' := 103) rfl rfl rfl ?_ | refine J.aload_nN (pc' := 103) rfl rfl rfl ?_
                                                    refine J.mgI (pc' := 106) (j := 3) B rfl fl_X12_283 rfl rfl rfl ?_
                                                    refine J.callV (pc' := 109) (t := 16) rfl MX12_inForce ml_X12_264 iv_X12_inForce (by decide) ⟨_, rfl, rfl⟩ B.1 (cm_inForce B R hs (by omega)) rfl rfl (Nat.le_of_ble_eq_true rfl) (by first | omega | (exact R.r _ _) | (simp only [jM.len_sI, jM.len_sL, jM.len_sR, jM.len_fI, jM.len_fL, jM.len_fR]; omega) | (simp [jM.len_nw, jM.len_sI, jM.len_sL, jM.len_sR, jM.len_fI, jM.len_fL, jM.len_fR, *]; omega)) (by first | omega | (exact R.r _ _) | (simp only [jM.len_sI, jM.len_sL, jM.len_sR, jM.len_fI, jM.len_fL, jM.len_fR]; omega) | (simp [jM.len_nw, jM.len_sI, jM.len_sL, jM.len_sR, jM.len_fI, jM.len_fL, jM.len_fR, *]; omega)) (by first | omega | (exact R.r _ _) | (simp only [jM.len_sI, jM.len_sL, jM.len_sR, jM.len_fI, jM.len_fL, jM.len_fR]; omega) | (simp [jM.len_nw, jM.len_sI, jM.len_sL, jM.len_sR, jM.len_fI, jM.len_fL, jM.len_fR, *]; omega)) rfl rfl ?_ ?_
                                                    · exact fun _ _ h => h
                                                    rintro _ _ ⟨rfl, rfl⟩
                                                    refine J.istore (pc' := 111) rfl rfl (by decide) ?_
                                                    refine J.iload (pc' := 113) rfl rfl rfl ?_
                                                    refine J.iconst (pc' := 114) rfl rfl ?_
                                                    refine J.icmp_ne (tgt := 120) (pc' := 117) rfl rfl rfl (by first | omega | (exact R.r _ _) | (simp only [jM.len_sI, jM.len_sL, jM.len_sR, jM.len_fI, jM.len_fL, jM.len_fR]; omega) | (simp [jM.len_nw, jM.len_sI, jM.len_sL, jM.len_sR, jM.len_fI, jM.len_fL, jM.len_fR, *]; omega)) (by first | omega | (exact R.r _ _) | (simp only [jM.len_sI, jM.len_sL, jM.len_sR, jM.len_fI, jM.len_fL, jM.len_fR]; omega) | (simp [jM.len_nw, jM.len_sI, jM.len_sL, jM.len_sR, jM.len_fI, jM.len_fL, jM.len_fR, *]; omega)) (fun c114 => ?_) (fun c114 => ?_)
                                                    · first
                                                      | (exfalso; omega)
                                                      | (exact rest (by omega) (by omega) (by omega) (by omega) (by omega) (by unfold ldC; omega))
                                                    · first
                                                      | (exfalso; omega)
                                                      | (refine J.bipush (pc' := 119) rfl rfl (by decide) ?_
                                                         refine J.iret rfl rfl (by first | omega | (exact R.r _ _) | (simp only [jM.len_sI, jM.len_sL, jM.len_sR, jM.len_fI, jM.len_fL, jM.len_fR]; omega) | (simp [jM.len_nw, jM.len_sI, jM.len_sL, jM.len_sR, jM.len_fI, jM.len_fL, jM.len_fR, *]; omega)) (by first | omega | (exact R.r _ _) | (simp only [jM.len_sI, jM.len_sL, jM.len_sR, jM.len_fI, jM.len_fL, jM.len_fR]; omega) | (simp [jM.len_nw, jM.len_sI, jM.len_sL, jM.len_sR, jM.len_fI, jM.len_fL, jM.len_fR, *]; omega)) ?_
                                                         exact mQ.of (by unfold sp_load ldC; (repeat (first | rw [if_pos (by omega)] | rw [if_neg (by omega)])))))
                                               · first
                                                 | (exfalso; omega)
                                                 | (refine J.bipush (pc' := 99) rfl rfl (by decide) ?_
                                                    refine J.iret rfl rfl (by first | omega | (exact R.r _ _) | (simp only [jM.len_sI, jM.len_sL, jM.len_sR, jM.len_fI, jM.len_fL, jM.len_fR]; omega) | (simp [jM.len_nw, jM.len_sI, jM.len_sL, jM.len_sR, jM.len_fI, jM.len_fL, jM.len_fR, *]; omega)) (by first | omega | (exact R.r _ _) | (simp only [jM.len_sI, jM.len_sL, jM.len_sR, jM.len_fI, jM.len_fL, jM.len_fR]; omega) | (simp [jM.len_nw, jM.len_sI, jM.len_sL, jM.len_sR, jM.len_fI, jM.len_fL, jM.len_fR, *]; omega)) ?_
                                                    exact mQ.of (by unfold sp_load ldC; (repeat (first | rw [if_pos (by omega)] | rw [if_neg (by omega)])))))
                                          · first
                                            | (exfalso; omega)
                                            | (refine J.bipush (pc' := 87) rfl rfl (by decide) ?_
                                               refine J.iret rfl rfl (by first | omega | (exact R.r _ _) | (simp only [jM.len_sI, jM.len_sL, jM.len_sR, jM.len_fI, jM.len_fL, jM.len_fR]; omega) | (simp [jM.len_nw, jM.len_sI, jM.len_sL, jM.len_sR, jM.len_fI, jM.len_fL, jM.len_fR, *]; omega)) (by first | omega | (exact R.r _ _) | (simp only [jM.len_sI, jM.len_sL, jM.len_sR, jM.len_fI, jM.len_fL, jM.len_fR]; omega) | (simp [jM.len_nw, jM.len_sI, jM.len_sL, jM.len_sR, jM.len_fI, jM.len_fL, jM.len_fR, *]; omega)) ?_
                                               exact mQ.of (by unfold sp_load ldC; (repeat (first | rw [if_pos (by omega)] | rw [if_neg (by omega)])))))
                                     · first
                                       | (exfalso; omega)
                                       | (refine J.iconst (pc' := 75) rfl rfl ?_
                                          refine J.iret rfl rfl (by first | omega | (exact R.r _ _) | (simp only [jM.len_sI, jM.len_sL, jM.len_sR, jM.len_fI, jM.len_fL, jM.len_fR]; omega) | (simp [jM.len_nw, jM.len_sI, jM.len_sL, jM.len_sR, jM.len_fI, jM.len_fL, jM.len_fR, *]; omega)) (by first | omega | (exact R.r _ _) | (simp only [jM.len_sI, jM.len_sL, jM.len_sR, jM.len_fI, jM.len_fL, jM.len_fR]; omega) | (simp [jM.len_nw, jM.len_sI, jM.len_sL, jM.len_sR, jM.len_fI, jM.len_fL, jM.len_fR, *]; omega)) ?_
                                          exact mQ.of (by unfold sp_load ldC; (repeat (first | rw [if_pos (by omega)] | rw [if_neg (by omega)])))))
                                · first
                                  | (exfalso; omega)
                                  | (refine J.iload (pc' := 51) rfl rfl rfl ?_
                                     refine J.iconst (pc' := 52) rfl rfl ?_
                                     refine J.icmp_lt (tgt := 66) (pc' := 55) rfl rfl rfl (by first | omega | (exact R.r _ _) | (simp only [jM.len_sI, jM.len_sL, jM.len_sR, jM.len_fI, jM.len_fL, jM.len_fR]; omega) | (simp [jM.len_nw, jM.len_sI, jM.len_sL, jM.len_sR, jM.len_fI, jM.len_fL, jM.len_fR, *]; omega)) (by first | omega | (exact R.r _ _) | (simp only [jM.len_sI, jM.len_sL, jM.len_sR, jM.len_fI, jM.len_fL, jM.len_fR]; omega) | (simp [jM.len_nw, jM.len_sI, jM.len_sL, jM.len_sR, jM.len_fI, jM.len_fL, jM.len_fR, *]; omega)) (fun c52 => ?_) (fun c52 => ?_)
                                     · first
                                       | (exfalso; omega)
                                       | (refine J.iconst (pc' := 67) rfl rfl ?_
                                          refine J.iconst (pc' := 68) rfl rfl ?_
                                          first | refine J.callV (pc' := 71) (t := 16) rfl MX12_may ml_X12_161 iv_X12_may (by decide) ⟨_, rfl, rfl⟩ B.1 (cm_may1 B h0) rfl rfl (Nat.le_of_ble_eq_true rfl) (by first | omega | (exact R.r _ _) | (simp only [jM.len_sI, jM.len_sL, jM.len_sR, jM.len_fI, jM.len_fL, jM.len_fR]; omega) | (simp [jM.len_nw, jM.len_sI, jM.len_sL, jM.len_sR, jM.len_fI, jM.len_fL, jM.len_fR, *]; omega)) (by first | omega | (exact R.r _ _) | (simp only [jM.len_sI, jM.len_sL, jM.len_sR, jM.len_fI, jM.len_fL, jM.len_fR]; omega) | (simp [jM.len_nw, jM.len_sI, jM.len_sL, jM.len_sR, jM.len_fI, jM.len_fL, jM.len_fR, *]; omega)) (by first | omega | (exact R.r _ _) | (simp only [jM.len_sI, jM.len_sL, jM.len_sR, jM.len_fI, jM.len_fL, jM.len_fR]; omega) | (simp [jM.len_nw, jM.len_sI, jM.len_sL, jM.len_sR, jM.len_fI, jM.len_fL, jM.len_fR, *]; omega)) rfl rfl ?_ ?_ | refine J.callV (pc' := 71) (t := 16) rfl MX12_may ml_X12_161 iv_X12_may (by decide) ⟨_, rfl, rfl⟩ B.1 (cm_may0 B h0 (by omega)) rfl rfl (Nat.le_of_ble_eq_true rfl) (by first | omega | (exact R.r _ _) | (simp only [jM.len_sI, jM.len_sL, jM.len_sR, jM.len_fI, jM.len_fL, jM.len_fR]; omega) | (simp [jM.len_nw, jM.len_sI, jM.len_sL, jM.len_sR, jM.len_fI, jM.len_fL, jM.len_fR, *]; omega)) (by first | omega | (exact R.r _ _) | (simp only [jM.len_sI, jM.len_sL, jM.len_sR, jM.len_fI, jM.len_fL, jM.len_fR]; omega) | (simp [jM.len_nw, jM.len_sI, jM.len_sL, jM.len_sR, jM.len_fI, jM.len_fL, jM.len_fR, *]; omega)) (by first | omega | (exact R.r _ _) | (simp only [jM.len_sI, jM.len_sL, jM.len_sR, jM.len_fI, jM.len_fL, jM.len_fR]; omega) | (simp [jM.len_nw, jM.len_sI, jM.len_sL, jM.len_sR, jM.len_fI, jM.len_fL, jM.len_fR, *]; omega)) rfl rfl ?_ ?_
                                          · exact fun _ _ h => h
                                          rintro _ _ ⟨rfl, rfl⟩
                                          refine J.if_ne (tgt := 76) (pc' := 74) rfl rfl rfl (by first | omega | (exact R.r _ _) | (simp only [jM.len_sI, jM.len_sL, jM.len_sR, jM.len_fI, jM.len_fL, jM.len_fR]; omega) | (simp [jM.len_nw, jM.len_sI, jM.len_sL, jM.len_sR, jM.len_fI, jM.len_fL, jM.len_fR, *]; omega)) (fun c71 => ?_) (fun c71 => ?_)
                                          · first
                                            | (exfalso; omega)
                                            | (first | refine J.aload_n (pc' := 77) rfl rfl rfl ?_ | refine J.aload_nN (pc' := 77) rfl rfl rfl ?_
                                               refine J.mgI (pc' := 80) (j := 26) B rfl fl_X12_277 rfl rfl rfl ?_
                                               refine J.bipush (pc' := 82) rfl rfl (by decide) ?_
                                               refine J.icmp_ne (tgt := 88) (pc' := 85) rfl rfl rfl (by first | omega | (exact R.r _ _) | (simp only [jM.len_sI, jM.len_sL, jM.len_sR, jM.len_fI, jM.len_fL, jM.len_fR]; omega) | (simp [jM.len_nw, jM.len_sI, jM.len_sL, jM.len_sR, jM.len_fI, jM.len_fL, jM.len_fR, *]; omega)) (by first | omega | (exact R.r _ _) | (simp only [jM.len_sI, jM.len_sL, jM.len_sR, jM.len_fI, jM.len_fL, jM.len_fR]; omega) | (simp [jM.len_nw, jM.len_sI, jM.len_sL, jM.len_sR, jM.len_fI, jM.len_fL, jM.len_fR, *]; omega)) (fun c82 => ?_) (fun c82 => ?_)
                                               · first
                                                 | (exfalso; omega)
                                                 | (first | refine J.aload_n (pc' := 89) rfl rfl rfl ?_ | refine J.aload_nN (pc' := 89) rfl rfl rfl ?_
                                                    refine J.callV (pc' := 92) (t := 16) rfl MX12_layersInAll ml_X12_280 iv_X12_layersInAll (by decide) ⟨_, rfl, rfl⟩ B.1 (cm_layersInAll B) rfl rfl (Nat.le_of_ble_eq_true rfl) (by first | omega | (exact R.r _ _) | (simp only [jM.len_sI, jM.len_sL, jM.len_sR, jM.len_fI, jM.len_fL, jM.len_fR]; omega) | (simp [jM.len_nw, jM.len_sI, jM.len_sL, jM.len_sR, jM.len_fI, jM.len_fL, jM.len_fR, *]; omega)) (by first | omega | (exact R.r _ _) | (simp only [jM.len_sI, jM.len_sL, jM.len_sR, jM.len_fI, jM.len_fL, jM.len_fR]; omega) | (simp [jM.len_nw, jM.len_sI, jM.len_sL, jM.len_sR, jM.len_fI, jM.len_fL, jM.len_fR, *]; omega)) (by first | omega | (exact R.r _ _) | (simp only [jM.len_sI, jM.len_sL, jM.len_sR, jM.len_fI, jM.len_fL, jM.len_fR]; omega) | (simp [jM.len_nw, jM.len_sI, jM.len_sL, jM.len_sR, jM.len_fI, jM.len_fL, jM.len_fR, *]; omega)) rfl rfl ?_ ?_
                                                    · exact fun _ _ h => h
                                                    rintro _ _ ⟨rfl, rfl⟩
                                                    refine J.bipush (pc' := 94) rfl rfl (by decide) ?_
                                                    refine J.icmp_ne (tgt := 100) (pc' := 97) rfl rfl rfl (by first | omega | (exact R.r _ _) | (simp only [jM.len_sI, jM.len_sL, jM.len_sR, jM.len_fI, jM.len_fL, jM.len_fR]; omega) | (simp [jM.len_nw, jM.len_sI, jM.len_sL, jM.len_sR, jM.len_fI, jM.len_fL, jM.len_fR, *]; omega)) (by first | omega | (exact R.r _ _) | (simp only [jM.len_sI, jM.len_sL, jM.len_sR, jM.len_fI, jM.len_fL, jM.len_fR]; omega) | (simp [jM.len_nw, jM.len_sI, jM.len_sL, jM.len_sR, jM.len_fI, jM.len_fL, jM.len_fR, *]; omega)) (fun c94 => ?_) (fun c94 => ?_)
                                                    · first
                                                      | (exfalso; omega)
                                                      | (first | refine J.aload_n (pc' := 101) rfl rfl rfl ?_ | refine J.aload_nN (pc' := 101) rfl rfl rfl ?_
                                                         refine J.iload_n (pc' := 102) rfl rfl rfl ?_
                                                         first | refine J.aload_n (pc' := 103) rfl rfl rfl ?_ | refine J.aload_nN (pc' := 103) rfl rfl rfl ?_
                                                         refine J.mgI (pc' := 106) (j := 3) B rfl fl_X12_283 rfl rfl rfl ?_
                                                         refine J.callV (pc' := 109) (t := 16) rfl MX12_inForce ml_X12_264 iv_X12_inForce (by decide) ⟨_, rfl, rfl⟩ B.1 (cm_inForce B R hs (by omega)) rfl rfl (Nat.le_of_ble_eq_true rfl) (by first | omega | (exact R.r _ _) | (simp only [jM.len_sI, jM.len_sL, jM.len_sR, jM.len_fI, jM.len_fL, jM.len_fR]; omega) | (simp [jM.len_nw, jM.len_sI, jM.len_sL, jM.len_sR, jM.len_fI, jM.len_fL, jM.len_fR, *]; omega)) (by first | omega | (exact R.r _ _) | (simp only [jM.len_sI, jM.len_sL, jM.len_sR, jM.len_fI, jM.len_fL, jM.len_fR]; omega) | (simp [jM.len_nw, jM.len_sI, jM.len_sL, jM.len_sR, jM.len_fI, jM.len_fL, jM.len_fR, *]; omega)) (by first | omega | (exact R.r _ _) | (simp only [jM.len_sI, jM.len_sL, jM.len_sR, jM.len_fI, jM.len_fL, jM.len_fR]; omega) | (simp [jM.len_nw, jM.len_sI, jM.len_sL, jM.len_sR, jM.len_fI, jM.len_fL, jM.len_fR, *]; omega)) rfl rfl ?_ ?_
                                                         · exact fun _ _ h => h
                                                         rintro _ _ ⟨rfl, rfl⟩
                                                         refine J.istore (pc' := 111) rfl rfl (by decide) ?_
                                                         refine J.iload (pc' := 113) rfl rfl rfl ?_
                                                         refine J.iconst (pc' := 114) rfl rfl ?_
                                                         refine J.icmp_ne (tgt := 120) (pc' := 117) rfl rfl rfl (by first | omega | (exact R.r _ _) | (simp only [jM.len_sI, jM.len_sL, jM.len_sR, jM.len_fI, jM.len_fL, jM.len_fR]; omega) | (simp [jM.len_nw, jM.len_sI, jM.len_sL, jM.len_sR, jM.len_fI, jM.len_fL, jM.len_fR, *]; omega)) (by first | omega | (exact R.r _ _) | (simp only [jM.len_sI, jM.len_sL, jM.len_sR, jM.len_fI, jM.len_fL, jM.len_fR]; omega) | (simp [jM.len_nw, jM.len_sI, jM.len_sL, jM.len_sR, jM.len_fI, jM.len_fL, jM.len_fR, *]; omega)) (fun c114 => ?_) (fun c114 => ?_)
                                                         · first
                                                           | (exfalso; omega)
                                                           | (exact rest (by omega) (by omega) (by omega) (by omega) (by omega) (by unfold ldC; omega))
                                                         · first
                                                           | (exfalso; omega)
                                                           | (refine J.bipush (pc' := 119) rfl rfl (by decide) ?_
                                                              refine J.iret rfl rfl (by first | omega | (exact R.r _ _) | (simp only [jM.len_sI, jM.len_sL, jM.len_sR, jM.len_fI, jM.len_fL, jM.len_fR]; omega) | (simp [jM.len_nw, jM.len_sI, jM.len_sL, jM.len_sR, jM.len_fI, jM.len_fL, jM.len_fR, *]; omega)) (by first | omega | (exact R.r _ _) | (simp only [jM.len_sI, jM.len_sL, jM.len_sR, jM.len_fI, jM.len_fL, jM.len_fR]; omega) | (simp [jM.len_nw, jM.len_sI, jM.len_sL, jM.len_sR, jM.len_fI, jM.len_fL, jM.len_fR, *]; omega)) ?_
                                                              exact mQ.of (by unfold sp_load ldC; (repeat (first | rw [if_pos (by omega)] | rw [if_neg (by omega)])))))
                                                    · first
                                                      | (exfalso; omega)
                                                      | (refine J.bipush (pc' := 99) rfl rfl (by decide) ?_
                                                         refine J.iret rfl rfl (by first | omega | (exact R.r _ _) | (simp only [jM.len_sI, jM.len_sL, jM.len_sR, jM.len_fI, jM.len_fL, jM.len_fR]; omega) | (simp [jM.len_nw, jM.len_sI, jM.len_sL, jM.len_sR, jM.len_fI, jM.len_fL, jM.len_fR, *]; omega)) (by first | omega | (exact R.r _ _) | (simp only [jM.len_sI, jM.len_sL, jM.len_sR, jM.len_fI, jM.len_fL, jM.len_fR]; omega) | (simp [jM.len_nw, jM.len_sI, jM.len_sL, jM.len_sR, jM.len_fI, jM.len_fL, jM.len_fR, *]; omega)) ?_
                                                         exact mQ.of (by unfold sp_load ldC; (repeat (first | rw [if_pos (by omega)] | rw [if_neg (by omega)])))))
                                               · first
                                                 | (exfalso; omega)
                                                 | (refine J.bipush (pc' := 87) rfl rfl (by decide) ?_
                                                    refine J.iret rfl rfl (by first | omega | (exact R.r _ _) | (simp only [jM.len_sI, jM.len_sL, jM.len_sR, jM.len_fI, jM.len_fL, jM.len_fR]; omega) | (simp [jM.len_nw, jM.len_sI, jM.len_sL, jM.len_sR, jM.len_fI, jM.len_fL, jM.len_fR, *]; omega)) (by first | omega | (exact R.r _ _) | (simp only [jM.len_sI, jM.len_sL, jM.len_sR, jM.len_fI, jM.len_fL, jM.len_fR]; omega) | (simp [jM.len_nw, jM.len_sI, jM.len_sL, jM.len_sR, jM.len_fI, jM.len_fL, jM.len_fR, *]; omega)) ?_
                                                    exact mQ.of (by unfold sp_load ldC; (repeat (first | rw [if_pos (by omega)] | rw [if_neg (by omega)])))))
                                          · first
                                            | (exfalso; omega)
                                            | (refine J.iconst (pc' := 75) rfl rfl ?_
                                               refine J.iret rfl rfl (by first | omega | (exact R.r _ _) | (simp only [jM.len_sI, jM.len_sL, jM.len_sR, jM.len_fI, jM.len_fL, jM.len_fR]; omega) | (simp [jM.len_nw, jM.len_sI, jM.len_sL, jM.len_sR, jM.len_fI, jM.len_fL, jM.len_fR, *]; omega)) (by first | omega | (exact R.r _ _) | (simp only [jM.len_sI, jM.len_sL, jM.len_sR, jM.len_fI, jM.len_fL, jM.len_fR]; omega) | (simp [jM.len_nw, jM.len_sI, jM.len_sL, jM.len_sR, jM.len_fI, jM.len_fL, jM.len_fR, *]; omega)) ?_
                                               exact mQ.of (by unfold sp_load ldC; (repeat (first | rw [if_pos (by omega)] | rw [if_neg (by omega)])))))
                                     · first
                                       | (exfalso; omega)
                                       | (refine J.iload (pc' := 57) rfl rfl rfl ?_
                                          refine J.bipush (pc' := 59) rfl rfl (by decide) ?_
                                          refine J.icmp_gt (tgt := 66) (pc' := 62) rfl rfl rfl (by first | omega | (exact R.r _ _) | (simp only [jM.len_sI, jM.len_sL, jM.len_sR, jM.len_fI, jM.len_fL, jM.len_fR]; omega) | (simp [jM.len_nw, jM.len_sI, jM.len_sL, jM.len_sR, jM.len_fI, jM.len_fL, jM.len_fR, *]; omega)) (by first | omega | (exact R.r _ _) | (simp only [jM.len_sI, jM.len_sL, jM.len_sR, jM.len_fI, jM.len_fL, jM.len_fR]; omega) | (simp [jM.len_nw, jM.len_sI, jM.len_sL, jM.len_sR, jM.len_fI, jM.len_fL, jM.len_fR, *]; omega)) (fun c59 => ?_) (fun c59 => ?_)
                                          · first
                                            | (exfalso; omega)
                                            | (refine J.iconst (pc' := 67) rfl rfl ?_
                                               refine J.iconst (pc' := 68) rfl rfl ?_
                                               first | refine J.callV (pc' := 71) (t := 16) rfl MX12_may ml_X12_161 iv_X12_may (by decide) ⟨_, rfl, rfl⟩ B.1 (cm_may1 B h0) rfl rfl (Nat.le_of_ble_eq_true rfl) (by first | omega | (exact R.r _ _) | (simp only [jM.len_sI, jM.len_sL, jM.len_sR, jM.len_fI, jM.len_fL, jM.len_fR]; omega) | (simp [jM.len_nw, jM.len_sI, jM.len_sL, jM.len_sR, jM.len_fI, jM.len_fL, jM.len_fR, *]; omega)) (by first | omega | (exact R.r _ _) | (simp only [jM.len_sI, jM.len_sL, jM.len_sR, jM.len_fI, jM.len_fL, jM.len_fR]; omega) | (simp [jM.len_nw, jM.len_sI, jM.len_sL, jM.len_sR, jM.len_fI, jM.len_fL, jM.len_fR, *]; omega)) (by first | omega | (exact R.r _ _) | (simp only [jM.len_sI, jM.len_sL, jM.len_sR, jM.len_fI, jM.len_fL, jM.len_fR]; omega) | (simp [jM.len_nw, jM.len_sI, jM.len_sL, jM.len_sR, jM.len_fI, jM.len_fL, jM.len_fR, *]; omega)) rfl rfl ?_ ?_ | refine J.callV (pc' := 71) (t := 16) rfl MX12_may ml_X12_161 iv_X12_may (by decide) ⟨_, rfl, rfl⟩ B.1 (cm_may0 B h0 (by omega)) rfl rfl (Nat.le_of_ble_eq_true rfl) (by first | omega | (exact R.r _ _) | (simp only [jM.len_sI, jM.len_sL, jM.len_sR, jM.len_fI, jM.len_fL, jM.len_fR]; omega) | (simp [jM.len_nw, jM.len_sI, jM.len_sL, jM.len_sR, jM.len_fI, jM.len_fL, jM.len_fR, *]; omega)) (by first | omega | (exact R.r _ _) | (simp only [jM.len_sI, jM.len_sL, jM.len_sR, jM.len_fI, jM.len_fL, jM.len_fR]; omega) | (simp [jM.len_nw, jM.len_sI, jM.len_sL, jM.len_sR, jM.len_fI, jM.len_fL, jM.len_fR, *]; omega)) (by first | omega | (exact R.r _ _) | (simp only [jM.len_sI, jM.len_sL, jM.len_sR, jM.len_fI, jM.len_fL, jM.len_fR]; omega) | (simp [jM.len_nw, jM.len_sI, jM.len_sL, jM.len_sR, jM.len_fI, jM.len_fL, jM.len_fR, *]; omega)) rfl rfl ?_ ?_
                                               · exact fun _ _ h => h
                                               rintro _ _ ⟨rfl, rfl⟩
                                               refine J.if_ne (tgt := 76) (pc' := 74) rfl rfl rfl (by first | omega | (exact R.r _ _) | (simp only [jM.len_sI, jM.len_sL, jM.len_sR, jM.len_fI, jM.len_fL, jM.len_fR]; omega) | (simp [jM.len_nw, jM.len_sI, jM.len_sL, jM.len_sR, jM.len_fI, jM.len_fL, jM.len_fR, *]; omega)) (fun c71 => ?_) (fun c71 => ?_)
                                               · first
                                                 | (exfalso; omega)
                                                 | (first | refine J.aload_n (pc' := 77) rfl rfl rfl ?_ | refine J.aload_nN (pc' := 77) rfl rfl rfl ?_
                                                    refine J.mgI (pc' := 80) (j := 26) B rfl fl_X12_277 rfl rfl rfl ?_
                                                    refine J.bipush (pc' := 82) rfl rfl (by decide) ?_
                                                    refine J.icmp_ne (tgt := 88) (pc' := 85) rfl rfl rfl (by first | omega | (exact R.r _ _) | (simp only [jM.len_sI, jM.len_sL, jM.len_sR, jM.len_fI, jM.len_fL, jM.len_fR]; omega) | (simp [jM.len_nw, jM.len_sI, jM.len_sL, jM.len_sR, jM.len_fI, jM.len_fL, jM.len_fR, *]; omega)) (by first | omega | (exact R.r _ _) | (simp only [jM.len_sI, jM.len_sL, jM.len_sR, jM.len_fI, jM.len_fL, jM.len_fR]; omega) | (simp [jM.len_nw, jM.len_sI, jM.len_sL, jM.len_sR, jM.len_fI, jM.len_fL, jM.len_fR, *]; omega)) (fun c82 => ?_) (fun c82 => ?_)
                                                    · first
                                                      | (exfalso; omega)
                                                      | (first | refine J.aload_n (pc' := 89) rfl rfl rfl ?_ | refine J.aload_nN (pc' := 89) rfl rfl rfl ?_
                                                         refine J.callV (pc' := 92) (t := 16) rfl MX12_layersInAll ml_X12_280 iv_X12_layersInAll (by decide) ⟨_, rfl, rfl⟩ B.1 (cm_layersInAll B) rfl rfl (Nat.le_of_ble_eq_true rfl) (by first | omega | (exact R.r _ _) | (simp only [jM.len_sI, jM.len_sL, jM.len_sR, jM.len_fI, jM.len_fL, jM.len_fR]; omega) | (simp [jM.len_nw, jM.len_sI, jM.len_sL, jM.len_sR, jM.len_fI, jM.len_fL, jM.len_fR, *]; omega)) (by first | omega | (exact R.r _ _) | (simp only [jM.len_sI, jM.len_sL, jM.len_sR, jM.len_fI, jM.len_fL, jM.len_fR]; omega) | (simp [jM.len_nw, jM.len_sI, jM.len_sL, jM.len_sR, jM.len_fI, jM.len_fL, jM.len_fR, *]; omega)) (by first | omega | (exact R.r _ _) | (simp only [jM.len_sI, jM.len_sL, jM.len_sR, jM.len_fI, jM.len_fL, jM.len_fR]; omega) | (simp [jM.len_nw, jM.len_sI, jM.len_sL, jM.len_sR, jM.len_fI, jM.len_fL, jM.len_fR, *]; omega)) rfl rfl ?_ ?_
                                                         · exact fun _ _ h => h
                                                         rintro _ _ ⟨rfl, rfl⟩
                                                         refine J.bipush (pc' := 94) rfl rfl (by decide) ?_
                                                         refine J.icmp_ne (tgt := 100) (pc' := 97) rfl rfl rfl (by first | omega | (exact R.r _ _) | (simp only [jM.len_sI, jM.len_sL, jM.len_sR, jM.len_fI, jM.len_fL, jM.len_fR]; omega) | (simp [jM.len_nw, jM.len_sI, jM.len_sL, jM.len_sR, jM.len_fI, jM.len_fL, jM.len_fR, *]; omega)) (by first | omega | (exact R.r _ _) | (simp only [jM.len_sI, jM.len_sL, jM.len_sR, jM.len_fI, jM.len_fL, jM.len_fR]; omega) | (simp [jM.len_nw, jM.len_sI, jM.len_sL, jM.len_sR, jM.len_fI, jM.len_fL, jM.len_fR, *]; omega)) (fun c94 => ?_) (fun c94 => ?_)
                                                         · first
                                                           | (exfalso; omega)
                                                           | (first | refine J.aload_n (pc' := 101) rfl rfl rfl ?_ | refine J.aload_nN (pc' := 101) rfl rfl rfl ?_
                                                              refine J.iload_n (pc' := 102) rfl rfl rfl ?_
                                                              first | refine J.aload_n (pc' := 103) rfl rfl rfl ?_ | refine J.aload_nN (pc' := 103) rfl rfl rfl ?_
                                                              refine J.mgI (pc' := 106) (j := 3) B rfl fl_X12_283 rfl rfl rfl ?_
                                                              refine J.callV (pc' := 109) (t := 16) rfl MX12_inForce ml_X12_264 iv_X12_inForce (by decide) ⟨_, rfl, rfl⟩ B.1 (cm_inForce B R hs (by omega)) rfl rfl (Nat.le_of_ble_eq_true rfl) (by first | omega | (exact R.r _ _) | (simp only [jM.len_sI, jM.len_sL, jM.len_sR, jM.len_fI, jM.len_fL, jM.len_fR]; omega) | (simp [jM.len_nw, jM.len_sI, jM.len_sL, jM.len_sR, jM.len_fI, jM.len_fL, jM.len_fR, *]; omega)) (by first | omega | (exact R.r _ _) | (simp only [jM.len_sI, jM.len_sL, jM.len_sR, jM.len_fI, jM.len_fL, jM.len_fR]; omega) | (simp [jM.len_nw, jM.len_sI, jM.len_sL, jM.len_sR, jM.len_fI, jM.len_fL, jM.len_fR, *]; omega)) (by first | omega | (exact R.r _ _) | (simp only [jM.len_sI, jM.len_sL, jM.len_sR, jM.len_fI, jM.len_fL, jM.len_fR]; omega) | (simp [jM.len_nw, jM.len_sI, jM.len_sL, jM.len_sR, jM.len_fI, jM.len_fL, jM.len_fR, *]; omega)) rfl rfl ?_ ?_
                                                              · exact fun _ _ h => h
                                                              rintro _ _ ⟨rfl, rfl⟩
                                                              refine J.istore (pc' := 111) rfl rfl (by decide) ?_
                                                              refine J.iload (pc' := 113) rfl rfl rfl ?_
                                                              refine J.iconst (pc' := 114) rfl rfl ?_
                                                              refine J.icmp_ne (tgt := 120) (pc' := 117) rfl rfl rfl (by first | omega | (exact R.r _ _) | (simp only [jM.len_sI, jM.len_sL, jM.len_sR, jM.len_fI, jM.len_fL, jM.len_fR]; omega) | (simp [jM.len_nw, jM.len_sI, jM.len_sL, jM.len_sR, jM.len_fI, jM.len_fL, jM.len_fR, *]; omega)) (by first | omega | (exact R.r _ _) | (simp only [jM.len_sI, jM.len_sL, jM.len_sR, jM.len_fI, jM.len_fL, jM.len_fR]; omega) | (simp [jM.len_nw, jM.len_sI, jM.len_sL, jM.len_sR, jM.len_fI, jM.len_fL, jM.len_fR, *]; omega)) (fun c114 => ?_) (fun c114 => ?_)
                                                              · first
                                                                | (exfalso; omega)
                                                                | (exact rest (by omega) (by omega) (by omega) (by omega) (by omega) (by unfold ldC; omega))
                                                              · first
                                                                | (exfalso; omega)
                                                                | (refine J.bipush (pc' := 119) rfl rfl (by decide) ?_
                                                                   refine J.iret rfl rfl (by first | omega | (exact R.r _ _) | (simp only [jM.len_sI, jM.len_sL, jM.len_sR, jM.len_fI, jM.len_fL, jM.len_fR]; omega) | (simp [jM.len_nw, jM.len_sI, jM.len_sL, jM.len_sR, jM.len_fI, jM.len_fL, jM.len_fR, *]; omega)) (by first | omega | (exact R.r _ _) | (simp only [jM.len_sI, jM.len_sL, jM.len_sR, jM.len_fI, jM.len_fL, jM.len_fR]; omega) | (simp [jM.len_nw, jM.len_sI, jM.len_sL, jM.len_sR, jM.len_fI, jM.len_fL, jM.len_fR, *]; omega)) ?_
                                                                   exact mQ.of (by unfold sp_load ldC; (repeat (first | rw [if_pos (by omega)] | rw [if_neg (by omega)])))))
                                                         · first
                                                           | (exfalso; omega)
                                                           | (refine J.bipush (pc' := 99) rfl rfl (by decide) ?_
                                                              refine J.iret rfl rfl (by first | omega | (exact R.r _ _) | (simp only [jM.len_sI, jM.len_sL, jM.len_sR, jM.len_fI, jM.len_fL, jM.len_fR]; omega) | (simp [jM.len_nw, jM.len_sI, jM.len_sL, jM.len_sR, jM.len_fI, jM.len_fL, jM.len_fR, *]; omega)) (by first | omega | (exact R.r _ _) | (simp only [jM.len_sI, jM.len_sL, jM.len_sR, jM.len_fI, jM.len_fL, jM.len_fR]; omega) | (simp [jM.len_nw, jM.len_sI, jM.len_sL, jM.len_sR, jM.len_fI, jM.len_fL, jM.len_fR, *]; omega)) ?_
                                                              exact mQ.of (by unfold sp_load ldC; (repeat (first | rw [if_pos (by omega)] | rw [if_neg (by omega)])))))
                                                    · first
                                                      | (exfalso; omega)
                                                      | (refine J.bipush (pc' := 87) rfl rfl (by decide) ?_
                                                         refine J.iret rfl rfl (by first | omega | (exact R.r _ _) | (simp only [jM.len_sI, jM.len_sL, jM.len_sR, jM.len_fI, jM.len_fL, jM.len_fR]; omega) | (simp [jM.len_nw, jM.len_sI, jM.len_sL, jM.len_sR, jM.len_fI, jM.len_fL, jM.len_fR, *]; omega)) (by first | omega | (exact R.r _ _) | (simp only [jM.len_sI, jM.len_sL, jM.len_sR, jM.len_fI, jM.len_fL, jM.len_fR]; omega) | (simp [jM.len_nw, jM.len_sI, jM.len_sL, jM.len_sR, jM.len_fI, jM.len_fL, jM.len_fR, *]; omega)) ?_
                                                         exact mQ.of (by unfold sp_load ldC; (repeat (first | rw [if_pos (by omega)] | rw [if_neg (by omega)])))))
                                               · first
                                                 | (exfalso; omega)
                                                 | (refine J.iconst (pc' := 75) rfl rfl ?_
                                                    refine J.iret rfl rfl (by first | omega | (exact R.r _ _) | (simp only [jM.len_sI, jM.len_sL, jM.len_sR, jM.len_fI, jM.len_fL, jM.len_fR]; omega) | (simp [jM.len_nw, jM.len_sI, jM.len_sL, jM.len_sR, jM.len_fI, jM.len_fL, jM.len_fR, *]; omega)) (by first | omega | (exact R.r _ _) | (simp only [jM.len_sI, jM.len_sL, jM.len_sR, jM.len_fI, jM.len_fL, jM.len_fR]; omega) | (simp [jM.len_nw, jM.len_sI, jM.len_sL, jM.len_sR, jM.len_fI, jM.len_fL, jM.len_fR, *]; omega)) ?_
                                                    exact mQ.of (by unfold sp_load ldC; (repeat (first | rw [if_pos (by omega)] | rw [if_neg (by omega)])))))
                                          · first
                                            | (exfalso; omega)
                                            | (refine J.iconst (pc' := 63) rfl rfl ?_
                                               refine J.goto (tgt := 67) rfl rfl ?_
                                               refine J.iconst (pc' := 68) rfl rfl ?_
                                               first | refine J.callV (pc' := 71) (t := 16) rfl MX12_may ml_X12_161 iv_X12_may (by decide) ⟨_, rfl, rfl⟩ B.1 (cm_may1 B h0) rfl rfl (Nat.le_of_ble_eq_true rfl) (by first | omega | (exact R.r _ _) | (simp only [jM.len_sI, jM.len_sL, jM.len_sR, jM.len_fI, jM.len_fL, jM.len_fR]; omega) | (simp [jM.len_nw, jM.len_sI, jM.len_sL, jM.len_sR, jM.len_fI, jM.len_fL, jM.len_fR, *]; omega)) (by first | omega | (exact R.r _ _) | (simp only [jM.len_sI, jM.len_sL, jM.len_sR, jM.len_fI, jM.len_fL, jM.len_fR]; omega) | (simp [jM.len_nw, jM.len_sI, jM.len_sL, jM.len_sR, jM.len_fI, jM.len_fL, jM.len_fR, *]; omega)) (by first | omega | (exact R.r _ _) | (simp only [jM.len_sI, jM.len_sL, jM.len_sR, jM.len_fI, jM.len_fL, jM.len_fR]; omega) | (simp [jM.len_nw, jM.len_sI, jM.len_sL, jM.len_sR, jM.len_fI, jM.len_fL, jM.len_fR, *]; omega)) rfl rfl ?_ ?_ | refine J.callV (pc' := 71) (t := 16) rfl MX12_may ml_X12_161 iv_X12_may (by decide) ⟨_, rfl, rfl⟩ B.1 (cm_may0 B h0 (by omega)) rfl rfl (Nat.le_of_ble_eq_true rfl) (by first | omega | (exact R.r _ _) | (simp only [jM.len_sI, jM.len_sL, jM.len_sR, jM.len_fI, jM.len_fL, jM.len_fR]; omega) | (simp [jM.len_nw, jM.len_sI, jM.len_sL, jM.len_sR, jM.len_fI, jM.len_fL, jM.len_fR, *]; omega)) (by first | omega | (exact R.r _ _) | (simp only [jM.len_sI, jM.len_sL, jM.len_sR, jM.len_fI, jM.len_fL, jM.len_fR]; omega) | (simp [jM.len_nw, jM.len_sI, jM.len_sL, jM.len_sR, jM.len_fI, jM.len_fL, jM.len_fR, *]; omega)) (by first | omega | (exact R.r _ _) | (simp only [jM.len_sI, jM.len_sL, jM.len_sR, jM.len_fI, jM.len_fL, jM.len_fR]; omega) | (simp [jM.len_nw, jM.len_sI, jM.len_sL, jM.len_sR, jM.len_fI, jM.len_fL, jM.len_fR, *]; omega)) rfl rfl ?_ ?_
                                               · exact fun _ _ h => h
                                               rintro _ _ ⟨rfl, rfl⟩
                                               refine J.if_ne (tgt := 76) (pc' := 74) rfl rfl rfl (by first | omega | (exact R.r _ _) | (simp only [jM.len_sI, jM.len_sL, jM.len_sR, jM.len_fI, jM.len_fL, jM.len_fR]; omega) | (simp [jM.len_nw, jM.len_sI, jM.len_sL, jM.len_sR, jM.len_fI, jM.len_fL, jM.len_fR, *]; omega)) (fun c71 => ?_) (fun c71 => ?_)
                                               · first
                                                 | (exfalso; omega)
                                                 | (first | refine J.aload_n (pc' := 77) rfl rfl rfl ?_ | refine J.aload_nN (pc' := 77) rfl rfl rfl ?_
                                                    refine J.mgI (pc' := 80) (j := 26) B rfl fl_X12_277 rfl rfl rfl ?_
                                                    refine J.bipush (pc' := 82) rfl rfl (by decide) ?_
                                                    refine J.icmp_ne (tgt := 88) (pc' := 85) rfl rfl rfl (by first | omega | (exact R.r _ _) | (simp only [jM.len_sI, jM.len_sL, jM.len_sR, jM.len_fI, jM.len_fL, jM.len_fR]; omega) | (simp [jM.len_nw, jM.len_sI, jM.len_sL, jM.len_sR, jM.len_fI, jM.len_fL, jM.len_fR, *]; omega)) (by first | omega | (exact R.r _ _) | (simp only [jM.len_sI, jM.len_sL, jM.len_sR, jM.len_fI, jM.len_fL, jM.len_fR]; omega) | (simp [jM.len_nw, jM.len_sI, jM.len_sL, jM.len_sR, jM.len_fI, jM.len_fL, jM.len_fR, *]; omega)) (fun c82 => ?_) (fun c82 => ?_)
                                                    · first
                                                      | (exfalso; omega)
                                                      | (first | refine J.aload_n (pc' := 89) rfl rfl rfl ?_ | refine J.aload_nN (pc' := 89) rfl rfl rfl ?_
                                                         refine J.callV (pc' := 92) (t := 16) rfl MX12_layersInAll ml_X12_280 iv_X12_layersInAll (by decide) ⟨_, rfl, rfl⟩ B.1 (cm_layersInAll B) rfl rfl (Nat.le_of_ble_eq_true rfl) (by first | omega | (exact R.r _ _) | (simp only [jM.len_sI, jM.len_sL, jM.len_sR, jM.len_fI, jM.len_fL, jM.len_fR]; omega) | (simp [jM.len_nw, jM.len_sI, jM.len_sL, jM.len_sR, jM.len_fI, jM.len_fL, jM.len_fR, *]; omega)) (by first | omega | (exact R.r _ _) | (simp only [jM.len_sI, jM.len_sL, jM.len_sR, jM.len_fI, jM.len_fL, jM.len_fR]; omega) | (simp [jM.len_nw, jM.len_sI, jM.len_sL, jM.len_sR, jM.len_fI, jM.len_fL, jM.len_fR, *]; omega)) (by first | omega | (exact R.r _ _) | (simp only [jM.len_sI, jM.len_sL, jM.len_sR, jM.len_fI, jM.len_fL, jM.len_fR]; omega) | (simp [jM.len_nw, jM.len_sI, jM.len_sL, jM.len_sR, jM.len_fI, jM.len_fL, jM.len_fR, *]; omega)) rfl rfl ?_ ?_
                                                         · exact fun _ _ h => h
                                                         rintro _ _ ⟨rfl, rfl⟩
                                                         refine J.bipush (pc' := 94) rfl rfl (by decide) ?_
                                                         refine J.icmp_ne (tgt := 100) (pc' := 97) rfl rfl rfl (by first | omega | (exact R.r _ _) | (simp only [jM.len_sI, jM.len_sL, jM.len_sR, jM.len_fI, jM.len_fL, jM.len_fR]; omega) | (simp [jM.len_nw, jM.len_sI, jM.len_sL, jM.len_sR, jM.len_fI, jM.len_fL, jM.len_fR, *]; omega)) (by first | omega | (exact R.r _ _) | (simp only [jM.len_sI, jM.len_sL, jM.len_sR, jM.len_fI, jM.len_fL, jM.len_fR]; omega) | (simp [jM.len_nw, jM.len_sI, jM.len_sL, jM.len_sR, jM.len_fI, jM.len_fL, jM.len_fR, *]; omega)) (fun c94 => ?_) (fun c94 => ?_)
                                                         · first
                                                           | (exfalso; omega)
                                                           | (first | refine J.aload_n (pc' := 101) rfl rfl rfl ?_ | refine J.aload_nN (pc' := 101) rfl rfl rfl ?_
                                                              refine J.iload_n (pc' := 102) rfl rfl rfl ?_
                                                              first | refine J.aload_n (pc' := 103) rfl rfl rfl ?_ | refine J.aload_nN (pc' := 103) rfl rfl rfl ?_
                                                              refine J.mgI (pc' := 106) (j := 3) B rfl fl_X12_283 rfl rfl rfl ?_
                                                              refine J.callV (pc' := 109) (t := 16) rfl MX12_inForce ml_X12_264 iv_X12_inForce (by decide) ⟨_, rfl, rfl⟩ B.1 (cm_inForce B R hs (by omega)) rfl rfl (Nat.le_of_ble_eq_true rfl) (by first | omega | (exact R.r _ _) | (simp only [jM.len_sI, jM.len_sL, jM.len_sR, jM.len_fI, jM.len_fL, jM.len_fR]; omega) | (simp [jM.len_nw, jM.len_sI, jM.len_sL, jM.len_sR, jM.len_fI, jM.len_fL, jM.len_fR, *]; omega)) (by first | omega | (exact R.r _ _) | (simp only [jM.len_sI, jM.len_sL, jM.len_sR, jM.len_fI, jM.len_fL, jM.len_fR]; omega) | (simp [jM.len_nw, jM.len_sI, jM.len_sL, jM.len_sR, jM.len_fI, jM.len_fL, jM.len_fR, *]; omega)) (by first | omega | (exact R.r _ _) | (simp only [jM.len_sI, jM.len_sL, jM.len_sR, jM.len_fI, jM.len_fL, jM.len_fR]; omega) | (simp [jM.len_nw, jM.len_sI, jM.len_sL, jM.len_sR, jM.len_fI, jM.len_fL, jM.len_fR, *]; omega)) rfl rfl ?_ ?_
                                                              · exact fun _ _ h => h
                                                              rintro _ _ ⟨rfl, rfl⟩
                                                              refine J.istore (pc' := 111) rfl rfl (by decide) ?_
                                                              refine J.iload (pc' := 113) rfl rfl rfl ?_
                                                              refine J.iconst (pc' := 114) rfl rfl ?_
                                                              refine J.icmp_ne (tgt := 120) (pc' := 117) rfl rfl rfl (by first | omega | (exact R.r _ _) | (simp only [jM.len_sI, jM.len_sL, jM.len_sR, jM.len_fI, jM.len_fL, jM.len_fR]; omega) | (simp [jM.len_nw, jM.len_sI, jM.len_sL, jM.len_sR, jM.len_fI, jM.len_fL, jM.len_fR, *]; omega)) (by first | omega | (exact R.r _ _) | (simp only [jM.len_sI, jM.len_sL, jM.len_sR, jM.len_fI, jM.len_fL, jM.len_fR]; omega) | (simp [jM.len_nw, jM.len_sI, jM.len_sL, jM.len_sR, jM.len_fI, jM.len_fL, jM.len_fR, *]; omega)) (fun c114 => ?_) (fun c114 => ?_)
                                                              · first
                                                                | (exfalso; omega)
                                                                | (exact rest (by omega) (by omega) (by omega) (by omega) (by omega) (by unfold ldC; omega))
                                                              · first
                                                                | (exfalso; omega)
                                                                | (refine J.bipush (pc' := 119) rfl rfl (by decide) ?_
                                                                   refine J.iret rfl rfl (by first | omega | (exact R.r _ _) | (simp only [jM.len_sI, jM.len_sL, jM.len_sR, jM.len_fI, jM.len_fL, jM.len_fR]; omega) | (simp [jM.len_nw, jM.len_sI, jM.len_sL, jM.len_sR, jM.len_fI, jM.len_fL, jM.len_fR, *]; omega)) (by first | omega | (exact R.r _ _) | (simp only [jM.len_sI, jM.len_sL, jM.len_sR, jM.len_fI, jM.len_fL, jM.len_fR]; omega) | (simp [jM.len_nw, jM.len_sI, jM.len_sL, jM.len_sR, jM.len_fI, jM.len_fL, jM.len_fR, *]; omega)) ?_
                                                                   exact mQ.of (by unfold sp_load ldC; (repeat (first | rw [if_pos (by omega)] | rw [if_neg (by omega)])))))
                                                         · first
                                                           | (exfalso; omega)
                                                           | (refine J.bipush (pc' := 99) rfl rfl (by decide) ?_
                                                              refine J.iret rfl rfl (by first | omega | (exact R.r _ _) | (simp only [jM.len_sI, jM.len_sL, jM.len_sR, jM.len_fI, jM.len_fL, jM.len_fR]; omega) | (simp [jM.len_nw, jM.len_sI, jM.len_sL, jM.len_sR, jM.len_fI, jM.len_fL, jM.len_fR, *]; omega)) (by first | omega | (exact R.r _ _) | (simp only [jM.len_sI, jM.len_sL, jM.len_sR, jM.len_fI, jM.len_fL, jM.len_fR]; omega) | (simp [jM.len_nw, jM.len_sI, jM.len_sL, jM.len_sR, jM.len_fI, jM.len_fL, jM.len_fR, *]; omega)) ?_
                                                              exact mQ.of (by unfold sp_load ldC; (repeat (first | rw [if_pos (by omega)] | rw [if_neg (by omega)])))))
                                                    · first
                                                      | (exfalso; omega)
                                                      | (refine J.bipush (pc' := 87) rfl rfl (by decide) ?_
                                                         refine J.iret rfl rfl (by first | omega | (exact R.r _ _) | (simp only [jM.len_sI, jM.len_sL, jM.len_sR, jM.len_fI, jM.len_fL, jM.len_fR]; omega) | (simp [jM.len_nw, jM.len_sI, jM.len_sL, jM.len_sR, jM.len_fI, jM.len_fL, jM.len_fR, *]; omega)) (by first | omega | (exact R.r _ _) | (simp only [jM.len_sI, jM.len_sL, jM.len_sR, jM.len_fI, jM.len_fL, jM.len_fR]; omega) | (simp [jM.len_nw, jM.len_sI, jM.len_sL, jM.len_sR, jM.len_fI, jM.len_fL, jM.len_fR, *]; omega)) ?_
                                                         exact mQ.of (by unfold sp_load ldC; (repeat (first | rw [if_pos (by omega)] | rw [if_neg (by omega)])))))
                                               · first
                                                 | (exfalso; omega)
                                                 | (refine J.iconst (pc' := 75) rfl rfl ?_
                                                    refine J.iret rfl rfl (by first | omega | (exact R.r _ _) | (simp only [jM.len_sI, jM.len_sL, jM.len_sR, jM.len_fI, jM.len_fL, jM.len_fR]; omega) | (simp [jM.len_nw, jM.len_sI, jM.len_sL, jM.len_sR, jM.len_fI, jM.len_fL, jM.len_fR, *]; omega)) (by first | omega | (exact R.r _ _) | (simp only [jM.len_sI, jM.len_sL, jM.len_sR, jM.len_fI, jM.len_fL, jM.len_fR]; omega) | (simp [jM.len_nw, jM.len_sI, jM.len_sL, jM.len_sR, jM.len_fI, jM.len_fL, jM.len_fR, *]; omega)) ?_
                                                    exact mQ.of (by unfold sp_load ldC; (repeat (first | rw [if_pos (by omega)] | rw [if_neg (by omega)])))))))))))))
theorem cm_sample {l m lo hi : Int} (B : isB β) (R : isR V) (hl : r32 l) (hm : r32 m) (h1 : r32 lo) (h2 : r32 hi) : CT γ mX12_sample 2 0 0 [.ref (β.2 16), .int (jI l), .int (jI m), .int (jI lo), .int (jI hi)] (jP β V) (mQ β (sp_sample (jU V 16 0 0) l m lo hi)) X0 := by
  refine CT.of MX12_sample (Nat.le_of_ble_eq_true rfl) ?_
  show J γ mX12_sample 2 0 0 0 0 (jP β V) 0 [(0, .ref (β.2 16)), (1, .int (jI l)), (2, .int (jI m)), (3, .int (jI lo)), (4, .int (jI hi))] [] _ _
  first | refine J.aload_n (pc' := 1) rfl rfl rfl ?_ | refine J.aload_nN (pc' := 1) rfl rfl rfl ?_
  refine J.iconst (pc' := 2) rfl rfl ?_
  refine J.mpI (pc' := 5) (j := 0) B rfl fl_X12_1 rfl rfl rfl rfl ?_
  have h0 := jU_same V 16 0 0
  replace R : isR (jU V 16 0 0) := R.up (fun _ => by decide)
  generalize jU V 16 0 0 = V at h0 R ⊢
  have hf := R.f
  have r1 := R 134 (5 * l + m) rfl
  have r2 := R 135 (5 * l + m) rfl
  have r3 := R 131 l rfl
  have r4 := R 127 l rfl
  have r5 := R 129 l rfl
  have r6 := R 133 l rfl
  simp [jLo, jHi] at r1 r2 r3 r4 r5 r6
  have rest : (0 ≤ l ∧ l < V 16 26) → ((0 ≤ m ∧ m < 5) ∧ 0 ≤ lo ∧ lo ≤ hi ∧ hi ≤ 10000) → ∀ a b : Int, a = max (V 134 (5 * l + m)) lo → b = min (V 135 (5 * l + m)) hi → J γ mX12_sample 2 0 0 0 0 (jP β V) 87 [(0, .ref (β.2 16)), (1, .int (jI l)), (2, .int (jI m)), (3, .int (jI lo)), (4, .int (jI hi)), (5, .int (jI (5 * l + m))), (6, .int (jI a)), (7, .int (jI b))] [] (mQ β (sp_sample V l m lo hi)) X0 := by
    intro b1 b2 a b ea eb
    have spE : sp_sample V l m lo hi = if a ≤ b then (1, smV V (smW V l m lo hi) l) else (0, V) := by
      unfold sp_sample
      rw [if_pos b1, if_pos b2, ea, eb]
    have eW : smW V l m lo hi = jU (jU V 134 (5 * l + m) a) 135 (5 * l + m) b := by rw [ea, eb]; rfl
    rw [spE]
    refine J.iload (pc' := 89) rfl rfl rfl ?_
    refine J.iload (pc' := 91) rfl rfl rfl ?_
    refine J.icmp_le (tgt := 96) (pc' := 94) rfl rfl rfl (by first | omega | (exact R.r _ _) | (simp only [jM.len_sI, jM.len_sL, jM.len_sR, jM.len_fI, jM.len_fL, jM.len_fR]; omega) | (simp [jM.len_nw, jM.len_sI, jM.len_sL, jM.len_sR, jM.len_fI, jM.len_fL, jM.len_fR, *]; omega)) (by first | omega | (exact R.r _ _) | (simp only [jM.len_sI, jM.len_sL, jM.len_sR, jM.len_fI, jM.len_fL, jM.len_fR]; omega) | (simp [jM.len_nw, jM.len_sI, jM.len_sL, jM.len_sR, jM.len_fI, jM.len_fL, jM.len_fR, *]; omega)) (fun c1 => ?_) (fun c1 => ?_)
    · have RW : isR (smW V l m lo hi) := by
        rw [eW]
        exact (R.up (fun _ => (by show (0 : Int) ≤ a ∧ a ≤ 10000; omega))).up (fun _ => (by show (0 : Int) ≤ b ∧ b ≤ 10000; omega))
      first | refine J.aload_n (pc' := 97) rfl rfl rfl ?_ | refine J.aload_nN (pc' := 97) rfl rfl rfl ?_
      refine J.mgR (pc' := 100) (t := 134) B rfl fl_X12_85 rfl rfl (by decide) rfl ?_
      refine J.iload (pc' := 102) rfl rfl rfl ?_
      refine J.iload (pc' := 104) rfl rfl rfl ?_
      refine J.mast (pc' := 105) B rfl rfl rfl rfl (by omega) (by simp only [jLn]; omega) rfl ?_
      first | refine J.aload_n (pc' := 106) rfl rfl rfl ?_ | refine J.aload_nN (pc' := 106) rfl rfl rfl ?_
      refine J.mgR (pc' := 109) (t := 135) B rfl fl_X12_88 rfl rfl (by decide) rfl ?_
      refine J.iload (pc' := 111) rfl rfl rfl ?_
      refine J.iload (pc' := 113) rfl rfl rfl ?_
      refine J.mast (pc' := 114) B rfl rfl rfl rfl (by omega) (by simp only [jLn]; omega) rfl ?_
      first | refine J.aload_n (pc' := 115) rfl rfl rfl ?_ | refine J.aload_nN (pc' := 115) rfl rfl rfl ?_
      first | refine J.aload_n (pc' := 116) rfl rfl rfl ?_ | refine J.aload_nN (pc' := 116) rfl rfl rfl ?_
      refine J.mgR (pc' := 119) (t := 131) B rfl fl_X12_76 rfl rfl (by decide) rfl ?_
      refine J.iload_n (pc' := 120) rfl rfl rfl ?_
      refine J.mald (pc' := 121) B rfl rfl rfl (by omega) (by simp only [jLn]; omega) rfl ?_
      simp (disch := omega) only [jU_o]
      rw [← eW]
      refine J.iload_n (pc' := 122) rfl rfl rfl ?_
      refine J.callV (pc' := 125) (t := 16) rfl MX12_findGrade ml_X12_286 iv_X12_findGrade (by decide) ⟨_, rfl, rfl⟩ B.1 (cm_findGrade (c := V 131 l) B RW (by omega) (by omega)) rfl rfl (Nat.le_of_ble_eq_true rfl) (by first | omega | (exact R.r _ _) | (simp only [jM.len_sI, jM.len_sL, jM.len_sR, jM.len_fI, jM.len_fL, jM.len_fR]; omega) | (simp [jM.len_nw, jM.len_sI, jM.len_sL, jM.len_sR, jM.len_fI, jM.len_fL, jM.len_fR, *]; omega)) (by first | omega | (exact R.r _ _) | (simp only [jM.len_sI, jM.len_sL, jM.len_sR, jM.len_fI, jM.len_fL, jM.len_fR]; omega) | (simp [jM.len_nw, jM.len_sI, jM.len_sL, jM.len_sR, jM.len_fI, jM.len_fL, jM.len_fR, *]; omega)) (by first | omega | (exact R.r _ _) | (simp only [jM.len_sI, jM.len_sL, jM.len_sR, jM.len_fI, jM.len_fL, jM.len_fR]; omega) | (simp [jM.len_nw, jM.len_sI, jM.len_sL, jM.len_sR, jM.len_fI, jM.len_fL, jM.len_fR, *]; omega)) rfl rfl ?_ ?_
      · exact fun _ _ h => h
      rintro _ _ ⟨rfl, rfl⟩
      have hgp := gr_b RW (V 131 l) l
      have e9 : smV V (smW V l m lo hi) l = jU (jU (jU (fgV (smW V l m lo hi) (grF (smW V l m lo hi) (V 131 l) l) (payF (smW V l m lo hi) (V 131 l) l)) 109 (V 127 l) (V 109 (V 127 l) + V 129 l * (payF (smW V l m lo hi) (V 131 l) l - V 133 l))) 132 l (grF (smW V l m lo hi) (V 131 l) l)) 133 l (payF (smW V l m lo hi) (V 131 l) l) := rfl
      rw [e9]
      generalize grF (smW V l m lo hi) (V 131 l) l = gr at hgp ⊢
      generalize payF (smW V l m lo hi) (V 131 l) l = py at hgp ⊢
      have f1 : (fgV (smW V l m lo hi) gr py) 16 36 = gr := rfl
      have f2 : (fgV (smW V l m lo hi) gr py) 16 37 = py := rfl
      have f3 : (fgV (smW V l m lo hi) gr py) 127 l = V 127 l := rfl
      have f4 : (fgV (smW V l m lo hi) gr py) 129 l = V 129 l := rfl
      have f5 : (fgV (smW V l m lo hi) gr py) 133 l = V 133 l := rfl
      have f6 : (fgV (smW V l m lo hi) gr py) 109 (V 127 l) = V 109 (V 127 l) := rfl
      generalize fgV (smW V l m lo hi) gr py = F at f1 f2 f3 f4 f5 f6 ⊢
      first | refine J.aload_n (pc' := 126) rfl rfl rfl ?_ | refine J.aload_nN (pc' := 126) rfl rfl rfl ?_
      refine J.mgR (pc' := 129) (t := 109) B rfl fl_X12_30 rfl rfl (by decide) rfl ?_
      first | refine J.aload_n (pc' := 130) rfl rfl rfl ?_ | refine J.aload_nN (pc' := 130) rfl rfl rfl ?_
      refine J.mgR (pc' := 133) (t := 127) B rfl fl_X12_64 rfl rfl (by decide) rfl ?_
      refine J.iload_n (pc' := 134) rfl rfl rfl ?_
      refine J.mald (pc' := 135) B rfl rfl rfl (by omega) (by simp only [jLn]; omega) rfl ?_
      try simp (disch := omega) only [jU_o, jU_i, jU_same]
      rw [f3]
      first | refine J.dup2 (pc' := 136) rfl rfl rfl rfl ?_ | refine J.dup2L (pc' := 136) rfl rfl rfl ?_
      refine J.mlald (pc' := 137) B rfl rfl rfl (by omega) (by simp only [jLn]; omega) rfl ?_
      try simp (disch := omega) only [jU_o, jU_i, jU_same]
      rw [f6]
      first | refine J.aload_n (pc' := 138) rfl rfl rfl ?_ | refine J.aload_nN (pc' := 138) rfl rfl rfl ?_
      refine J.mgR (pc' := 141) (t := 129) B rfl fl_X12_70 rfl rfl (by decide) rfl ?_
      refine J.iload_n (pc' := 142) rfl rfl rfl ?_
      refine J.mald (pc' := 143) B rfl rfl rfl (by omega) (by simp only [jLn]; omega) rfl ?_
      try simp (disch := omega) only [jU_o, jU_i, jU_same]
      rw [f4]
      refine J.i2l (pc' := 144) rfl rfl (by first | omega | (exact R.r _ _) | (simp only [jM.len_sI, jM.len_sL, jM.len_sR, jM.len_fI, jM.len_fL, jM.len_fR]; omega) | (simp [jM.len_nw, jM.len_sI, jM.len_sL, jM.len_sR, jM.len_fI, jM.len_fL, jM.len_fR, *]; omega)) ?_
      first | refine J.aload_n (pc' := 145) rfl rfl rfl ?_ | refine J.aload_nN (pc' := 145) rfl rfl rfl ?_
      refine J.mgI (pc' := 148) (j := 37) B rfl fl_X12_271 rfl rfl rfl ?_
      try simp (disch := omega) only [jU_o, jU_i, jU_same]
      rw [f2]
      first | refine J.aload_n (pc' := 149) rfl rfl rfl ?_ | refine J.aload_nN (pc' := 149) rfl rfl rfl ?_
      refine J.mgR (pc' := 152) (t := 133) B rfl fl_X12_82 rfl rfl (by decide) rfl ?_
      refine J.iload_n (pc' := 153) rfl rfl rfl ?_
      refine J.mald (pc' := 154) B rfl rfl rfl (by omega) (by simp only [jLn]; omega) rfl ?_
      try simp (disch := omega) only [jU_o, jU_i, jU_same]
      rw [f5]
      refine J.isub (pc' := 155) rfl rfl ?_
      refine J.i2l (pc' := 156) rfl rfl (by first | omega | (exact R.r _ _) | (simp only [jM.len_sI, jM.len_sL, jM.len_sR, jM.len_fI, jM.len_fL, jM.len_fR]; omega) | (simp [jM.len_nw, jM.len_sI, jM.len_sL, jM.len_sR, jM.len_fI, jM.len_fL, jM.len_fR, *]; omega)) ?_
      refine J.lmul (pc' := 157) rfl rfl ?_
      refine J.ladd (pc' := 158) rfl rfl ?_
      refine J.mlast (pc' := 159) B rfl rfl rfl rfl (by omega) (by simp only [jLn]; omega) rfl ?_
      first | refine J.aload_n (pc' := 160) rfl rfl rfl ?_ | refine J.aload_nN (pc' := 160) rfl rfl rfl ?_
      refine J.mgR (pc' := 163) (t := 132) B rfl fl_X12_79 rfl rfl (by decide) rfl ?_
      refine J.iload_n (pc' := 164) rfl rfl rfl ?_
      first | refine J.aload_n (pc' := 165) rfl rfl rfl ?_ | refine J.aload_nN (pc' := 165) rfl rfl rfl ?_
      refine J.mgI (pc' := 168) (j := 36) B rfl fl_X12_268 rfl rfl rfl ?_
      try simp (disch := omega) only [jU_o, jU_i, jU_same]
      rw [f1]
      refine J.mast (pc' := 169) B rfl rfl rfl rfl (by omega) (by simp only [jLn]; omega) rfl ?_
      first | refine J.aload_n (pc' := 170) rfl rfl rfl ?_ | refine J.aload_nN (pc' := 170) rfl rfl rfl ?_
      refine J.mgR (pc' := 173) (t := 133) B rfl fl_X12_82 rfl rfl (by decide) rfl ?_
      refine J.iload_n (pc' := 174) rfl rfl rfl ?_
      first | refine J.aload_n (pc' := 175) rfl rfl rfl ?_ | refine J.aload_nN (pc' := 175) rfl rfl rfl ?_
      refine J.mgI (pc' := 178) (j := 37) B rfl fl_X12_271 rfl rfl rfl ?_
      try simp (disch := omega) only [jU_o, jU_i, jU_same]
      rw [f2]
      refine J.mast (pc' := 179) B rfl rfl rfl rfl (by omega) (by simp only [jLn]; omega) rfl ?_
      refine J.iconst (pc' := 180) rfl rfl ?_
      refine J.iret rfl rfl (by first | omega | (exact R.r _ _) | (simp only [jM.len_sI, jM.len_sL, jM.len_sR, jM.len_fI, jM.len_fL, jM.len_fR]; omega) | (simp [jM.len_nw, jM.len_sI, jM.len_sL, jM.len_sR, jM.len_fI, jM.len_fL, jM.len_fR, *]; omega)) (by first | omega | (exact R.r _ _) | (simp only [jM.len_sI, jM.len_sL, jM.len_sR, jM.len_fI, jM.len_fL, jM.len_fR]; omega) | (simp [jM.len_nw, jM.len_sI, jM.len_sL, jM.len_sR, jM.len_fI, jM.len_fL, jM.len_fR, *]; omega)) ?_
      exact mQ.of (by rw [if_pos (by omega)])
    · refine J.iconst (pc' := 95) rfl rfl ?_
      refine J.iret rfl rfl (by first | omega | (exact R.r _ _) | (simp only [jM.len_sI, jM.len_sL, jM.len_sR, jM.len_fI, jM.len_fL, jM.len_fR]; omega) | (simp [jM.len_nw, jM.len_sI, jM.len_sL, jM.len_sR, jM.len_fI, jM.len_fL, jM.len_fR, *]; omega)) (by first | omega | (exact R.r _ _) | (simp only [jM.len_sI, jM.len_sL, jM.len_sR, jM.len_fI, jM.len_fL, jM.len_fR]; omega) | (simp [jM.len_nw, jM.len_sI, jM.len_sL, jM.len_sR, jM.len_fI, jM.len_fL, jM.len_fR, *]; omega)) ?_
      exact mQ.of (by rw [if_neg (by omega)])
  first | refine J.aload_n (pc' := 6) rfl rfl rfl ?_ | refine J.aload_nN (pc' := 6) rfl rfl rfl ?_
  refine J.iload_n (pc' := 7) rfl rfl rfl ?_
  refine J.callV (pc' := 10) (t := 16) rfl MX12_isLoad ml_X12_294 iv_X12_isLoad (by decide) ⟨_, rfl, rfl⟩ B.1 (cm_isLoad B R h0 hl) rfl rfl (Nat.le_of_ble_eq_true rfl) (by first | omega | (exact R.r _ _) | (simp only [jM.len_sI, jM.len_sL, jM.len_sR, jM.len_fI, jM.len_fL, jM.len_fR]; omega) | (simp [jM.len_nw, jM.len_sI, jM.len_sL, jM.len_sR, jM.len_fI, jM.len_fL, jM.len_fR, *]; omega)) (by first | omega | (exact R.r _ _) | (simp only [jM.len_sI, jM.len_sL, jM.len_sR, jM.len_fI, jM.len_fL, jM.len_fR]; omega) | (simp [jM.len_nw, jM.len_sI, jM.len_sL, jM.len_sR, jM.len_fI, jM.len_fL, jM.len_fR, *]; omega)) (by first | omega | (exact R.r _ _) | (simp only [jM.len_sI, jM.len_sL, jM.len_sR, jM.len_fI, jM.len_fL, jM.len_fR]; omega) | (simp [jM.len_nw, jM.len_sI, jM.len_sL, jM.len_sR, jM.len_fI, jM.len_fL, jM.len_fR, *]; omega)) rfl rfl ?_ ?_
  · exact fun _ _ h => h
  rintro _ _ ⟨b, hb, rfl⟩
  rcases hb with ⟨rfl, hb, rfl⟩ | ⟨rfl, hb, rfl⟩
  · first
    | (exfalso; omega)
    | (refine J.if_eq (tgt := 28) (pc' := 13) rfl rfl rfl (by first | omega | (exact R.r _ _) | (simp only [jM.len_sI, jM.len_sL, jM.len_sR, jM.len_fI, jM.len_fL, jM.len_fR]; omega) | (simp [jM.len_nw, jM.len_sI, jM.len_sL, jM.len_sR, jM.len_fI, jM.len_fL, jM.len_fR, *]; omega)) (fun c10 => ?_) (fun c10 => ?_)
       · first
         | (exfalso; omega)
         | (refine J.iconst (pc' := 29) rfl rfl ?_
            refine J.iret rfl rfl (by first | omega | (exact R.r _ _) | (simp only [jM.len_sI, jM.len_sL, jM.len_sR, jM.len_fI, jM.len_fL, jM.len_fR]; omega) | (simp [jM.len_nw, jM.len_sI, jM.len_sL, jM.len_sR, jM.len_fI, jM.len_fL, jM.len_fR, *]; omega)) (by first | omega | (exact R.r _ _) | (simp only [jM.len_sI, jM.len_sL, jM.len_sR, jM.len_fI, jM.len_fL, jM.len_fR]; omega) | (simp [jM.len_nw, jM.len_sI, jM.len_sL, jM.len_sR, jM.len_fI, jM.len_fL, jM.len_fR, *]; omega)) ?_
            exact mQ.of (by unfold sp_sample; (repeat (first | rw [if_pos (by omega)] | rw [if_neg (by omega)]))))
       · first
         | (exfalso; omega)
         | (first | refine J.aload_n (pc' := 14) rfl rfl rfl ?_ | refine J.aload_nN (pc' := 14) rfl rfl rfl ?_
            refine J.iload_n (pc' := 15) rfl rfl rfl ?_
            refine J.iload_n (pc' := 16) rfl rfl rfl ?_
            refine J.iload (pc' := 18) rfl rfl rfl ?_
            refine J.callS (pc' := 21) rfl MX12_isSpan ml_X12_165 is_X12_isSpan (cm_isSpan hm h1 h2) rfl rfl (Nat.le_of_ble_eq_true rfl) (by first | omega | (exact R.r _ _) | (simp only [jM.len_sI, jM.len_sL, jM.len_sR, jM.len_fI, jM.len_fL, jM.len_fR]; omega) | (simp [jM.len_nw, jM.len_sI, jM.len_sL, jM.len_sR, jM.len_fI, jM.len_fL, jM.len_fR, *]; omega)) (by first | omega | (exact R.r _ _) | (simp only [jM.len_sI, jM.len_sL, jM.len_sR, jM.len_fI, jM.len_fL, jM.len_fR]; omega) | (simp [jM.len_nw, jM.len_sI, jM.len_sL, jM.len_sR, jM.len_fI, jM.len_fL, jM.len_fR, *]; omega)) (by first | omega | (exact R.r _ _) | (simp only [jM.len_sI, jM.len_sL, jM.len_sR, jM.len_fI, jM.len_fL, jM.len_fR]; omega) | (simp [jM.len_nw, jM.len_sI, jM.len_sL, jM.len_sR, jM.len_fI, jM.len_fL, jM.len_fR, *]; omega)) rfl rfl ?_ ?_
            · exact fun _ _ h => h
            rintro _ _ ⟨b, hb1, rfl, rfl⟩
            rcases hb1 with ⟨rfl, hb1⟩ | ⟨rfl, hb1⟩
            · first
              | (exfalso; omega)
              | (refine J.iconst (pc' := 22) rfl rfl ?_
                 first | refine J.callV (pc' := 25) (t := 16) rfl MX12_may ml_X12_161 iv_X12_may (by decide) ⟨_, rfl, rfl⟩ B.1 (cm_may1 B h0) rfl rfl (Nat.le_of_ble_eq_true rfl) (by first | omega | (exact R.r _ _) | (simp only [jM.len_sI, jM.len_sL, jM.len_sR, jM.len_fI, jM.len_fL, jM.len_fR]; omega) | (simp [jM.len_nw, jM.len_sI, jM.len_sL, jM.len_sR, jM.len_fI, jM.len_fL, jM.len_fR, *]; omega)) (by first | omega | (exact R.r _ _) | (simp only [jM.len_sI, jM.len_sL, jM.len_sR, jM.len_fI, jM.len_fL, jM.len_fR]; omega) | (simp [jM.len_nw, jM.len_sI, jM.len_sL, jM.len_sR, jM.len_fI, jM.len_fL, jM.len_fR, *]; omega)) (by first | omega | (exact R.r _ _) | (simp only [jM.len_sI, jM.len_sL, jM.len_sR, jM.len_fI, jM.len_fL, jM.len_fR]; omega) | (simp [jM.len_nw, jM.len_sI, jM.len_sL, jM.len_sR, jM.len_fI, jM.len_fL, jM.len_fR, *]; omega)) rfl rfl ?_ ?_ | refine J.callV (pc' := 25) (t := 16) rfl MX12_may ml_X12_161 iv_X12_may (by decide) ⟨_, rfl, rfl⟩ B.1 (cm_may0 B h0 (by omega)) rfl rfl (Nat.le_of_ble_eq_true rfl) (by first | omega | (exact R.r _ _) | (simp only [jM.len_sI, jM.len_sL, jM.len_sR, jM.len_fI, jM.len_fL, jM.len_fR]; omega) | (simp [jM.len_nw, jM.len_sI, jM.len_sL, jM.len_sR, jM.len_fI, jM.len_fL, jM.len_fR, *]; omega)) (by first | omega | (exact R.r _ _) | (simp only [jM.len_sI, jM.len_sL, jM.len_sR, jM.len_fI, jM.len_fL, jM.len_fR]; omega) | (simp [jM.len_nw, jM.len_sI, jM.len_sL, jM.len_sR, jM.len_fI, jM.len_fL, jM.len_fR, *]; omega)) (by first | omega | (exact R.r _ _) | (simp only [jM.len_sI, jM.len_sL, jM.len_sR, jM.len_fI, jM.len_fL, jM.len_fR]; omega) | (simp [jM.len_nw, jM.len_sI, jM.len_sL, jM.len_sR, jM.len_fI, jM.len_fL, jM.len_fR, *]; omega)) rfl rfl ?_ ?_
                 · exact fun _ _ h => h
                 rintro _ _ ⟨rfl, rfl⟩
                 refine J.if_ne (tgt := 30) (pc' := 28) rfl rfl rfl (by first | omega | (exact R.r _ _) | (simp only [jM.len_sI, jM.len_sL, jM.len_sR, jM.len_fI, jM.len_fL, jM.len_fR]; omega) | (simp [jM.len_nw, jM.len_sI, jM.len_sL, jM.len_sR, jM.len_fI, jM.len_fL, jM.len_fR, *]; omega)) (fun c25 => ?_) (fun c25 => ?_)
                 · first
                   | (exfalso; omega)
                   | (refine J.iconst (pc' := 31) rfl rfl ?_
                      refine J.iload_n (pc' := 32) rfl rfl rfl ?_
                      refine J.imul (pc' := 33) rfl rfl ?_
                      refine J.iload_n (pc' := 34) rfl rfl rfl ?_
                      refine J.iadd (pc' := 35) rfl rfl ?_
                      refine J.istore (pc' := 37) rfl rfl (by decide) ?_
                      first | refine J.aload_n (pc' := 38) rfl rfl rfl ?_ | refine J.aload_nN (pc' := 38) rfl rfl rfl ?_
                      refine J.mgR (pc' := 41) (t := 134) B rfl fl_X12_85 rfl rfl (by decide) rfl ?_
                      refine J.iload (pc' := 43) rfl rfl rfl ?_
                      refine J.mald (pc' := 44) B rfl rfl rfl (by omega) (by simp only [jLn]; omega) rfl ?_
                      refine J.iload_n (pc' := 45) rfl rfl rfl ?_
                      refine J.icmp_le (tgt := 58) (pc' := 48) rfl rfl rfl (by first | omega | (exact R.r _ _) | (simp only [jM.len_sI, jM.len_sL, jM.len_sR, jM.len_fI, jM.len_fL, jM.len_fR]; omega) | (simp [jM.len_nw, jM.len_sI, jM.len_sL, jM.len_sR, jM.len_fI, jM.len_fL, jM.len_fR, *]; omega)) (by first | omega | (exact R.r _ _) | (simp only [jM.len_sI, jM.len_sL, jM.len_sR, jM.len_fI, jM.len_fL, jM.len_fR]; omega) | (simp [jM.len_nw, jM.len_sI, jM.len_sL, jM.len_sR, jM.len_fI, jM.len_fL, jM.len_fR, *]; omega)) (fun c45 => ?_) (fun c45 => ?_)
                      · first
                        | (exfalso; omega)
                        | (refine J.iload_n (pc' := 59) rfl rfl rfl ?_
                           refine J.istore (pc' := 61) rfl rfl (by decide) ?_
                           first | refine J.aload_n (pc' := 62) rfl rfl rfl ?_ | refine J.aload_nN (pc' := 62) rfl rfl rfl ?_
                           refine J.mgR (pc' := 65) (t := 135) B rfl fl_X12_88 rfl rfl (by decide) rfl ?_
                           refine J.iload (pc' := 67) rfl rfl rfl ?_
                           refine J.mald (pc' := 68) B rfl rfl rfl (by omega) (by simp only [jLn]; omega) rfl ?_
                           refine J.iload (pc' := 70) rfl rfl rfl ?_
                           refine J.icmp_ge (tgt := 83) (pc' := 73) rfl rfl rfl (by first | omega | (exact R.r _ _) | (simp only [jM.len_sI, jM.len_sL, jM.len_sR, jM.len_fI, jM.len_fL, jM.len_fR]; omega) | (simp [jM.len_nw, jM.len_sI, jM.len_sL, jM.len_sR, jM.len_fI, jM.len_fL, jM.len_fR, *]; omega)) (by first | omega | (exact R.r _ _) | (simp only [jM.len_sI, jM.len_sL, jM.len_sR, jM.len_fI, jM.len_fL, jM.len_fR]; omega) | (simp [jM.len_nw, jM.len_sI, jM.len_sL, jM.len_sR, jM.len_fI, jM.len_fL, jM.len_fR, *]; omega)) (fun c70 => ?_) (fun c70 => ?_)
                           · first
                             | (exfalso; omega)
                             | (refine J.iload (pc' := 85) rfl rfl rfl ?_
                                refine J.istore (pc' := 87) rfl rfl (by decide) ?_
                                exact rest (by omega) (by omega) _ _ (by omega) (by omega))
                           · first
                             | (exfalso; omega)
                             | (first | refine J.aload_n (pc' := 74) rfl rfl rfl ?_ | refine J.aload_nN (pc' := 74) rfl rfl rfl ?_
                                refine J.mgR (pc' := 77) (t := 135) B rfl fl_X12_88 rfl rfl (by decide) rfl ?_
                                refine J.iload (pc' := 79) rfl rfl rfl ?_
                                refine J.mald (pc' := 80) B rfl rfl rfl (by omega) (by simp only [jLn]; omega) rfl ?_
                                refine J.goto (tgt := 85) rfl rfl ?_
                                refine J.istore (pc' := 87) rfl rfl (by decide) ?_
                                exact rest (by omega) (by omega) _ _ (by omega) (by omega)))
                      · first
                        | (exfalso; omega)
                        | (first | refine J.aload_n (pc' := 49) rfl rfl rfl ?_ | refine J.aload_nN (pc' := 49) rfl rfl rfl ?_
                           refine J.mgR (pc' := 52) (t := 134) B rfl fl_X12_85 rfl rfl (by decide) rfl ?_
                           refine J.iload (pc' := 54) rfl rfl rfl ?_
                           refine J.mald (pc' := 55) B rfl rfl rfl (by omega) (by simp only [jLn]; omega) rfl ?_
                           refine J.goto (tgt := 59) rfl rfl ?_
                           refine J.istore (pc' := 61) rfl rfl (by decide) ?_
                           first | refine J.aload_n (pc' := 62) rfl rfl rfl ?_ | refine J.aload_nN (pc' := 62) rfl rfl rfl ?_
                           refine J.mgR (pc' := 65) (t := 135) B rfl fl_X12_88 rfl rfl (by decide) rfl ?_
                           refine J.iload (pc' := 67) rfl rfl rfl ?_
                           refine J.mald (pc' := 68) B rfl rfl rfl (by omega) (by simp only [jLn]; omega) rfl ?_
                           refine J.iload (pc' := 70) rfl rfl rfl ?_
                           refine J.icmp_ge (tgt := 83) (pc' := 73) rfl rfl rfl (by first | omega | (exact R.r _ _) | (simp only [jM.len_sI, jM.len_sL, jM.len_sR, jM.len_fI, jM.len_fL, jM.len_fR]; omega) | (simp [jM.len_nw, jM.len_sI, jM.len_sL, jM.len_sR, jM.len_fI, jM.len_fL, jM.len_fR, *]; omega)) (by first | omega | (exact R.r _ _) | (simp only [jM.len_sI, jM.len_sL, jM.len_sR, jM.len_fI, jM.len_fL, jM.len_fR]; omega) | (simp [jM.len_nw, jM.len_sI, jM.len_sL, jM.len_sR, jM.len_fI, jM.len_fL, jM.len_fR, *]; omega)) (fun c70 => ?_) (fun c70 => ?_)
                           · first
                             | (exfalso; omega)
                             | (refine J.iload (pc' := 85) rfl rfl rfl ?_
                                refine J.istore (pc' := 87) rfl rfl (by decide) ?_
                                exact rest (by omega) (by omega) _ _ (by omega) (by omega))
                           · first
                             | (exfalso; omega)
                             | (first | refine J.aload_n (pc' := 74) rfl rfl rfl ?_ | refine J.aload_nN (pc' := 74) rfl rfl rfl ?_
                                refine J.mgR (pc' := 77) (t := 135) B rfl fl_X12_88 rfl rfl (by decide) rfl ?_
                                refine J.iload (pc' := 79) rfl rfl rfl ?_
                                refine J.mald (pc' := 80) B rfl rfl rfl (by omega) (by simp only [jLn]; omega) rfl ?_
                                refine J.goto (tgt := 85) rfl rfl ?_
                                refine J.istore (pc' := 87) rfl rfl (by decide) ?_
                                exact rest (by omega) (by omega) _ _ (by omega) (by omega))))
                 · first
                   | (exfalso; omega)
                   | (refine J.iconst (pc' := 29) rfl rfl ?_
                      refine J.iret rfl rfl (by first | omega | (exact R.r _ _) | (simp only [jM.len_sI, jM.len_sL, jM.len_sR, jM.len_fI, jM.len_fL, jM.len_fR]; omega) | (simp [jM.len_nw, jM.len_sI, jM.len_sL, jM.len_sR, jM.len_fI, jM.len_fL, jM.len_fR, *]; omega)) (by first | omega | (exact R.r _ _) | (simp only [jM.len_sI, jM.len_sL, jM.len_sR, jM.len_fI, jM.len_fL, jM.len_fR]; omega) | (simp [jM.len_nw, jM.len_sI, jM.len_sL, jM.len_sR, jM.len_fI, jM.len_fL, jM.len_fR, *]; omega)) ?_
                      exact mQ.of (by unfold sp_sample; (repeat (first | rw [if_pos (by omega)] | rw [if_neg (by omega)])))))
            · first
              | (exfalso; omega)
              | (refine J.iconst (pc' := 22) rfl rfl ?_
                 first | refine J.callV (pc' := 25) (t := 16) rfl MX12_may ml_X12_161 iv_X12_may (by decide) ⟨_, rfl, rfl⟩ B.1 (cm_may1 B h0) rfl rfl (Nat.le_of_ble_eq_true rfl) (by first | omega | (exact R.r _ _) | (simp only [jM.len_sI, jM.len_sL, jM.len_sR, jM.len_fI, jM.len_fL, jM.len_fR]; omega) | (simp [jM.len_nw, jM.len_sI, jM.len_sL, jM.len_sR, jM.len_fI, jM.len_fL, jM.len_fR, *]; omega)) (by first | omega | (exact R.r _ _) | (simp only [jM.len_sI, jM.len_sL, jM.len_sR, jM.len_fI, jM.len_fL, jM.len_fR]; omega) | (simp [jM.len_nw, jM.len_sI, jM.len_sL, jM.len_sR, jM.len_fI, jM.len_fL, jM.len_fR, *]; omega)) (by first | omega | (exact R.r _ _) | (simp only [jM.len_sI, jM.len_sL, jM.len_sR, jM.len_fI, jM.len_fL, jM.len_fR]; omega) | (simp [jM.len_nw, jM.len_sI, jM.len_sL, jM.len_sR, jM.len_fI, jM.len_fL, jM.len_fR, *]; omega)) rfl rfl ?_ ?_ | refine J.callV (pc' := 25) (t := 16) rfl MX12_may ml_X12_161 iv_X12_may (by decide) ⟨_, rfl, rfl⟩ B.1 (cm_may0 B h0 (by omega)) rfl rfl (Nat.le_of_ble_eq_true rfl) (by first | omega | (exact R.r _ _) | (simp only [jM.len_sI, jM.len_sL, jM.len_sR, jM.len_fI, jM.len_fL, jM.len_fR]; omega) | (simp [jM.len_nw, jM.len_sI, jM.len_sL, jM.len_sR, jM.len_fI, jM.len_fL, jM.len_fR, *]; omega)) (by first | omega | (exact R.r _ _) | (simp only [jM.len_sI, jM.len_sL, jM.len_sR, jM.len_fI, jM.len_fL, jM.len_fR]; omega) | (simp [jM.len_nw, jM.len_sI, jM.len_sL, jM.len_sR, jM.len_fI, jM.len_fL, jM.len_fR, *]; omega)) (by first | omega | (exact R.r _ _) | (simp only [jM.len_sI, jM.len_sL, jM.len_sR, jM.len_fI, jM.len_fL, jM.len_fR]; omega) | (simp [jM.len_nw, jM.len_sI, jM.len_sL, jM.len_sR, jM.len_fI, jM.len_fL, jM.len_fR, *]; omega)) rfl rfl ?_ ?_
                 · exact fun _ _ h => h
                 rintro _ _ ⟨rfl, rfl⟩
                 refine J.if_ne (tgt := 30) (pc' := 28) rfl rfl rfl (by first | omega | (exact R.r _ _) | (simp only [jM.len_sI, jM.len_sL, jM.len_sR, jM.len_fI, jM.len_fL, jM.len_fR]; omega) | (simp [jM.len_nw, jM.len_sI, jM.len_sL, jM.len_sR, jM.len_fI, jM.len_fL, jM.len_fR, *]; omega)) (fun c25 => ?_) (fun c25 => ?_)
                 · first
                   | (exfalso; omega)
                   | (refine J.iconst (pc' := 31) rfl rfl ?_
                      refine J.iload_n (pc' := 32) rfl rfl rfl ?_
                      refine J.imul (pc' := 33) rfl rfl ?_
                      refine J.iload_n (pc' := 34) rfl rfl rfl ?_
                      refine J.iadd (pc' := 35) rfl rfl ?_
                      refine J.istore (pc' := 37) rfl rfl (by decide) ?_
                      first | refine J.aload_n (pc' := 38) rfl rfl rfl ?_ | refine J.aload_nN (pc' := 38) rfl rfl rfl ?_
                      refine J.mgR (pc' := 41) (t := 134) B rfl fl_X12_85 rfl rfl (by decide) rfl ?_
                      refine J.iload (pc' := 43) rfl rfl rfl ?_
                      refine J.mald (pc' := 44) B rfl rfl rfl (by omega) (by simp only [jLn]; omega) rfl ?_
                      refine J.iload_n (pc' := 45) rfl rfl rfl ?_
                      refine J.icmp_le (tgt := 58) (pc' := 48) rfl rfl rfl (by first | omega | (exact R.r _ _) | (simp only [jM.len_sI, jM.len_sL, jM.len_sR, jM.len_fI, jM.len_fL, jM.len_fR]; omega) | (simp [jM.len_nw, jM.len_sI, jM.len_sL, jM.len_sR, jM.len_fI, jM.len_fL, jM.len_fR, *]; omega)) (by first | omega | (exact R.r _ _) | (simp only [jM.len_sI, jM.len_sL, jM.len_sR, jM.len_fI, jM.len_fL, jM.len_fR]; omega) | (simp [jM.len_nw, jM.len_sI, jM.len_sL, jM.len_sR, jM.len_fI, jM.len_fL, jM.len_fR, *]; omega)) (fun c45 => ?_) (fun c45 => ?_)
                      · first
                        | (exfalso; omega)
                        | (refine J.iload_n (pc' := 59) rfl rfl rfl ?_
                           refine J.istore (pc' := 61) rfl rfl (by decide) ?_
                           first | refine J.aload_n (pc' := 62) rfl rfl rfl ?_ | refine J.aload_nN (pc' := 62) rfl rfl rfl ?_
                           refine J.mgR (pc' := 65) (t := 135) B rfl fl_X12_88 rfl rfl (by decide) rfl ?_
                           refine J.iload (pc' := 67) rfl rfl rfl ?_
                           refine J.mald (pc' := 68) B rfl rfl rfl (by omega) (by simp only [jLn]; omega) rfl ?_
                           refine J.iload (pc' := 70) rfl rfl rfl ?_
                           refine J.icmp_ge (tgt := 83) (pc' := 73) rfl rfl rfl (by first | omega | (exact R.r _ _) | (simp only [jM.len_sI, jM.len_sL, jM.len_sR, jM.len_fI, jM.len_fL, jM.len_fR]; omega) | (simp [jM.len_nw, jM.len_sI, jM.len_sL, jM.len_sR, jM.len_fI, jM.len_fL, jM.len_fR, *]; omega)) (by first | omega | (exact R.r _ _) | (simp only [jM.len_sI, jM.len_sL, jM.len_sR, jM.len_fI, jM.len_fL, jM.len_fR]; omega) | (simp [jM.len_nw, jM.len_sI, jM.len_sL, jM.len_sR, jM.len_fI, jM.len_fL, jM.len_fR, *]; omega)) (fun c70 => ?_) (fun c70 => ?_)
                           · first
                             | (exfalso; omega)
                             | (refine J.iload (pc' := 85) rfl rfl rfl ?_
                                refine J.istore (pc' := 87) rfl rfl (by decide) ?_
                                exact rest (by omega) (by omega) _ _ (by omega) (by omega))
                           · first
                             | (exfalso; omega)
                             | (first | refine J.aload_n (pc' := 74) rfl rfl rfl ?_ | refine J.aload_nN (pc' := 74) rfl rfl rfl ?_
                                refine J.mgR (pc' := 77) (t := 135) B rfl fl_X12_88 rfl rfl (by decide) rfl ?_
                                refine J.iload (pc' := 79) rfl rfl rfl ?_
                                refine J.mald (pc' := 80) B rfl rfl rfl (by omega) (by simp only [jLn]; omega) rfl ?_
                                refine J.goto (tgt := 85) rfl rfl ?_
                                refine J.istore (pc' := 87) rfl rfl (by decide) ?_
                                exact rest (by omega) (by omega) _ _ (by omega) (by omega)))
                      · first
                        | (exfalso; omega)
                        | (first | refine J.aload_n (pc' := 49) rfl rfl rfl ?_ | refine J.aload_nN (pc' := 49) rfl rfl rfl ?_
                           refine J.mgR (pc' := 52) (t := 134) B rfl fl_X12_85 rfl rfl (by decide) rfl ?_
                           refine J.iload (pc' := 54) rfl rfl rfl ?_
                           refine J.mald (pc' := 55) B rfl rfl rfl (by omega) (by simp only [jLn]; omega) rfl ?_
                           refine J.goto (tgt := 59) rfl rfl ?_
                           refine J.istore (pc' := 61) rfl rfl (by decide) ?_
                           first | refine J.aload_n (pc' := 62) rfl rfl rfl ?_ | refine J.aload_nN (pc' := 62) rfl rfl rfl ?_
                           refine J.mgR (pc' := 65) (t := 135) B rfl fl_X12_88 rfl rfl (by decide) rfl ?_
                           refine J.iload (pc' := 67) rfl rfl rfl ?_
                           refine J.mald (pc' := 68) B rfl rfl rfl (by omega) (by simp only [jLn]; omega) rfl ?_
                           refine J.iload (pc' := 70) rfl rfl rfl ?_
                           refine J.icmp_ge (tgt := 83) (pc' := 73) rfl rfl rfl (by first | omega | (exact R.r _ _) | (simp only [jM.len_sI, jM.len_sL, jM.len_sR, jM.len_fI, jM.len_fL, jM.len_fR]; omega) | (simp [jM.len_nw, jM.len_sI, jM.len_sL, jM.len_sR, jM.len_fI, jM.len_fL, jM.len_fR, *]; omega)) (by first | omega | (exact R.r _ _) | (simp only [jM.len_sI, jM.len_sL, jM.len_sR, jM.len_fI, jM.len_fL, jM.len_fR]; omega) | (simp [jM.len_nw, jM.len_sI, jM.len_sL, jM.len_sR, jM.len_fI, jM.len_fL, jM.len_fR, *]; omega)) (fun c70 => ?_) (fun c70 => ?_)
                           · first
                             | (exfalso; omega)
                             | (refine J.iload (pc' := 85) rfl rfl rfl ?_
                                refine J.istore (pc' := 87) rfl rfl (by decide) ?_
                                exact rest (by omega) (by omega) _ _ (by omega) (by omega))
                           · first
                             | (exfalso; omega)
                             | (first | refine J.aload_n (pc' := 74) rfl rfl rfl ?_ | refine J.aload_nN (pc' := 74) rfl rfl rfl ?_
                                refine J.mgR (pc' := 77) (t := 135) B rfl fl_X12_88 rfl rfl (by decide) rfl ?_
                                refine J.iload (pc' := 79) rfl rfl rfl ?_
                                refine J.mald (pc' := 80) B rfl rfl rfl (by omega) (by simp only [jLn]; omega) rfl ?_
                                refine J.goto (tgt := 85) rfl rfl ?_
                                refine J.istore (pc' := 87) rfl rfl (by decide) ?_
                                exact rest (by omega) (by omega) _ _ (by omega) (by omega))))
                 · first
                   | (exfalso; omega)
                   | (refine J.iconst (pc' := 29) rfl rfl ?_
                      refine J.iret rfl rfl (by first | omega | (exact R.r _ _) | (simp only [jM.len_sI, jM.len_sL, jM.len_sR, jM.len_fI, jM.len_fL, jM.len_fR]; omega) | (simp [jM.len_nw, jM.len_sI, jM.len_sL, jM.len_sR, jM.len_fI, jM.len_fL, jM.len_fR, *]; omega)) (by first | omega | (exact R.r _ _) | (simp only [jM.len_sI, jM.len_sL, jM.len_sR, jM.len_fI, jM.len_fL, jM.len_fR]; omega) | (simp [jM.len_nw, jM.len_sI, jM.len_sL, jM.len_sR, jM.len_fI, jM.len_fL, jM.len_fR, *]; omega)) ?_
                      exact mQ.of (by unfold sp_sample; (repeat (first | rw [if_pos (by omega)] | rw [if_neg (by omega)])))))))
  · first
    | (exfalso; omega)
    | (refine J.if_eq (tgt := 28) (pc' := 13) rfl rfl rfl (by first | omega | (exact R.r _ _) | (simp only [jM.len_sI, jM.len_sL, jM.len_sR, jM.len_fI, jM.len_fL, jM.len_fR]; omega) | (simp [jM.len_nw, jM.len_sI, jM.len_sL, jM.len_sR, jM.len_fI, jM.len_fL, jM.len_fR, *]; omega)) (fun c10 => ?_) (fun c10 => ?_)
       · first
         | (exfalso; omega)
         | (refine J.iconst (pc' := 29) rfl rfl ?_
            refine J.iret rfl rfl (by first | omega | (exact R.r _ _) | (simp only [jM.len_sI, jM.len_sL, jM.len_sR, jM.len_fI, jM.len_fL, jM.len_fR]; omega) | (simp [jM.len_nw, jM.len_sI, jM.len_sL, jM.len_sR, jM.len_fI, jM.len_fL, jM.len_fR, *]; omega)) (by first | omega | (exact R.r _ _) | (simp only [jM.len_sI, jM.len_sL, jM.len_sR, jM.len_fI, jM.len_fL, jM.len_fR]; omega) | (simp [jM.len_nw, jM.len_sI, jM.len_sL, jM.len_sR, jM.len_fI, jM.len_fL, jM.len_fR, *]; omega)) ?_
            exact mQ.of (by unfold sp_sample; (repeat (first | rw [if_pos (by omega)] | rw [if_neg (by omega)]))))
       · first
         | (exfalso; omega)
         | (first | refine J.aload_n (pc' := 14) rfl rfl rfl ?_ | refine J.aload_nN (pc' := 14) rfl rfl rfl ?_
            refine J.iload_n (pc' := 15) rfl rfl rfl ?_
            refine J.iload_n (pc' := 16) rfl rfl rfl ?_
            refine J.iload (pc' := 18) rfl rfl rfl ?_
            refine J.callS (pc' := 21) rfl MX12_isSpan ml_X12_165 is_X12_isSpan (cm_isSpan hm h1 h2) rfl rfl (Nat.le_of_ble_eq_true rfl) (by first | omega | (exact R.r _ _) | (simp only [jM.len_sI, jM.len_sL, jM.len_sR, jM.len_fI, jM.len_fL, jM.len_fR]; omega) | (simp [jM.len_nw, jM.len_sI, jM.len_sL, jM.len_sR, jM.len_fI, jM.len_fL, jM.len_fR, *]; omega)) (by first | omega | (exact R.r _ _) | (simp only [jM.len_sI, jM.len_sL, jM.len_sR, jM.len_fI, jM.len_fL, jM.len_fR]; omega) | (simp [jM.len_nw, jM.len_sI, jM.len_sL, jM.len_sR, jM.len_fI, jM.len_fL, jM.len_fR, *]; omega)) (by first | omega | (exact R.r _ _) | (simp only [jM.len_sI, jM.len_sL, jM.len_sR, jM.len_fI, jM.len_fL, jM.len_fR]; omega) | (simp [jM.len_nw, jM.len_sI, jM.len_sL, jM.len_sR, jM.len_fI, jM.len_fL, jM.len_fR, *]; omega)) rfl rfl ?_ ?_
            · exact fun _ _ h => h
            rintro _ _ ⟨b, hb1, rfl, rfl⟩
            rcases hb1 with ⟨rfl, hb1⟩ | ⟨rfl, hb1⟩
            · first
              | (exfalso; omega)
              | (refine J.iconst (pc' := 22) rfl rfl ?_
                 first | refine J.callV (pc' := 25) (t := 16) rfl MX12_may ml_X12_161 iv_X12_may (by decide) ⟨_, rfl, rfl⟩ B.1 (cm_may1 B h0) rfl rfl (Nat.le_of_ble_eq_true rfl) (by first | omega | (exact R.r _ _) | (simp only [jM.len_sI, jM.len_sL, jM.len_sR, jM.len_fI, jM.len_fL, jM.len_fR]; omega) | (simp [jM.len_nw, jM.len_sI, jM.len_sL, jM.len_sR, jM.len_fI, jM.len_fL, jM.len_fR, *]; omega)) (by first | omega | (exact R.r _ _) | (simp only [jM.len_sI, jM.len_sL, jM.len_sR, jM.len_fI, jM.len_fL, jM.len_fR]; omega) | (simp [jM.len_nw, jM.len_sI, jM.len_sL, jM.len_sR, jM.len_fI, jM.len_fL, jM.len_fR, *]; omega)) (by first | omega | (exact R.r _ _) | (simp only [jM.len_sI, jM.len_sL, jM.len_sR, jM.len_fI, jM.len_fL, jM.len_fR]; omega) | (simp [jM.len_nw, jM.len_sI, jM.len_sL, jM.len_sR, jM.len_fI, jM.len_fL, jM.len_fR, *]; omega)) rfl rfl ?_ ?_ | refine J.callV (pc' := 25) (t := 16) rfl MX12_may ml_X12_161 iv_X12_may (by decide) ⟨_, rfl, rfl⟩ B.1 (cm_may0 B h0 (by omega)) rfl rfl (Nat.le_of_ble_eq_true rfl) (by first | omega | (exact R.r _ _) | (simp only [jM.len_sI, jM.len_sL, jM.len_sR, jM.len_fI, jM.len_fL, jM.len_fR]; omega) | (simp [jM.len_nw, jM.len_sI, jM.len_sL, jM.len_sR, jM.len_fI, jM.len_fL, jM.len_fR, *]; omega)) (by first | omega | (exact R.r _ _) | (simp only [jM.len_sI, jM.len_sL, jM.len_sR, jM.len_fI, jM.len_fL, jM.len_fR]; omega) | (simp [jM.len_nw, jM.len_sI, jM.len_sL, jM.len_sR, jM.len_fI, jM.len_fL, jM.len_fR, *]; omega)) (by first | omega | (exact R.r _ _) | (simp only [jM.len_sI, jM.len_sL, jM.len_sR, jM.len_fI, jM.len_fL, jM.len_fR]; omega) | (simp [jM.len_nw, jM.len_sI, jM.len_sL, jM.len_sR, jM.len_fI, jM.len_fL, jM.len_fR, *]; omega)) rfl rfl ?_ ?_
                 · exact fun _ _ h => h
                 rintro _ _ ⟨rfl, rfl⟩
                 refine J.if_ne (tgt := 30) (pc' := 28) rfl rfl rfl (by first | omega | (exact R.r _ _) | (simp only [jM.len_sI, jM.len_sL, jM.len_sR, jM.len_fI, jM.len_fL, jM.len_fR]; omega) | (simp [jM.len_nw, jM.len_sI, jM.len_sL, jM.len_sR, jM.len_fI, jM.len_fL, jM.len_fR, *]; omega)) (fun c25 => ?_) (fun c25 => ?_)
                 · first
                   | (exfalso; omega)
                   | (refine J.iconst (pc' := 31) rfl rfl ?_
                      refine J.iload_n (pc' := 32) rfl rfl rfl ?_
                      refine J.imul (pc' := 33) rfl rfl ?_
                      refine J.iload_n (pc' := 34) rfl rfl rfl ?_
                      refine J.iadd (pc' := 35) rfl rfl ?_
                      refine J.istore (pc' := 37) rfl rfl (by decide) ?_
                      first | refine J.aload_n (pc' := 38) rfl rfl rfl ?_ | refine J.aload_nN (pc' := 38) rfl rfl rfl ?_
                      refine J.mgR (pc' := 41) (t := 134) B rfl fl_X12_85 rfl rfl (by decide) rfl ?_
                      refine J.iload (pc' := 43) rfl rfl rfl ?_
                      refine J.mald (pc' := 44) B rfl rfl rfl (by omega) (by simp only [jLn]; omega) rfl ?_
                      refine J.iload_n (pc' := 45) rfl rfl rfl ?_
                      refine J.icmp_le (tgt := 58) (pc' := 48) rfl rfl rfl (by first | omega | (exact R.r _ _) | (simp only [jM.len_sI, jM.len_sL, jM.len_sR, jM.len_fI, jM.len_fL, jM.len_fR]; omega) | (simp [jM.len_nw, jM.len_sI, jM.len_sL, jM.len_sR, jM.len_fI, jM.len_fL, jM.len_fR, *]; omega)) (by first | omega | (exact R.r _ _) | (simp only [jM.len_sI, jM.len_sL, jM.len_sR, jM.len_fI, jM.len_fL, jM.len_fR]; omega) | (simp [jM.len_nw, jM.len_sI, jM.len_sL, jM.len_sR, jM.len_fI, jM.len_fL, jM.len_fR, *]; omega)) (fun c45 => ?_) (fun c45 => ?_)
                      · first
                        | (exfalso; omega)
                        | (refine J.iload_n (pc' := 59) rfl rfl rfl ?_
                           refine J.istore (pc' := 61) rfl rfl (by decide) ?_
                           first | refine J.aload_n (pc' := 62) rfl rfl rfl ?_ | refine J.aload_nN (pc' := 62) rfl rfl rfl ?_
                           refine J.mgR (pc' := 65) (t := 135) B rfl fl_X12_88 rfl rfl (by decide) rfl ?_
                           refine J.iload (pc' := 67) rfl rfl rfl ?_
                           refine J.mald (pc' := 68) B rfl rfl rfl (by omega) (by simp only [jLn]; omega) rfl ?_
                           refine J.iload (pc' := 70) rfl rfl rfl ?_
                           refine J.icmp_ge (tgt := 83) (pc' := 73) rfl rfl rfl (by first | omega | (exact R.r _ _) | (simp only [jM.len_sI, jM.len_sL, jM.len_sR, jM.len_fI, jM.len_fL, jM.len_fR]; omega) | (simp [jM.len_nw, jM.len_sI, jM.len_sL, jM.len_sR, jM.len_fI, jM.len_fL, jM.len_fR, *]; omega)) (by first | omega | (exact R.r _ _) | (simp only [jM.len_sI, jM.len_sL, jM.len_sR, jM.len_fI, jM.len_fL, jM.len_fR]; omega) | (simp [jM.len_nw, jM.len_sI, jM.len_sL, jM.len_sR, jM.len_fI, jM.len_fL, jM.len_fR, *]; omega)) (fun c70 => ?_) (fun c70 => ?_)
                           · first
                             | (exfalso; omega)
                             | (refine J.iload (pc' := 85) rfl rfl rfl ?_
                                refine J.istore (pc' := 87) rfl rfl (by decide) ?_
                                exact rest (by omega) (by omega) _ _ (by omega) (by omega))
                           · first
                             | (exfalso; omega)
                             | (first | refine J.aload_n (pc' := 74) rfl rfl rfl ?_ | refine J.aload_nN (pc' := 74) rfl rfl rfl ?_
                                refine J.mgR (pc' := 77) (t := 135) B rfl fl_X12_88 rfl rfl (by decide) rfl ?_
                                refine J.iload (pc' := 79) rfl rfl rfl ?_
                                refine J.mald (pc' := 80) B rfl rfl rfl (by omega) (by simp only [jLn]; omega) rfl ?_
                                refine J.goto (tgt := 85) rfl rfl ?_
                                refine J.istore (pc' := 87) rfl rfl (by decide) ?_
                                exact rest (by omega) (by omega) _ _ (by omega) (by omega)))
                      · first
                        | (exfalso; omega)
                        | (first | refine J.aload_n (pc' := 49) rfl rfl rfl ?_ | refine J.aload_nN (pc' := 49) rfl rfl rfl ?_
                           refine J.mgR (pc' := 52) (t := 134) B rfl fl_X12_85 rfl rfl (by decide) rfl ?_
                           refine J.iload (pc' := 54) rfl rfl rfl ?_
                           refine J.mald (pc' := 55) B rfl rfl rfl (by omega) (by simp only [jLn]; omega) rfl ?_
                           refine J.goto (tgt := 59) rfl rfl ?_
                           refine J.istore (pc' := 61) rfl rfl (by decide) ?_
                           first | refine J.aload_n (pc' := 62) rfl rfl rfl ?_ | refine J.aload_nN (pc' := 62) rfl rfl rfl ?_
                           refine J.mgR (pc' := 65) (t := 135) B rfl fl_X12_88 rfl rfl (by decide) rfl ?_
                           refine J.iload (pc' := 67) rfl rfl rfl ?_
                           refine J.mald (pc' := 68) B rfl rfl rfl (by omega) (by simp only [jLn]; omega) rfl ?_
                           refine J.iload (pc' := 70) rfl rfl rfl ?_
                           refine J.icmp_ge (tgt := 83) (pc' := 73) rfl rfl rfl (by first | omega | (exact R.r _ _) | (simp only [jM.len_sI, jM.len_sL, jM.len_sR, jM.len_fI, jM.len_fL, jM.len_fR]; omega) | (simp [jM.len_nw, jM.len_sI, jM.len_sL, jM.len_sR, jM.len_fI, jM.len_fL, jM.len_fR, *]; omega)) (by first | omega | (exact R.r _ _) | (simp only [jM.len_sI, jM.len_sL, jM.len_sR, jM.len_fI, jM.len_fL, jM.len_fR]; omega) | (simp [jM.len_nw, jM.len_sI, jM.len_sL, jM.len_sR, jM.len_fI, jM.len_fL, jM.len_fR, *]; omega)) (fun c70 => ?_) (fun c70 => ?_)
                           · first
                             | (exfalso; omega)
                             | (refine J.iload (pc' := 85) rfl rfl rfl ?_
                                refine J.istore (pc' := 87) rfl rfl (by decide) ?_
                                exact rest (by omega) (by omega) _ _ (by omega) (by omega))
                           · first
                             | (exfalso; omega)
                             | (first | refine J.aload_n (pc' := 74) rfl rfl rfl ?_ | refine J.aload_nN (pc' := 74) rfl rfl rfl ?_
                                refine J.mgR (pc' := 77) (t := 135) B rfl fl_X12_88 rfl rfl (by decide) rfl ?_
                                refine J.iload (pc' := 79) rfl rfl rfl ?_
                                refine J.mald (pc' := 80) B rfl rfl rfl (by omega) (by simp only [jLn]; omega) rfl ?_
                                refine J.goto (tgt := 85) rfl rfl ?_
                                refine J.istore (pc' := 87) rfl rfl (by decide) ?_
                                exact rest (by omega) (by omega) _ _ (by omega) (by omega))))
                 · first
                   | (exfalso; omega)
                   | (refine J.iconst (pc' := 29) rfl rfl ?_
                      refine J.iret rfl rfl (by first | omega | (exact R.r _ _) | (simp only [jM.len_sI, jM.len_sL, jM.len_sR, jM.len_fI, jM.len_fL, jM.len_fR]; omega) | (simp [jM.len_nw, jM.len_sI, jM.len_sL, jM.len_sR, jM.len_fI, jM.len_fL, jM.len_fR, *]; omega)) (by first | omega | (exact R.r _ _) | (simp only [jM.len_sI, jM.len_sL, jM.len_sR, jM.len_fI, jM.len_fL, jM.len_fR]; omega) | (simp [jM.len_nw, jM.len_sI, jM.len_sL, jM.len_sR, jM.len_fI, jM.len_fL, jM.len_fR, *]; omega)) ?_
                      exact mQ.of (by unfold sp_sample; (repeat (first | rw [if_pos (by omega)] | rw [if_neg (by omega)])))))
            · first
              | (exfalso; omega)
              | (refine J.iconst (pc' := 22) rfl rfl ?_
                 first | refine J.callV (pc' := 25) (t := 16) rfl MX12_may ml_X12_161 iv_X12_may (by decide) ⟨_, rfl, rfl⟩ B.1 (cm_may1 B h0) rfl rfl (Nat.le_of_ble_eq_true rfl) (by first | omega | (exact R.r _ _) | (simp only [jM.len_sI, jM.len_sL, jM.len_sR, jM.len_fI, jM.len_fL, jM.len_fR]; omega) | (simp [jM.len_nw, jM.len_sI, jM.len_sL, jM.len_sR, jM.len_fI, jM.len_fL, jM.len_fR, *]; omega)) (by first | omega | (exact R.r _ _) | (simp only [jM.len_sI, jM.len_sL, jM.len_sR, jM.len_fI, jM.len_fL, jM.len_fR]; omega) | (simp [jM.len_nw, jM.len_sI, jM.len_sL, jM.len_sR, jM.len_fI, jM.len_fL, jM.len_fR, *]; omega)) (by first | omega | (exact R.r _ _) | (simp only [jM.len_sI, jM.len_sL, jM.len_sR, jM.len_fI, jM.len_fL, jM.len_fR]; omega) | (simp [jM.len_nw, jM.len_sI, jM.len_sL, jM.len_sR, jM.len_fI, jM.len_fL, jM.len_fR, *]; omega)) rfl rfl ?_ ?_ | refine J.callV (pc' := 25) (t := 16) rfl MX12_may ml_X12_161 iv_X12_may (by decide) ⟨_, rfl, rfl⟩ B.1 (cm_may0 B h0 (by omega)) rfl rfl (Nat.le_of_ble_eq_true rfl) (by first | omega | (exact R.r _ _) | (simp only [jM.len_sI, jM.len_sL, jM.len_sR, jM.len_fI, jM.len_fL, jM.len_fR]; omega) | (simp [jM.len_nw, jM.len_sI, jM.len_sL, jM.len_sR, jM.len_fI, jM.len_fL, jM.len_fR, *]; omega)) (by first | omega | (exact R.r _ _) | (simp only [jM.len_sI, jM.len_sL, jM.len_sR, jM.len_fI, jM.len_fL, jM.len_fR]; omega) | (simp [jM.len_nw, jM.len_sI, jM.len_sL, jM.len_sR, jM.len_fI, jM.len_fL, jM.len_fR, *]; omega)) (by first | omega | (exact R.r _ _) | (simp only [jM.len_sI, jM.len_sL, jM.len_sR, jM.len_fI, jM.len_fL, jM.len_fR]; omega) | (simp [jM.len_nw, jM.len_sI, jM.len_sL, jM.len_sR, jM.len_fI, jM.len_fL, jM.len_fR, *]; omega)) rfl rfl ?_ ?_
                 · exact fun _ _ h => h
                 rintro _ _ ⟨rfl, rfl⟩
                 refine J.if_ne (tgt := 30) (pc' := 28) rfl rfl rfl (by first | omega | (exact R.r _ _) | (simp only [jM.len_sI, jM.len_sL, jM.len_sR, jM.len_fI, jM.len_fL, jM.len_fR]; omega) | (simp [jM.len_nw, jM.len_sI, jM.len_sL, jM.len_sR, jM.len_fI, jM.len_fL, jM.len_fR, *]; omega)) (fun c25 => ?_) (fun c25 => ?_)
                 · first
                   | (exfalso; omega)
                   | (refine J.iconst (pc' := 31) rfl rfl ?_
                      refine J.iload_n (pc' := 32) rfl rfl rfl ?_
                      refine J.imul (pc' := 33) rfl rfl ?_
                      refine J.iload_n (pc' := 34) rfl rfl rfl ?_
                      refine J.iadd (pc' := 35) rfl rfl ?_
                      refine J.istore (pc' := 37) rfl rfl (by decide) ?_
                      first | refine J.aload_n (pc' := 38) rfl rfl rfl ?_ | refine J.aload_nN (pc' := 38) rfl rfl rfl ?_
                      refine J.mgR (pc' := 41) (t := 134) B rfl fl_X12_85 rfl rfl (by decide) rfl ?_
                      refine J.iload (pc' := 43) rfl rfl rfl ?_
                      refine J.mald (pc' := 44) B rfl rfl rfl (by omega) (by simp only [jLn]; omega) rfl ?_
                      refine J.iload_n (pc' := 45) rfl rfl rfl ?_
                      refine J.icmp_le (tgt := 58) (pc' := 48) rfl rfl rfl (by first | omega | (exact R.r _ _) | (simp only [jM.len_sI, jM.len_sL, jM.len_sR, jM.len_fI, jM.len_fL, jM.len_fR]; omega) | (simp [jM.len_nw, jM.len_sI, jM.len_sL, jM.len_sR, jM.len_fI, jM.len_fL, jM.len_fR, *]; omega)) (by first | omega | (exact R.r _ _) | (simp only [jM.len_sI, jM.len_sL, jM.len_sR, jM.len_fI, jM.len_fL, jM.len_fR]; omega) | (simp [jM.len_nw, jM.len_sI, jM.len_sL, jM.len_sR, jM.len_fI, jM.len_fL, jM.len_fR, *]; omega)) (fun c45 => ?_) (fun c45 => ?_)
                      · first
                        | (exfalso; omega)
                        | (refine J.iload_n (pc' := 59) rfl rfl rfl ?_
                           refine J.istore (pc' := 61) rfl rfl (by decide) ?_
                           first | refine J.aload_n (pc' := 62) rfl rfl rfl ?_ | refine J.aload_nN (pc' := 62) rfl rfl rfl ?_
                           refine J.mgR (pc' := 65) (t := 135) B rfl fl_X12_88 rfl rfl (by decide) rfl ?_
                           refine J.iload (pc' := 67) rfl rfl rfl ?_
                           refine J.mald (pc' := 68) B rfl rfl rfl (by omega) (by simp only [jLn]; omega) rfl ?_
                           refine J.iload (pc' := 70) rfl rfl rfl ?_
                           refine J.icmp_ge (tgt := 83) (pc' := 73) rfl rfl rfl (by first | omega | (exact R.r _ _) | (simp only [jM.len_sI, jM.len_sL, jM.len_sR, jM.len_fI, jM.len_fL, jM.len_fR]; omega) | (simp [jM.len_nw, jM.len_sI, jM.len_sL, jM.len_sR, jM.len_fI, jM.len_fL, jM.len_fR, *]; omega)) (by first | omega | (exact R.r _ _) | (simp only [jM.len_sI, jM.len_sL, jM.len_sR, jM.len_fI, jM.len_fL, jM.len_fR]; omega) | (simp [jM.len_nw, jM.len_sI, jM.len_sL, jM.len_sR, jM.len_fI, jM.len_fL, jM.len_fR, *]; omega)) (fun c70 => ?_) (fun c70 => ?_)
                           · first
                             | (exfalso; omega)
                             | (refine J.iload (pc' := 85) rfl rfl rfl ?_
                                refine J.istore (pc' := 87) rfl rfl (by decide) ?_
                                exact rest (by omega) (by omega) _ _ (by omega) (by omega))
                           · first
                             | (exfalso; omega)
                             | (first | refine J.aload_n (pc' := 74) rfl rfl rfl ?_ | refine J.aload_nN (pc' := 74) rfl rfl rfl ?_
                                refine J.mgR (pc' := 77) (t := 135) B rfl fl_X12_88 rfl rfl (by decide) rfl ?_
                                refine J.iload (pc' := 79) rfl rfl rfl ?_
                                refine J.mald (pc' := 80) B rfl rfl rfl (by omega) (by simp only [jLn]; omega) rfl ?_
                                refine J.goto (tgt := 85) rfl rfl ?_
                                refine J.istore (pc' := 87) rfl rfl (by decide) ?_
                                exact rest (by omega) (by omega) _ _ (by omega) (by omega)))
                      · first
                        | (exfalso; omega)
                        | (first | refine J.aload_n (pc' := 49) rfl rfl rfl ?_ | refine J.aload_nN (pc' := 49) rfl rfl rfl ?_
                           refine J.mgR (pc' := 52) (t := 134) B rfl fl_X12_85 rfl rfl (by decide) rfl ?_
                           refine J.iload (pc' := 54) rfl rfl rfl ?_
                           refine J.mald (pc' := 55) B rfl rfl rfl (by omega) (by simp only [jLn]; omega) rfl ?_
                           refine J.goto (tgt := 59) rfl rfl ?_
                           refine J.istore (pc' := 61) rfl rfl (by decide) ?_
                           first | refine J.aload_n (pc' := 62) rfl rfl rfl ?_ | refine J.aload_nN (pc' := 62) rfl rfl rfl ?_
                           refine J.mgR (pc' := 65) (t := 135) B rfl fl_X12_88 rfl rfl (by decide) rfl ?_
                           refine J.iload (pc' := 67) rfl rfl rfl ?_
                           refine J.mald (pc' := 68) B rfl rfl rfl (by omega) (by simp only [jLn]; omega) rfl ?_
                           refine J.iload (pc' := 70) rfl rfl rfl ?_
                           refine J.icmp_ge (tgt := 83) (pc' := 73) rfl rfl rfl (by first | omega | (exact R.r _ _) | (simp only [jM.len_sI, jM.len_sL, jM.len_sR, jM.len_fI, jM.len_fL, jM.len_fR]; omega) | (simp [jM.len_nw, jM.len_sI, jM.len_sL, jM.len_sR, jM.len_fI, jM.len_fL, jM.len_fR, *]; omega)) (by first | omega | (exact R.r _ _) | (simp only [jM.len_sI, jM.len_sL, jM.len_sR, jM.len_fI, jM.len_fL, jM.len_fR]; omega) | (simp [jM.len_nw, jM.len_sI, jM.len_sL, jM.len_sR, jM.len_fI, jM.len_fL, jM.len_fR, *]; omega)) (fun c70 => ?_) (fun c70 => ?_)
                           · first
                             | (exfalso; omega)
                             | (refine J.iload (pc' := 85) rfl rfl rfl ?_
                                refine J.istore (pc' := 87) rfl rfl (by decide) ?_
                                exact rest (by omega) (by omega) _ _ (by omega) (by omega))
                           · first
                             | (exfalso; omega)
                             | (first | refine J.aload_n (pc' := 74) rfl rfl rfl ?_ | refine J.aload_nN (pc' := 74) rfl rfl rfl ?_
                                refine J.mgR (pc' := 77) (t := 135) B rfl fl_X12_88 rfl rfl (by decide) rfl ?_
                                refine J.iload (pc' := 79) rfl rfl rfl ?_
                                refine J.mald (pc' := 80) B rfl rfl rfl (by omega) (by simp only [jLn]; omega) rfl ?_
                                refine J.goto (tgt := 85) rfl rfl ?_
                                refine J.istore (pc' := 87) rfl rfl (by decide) ?_
                                exact rest (by omega) (by omega) _ _ (by omega) (by omega))))
                 · first
                   | (exfalso; omega)
                   | (refine J.iconst (pc' := 29) rfl rfl ?_
                      refine J.iret rfl rfl (by first | omega | (exact R.r _ _) | (simp only [jM.len_sI, jM.len_sL, jM.len_sR, jM.len_fI, jM.len_fL, jM.len_fR]; omega) | (simp [jM.len_nw, jM.len_sI, jM.len_sL, jM.len_sR, jM.len_fI, jM.len_fL, jM.len_fR, *]; omega)) (by first | omega | (exact R.r _ _) | (simp only [jM.len_sI, jM.len_sL, jM.len_sR, jM.len_fI, jM.len_fL, jM.len_fR]; omega) | (simp [jM.len_nw, jM.len_sI, jM.len_sL, jM.len_sR, jM.len_fI, jM.len_fL, jM.len_fR, *]; omega)) ?_
                      exact mQ.of (by unfold sp_sample; (repeat (first | rw [if_pos (by omega)] | rw [if_neg (by omega)])))))))
end M6

