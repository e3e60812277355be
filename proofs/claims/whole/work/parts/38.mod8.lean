theorem mul_b {a b A C : Int} (ha : 0 ≤ a ∧ a ≤ A) (hb : 0 ≤ b ∧ b ≤ C) : 0 ≤ a * b ∧ a * b ≤ A * C := ⟨Int.mul_nonneg ha.1 hb.1, Int.mul_le_mul ha.2 hb.2 hb.1 (by omega)⟩
theorem Sm_mul {f w : Int → Int} {n : Nat} {M : Int} (h : ∀ i : Nat, i < n → (0 ≤ f i ∧ f i ≤ M) ∧ 0 ≤ w i) : 0 ≤ Sm (fun k => f k * w k) n ∧ Sm (fun k => f k * w k) n ≤ M * Sm w n := by
  induction n with
  | zero => simp [Sm]
  | succ n ih =>
    have h1 := ih (fun i hi => h i (by omega))
    have h2 := h n (by omega)
    have h3 : 0 ≤ f n * w n := Int.mul_nonneg h2.1.1 h2.2
    have h4 : f n * w n ≤ M * w n := Int.mul_le_mul_of_nonneg_right h2.1.2 h2.2
    rw [Sm, Sm, Int.mul_add]
    omega
def isT (V : VV) : Prop := ∀ g j : Int, 0 ≤ g → g < 6 → 0 ≤ j → j < V 138 g → 1 ≤ V 139 (41 * g + j)
def mxL (V : VV) (g m : Int) : Int := Sm (fun k => lowL V (41 * g + k) m * V 139 (41 * g + k)) (V 138 g).toNat / tonsOf V g
def mxH (V : VV) (g m : Int) : Int := (Sm (fun k => highL V (41 * g + k) m * V 139 (41 * g + k)) (V 138 g).toNat + tonsOf V g - 1) / tonsOf V g
def mxC (V : VV) (g : Int) : Int := (Sm (fun k => V 141 (41 * g + k) * V 139 (41 * g + k)) (V 138 g).toNat + tonsOf V g - 1) / tonsOf V g
def mxA (V : VV) (g m : Int) : VV := fun t i => if (t = 144 ∨ t = 145) ∧ 0 ≤ i ∧ i < m then (if t = 144 then mxL V g i else mxH V g i) else V t i
def mxB (V : VV) (g : Int) : VV := jU (jU (jU (mxA V g 5) 139 (41 * g) (tonsOf V g)) 140 (41 * g) (-1)) 141 (41 * g) (mxC V g)
def mxD (V : VV) (g m : Int) : VV := fun t i => if (t = 142 ∨ t = 143) ∧ 5 * (41 * g) ≤ i ∧ i < 5 * (41 * g) + m then (if t = 142 then mxL V g (i - 5 * (41 * g)) else mxH V g (i - 5 * (41 * g))) else mxB V g t i
def sp_mix (V : VV) (g : Int) : RV := if 0 ≤ g ∧ g < 6 then (if V 138 g < 2 then (V 138 g, V) else (V 138 g, jU (mxD V g 5) 138 g 1)) else (0, jU V 16 0 1)
section M8
variable {γ : jG} {β : jB} {V : VV}
theorem lowL_b (R : isR V) (y m : Int) : (0 ≤ lowL V y m ∧ lowL V y m ≤ 10000) ∧ (0 ≤ highL V y m ∧ highL V y m ≤ 10000) := by
  have h1 := R 142 (5 * y + m) rfl
  have h2 := R 143 (5 * y + m) rfl
  have h3 := R 134 (5 * V 140 y + m) rfl
  have h4 := R 135 (5 * V 140 y + m) rfl
  simp [jLo, jHi] at h1 h2 h3 h4
  unfold lowL highL
  split <;> omega
theorem div_up {s a M : Int} (ha : 1 ≤ a) (h : 0 ≤ s ∧ s ≤ M * a) : (0 ≤ s / a ∧ s / a ≤ M) ∧ 0 ≤ (s + a - 1) / a ∧ (s + a - 1) / a ≤ M := by
  refine ⟨⟨Int.ediv_nonneg h.1 (by omega), ?_⟩, Int.ediv_nonneg (by omega) (by omega), ?_⟩
  · exact Int.ediv_le_of_le_mul (by omega) h.2
  · apply Int.le_of_lt_add_one
    apply Int.ediv_lt_of_lt_mul (by omega)
    rw [Int.add_mul]
    omega
theorem tons_p (R : isR V) (T : isT V) {g : Int} (hg : 0 ≤ g ∧ g < 6) (hn : 2 ≤ V 138 g) : 2 ≤ tonsOf V g := by
  have h := Sm_le (f := fun k => V 139 (41 * g + k)) (n := (V 138 g).toNat) (a := 1) (b := 5000) (fun i hi => by
    have h1 := R 139 (41 * g + (i : Int)) rfl
    simp [jLo, jHi] at h1
    exact ⟨T g i hg.1 hg.2 (by omega) (by omega), h1.2⟩)
  unfold tonsOf
  omega
theorem mx_b (R : isR V) {g : Int} (hp : 1 ≤ tonsOf V g) : (∀ m, (0 ≤ mxL V g m ∧ mxL V g m ≤ 10000) ∧ (0 ≤ mxH V g m ∧ mxH V g m ≤ 10000)) ∧ (0 ≤ mxC V g ∧ mxC V g ≤ 99999) := by
  have hw : ∀ i, 0 ≤ V 139 i := fun i => by have := R 139 i rfl; simp [jLo, jHi] at this; omega
  refine ⟨fun m => ⟨?_, ?_⟩, ?_⟩
  · exact (div_up hp (Sm_mul (fun i _ => ⟨(lowL_b R _ m).1, hw _⟩))).1
  · exact (div_up hp (Sm_mul (fun i _ => ⟨(lowL_b R _ m).2, hw _⟩))).2
  · exact (div_up hp (Sm_mul (f := fun k => V 141 (41 * g + k)) (w := fun k => V 139 (41 * g + k)) (fun i _ => ⟨by have := R 141 (41 * g + i) rfl; simp [jLo, jHi] at this; exact this, hw _⟩))).2
theorem isR.mxAR (R : isR V) {g m : Int} (hp : 1 ≤ tonsOf V g) : isR (mxA V g m) := by
  intro t i h
  have hb := (mx_b R hp).1 i
  unfold mxA
  split
  · rename_i q
    rcases q.1 with q1 | q1 <;> subst q1
    · exact hb.1
    · exact hb.2
  · exact R t i h
set_option maxHeartbeats 1000000 in
theorem cm_mix {g : Int} (B : isB β) (R : isR V) (T : isT V) (hg : r32 g) : CT γ mX12_mix 2 0 0 [.ref (β.2 16), .int (jI g)] (jP β V) (mQ β (sp_mix (jU V 16 0 0) g)) X0 := by
  have T : isT (jU V 16 0 0) := T
  refine CT.of MX12_mix (Nat.le_of_ble_eq_true rfl) ?_
  show J γ mX12_mix 2 0 0 0 0 (jP β V) 0 [(0, .ref (β.2 16)), (1, .int (jI g))] [] _ _
  first | refine J.aload_n (pc' := 1) rfl rfl rfl ?_ | refine J.aload_nN (pc' := 1) rfl rfl rfl ?_
  refine J.iconst (pc' := 2) rfl rfl ?_
  refine J.mpI (pc' := 5) (j := 0) B rfl fl_X12_1 rfl rfl rfl rfl ?_
  have h0 := jU_same V 16 0 0
  replace R : isR (jU V 16 0 0) := R.up (fun _ => by decide)
  generalize jU V 16 0 0 = V at h0 R T ⊢
  have rest : (0 ≤ g ∧ g < 6) → 2 ≤ V 138 g → J γ mX12_mix 2 0 0 0 0 (jP β V) 29 [(0, .ref (β.2 16)), (1, .int (jI g)), (2, .int (jI (V 138 g)))] [] (mQ β (sp_mix V g)) X0 := by
    intro b1 b2
    have hm := R 138 g rfl
    simp [jLo, jHi] at hm
    have hp := tons_p R T b1 b2
    have hp2 := tons_b R (f := g)
    have spE : sp_mix V g = (V 138 g, jU (mxD V g 5) 138 g 1) := by unfold sp_mix; rw [if_pos b1, if_neg (by omega)]
    have hxb := mx_b R (g := g) (by omega)
    have hw : ∀ i, 0 ≤ V 139 i ∧ V 139 i ≤ 5000 := fun i => by have := R 139 i rfl; simp [jLo, jHi] at this; exact this
    have sl : ∀ m, 0 ≤ Sm (fun k => lowL V (41 * g + k) m * V 139 (41 * g + k)) (V 138 g).toNat ∧ Sm (fun k => lowL V (41 * g + k) m * V 139 (41 * g + k)) (V 138 g).toNat ≤ 10000 * tonsOf V g := fun m => Sm_mul (fun i _ => ⟨(lowL_b R _ m).1, (hw _).1⟩)
    have sh : ∀ m, 0 ≤ Sm (fun k => highL V (41 * g + k) m * V 139 (41 * g + k)) (V 138 g).toNat ∧ Sm (fun k => highL V (41 * g + k) m * V 139 (41 * g + k)) (V 138 g).toNat ≤ 10000 * tonsOf V g := fun m => Sm_mul (fun i _ => ⟨(lowL_b R _ m).2, (hw _).1⟩)
    have sc : 0 ≤ Sm (fun k => V 141 (41 * g + k) * V 139 (41 * g + k)) (V 138 g).toNat ∧ Sm (fun k => V 141 (41 * g + k) * V 139 (41 * g + k)) (V 138 g).toNat ≤ 99999 * tonsOf V g := Sm_mul (fun i _ => ⟨by have := R 141 (41 * g + i) rfl; simp [jLo, jHi] at this; exact this, (hw _).1⟩)
    rw [spE]
    have hC : mxC V g = (Sm (fun k => V 141 (41 * g + k) * V 139 (41 * g + k)) (V 138 g).toNat + tonsOf V g - 1) / tonsOf V g := rfl
    have hLd : ∀ m, mxL V g m = Sm (fun k => lowL V (41 * g + k) m * V 139 (41 * g + k)) (V 138 g).toNat / tonsOf V g := fun _ => rfl
    have hHd : ∀ m, mxH V g m = (Sm (fun k => highL V (41 * g + k) m * V 139 (41 * g + k)) (V 138 g).toNat + tonsOf V g - 1) / tonsOf V g := fun _ => rfl
    have cp : ∀ (m i : Nat), i + m = 5 → ∀ lv, (∀ q ∈ [(0, Value.ref (β.2 16)), (1, Value.int (jI g)), (2, Value.int (jI (V 138 g))), (4, Value.int (jI (41 * g))), (7, Value.int (jI (i : Int)))], jGet lv q.1 = some q.2) → J γ mX12_mix 2 0 0 0 0 (jP β (mxD V g i)) 249 lv [] (mQ β (V 138 g, jU (mxD V g 5) 138 g 1)) X0 := by
      intro m
      induction m with
      | zero =>
        intro i hi lv hlv
        refine J.locs hlv ?_
        have ei : i = 5 := by omega
        subst ei
        refine J.iload (pc' := 251) rfl rfl rfl ?_
        refine J.iconst (pc' := 252) rfl rfl ?_
        refine J.icmp_ge (tgt := 299) (pc' := 255) rfl rfl rfl (by first | omega | (exact R.r _ _) | (simp only [jM.len_sI, jM.len_sL, jM.len_sR, jM.len_fI, jM.len_fL, jM.len_fR]; omega) | (simp [jM.len_nw, jM.len_sI, jM.len_sL, jM.len_sR, jM.len_fI, jM.len_fL, jM.len_fR, *]; omega)) (by first | omega | (exact R.r _ _) | (simp only [jM.len_sI, jM.len_sL, jM.len_sR, jM.len_fI, jM.len_fL, jM.len_fR]; omega) | (simp [jM.len_nw, jM.len_sI, jM.len_sL, jM.len_sR, jM.len_fI, jM.len_fL, jM.len_fR, *]; omega)) (fun c1 => ?_) (fun c1 => ?_)
        · first | refine J.aload_n (pc' := 300) rfl rfl rfl ?_ | refine J.aload_nN (pc' := 300) rfl rfl rfl ?_
          refine J.mgR (pc' := 303) (t := 138) B rfl fl_X12_91 rfl rfl (by decide) rfl ?_
          refine J.iload_n (pc' := 304) rfl rfl rfl ?_
          refine J.iconst (pc' := 305) rfl rfl ?_
          refine J.mast (pc' := 306) B rfl rfl rfl rfl (by omega) (by simp only [jLn]; omega) rfl ?_
          refine J.iload_n (pc' := 307) rfl rfl rfl ?_
          refine J.iret rfl rfl (by first | omega | (exact R.r _ _) | (simp only [jM.len_sI, jM.len_sL, jM.len_sR, jM.len_fI, jM.len_fL, jM.len_fR]; omega) | (simp [jM.len_nw, jM.len_sI, jM.len_sL, jM.len_sR, jM.len_fI, jM.len_fL, jM.len_fR, *]; omega)) (by first | omega | (exact R.r _ _) | (simp only [jM.len_sI, jM.len_sL, jM.len_sR, jM.len_fI, jM.len_fL, jM.len_fR]; omega) | (simp [jM.len_nw, jM.len_sI, jM.len_sL, jM.len_sR, jM.len_fI, jM.len_fL, jM.len_fR, *]; omega)) ?_
          exact mQ.of rfl
        · omega
      | succ m ih =>
        intro i hi lv hlv
        have h9 := ih (i + 1) (by omega)
        rw [show ((i + 1 : Nat) : Int) = (i : Int) + 1 by omega] at h9
        refine J.locs hlv ?_
        refine J.iload (pc' := 251) rfl rfl rfl ?_
        refine J.iconst (pc' := 252) rfl rfl ?_
        refine J.icmp_ge (tgt := 299) (pc' := 255) rfl rfl rfl (by first | omega | (exact R.r _ _) | (simp only [jM.len_sI, jM.len_sL, jM.len_sR, jM.len_fI, jM.len_fL, jM.len_fR]; omega) | (simp [jM.len_nw, jM.len_sI, jM.len_sL, jM.len_sR, jM.len_fI, jM.len_fL, jM.len_fR, *]; omega)) (by first | omega | (exact R.r _ _) | (simp only [jM.len_sI, jM.len_sL, jM.len_sR, jM.len_fI, jM.len_fL, jM.len_fR]; omega) | (simp [jM.len_nw, jM.len_sI, jM.len_sL, jM.len_sR, jM.len_fI, jM.len_fL, jM.len_fR, *]; omega)) (fun c1 => ?_) (fun c1 => ?_)
        · omega
        · first | refine J.aload_n (pc' := 256) rfl rfl rfl ?_ | refine J.aload_nN (pc' := 256) rfl rfl rfl ?_
          refine J.mgR (pc' := 259) (t := 142) B rfl fl_X12_103 rfl rfl (by decide) rfl ?_
          refine J.iconst (pc' := 260) rfl rfl ?_
          refine J.iload (pc' := 262) rfl rfl rfl ?_
          refine J.imul (pc' := 263) rfl rfl ?_
          refine J.iload (pc' := 265) rfl rfl rfl ?_
          refine J.iadd (pc' := 266) rfl rfl ?_
          first | refine J.aload_n (pc' := 267) rfl rfl rfl ?_ | refine J.aload_nN (pc' := 267) rfl rfl rfl ?_
          refine J.mgR (pc' := 270) (t := 144) B rfl fl_X12_109 rfl rfl (by decide) rfl ?_
          refine J.iload (pc' := 272) rfl rfl rfl ?_
          refine J.mald (pc' := 273) B rfl rfl rfl (by omega) (by simp only [jLn]; omega) rfl ?_
          refine J.mast (pc' := 274) B rfl rfl rfl rfl (by omega) (by simp only [jLn]; omega) rfl ?_
          first | refine J.aload_n (pc' := 275) rfl rfl rfl ?_ | refine J.aload_nN (pc' := 275) rfl rfl rfl ?_
          refine J.mgR (pc' := 278) (t := 143) B rfl fl_X12_106 rfl rfl (by decide) rfl ?_
          refine J.iconst (pc' := 279) rfl rfl ?_
          refine J.iload (pc' := 281) rfl rfl rfl ?_
          refine J.imul (pc' := 282) rfl rfl ?_
          refine J.iload (pc' := 284) rfl rfl rfl ?_
          refine J.iadd (pc' := 285) rfl rfl ?_
          first | refine J.aload_n (pc' := 286) rfl rfl rfl ?_ | refine J.aload_nN (pc' := 286) rfl rfl rfl ?_
          refine J.mgR (pc' := 289) (t := 145) B rfl fl_X12_112 rfl rfl (by decide) rfl ?_
          refine J.iload (pc' := 291) rfl rfl rfl ?_
          refine J.mald (pc' := 292) B rfl rfl rfl (by omega) (by simp only [jLn]; omega) rfl ?_
          refine J.mast (pc' := 293) B rfl rfl rfl rfl (by omega) (by simp only [jLn]; omega) rfl ?_
          refine J.iinc (pc' := 296) rfl rfl rfl (by decide) ?_
          refine J.goto (tgt := 249) rfl rfl ?_
          have e1 : mxD V g i 144 i = mxL V g i := by
            show mxB V g 144 i = _
            show mxA V g 5 144 i = _
            unfold mxA
            rw [if_pos ⟨by decide, by omega, by omega⟩, if_pos rfl]
          have e2 : mxD V g i 145 i = mxH V g i := by
            show mxB V g 145 i = _
            show mxA V g 5 145 i = _
            unfold mxA
            rw [if_pos ⟨by decide, by omega, by omega⟩, if_neg (by decide)]
          rw [jU_o _ (by decide), e1, e2]
          have e3 : jU (jU (mxD V g i) 142 (5 * (41 * g) + i) (mxL V g i)) 143 (5 * (41 * g) + i) (mxH V g i) = mxD V g (i + 1) := by
            funext t j
            unfold jU mxD
            generalize mxB V g = X
            by_cases t1 : t = 143 ∧ j = 5 * (41 * g) + i
            · rw [if_pos t1, if_pos (by omega), if_neg (by omega), t1.2, show 5 * (41 * g) + (i : Int) - 5 * (41 * g) = i by omega]
            · rw [if_neg t1]
              by_cases t2 : t = 142 ∧ j = 5 * (41 * g) + i
              · rw [if_pos t2, if_pos (by omega), if_pos (by omega), t2.2, show 5 * (41 * g) + (i : Int) - 5 * (41 * g) = i by omega]
              · rw [if_neg t2]
                by_cases t3 : (t = 142 ∨ t = 143) ∧ 5 * (41 * g) ≤ j ∧ j < 5 * (41 * g) + (i : Int)
                · rw [if_pos t3, if_pos (c := (t = 142 ∨ t = 143) ∧ 5 * (41 * g) ≤ j ∧ j < 5 * (41 * g) + ((i : Int) + 1)) (by omega)]
                · rw [if_neg t3, if_neg (by omega)]
          rw [e3]
          exact h9 _ (fun q hq => by simp only [List.mem_cons, List.not_mem_nil, or_false] at hq; rcases hq with rfl | rfl | rfl | rfl | rfl <;> rfl)
    have met : ∀ (m i : Nat), i + m = 5 → ∀ lv, (∀ q ∈ [(0, Value.ref (β.2 16)), (1, Value.int (jI g)), (2, Value.int (jI (V 138 g))), (3, Value.int (jI (tonsOf V g))), (4, Value.int (jI (41 * g))), (5, Value.long (jL (Sm (fun k => V 141 (41 * g + k) * V 139 (41 * g + k)) (V 138 g).toNat))), (7, Value.int (jI (i : Int)))], jGet lv q.1 = some q.2) → J γ mX12_mix 2 0 0 0 0 (jP β (mxA V g i)) 90 lv [] (mQ β (V 138 g, jU (mxD V g 5) 138 g 1)) X0 := by
      intro m
      induction m with
      | zero =>
        intro i hi lv hlv
        refine J.locs hlv ?_
        have ei : i = 5 := by omega
        subst ei
        refine J.iload (pc' := 92) rfl rfl rfl ?_
        refine J.iconst (pc' := 93) rfl rfl ?_
        refine J.icmp_ge (tgt := 212) (pc' := 96) rfl rfl rfl (by first | omega | (exact R.r _ _) | (simp only [jM.len_sI, jM.len_sL, jM.len_sR, jM.len_fI, jM.len_fL, jM.len_fR]; omega) | (simp [jM.len_nw, jM.len_sI, jM.len_sL, jM.len_sR, jM.len_fI, jM.len_fL, jM.len_fR, *]; omega)) (by first | omega | (exact R.r _ _) | (simp only [jM.len_sI, jM.len_sL, jM.len_sR, jM.len_fI, jM.len_fL, jM.len_fR]; omega) | (simp [jM.len_nw, jM.len_sI, jM.len_sL, jM.len_sR, jM.len_fI, jM.len_fL, jM.len_fR, *]; omega)) (fun c1 => ?_) (fun c1 => ?_)
        · first | refine J.aload_n (pc' := 213) rfl rfl rfl ?_ | refine J.aload_nN (pc' := 213) rfl rfl rfl ?_
          refine J.mgR (pc' := 216) (t := 139) B rfl fl_X12_94 rfl rfl (by decide) rfl ?_
          refine J.iload (pc' := 218) rfl rfl rfl ?_
          refine J.iload_n (pc' := 219) rfl rfl rfl ?_
          refine J.mast (pc' := 220) B rfl rfl rfl rfl (by omega) (by simp only [jLn]; omega) rfl ?_
          first | refine J.aload_n (pc' := 221) rfl rfl rfl ?_ | refine J.aload_nN (pc' := 221) rfl rfl rfl ?_
          refine J.mgR (pc' := 224) (t := 140) B rfl fl_X12_97 rfl rfl (by decide) rfl ?_
          refine J.iload (pc' := 226) rfl rfl rfl ?_
          refine J.iconst (pc' := 227) rfl rfl ?_
          refine J.mast (pc' := 228) B rfl rfl rfl rfl (by omega) (by simp only [jLn]; omega) rfl ?_
          first | refine J.aload_n (pc' := 229) rfl rfl rfl ?_ | refine J.aload_nN (pc' := 229) rfl rfl rfl ?_
          refine J.mgR (pc' := 232) (t := 141) B rfl fl_X12_100 rfl rfl (by decide) rfl ?_
          refine J.iload (pc' := 234) rfl rfl rfl ?_
          refine J.lload (pc' := 236) rfl rfl rfl ?_
          refine J.iload_n (pc' := 237) rfl rfl rfl ?_
          refine J.i2l (pc' := 238) rfl rfl (by first | omega | (exact R.r _ _) | (simp only [jM.len_sI, jM.len_sL, jM.len_sR, jM.len_fI, jM.len_fL, jM.len_fR]; omega) | (simp [jM.len_nw, jM.len_sI, jM.len_sL, jM.len_sR, jM.len_fI, jM.len_fL, jM.len_fR, *]; omega)) ?_
          refine J.ladd (pc' := 239) rfl rfl ?_
          refine J.lconst (pc' := 240) rfl rfl ?_
          refine J.lsub (pc' := 241) rfl rfl ?_
          refine J.iload_n (pc' := 242) rfl rfl rfl ?_
          refine J.i2l (pc' := 243) rfl rfl (by first | omega | (exact R.r _ _) | (simp only [jM.len_sI, jM.len_sL, jM.len_sR, jM.len_fI, jM.len_fL, jM.len_fR]; omega) | (simp [jM.len_nw, jM.len_sI, jM.len_sL, jM.len_sR, jM.len_fI, jM.len_fL, jM.len_fR, *]; omega)) ?_
          refine J.ldiv (pc' := 244) rfl rfl (by first | omega | (exact R.r _ _) | (simp only [jM.len_sI, jM.len_sL, jM.len_sR, jM.len_fI, jM.len_fL, jM.len_fR]; omega) | (simp [jM.len_nw, jM.len_sI, jM.len_sL, jM.len_sR, jM.len_fI, jM.len_fL, jM.len_fR, *]; omega)) (by first | omega | (exact R.r _ _) | (simp only [jM.len_sI, jM.len_sL, jM.len_sR, jM.len_fI, jM.len_fL, jM.len_fR]; omega) | (simp [jM.len_nw, jM.len_sI, jM.len_sL, jM.len_sR, jM.len_fI, jM.len_fL, jM.len_fR, *]; omega)) (by first | omega | (exact R.r _ _) | (simp only [jM.len_sI, jM.len_sL, jM.len_sR, jM.len_fI, jM.len_fL, jM.len_fR]; omega) | (simp [jM.len_nw, jM.len_sI, jM.len_sL, jM.len_sR, jM.len_fI, jM.len_fL, jM.len_fR, *]; omega)) ?_
          rw [Int.tdiv_eq_ediv_of_nonneg (by omega)]
          refine J.l2i (pc' := 245) rfl rfl ?_
          refine J.mast (pc' := 246) B rfl rfl rfl rfl (by omega) (by simp only [jLn]; omega) rfl ?_
          refine J.iconst (pc' := 247) rfl rfl ?_
          refine J.istore (pc' := 249) rfl rfl (by decide) ?_
          have h9 := cp 5 0 (by omega)
          rw [show mxD V g ((0 : Nat) : Int) = mxB V g by funext t i; unfold mxD; rw [if_neg (by omega)]] at h9
          exact h9 _ (fun q hq => by simp only [List.mem_cons, List.not_mem_nil, or_false] at hq; rcases hq with rfl | rfl | rfl | rfl | rfl <;> rfl)
        · omega
      | succ m ih =>
        intro i hi lv hlv
        have h9 := ih (i + 1) (by omega)
        rw [show ((i + 1 : Nat) : Int) = (i : Int) + 1 by omega] at h9
        refine J.locs hlv ?_
        have RA : isR (mxA V g i) := R.mxAR (by omega)
        have inn : ∀ (n k : Nat), (k : Int) + n = V 138 g → J γ mX12_mix 2 0 0 0 0 (jP β (mxA V g i)) 105 [(0, .ref (β.2 16)), (1, .int (jI g)), (2, .int (jI (V 138 g))), (3, .int (jI (tonsOf V g))), (4, .int (jI (41 * g))), (5, .long (jL (Sm (fun k => V 141 (41 * g + k) * V 139 (41 * g + k)) (V 138 g).toNat))), (7, .int (jI (i : Int))), (8, .long (jL (Sm (fun k => lowL V (41 * g + k) i * V 139 (41 * g + k)) k))), (10, .long (jL (Sm (fun k => highL V (41 * g + k) i * V 139 (41 * g + k)) k))), (12, .int (jI (k : Int)))] [] (mQ β (V 138 g, jU (mxD V g 5) 138 g 1)) X0 := by
          intro n
          induction n with
          | zero =>
            intro k hk
            have ek : k = (V 138 g).toNat := by omega
            subst ek
            have q1 := sl i
            have q2 := sh i
            refine J.iload (pc' := 107) rfl rfl rfl ?_
            refine J.iload_n (pc' := 108) rfl rfl rfl ?_
            refine J.icmp_ge (tgt := 175) (pc' := 111) rfl rfl rfl (by first | omega | (exact R.r _ _) | (simp only [jM.len_sI, jM.len_sL, jM.len_sR, jM.len_fI, jM.len_fL, jM.len_fR]; omega) | (simp [jM.len_nw, jM.len_sI, jM.len_sL, jM.len_sR, jM.len_fI, jM.len_fL, jM.len_fR, *]; omega)) (by first | omega | (exact R.r _ _) | (simp only [jM.len_sI, jM.len_sL, jM.len_sR, jM.len_fI, jM.len_fL, jM.len_fR]; omega) | (simp [jM.len_nw, jM.len_sI, jM.len_sL, jM.len_sR, jM.len_fI, jM.len_fL, jM.len_fR, *]; omega)) (fun c2 => ?_) (fun c2 => ?_)
            · first | refine J.aload_n (pc' := 176) rfl rfl rfl ?_ | refine J.aload_nN (pc' := 176) rfl rfl rfl ?_
              refine J.mgR (pc' := 179) (t := 144) B rfl fl_X12_109 rfl rfl (by decide) rfl ?_
              refine J.iload (pc' := 181) rfl rfl rfl ?_
              refine J.lload (pc' := 183) rfl rfl rfl ?_
              refine J.iload_n (pc' := 184) rfl rfl rfl ?_
              refine J.i2l (pc' := 185) rfl rfl (by first | omega | (exact R.r _ _) | (simp only [jM.len_sI, jM.len_sL, jM.len_sR, jM.len_fI, jM.len_fL, jM.len_fR]; omega) | (simp [jM.len_nw, jM.len_sI, jM.len_sL, jM.len_sR, jM.len_fI, jM.len_fL, jM.len_fR, *]; omega)) ?_
              refine J.ldiv (pc' := 186) rfl rfl (by first | omega | (exact R.r _ _) | (simp only [jM.len_sI, jM.len_sL, jM.len_sR, jM.len_fI, jM.len_fL, jM.len_fR]; omega) | (simp [jM.len_nw, jM.len_sI, jM.len_sL, jM.len_sR, jM.len_fI, jM.len_fL, jM.len_fR, *]; omega)) (by first | omega | (exact R.r _ _) | (simp only [jM.len_sI, jM.len_sL, jM.len_sR, jM.len_fI, jM.len_fL, jM.len_fR]; omega) | (simp [jM.len_nw, jM.len_sI, jM.len_sL, jM.len_sR, jM.len_fI, jM.len_fL, jM.len_fR, *]; omega)) (by first | omega | (exact R.r _ _) | (simp only [jM.len_sI, jM.len_sL, jM.len_sR, jM.len_fI, jM.len_fL, jM.len_fR]; omega) | (simp [jM.len_nw, jM.len_sI, jM.len_sL, jM.len_sR, jM.len_fI, jM.len_fL, jM.len_fR, *]; omega)) ?_
              rw [Int.tdiv_eq_ediv_of_nonneg (by omega)]
              refine J.l2i (pc' := 187) rfl rfl ?_
              refine J.mast (pc' := 188) B rfl rfl rfl rfl (by omega) (by simp only [jLn]; omega) rfl ?_
              first | refine J.aload_n (pc' := 189) rfl rfl rfl ?_ | refine J.aload_nN (pc' := 189) rfl rfl rfl ?_
              refine J.mgR (pc' := 192) (t := 145) B rfl fl_X12_112 rfl rfl (by decide) rfl ?_
              refine J.iload (pc' := 194) rfl rfl rfl ?_
              refine J.lload (pc' := 196) rfl rfl rfl ?_
              refine J.iload_n (pc' := 197) rfl rfl rfl ?_
              refine J.i2l (pc' := 198) rfl rfl (by first | omega | (exact R.r _ _) | (simp only [jM.len_sI, jM.len_sL, jM.len_sR, jM.len_fI, jM.len_fL, jM.len_fR]; omega) | (simp [jM.len_nw, jM.len_sI, jM.len_sL, jM.len_sR, jM.len_fI, jM.len_fL, jM.len_fR, *]; omega)) ?_
              refine J.ladd (pc' := 199) rfl rfl ?_
              refine J.lconst (pc' := 200) rfl rfl ?_
              refine J.lsub (pc' := 201) rfl rfl ?_
              refine J.iload_n (pc' := 202) rfl rfl rfl ?_
              refine J.i2l (pc' := 203) rfl rfl (by first | omega | (exact R.r _ _) | (simp only [jM.len_sI, jM.len_sL, jM.len_sR, jM.len_fI, jM.len_fL, jM.len_fR]; omega) | (simp [jM.len_nw, jM.len_sI, jM.len_sL, jM.len_sR, jM.len_fI, jM.len_fL, jM.len_fR, *]; omega)) ?_
              refine J.ldiv (pc' := 204) rfl rfl (by first | omega | (exact R.r _ _) | (simp only [jM.len_sI, jM.len_sL, jM.len_sR, jM.len_fI, jM.len_fL, jM.len_fR]; omega) | (simp [jM.len_nw, jM.len_sI, jM.len_sL, jM.len_sR, jM.len_fI, jM.len_fL, jM.len_fR, *]; omega)) (by first | omega | (exact R.r _ _) | (simp only [jM.len_sI, jM.len_sL, jM.len_sR, jM.len_fI, jM.len_fL, jM.len_fR]; omega) | (simp [jM.len_nw, jM.len_sI, jM.len_sL, jM.len_sR, jM.len_fI, jM.len_fL, jM.len_fR, *]; omega)) (by first | omega | (exact R.r _ _) | (simp only [jM.len_sI, jM.len_sL, jM.len_sR, jM.len_fI, jM.len_fL, jM.len_fR]; omega) | (simp [jM.len_nw, jM.len_sI, jM.len_sL, jM.len_sR, jM.len_fI, jM.len_fL, jM.len_fR, *]; omega)) ?_
              rw [Int.tdiv_eq_ediv_of_nonneg (by omega)]
              refine J.l2i (pc' := 205) rfl rfl ?_
              refine J.mast (pc' := 206) B rfl rfl rfl rfl (by omega) (by simp only [jLn]; omega) rfl ?_
              refine J.iinc (pc' := 209) rfl rfl rfl (by decide) ?_
              refine J.goto (tgt := 90) rfl rfl ?_
              have e3 : jU (jU (mxA V g i) 144 i (mxL V g i)) 145 i (mxH V g i) = mxA V g (i + 1) := by
                funext t j
                unfold jU mxA
                by_cases t1 : t = 145 ∧ j = i
                · rw [if_pos t1, if_pos (by omega), if_neg (by omega), t1.2]
                · rw [if_neg t1]
                  by_cases t2 : t = 144 ∧ j = i
                  · rw [if_pos t2, if_pos (by omega), if_pos (by omega), t2.2]
                  · rw [if_neg t2]
                    by_cases t3 : (t = 144 ∨ t = 145) ∧ 0 ≤ j ∧ j < (i : Int)
                    · rw [if_pos t3, if_pos (c := (t = 144 ∨ t = 145) ∧ 0 ≤ j ∧ j < ((i : Int) + 1)) (by omega)]
                    · rw [if_neg t3, if_neg (by omega)]
              rw [hLd, hHd] at e3
              rw [← e3] at h9
              exact h9 _ (fun q hq => by simp only [List.mem_cons, List.not_mem_nil, or_false] at hq; rcases hq with rfl | rfl | rfl | rfl | rfl | rfl | rfl <;> rfl)
            · omega
          | succ n ih2 =>
            intro k hk
            have h8 := ih2 (k + 1) (by omega)
            rw [Sm, Sm, show ((k + 1 : Nat) : Int) = (k : Int) + 1 by omega] at h8
            have q1 := lowL_b R (41 * g + k) i
            refine J.iload (pc' := 107) rfl rfl rfl ?_
            refine J.iload_n (pc' := 108) rfl rfl rfl ?_
            refine J.icmp_ge (tgt := 175) (pc' := 111) rfl rfl rfl (by first | omega | (exact R.r _ _) | (simp only [jM.len_sI, jM.len_sL, jM.len_sR, jM.len_fI, jM.len_fL, jM.len_fR]; omega) | (simp [jM.len_nw, jM.len_sI, jM.len_sL, jM.len_sR, jM.len_fI, jM.len_fL, jM.len_fR, *]; omega)) (by first | omega | (exact R.r _ _) | (simp only [jM.len_sI, jM.len_sL, jM.len_sR, jM.len_fI, jM.len_fL, jM.len_fR]; omega) | (simp [jM.len_nw, jM.len_sI, jM.len_sL, jM.len_sR, jM.len_fI, jM.len_fL, jM.len_fR, *]; omega)) (fun c2 => ?_) (fun c2 => ?_)
            · omega
            · refine J.lload (pc' := 113) rfl rfl rfl ?_
              first | refine J.aload_n (pc' := 114) rfl rfl rfl ?_ | refine J.aload_nN (pc' := 114) rfl rfl rfl ?_
              refine J.iload (pc' := 116) rfl rfl rfl ?_
              refine J.iload (pc' := 118) rfl rfl rfl ?_
              refine J.iadd (pc' := 119) rfl rfl ?_
              refine J.iload (pc' := 121) rfl rfl rfl ?_
              refine J.callV (pc' := 124) (t := 16) rfl MX12_lowOfLayer ml_X12_304 iv_X12_lowOfLayer (by decide) ⟨_, rfl, rfl⟩ B.1 (cm_lowL B RA (by omega) (by omega)) rfl rfl (Nat.le_of_ble_eq_true rfl) (by first | omega | (exact R.r _ _) | (simp only [jM.len_sI, jM.len_sL, jM.len_sR, jM.len_fI, jM.len_fL, jM.len_fR]; omega) | (simp [jM.len_nw, jM.len_sI, jM.len_sL, jM.len_sR, jM.len_fI, jM.len_fL, jM.len_fR, *]; omega)) (by first | omega | (exact R.r _ _) | (simp only [jM.len_sI, jM.len_sL, jM.len_sR, jM.len_fI, jM.len_fL, jM.len_fR]; omega) | (simp [jM.len_nw, jM.len_sI, jM.len_sL, jM.len_sR, jM.len_fI, jM.len_fL, jM.len_fR, *]; omega)) (by first | omega | (exact R.r _ _) | (simp only [jM.len_sI, jM.len_sL, jM.len_sR, jM.len_fI, jM.len_fL, jM.len_fR]; omega) | (simp [jM.len_nw, jM.len_sI, jM.len_sL, jM.len_sR, jM.len_fI, jM.len_fL, jM.len_fR, *]; omega)) rfl rfl ?_ ?_
              · exact fun _ _ h => h
              rintro _ _ ⟨rfl, rfl⟩
              rw [show lowL (mxA V g i) (41 * g + k) i = lowL V (41 * g + k) i from rfl]
              refine J.i2l (pc' := 125) rfl rfl (by first | omega | (exact R.r _ _) | (simp only [jM.len_sI, jM.len_sL, jM.len_sR, jM.len_fI, jM.len_fL, jM.len_fR]; omega) | (simp [jM.len_nw, jM.len_sI, jM.len_sL, jM.len_sR, jM.len_fI, jM.len_fL, jM.len_fR, *]; omega)) ?_
              first | refine J.aload_n (pc' := 126) rfl rfl rfl ?_ | refine J.aload_nN (pc' := 126) rfl rfl rfl ?_
              refine J.mgR (pc' := 129) (t := 139) B rfl fl_X12_94 rfl rfl (by decide) rfl ?_
              refine J.iload (pc' := 131) rfl rfl rfl ?_
              refine J.iload (pc' := 133) rfl rfl rfl ?_
              refine J.iadd (pc' := 134) rfl rfl ?_
              refine J.mald (pc' := 135) B rfl rfl rfl (by omega) (by simp only [jLn]; omega) rfl ?_
              refine J.i2l (pc' := 136) rfl rfl (by first | omega | (exact R.r _ _) | (simp only [jM.len_sI, jM.len_sL, jM.len_sR, jM.len_fI, jM.len_fL, jM.len_fR]; omega) | (simp [jM.len_nw, jM.len_sI, jM.len_sL, jM.len_sR, jM.len_fI, jM.len_fL, jM.len_fR, *]; omega)) ?_
              refine J.lmul (pc' := 137) rfl rfl ?_
              refine J.ladd (pc' := 138) rfl rfl ?_
              refine J.lstore (pc' := 140) rfl rfl (by decide) ?_
              refine J.lload (pc' := 142) rfl rfl rfl ?_
              first | refine J.aload_n (pc' := 143) rfl rfl rfl ?_ | refine J.aload_nN (pc' := 143) rfl rfl rfl ?_
              refine J.iload (pc' := 145) rfl rfl rfl ?_
              refine J.iload (pc' := 147) rfl rfl rfl ?_
              refine J.iadd (pc' := 148) rfl rfl ?_
              refine J.iload (pc' := 150) rfl rfl rfl ?_
              refine J.callV (pc' := 153) (t := 16) rfl MX12_highOfLayer ml_X12_307 iv_X12_highOfLayer (by decide) ⟨_, rfl, rfl⟩ B.1 (cm_highL B RA (by omega) (by omega)) rfl rfl (Nat.le_of_ble_eq_true rfl) (by first | omega | (exact R.r _ _) | (simp only [jM.len_sI, jM.len_sL, jM.len_sR, jM.len_fI, jM.len_fL, jM.len_fR]; omega) | (simp [jM.len_nw, jM.len_sI, jM.len_sL, jM.len_sR, jM.len_fI, jM.len_fL, jM.len_fR, *]; omega)) (by first | omega | (exact R.r _ _) | (simp only [jM.len_sI, jM.len_sL, jM.len_sR, jM.len_fI, jM.len_fL, jM.len_fR]; omega) | (simp [jM.len_nw, jM.len_sI, jM.len_sL, jM.len_sR, jM.len_fI, jM.len_fL, jM.len_fR, *]; omega)) (by first | omega | (exact R.r _ _) | (simp only [jM.len_sI, jM.len_sL, jM.len_sR, jM.len_fI, jM.len_fL, jM.len_fR]; omega) | (simp [jM.len_nw, jM.len_sI, jM.len_sL, jM.len_sR, jM.len_fI, jM.len_fL, jM.len_fR, *]; omega)) rfl rfl ?_ ?_
              · exact fun _ _ h => h
              rintro _ _ ⟨rfl, rfl⟩
              rw [show highL (mxA V g i) (41 * g + k) i = highL V (41 * g + k) i from rfl]
              refine J.i2l (pc' := 154) rfl rfl (by first | omega | (exact R.r _ _) | (simp only [jM.len_sI, jM.len_sL, jM.len_sR, jM.len_fI, jM.len_fL, jM.len_fR]; omega) | (simp [jM.len_nw, jM.len_sI, jM.len_sL, jM.len_sR, jM.len_fI, jM.len_fL, jM.len_fR, *]; omega)) ?_
              first | refine J.aload_n (pc' := 155) rfl rfl rfl ?_ | refine J.aload_nN (pc' := 155) rfl rfl rfl ?_
              refine J.mgR (pc' := 158) (t := 139) B rfl fl_X12_94 rfl rfl (by decide) rfl ?_
              refine J.iload (pc' := 160) rfl rfl rfl ?_
              refine J.iload (pc' := 162) rfl rfl rfl ?_
              refine J.iadd (pc' := 163) rfl rfl ?_
              refine J.mald (pc' := 164) B rfl rfl rfl (by omega) (by simp only [jLn]; omega) rfl ?_
              refine J.i2l (pc' := 165) rfl rfl (by first | omega | (exact R.r _ _) | (simp only [jM.len_sI, jM.len_sL, jM.len_sR, jM.len_fI, jM.len_fL, jM.len_fR]; omega) | (simp [jM.len_nw, jM.len_sI, jM.len_sL, jM.len_sR, jM.len_fI, jM.len_fL, jM.len_fR, *]; omega)) ?_
              refine J.lmul (pc' := 166) rfl rfl ?_
              refine J.ladd (pc' := 167) rfl rfl ?_
              refine J.lstore (pc' := 169) rfl rfl (by decide) ?_
              refine J.iinc (pc' := 172) rfl rfl rfl (by decide) ?_
              refine J.goto (tgt := 105) rfl rfl ?_
              exact h8
        refine J.iload (pc' := 92) rfl rfl rfl ?_
        refine J.iconst (pc' := 93) rfl rfl ?_
        refine J.icmp_ge (tgt := 212) (pc' := 96) rfl rfl rfl (by first | omega | (exact R.r _ _) | (simp only [jM.len_sI, jM.len_sL, jM.len_sR, jM.len_fI, jM.len_fL, jM.len_fR]; omega) | (simp [jM.len_nw, jM.len_sI, jM.len_sL, jM.len_sR, jM.len_fI, jM.len_fL, jM.len_fR, *]; omega)) (by first | omega | (exact R.r _ _) | (simp only [jM.len_sI, jM.len_sL, jM.len_sR, jM.len_fI, jM.len_fL, jM.len_fR]; omega) | (simp [jM.len_nw, jM.len_sI, jM.len_sL, jM.len_sR, jM.len_fI, jM.len_fL, jM.len_fR, *]; omega)) (fun c1 => ?_) (fun c1 => ?_)
        · omega
        · refine J.lconst (pc' := 97) rfl rfl ?_
          refine J.lstore (pc' := 99) rfl rfl (by decide) ?_
          refine J.lconst (pc' := 100) rfl rfl ?_
          refine J.lstore (pc' := 102) rfl rfl (by decide) ?_
          refine J.iconst (pc' := 103) rfl rfl ?_
          refine J.istore (pc' := 105) rfl rfl (by decide) ?_
          exact inn (V 138 g).toNat 0 (by omega)
    have cst : ∀ (n k : Nat), (k : Int) + n = V 138 g → J γ mX12_mix 2 0 0 0 0 (jP β V) 47 [(0, .ref (β.2 16)), (1, .int (jI g)), (2, .int (jI (V 138 g))), (3, .int (jI (tonsOf V g))), (4, .int (jI (41 * g))), (5, .long (jL (Sm (fun k => V 141 (41 * g + k) * V 139 (41 * g + k)) k))), (7, .int (jI (k : Int)))] [] (mQ β (V 138 g, jU (mxD V g 5) 138 g 1)) X0 := by
      intro n
      induction n with
      | zero =>
        intro k hk
        have ek : k = (V 138 g).toNat := by omega
        subst ek
        refine J.iload (pc' := 49) rfl rfl rfl ?_
        refine J.iload_n (pc' := 50) rfl rfl rfl ?_
        refine J.icmp_ge (tgt := 87) (pc' := 53) rfl rfl rfl (by first | omega | (exact R.r _ _) | (simp only [jM.len_sI, jM.len_sL, jM.len_sR, jM.len_fI, jM.len_fL, jM.len_fR]; omega) | (simp [jM.len_nw, jM.len_sI, jM.len_sL, jM.len_sR, jM.len_fI, jM.len_fL, jM.len_fR, *]; omega)) (by first | omega | (exact R.r _ _) | (simp only [jM.len_sI, jM.len_sL, jM.len_sR, jM.len_fI, jM.len_fL, jM.len_fR]; omega) | (simp [jM.len_nw, jM.len_sI, jM.len_sL, jM.len_sR, jM.len_fI, jM.len_fL, jM.len_fR, *]; omega)) (fun c1 => ?_) (fun c1 => ?_)
        · refine J.iconst (pc' := 88) rfl rfl ?_
          refine J.istore (pc' := 90) rfl rfl (by decide) ?_
          have h9 := met 5 0 (by omega)
          rw [show mxA V g ((0 : Nat) : Int) = V by funext t i; unfold mxA; rw [if_neg (by omega)]] at h9
          exact h9 _ (fun q hq => by simp only [List.mem_cons, List.not_mem_nil, or_false] at hq; rcases hq with rfl | rfl | rfl | rfl | rfl | rfl | rfl <;> rfl)
        · omega
      | succ n ih =>
        intro k hk
        have h8 := ih (k + 1) (by omega)
        rw [Sm, show ((k + 1 : Nat) : Int) = (k : Int) + 1 by omega] at h8
        refine J.iload (pc' := 49) rfl rfl rfl ?_
        refine J.iload_n (pc' := 50) rfl rfl rfl ?_
        refine J.icmp_ge (tgt := 87) (pc' := 53) rfl rfl rfl (by first | omega | (exact R.r _ _) | (simp only [jM.len_sI, jM.len_sL, jM.len_sR, jM.len_fI, jM.len_fL, jM.len_fR]; omega) | (simp [jM.len_nw, jM.len_sI, jM.len_sL, jM.len_sR, jM.len_fI, jM.len_fL, jM.len_fR, *]; omega)) (by first | omega | (exact R.r _ _) | (simp only [jM.len_sI, jM.len_sL, jM.len_sR, jM.len_fI, jM.len_fL, jM.len_fR]; omega) | (simp [jM.len_nw, jM.len_sI, jM.len_sL, jM.len_sR, jM.len_fI, jM.len_fL, jM.len_fR, *]; omega)) (fun c1 => ?_) (fun c1 => ?_)
        · omega
        · refine J.lload (pc' := 55) rfl rfl rfl ?_
          first | refine J.aload_n (pc' := 56) rfl rfl rfl ?_ | refine J.aload_nN (pc' := 56) rfl rfl rfl ?_
          refine J.mgR (pc' := 59) (t := 141) B rfl fl_X12_100 rfl rfl (by decide) rfl ?_
          refine J.iload (pc' := 61) rfl rfl rfl ?_
          refine J.iload (pc' := 63) rfl rfl rfl ?_
          refine J.iadd (pc' := 64) rfl rfl ?_
          refine J.mald (pc' := 65) B rfl rfl rfl (by omega) (by simp only [jLn]; omega) rfl ?_
          refine J.i2l (pc' := 66) rfl rfl (by first | omega | (exact R.r _ _) | (simp only [jM.len_sI, jM.len_sL, jM.len_sR, jM.len_fI, jM.len_fL, jM.len_fR]; omega) | (simp [jM.len_nw, jM.len_sI, jM.len_sL, jM.len_sR, jM.len_fI, jM.len_fL, jM.len_fR, *]; omega)) ?_
          first | refine J.aload_n (pc' := 67) rfl rfl rfl ?_ | refine J.aload_nN (pc' := 67) rfl rfl rfl ?_
          refine J.mgR (pc' := 70) (t := 139) B rfl fl_X12_94 rfl rfl (by decide) rfl ?_
          refine J.iload (pc' := 72) rfl rfl rfl ?_
          refine J.iload (pc' := 74) rfl rfl rfl ?_
          refine J.iadd (pc' := 75) rfl rfl ?_
          refine J.mald (pc' := 76) B rfl rfl rfl (by omega) (by simp only [jLn]; omega) rfl ?_
          refine J.i2l (pc' := 77) rfl rfl (by first | omega | (exact R.r _ _) | (simp only [jM.len_sI, jM.len_sL, jM.len_sR, jM.len_fI, jM.len_fL, jM.len_fR]; omega) | (simp [jM.len_nw, jM.len_sI, jM.len_sL, jM.len_sR, jM.len_fI, jM.len_fL, jM.len_fR, *]; omega)) ?_
          refine J.lmul (pc' := 78) rfl rfl ?_
          refine J.ladd (pc' := 79) rfl rfl ?_
          refine J.lstore (pc' := 81) rfl rfl (by decide) ?_
          refine J.iinc (pc' := 84) rfl rfl rfl (by decide) ?_
          refine J.goto (tgt := 47) rfl rfl ?_
          exact h8
    first | refine J.aload_n (pc' := 30) rfl rfl rfl ?_ | refine J.aload_nN (pc' := 30) rfl rfl rfl ?_
    refine J.iload_n (pc' := 31) rfl rfl rfl ?_
    refine J.callV (pc' := 34) (t := 16) rfl MX12_tonsOf ml_X12_300 iv_X12_tonsOf (by decide) ⟨_, rfl, rfl⟩ B.1 (cm_tonsOf B R b1) rfl rfl (Nat.le_of_ble_eq_true rfl) (by first | omega | (exact R.r _ _) | (simp only [jM.len_sI, jM.len_sL, jM.len_sR, jM.len_fI, jM.len_fL, jM.len_fR]; omega) | (simp [jM.len_nw, jM.len_sI, jM.len_sL, jM.len_sR, jM.len_fI, jM.len_fL, jM.len_fR, *]; omega)) (by first | omega | (exact R.r _ _) | (simp only [jM.len_sI, jM.len_sL, jM.len_sR, jM.len_fI, jM.len_fL, jM.len_fR]; omega) | (simp [jM.len_nw, jM.len_sI, jM.len_sL, jM.len_sR, jM.len_fI, jM.len_fL, jM.len_fR, *]; omega)) (by first | omega | (exact R.r _ _) | (simp only [jM.len_sI, jM.len_sL, jM.len_sR, jM.len_fI, jM.len_fL, jM.len_fR]; omega) | (simp [jM.len_nw, jM.len_sI, jM.len_sL, jM.len_sR, jM.len_fI, jM.len_fL, jM.len_fR, *]; omega)) rfl rfl ?_ ?_
    · exact fun _ _ h => h
    rintro _ _ ⟨rfl, rfl⟩
    refine J.istore_n (pc' := 35) rfl rfl (by decide) ?_
    refine J.bipush (pc' := 37) rfl rfl (by decide) ?_
    refine J.iload_n (pc' := 38) rfl rfl rfl ?_
    refine J.imul (pc' := 39) rfl rfl ?_
    refine J.istore (pc' := 41) rfl rfl (by decide) ?_
    refine J.lconst (pc' := 42) rfl rfl ?_
    refine J.lstore (pc' := 44) rfl rfl (by decide) ?_
    refine J.iconst (pc' := 45) rfl rfl ?_
    refine J.istore (pc' := 47) rfl rfl (by decide) ?_
    exact cst (V 138 g).toNat 0 (by omega)
  first | refine J.aload_n (pc' := 6) rfl rfl rfl ?_ | refine J.aload_nN (pc' := 6) rfl rfl rfl ?_
  refine J.iload_n (pc' := 7) rfl rfl rfl ?_
  refine J.callV (pc' := 10) (t := 16) rfl MX12_isHeap ml_X12_297 iv_X12_isHeap (by decide) ⟨_, rfl, rfl⟩ B.1 (cm_isHeap B h0 hg) rfl rfl (Nat.le_of_ble_eq_true rfl) (by first | omega | (exact R.r _ _) | (simp only [jM.len_sI, jM.len_sL, jM.len_sR, jM.len_fI, jM.len_fL, jM.len_fR]; omega) | (simp [jM.len_nw, jM.len_sI, jM.len_sL, jM.len_sR, jM.len_fI, jM.len_fL, jM.len_fR, *]; omega)) (by first | omega | (exact R.r _ _) | (simp only [jM.len_sI, jM.len_sL, jM.len_sR, jM.len_fI, jM.len_fL, jM.len_fR]; omega) | (simp [jM.len_nw, jM.len_sI, jM.len_sL, jM.len_sR, jM.len_fI, jM.len_fL, jM.len_fR, *]; omega)) (by first | omega | (exact R.r _ _) | (simp only [jM.len_sI, jM.len_sL, jM.len_sR, jM.len_fI, jM.len_fL, jM.len_fR]; omega) | (simp [jM.len_nw, jM.len_sI, jM.len_sL, jM.len_sR, jM.len_fI, jM.len_fL, jM.len_fR, *]; omega)) rfl rfl ?_ ?_
  · exact fun _ _ h => h
  rintro _ _ ⟨b, hb, rfl⟩
  rcases hb with ⟨rfl, hb, rfl⟩ | ⟨rfl, hb, rfl⟩
  · first
    | (exfalso; omega)
    | (refine J.if_ne (tgt := 15) (pc' := 13) rfl rfl rfl (by first | omega | (exact R.r _ _) | (simp only [jM.len_sI, jM.len_sL, jM.len_sR, jM.len_fI, jM.len_fL, jM.len_fR]; omega) | (simp [jM.len_nw, jM.len_sI, jM.len_sL, jM.len_sR, jM.len_fI, jM.len_fL, jM.len_fR, *]; omega)) (fun c10 => ?_) (fun c10 => ?_)
       · first
         | (exfalso; omega)
         | (first | refine J.aload_n (pc' := 16) rfl rfl rfl ?_ | refine J.aload_nN (pc' := 16) rfl rfl rfl ?_
            refine J.mgR (pc' := 19) (t := 138) B rfl fl_X12_91 rfl rfl (by decide) rfl ?_
            refine J.iload_n (pc' := 20) rfl rfl rfl ?_
            refine J.mald (pc' := 21) B rfl rfl rfl (by omega) (by simp only [jLn]; omega) rfl ?_
            refine J.istore_n (pc' := 22) rfl rfl (by decide) ?_
            refine J.iload_n (pc' := 23) rfl rfl rfl ?_
            refine J.iconst (pc' := 24) rfl rfl ?_
            refine J.icmp_ge (tgt := 29) (pc' := 27) rfl rfl rfl (by first | omega | (exact R.r _ _) | (simp only [jM.len_sI, jM.len_sL, jM.len_sR, jM.len_fI, jM.len_fL, jM.len_fR]; omega) | (simp [jM.len_nw, jM.len_sI, jM.len_sL, jM.len_sR, jM.len_fI, jM.len_fL, jM.len_fR, *]; omega)) (by first | omega | (exact R.r _ _) | (simp only [jM.len_sI, jM.len_sL, jM.len_sR, jM.len_fI, jM.len_fL, jM.len_fR]; omega) | (simp [jM.len_nw, jM.len_sI, jM.len_sL, jM.len_sR, jM.len_fI, jM.len_fL, jM.len_fR, *]; omega)) (fun c24 => ?_) (fun c24 => ?_)
            · first
              | (exfalso; omega)
              | (exact rest (by omega) (by omega))
            · first
              | (exfalso; omega)
              | (refine J.iload_n (pc' := 28) rfl rfl rfl ?_
                 refine J.iret rfl rfl (by first | omega | (exact R.r _ _) | (simp only [jM.len_sI, jM.len_sL, jM.len_sR, jM.len_fI, jM.len_fL, jM.len_fR]; omega) | (simp [jM.len_nw, jM.len_sI, jM.len_sL, jM.len_sR, jM.len_fI, jM.len_fL, jM.len_fR, *]; omega)) (by first | omega | (exact R.r _ _) | (simp only [jM.len_sI, jM.len_sL, jM.len_sR, jM.len_fI, jM.len_fL, jM.len_fR]; omega) | (simp [jM.len_nw, jM.len_sI, jM.len_sL, jM.len_sR, jM.len_fI, jM.len_fL, jM.len_fR, *]; omega)) ?_
                 exact mQ.of (by unfold sp_mix; (repeat (first | rw [if_pos (by omega)] | rw [if_neg (by omega)])))))
       · first
         | (exfalso; omega)
         | (refine J.iconst (pc' := 14) rfl rfl ?_
            refine J.iret rfl rfl (by first | omega | (exact R.r _ _) | (simp only [jM.len_sI, jM.len_sL, jM.len_sR, jM.len_fI, jM.len_fL, jM.len_fR]; omega) | (simp [jM.len_nw, jM.len_sI, jM.len_sL, jM.len_sR, jM.len_fI, jM.len_fL, jM.len_fR, *]; omega)) (by first | omega | (exact R.r _ _) | (simp only [jM.len_sI, jM.len_sL, jM.len_sR, jM.len_fI, jM.len_fL, jM.len_fR]; omega) | (simp [jM.len_nw, jM.len_sI, jM.len_sL, jM.len_sR, jM.len_fI, jM.len_fL, jM.len_fR, *]; omega)) ?_
            exact mQ.of (by unfold sp_mix; (repeat (first | rw [if_pos (by omega)] | rw [if_neg (by omega)])))))
  · first
    | (exfalso; omega)
    | (refine J.if_ne (tgt := 15) (pc' := 13) rfl rfl rfl (by first | omega | (exact R.r _ _) | (simp only [jM.len_sI, jM.len_sL, jM.len_sR, jM.len_fI, jM.len_fL, jM.len_fR]; omega) | (simp [jM.len_nw, jM.len_sI, jM.len_sL, jM.len_sR, jM.len_fI, jM.len_fL, jM.len_fR, *]; omega)) (fun c10 => ?_) (fun c10 => ?_)
       · first
         | (exfalso; omega)
         | (first | refine J.aload_n (pc' := 16) rfl rfl rfl ?_ | refine J.aload_nN (pc' := 16) rfl rfl rfl ?_
            refine J.mgR (pc' := 19) (t := 138) B rfl fl_X12_91 rfl rfl (by decide) rfl ?_
            refine J.iload_n (pc' := 20) rfl rfl rfl ?_
            refine J.mald (pc' := 21) B rfl rfl rfl (by omega) (by simp only [jLn]; omega) rfl ?_
            refine J.istore_n (pc' := 22) rfl rfl (by decide) ?_
            refine J.iload_n (pc' := 23) rfl rfl rfl ?_
            refine J.iconst (pc' := 24) rfl rfl ?_
            refine J.icmp_ge (tgt := 29) (pc' := 27) rfl rfl rfl (by first | omega | (exact R.r _ _) | (simp only [jM.len_sI, jM.len_sL, jM.len_sR, jM.len_fI, jM.len_fL, jM.len_fR]; omega) | (simp [jM.len_nw, jM.len_sI, jM.len_sL, jM.len_sR, jM.len_fI, jM.len_fL, jM.len_fR, *]; omega)) (by first | omega | (exact R.r _ _) | (simp only [jM.len_sI, jM.len_sL, jM.len_sR, jM.len_fI, jM.len_fL, jM.len_fR]; omega) | (simp [jM.len_nw, jM.len_sI, jM.len_sL, jM.len_sR, jM.len_fI, jM.len_fL, jM.len_fR, *]; omega)) (fun c24 => ?_) (fun c24 => ?_)
            · first
              | (exfalso; omega)
              | (exact rest (by omega) (by omega))
            · first
              | (exfalso; omega)
              | (refine J.iload_n (pc' := 28) rfl rfl rfl ?_
                 refine J.iret rfl rfl (by first | omega | (exact R.r _ _) | (simp only [jM.len_sI, jM.len_sL, jM.len_sR, jM.len_fI, jM.len_fL, jM.len_fR]; omega) | (simp [jM.len_nw, jM.len_sI, jM.len_sL, jM.len_sR, jM.len_fI, jM.len_fL, jM.len_fR, *]; omega)) (by first | omega | (exact R.r _ _) | (simp only [jM.len_sI, jM.len_sL, jM.len_sR, jM.len_fI, jM.len_fL, jM.len_fR]; omega) | (simp [jM.len_nw, jM.len_sI, jM.len_sL, jM.len_sR, jM.len_fI, jM.len_fL, jM.len_fR, *]; omega)) ?_
                 exact mQ.of (by unfold sp_mix; (repeat (first | rw [if_pos (by omega)] | rw [if_neg (by omega)])))))
       · first
         | (exfalso; omega)
         | (refine J.iconst (pc' := 14) rfl rfl ?_
            refine J.iret rfl rfl (by first | omega | (exact R.r _ _) | (simp only [jM.len_sI, jM.len_sL, jM.len_sR, jM.len_fI, jM.len_fL, jM.len_fR]; omega) | (simp [jM.len_nw, jM.len_sI, jM.len_sL, jM.len_sR, jM.len_fI, jM.len_fL, jM.len_fR, *]; omega)) (by first | omega | (exact R.r _ _) | (simp only [jM.len_sI, jM.len_sL, jM.len_sR, jM.len_fI, jM.len_fL, jM.len_fR]; omega) | (simp [jM.len_nw, jM.len_sI, jM.len_sL, jM.len_sR, jM.len_fI, jM.len_fL, jM.len_fR, *]; omega)) ?_
            exact mQ.of (by unfold sp_mix; (repeat (first | rw [if_pos (by omega)] | rw [if_neg (by omega)])))))
end M8

