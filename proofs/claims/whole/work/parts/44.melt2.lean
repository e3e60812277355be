section M15
variable {γ : jG} {β : jB} {V U : VV}
theorem mlA_R {y p t m : Int} (R : isR U) (ht : 0 ≤ t ∧ t ≤ 20) : isR (mlA U y p t m) := by
  intro r i hr
  unfold mlA
  split
  · rename_i q
    have lb := lowL_b R y (i - 5 * p)
    rcases q.1 with z | z
    · subst z; rw [if_pos rfl]; exact lb.1
    · subst z; rw [if_neg (by decide)]; exact lb.2
  · split
    · rename_i q
      have := R 140 y rfl
      rw [q.1]
      exact this
    · split
      · rename_i q
        rw [q.1]
        exact ht
      · exact R r i hr
theorem mlA_low {y p t m x : Int} : lowL (mlA U y p t m) y x = lowL U y x := by
  unfold lowL
  rw [mlA_o (by decide) (by decide) (by decide) (by decide), mlA_o (by decide) (by decide) (by decide) (by decide), mlA_o (by decide) (by decide) (by decide) (by decide)]
theorem mlA_high {y p t m x i z : Int} : highL (jU (mlA U y p t m) 156 i z) y x = highL U y x := by
  unfold highL
  rw [jU_o _ (by decide), jU_o _ (by decide), jU_o _ (by decide), mlA_o (by decide) (by decide) (by decide) (by decide), mlA_o (by decide) (by decide) (by decide) (by decide), mlA_o (by decide) (by decide) (by decide) (by decide)]
theorem mlA_0 {y p t : Int} : mlA U y p t 0 = jU (jU U 154 p t) 155 p (U 140 y) := by
  funext r i
  unfold mlA jU
  rw [if_neg (by omega)]
theorem mlA_s {y p t i : Int} (hi : 0 ≤ i) : jU (jU (mlA U y p t i) 156 (5 * p + i) (lowL U y i)) 157 (5 * p + i) (highL U y i) = mlA U y p t (i + 1) := by
  funext r j
  unfold jU mlA
  by_cases t1 : r = 157 ∧ j = 5 * p + i
  · rw [if_pos t1, if_pos (by omega), if_neg (by omega), t1.2, show 5 * p + i - 5 * p = i by omega]
  · rw [if_neg t1]
    by_cases t2 : r = 156 ∧ j = 5 * p + i
    · rw [if_pos t2, if_pos (by omega), if_pos (by omega), t2.2, show 5 * p + i - 5 * p = i by omega]
    · rw [if_neg t2]
      by_cases t3 : (r = 156 ∨ r = 157) ∧ 5 * p ≤ j ∧ j < 5 * p + i
      · rw [if_pos t3, if_pos (c := (r = 156 ∨ r = 157) ∧ 5 * p ≤ j ∧ j < 5 * p + (i + 1)) (by omega)]
      · rw [if_neg t3, if_neg (c := (r = 156 ∨ r = 157) ∧ 5 * p ≤ j ∧ j < 5 * p + (i + 1)) (by omega)]
theorem mlG_inv {h M : Int} (hh : 0 ≤ h ∧ h < 6) : ∀ (k : Nat) (U : VV) (left : Int), left ≤ k → 0 ≤ left → mlI U M → left ≤ tonsOf U h → U 153 M + left ≤ 20 → mlI (mlG k U h left) M ∧ mlG k U h left 153 M ≤ U 153 M + left ∧ (∀ g, 0 ≤ g → g < 6 → g ≠ h → tonsOf (mlG k U h left) g = tonsOf U g) ∧ ∀ j, mlG k U h left 150 j = U 150 j := by
  intro k
  induction k with
  | zero =>
    intro U left h1 h2 I h3 h4
    exact ⟨I, by show U 153 M ≤ _; omega, fun _ _ _ _ => rfl, fun _ => rfl⟩
  | succ k ih =>
    intro U left h1 h2 I h3 h4
    rw [mlG]
    split
    · rename_i q
      have r3 := I.1 153 M rfl
      simp [jLo, jHi] at r3
      obtain ⟨b1, b2, b3, b4, b5, b6, b7⟩ := mlT_b I.1 I.2.1 hh ⟨q, h3⟩
      obtain ⟨t1, t2⟩ := mlV_tons I.1 I.2.1 hh ⟨q, h3⟩
      have I' := mlV_I I hh ⟨q, h3, by omega⟩ (by omega)
      have e3 : mlV U h left 153 M = U 153 M + 1 := by rw [mlV_153, I.2.2, if_pos rfl]
      obtain ⟨c1, c2, c3, c4⟩ := ih (mlV U h left) (left - mlT U h left) (by omega) (by omega) I' (by omega) (by omega)
      exact ⟨c1, by omega, fun g g1 g2 g3 => by rw [c3 g g1 g2 g3, t2 g g1 g2 g3], fun j => by rw [c4, mlV_o (by decide) (by decide) (by decide)]⟩
    · exact ⟨I, by show U 153 M ≤ _; omega, fun _ _ _ _ => rfl, fun _ => rfl⟩
theorem mlH_inv {M : Int} {bt : Int → Int} (I : mlI U M) (hb : ∀ j, 0 ≤ j → j < 6 → 0 ≤ bt j ∧ bt j ≤ tonsOf U j) (hs : Sm bt 6 ≤ 20) (h0 : U 153 M = 0) : ∀ g : Nat, g ≤ 6 → mlI (mlH U bt g) M ∧ mlH U bt g 153 M ≤ Sm bt g ∧ (∀ j : Int, (g : Int) ≤ j → j < 6 → tonsOf (mlH U bt g) j = tonsOf U j) ∧ (∀ j, mlH U bt g 150 j = U 150 j) ∧ Sm bt g ≤ 20 := by
  have mono : ∀ g : Nat, g ≤ 6 → Sm bt g ≤ Sm bt 6 := by
    intro g hg
    have step : ∀ k : Nat, g + k ≤ 6 → Sm bt g ≤ Sm bt (g + k) := by
      intro k
      induction k with
      | zero => intro _; simp
      | succ k ih =>
        intro hk
        have := ih (by omega)
        have h9 := hb ((g + k : Nat) : Int) (by omega) (by omega)
        rw [show g + (k + 1) = (g + k) + 1 by omega, Sm]
        omega
    have := step (6 - g) (by omega)
    rw [show g + (6 - g) = 6 by omega] at this
    exact this
  intro g
  induction g with
  | zero => intro _; exact ⟨I, by show U 153 M ≤ 0; omega, fun _ _ _ => rfl, fun _ => rfl, by simp [Sm]⟩
  | succ g ih =>
    intro hg
    obtain ⟨a1, a2, a3, a4, a5⟩ := ih (by omega)
    have h9 := hb (g : Int) (by omega) (by omega)
    have hm := mono (g + 1) hg
    rw [Sm] at hm
    obtain ⟨c1, c2, c3, c4⟩ := mlG_inv (M := M) (h := (g : Int)) (by omega) (bt g).toNat (mlH U bt g) (bt g) (by omega) (by omega) a1 (by rw [a3 g (by omega) (by omega)]; omega) (by omega)
    rw [mlH, Sm]
    exact ⟨c1, by omega, fun j j1 j2 => by rw [c3 j (by omega) j2 (by omega), a3 j (by omega) j2], fun j => by rw [c4, a4], by omega⟩
def meltQ (β : jB) (V : VV) (n : Int) : Option Value → jM → Prop := fun r h' => if 1 ≤ n ∧ n ≤ 20 then (∃ W, isR W ∧ scr W V ∧ (if (bestP V n).1 = -1 then r = some (.int (jI (-1))) ∧ h' = jP β W else if V 16 52 = 30 then r = some (.int (jI (-2))) ∧ h' = jP β W else r = some (.int (jI (V 16 52))) ∧ h' = jP β (jU (mlH (jU W 153 (V 16 52) 0) (bestP V n).2 6) 16 52 (V 16 52 + 1)))) else r = some (.int (jI 0)) ∧ h' = jP β (jU V 16 0 1)
set_option maxHeartbeats 1000000 in
theorem ml_loop {n M : Int} {Q : Option Value → jM → Prop} (B : isB β) (g : Nat) (hg : g < 6) (hM : 0 ≤ M ∧ M < 30) : ∀ (k : Nat) (U : VV) (left : Int), left ≤ k → 0 ≤ left → mlI U M → left ≤ tonsOf U g → U 153 M + left ≤ 20 → (∀ lv, hasL lv [(0, .ref (β.2 16)), (1, .int (jI n)), (2, .int (jI (g : Int)))] → J γ mX12_melt 4 0 0 0 0 (jP β (mlG k U g left)) 275 lv [] Q X0) → ∀ lv, hasL lv [(0, .ref (β.2 16)), (1, .int (jI n)), (2, .int (jI (g : Int))), (3, .int (jI left))] → J γ mX12_melt 4 0 0 0 0 (jP β U) 82 lv [] Q X0 := by
  intro k
  induction k with
  | zero =>
    intro U left h1 h2 I h3 h4 K lv hlv
    refine J.lc hlv ?_
    refine J.iload_n (pc' := 83) rfl rfl rfl ?_
    refine J.if_le (tgt := 275) (pc' := 86) rfl rfl rfl (by first | omega | (exact R.r _ _) | (simp only [jM.len_sI, jM.len_sL, jM.len_sR, jM.len_fI, jM.len_fL, jM.len_fR]; omega) | (simp [jM.len_nw, jM.len_sI, jM.len_sL, jM.len_sR, jM.len_fI, jM.len_fL, jM.len_fR, *]; omega)) (fun c1 => ?_) (fun c1 => ?_)
    · exact K _ ⟨rfl, rfl, rfl, trivial⟩
    · omega
  | succ k ih =>
    intro U left h1 h2 I h3 h4 K lv hlv
    have R := I.1
    have r3 := R 153 M rfl
    simp [jLo, jHi] at r3
    refine J.lc hlv ?_
    refine J.iload_n (pc' := 83) rfl rfl rfl ?_
    refine J.if_le (tgt := 275) (pc' := 86) rfl rfl rfl (by first | omega | (exact R.r _ _) | (simp only [jM.len_sI, jM.len_sL, jM.len_sR, jM.len_fI, jM.len_fL, jM.len_fR]; omega) | (simp [jM.len_nw, jM.len_sI, jM.len_sL, jM.len_sR, jM.len_fI, jM.len_fL, jM.len_fR, *]; omega)) (fun c1 => ?_) (fun c1 => ?_)
    · rw [mlG, if_neg (by omega)] at K
      exact K _ ⟨rfl, rfl, rfl, trivial⟩
    · obtain ⟨b1, b2, b3, b4, b5, b6, b7⟩ := mlT_b (h := (g : Int)) I.1 I.2.1 (by omega) ⟨by omega, h3⟩
      obtain ⟨t1, t2⟩ := mlV_tons (h := (g : Int)) I.1 I.2.1 (by omega) ⟨by omega, h3⟩
      have I' := mlV_I (h := (g : Int)) I (by omega) ⟨by omega, h3, by omega⟩ (by omega)
      have e3 : mlV U g left 153 M = U 153 M + 1 := by rw [mlV_153, I.2.2, if_pos rfl]
      rw [mlG, if_pos (by omega)] at K
      have nxt := ih (mlV U g left) (left - mlT U g left) (by omega) (by omega) I' (by omega) (by omega) K
      have eM := I.2.2
      have yb : 0 ≤ mlY U g ∧ mlY U g < 246 := by unfold mlY; omega
      have pb : 0 ≤ mlP U ∧ mlP U < 600 := by unfold mlP; rw [eM]; omega
      have at123 : ∀ t : Int, t = mlT U g left → J γ mX12_melt 4 0 0 0 0 (jP β U) 123 [(0, .ref (β.2 16)), (1, .int (jI n)), (2, .int (jI (g : Int))), (3, .int (jI left)), (4, .int (jI (mlY U g)))] [.int (jI t)] Q X0 := by
        intro t et
        rw [← et] at b5 b6 b7 nxt
        have met : ∀ (m i : Nat), i + m = 5 → J γ mX12_melt 4 0 0 0 0 (jP β (mlA U (mlY U g) (mlP U) t i)) 170 [(0, .ref (β.2 16)), (1, .int (jI n)), (2, .int (jI (g : Int))), (3, .int (jI left)), (4, .int (jI (mlY U g))), (5, .int (jI t)), (6, .int (jI (mlP U))), (7, .int (jI (i : Int)))] [] Q X0 := by
          intro m
          induction m with
          | zero =>
            intro i hi
            have ei : i = 5 := by omega
            subst ei
            have q0 : ∀ j, mlA U (mlY U g) (mlP U) t ((5 : Nat) : Int) 16 j = U 16 j := fun j => mlA_o (by decide) (by decide) (by decide) (by decide)
            have q1 : ∀ j, mlA U (mlY U g) (mlP U) t ((5 : Nat) : Int) 153 j = U 153 j := fun j => mlA_o (by decide) (by decide) (by decide) (by decide)
            have q2 : ∀ j, mlA U (mlY U g) (mlP U) t ((5 : Nat) : Int) 139 j = U 139 j := fun j => mlA_o (by decide) (by decide) (by decide) (by decide)
            have q3 : ∀ j, mlB U (mlY U g) (mlP U) t 138 j = U 138 j := fun j => by unfold mlB; rw [jU_o _ (by decide), jU_o _ (by decide)]; exact mlA_o (by decide) (by decide) (by decide) (by decide)
            have q4 : mlB U (mlY U g) (mlP U) t 139 (mlY U g) = U 139 (mlY U g) - t := jU_same _ _ _ _
            have q5 : jU (jU (mlA U (mlY U g) (mlP U) t ((5 : Nat) : Int)) 153 (U 16 52) (U 153 (U 16 52) + 1)) 139 (mlY U g) (U 139 (mlY U g) - t) = mlB U (mlY U g) (mlP U) t := rfl
            refine J.iload (pc' := 172) rfl rfl rfl ?_
            refine J.iconst (pc' := 173) rfl rfl ?_
            refine J.icmp_ge (tgt := 222) (pc' := 176) rfl rfl rfl (by first | omega | (exact R.r _ _) | (simp only [jM.len_sI, jM.len_sL, jM.len_sR, jM.len_fI, jM.len_fL, jM.len_fR]; omega) | (simp [jM.len_nw, jM.len_sI, jM.len_sL, jM.len_sR, jM.len_fI, jM.len_fL, jM.len_fR, *]; omega)) (by first | omega | (exact R.r _ _) | (simp only [jM.len_sI, jM.len_sL, jM.len_sR, jM.len_fI, jM.len_fL, jM.len_fR]; omega) | (simp [jM.len_nw, jM.len_sI, jM.len_sL, jM.len_sR, jM.len_fI, jM.len_fL, jM.len_fR, *]; omega)) (fun c2 => ?_) (fun c2 => ?_)
            · first | refine J.aload_n (pc' := 223) rfl rfl rfl ?_ | refine J.aload_nN (pc' := 223) rfl rfl rfl ?_
              refine J.mgR (pc' := 226) (t := 153) B rfl fl_X12_133 rfl rfl (by decide) rfl ?_
              first | refine J.aload_n (pc' := 227) rfl rfl rfl ?_ | refine J.aload_nN (pc' := 227) rfl rfl rfl ?_
              refine J.mgI (pc' := 230) (j := 52) B rfl fl_X12_328 rfl rfl rfl ?_
              rw [q0]
              first | refine J.dup2 (pc' := 231) rfl rfl rfl rfl ?_ | refine J.dup2L (pc' := 231) rfl rfl rfl ?_
              refine J.mald (pc' := 232) B rfl rfl rfl (by omega) (by simp only [jLn]; omega) rfl ?_
              rw [q1]
              refine J.iconst (pc' := 233) rfl rfl ?_
              refine J.iadd (pc' := 234) rfl rfl ?_
              refine J.mast (pc' := 235) B rfl rfl rfl rfl (by omega) (by simp only [jLn]; omega) rfl ?_
              refine J.iload_n (pc' := 236) rfl rfl rfl ?_
              refine J.iload (pc' := 238) rfl rfl rfl ?_
              refine J.isub (pc' := 239) rfl rfl ?_
              refine J.istore_n (pc' := 240) rfl rfl (by decide) ?_
              first | refine J.aload_n (pc' := 241) rfl rfl rfl ?_ | refine J.aload_nN (pc' := 241) rfl rfl rfl ?_
              refine J.mgR (pc' := 244) (t := 139) B rfl fl_X12_94 rfl rfl (by decide) rfl ?_
              refine J.iload (pc' := 246) rfl rfl rfl ?_
              first | refine J.dup2 (pc' := 247) rfl rfl rfl rfl ?_ | refine J.dup2L (pc' := 247) rfl rfl rfl ?_
              refine J.mald (pc' := 248) B rfl rfl rfl (by omega) (by simp only [jLn]; omega) rfl ?_
              rw [jU_o _ (by decide), q2]
              refine J.iload (pc' := 250) rfl rfl rfl ?_
              refine J.isub (pc' := 251) rfl rfl ?_
              refine J.mast (pc' := 252) B rfl rfl rfl rfl (by omega) (by simp only [jLn]; omega) rfl ?_
              rw [q5]
              first | refine J.aload_n (pc' := 253) rfl rfl rfl ?_ | refine J.aload_nN (pc' := 253) rfl rfl rfl ?_
              refine J.mgR (pc' := 256) (t := 139) B rfl fl_X12_94 rfl rfl (by decide) rfl ?_
              refine J.iload (pc' := 258) rfl rfl rfl ?_
              refine J.mald (pc' := 259) B rfl rfl rfl (by omega) (by simp only [jLn]; omega) rfl ?_
              rw [q4]
              unfold mlV at nxt
              rw [← et] at nxt
              refine J.if_ne (tgt := 272) (pc' := 262) rfl rfl rfl (by first | omega | (exact R.r _ _) | (simp only [jM.len_sI, jM.len_sL, jM.len_sR, jM.len_fI, jM.len_fL, jM.len_fR]; omega) | (simp [jM.len_nw, jM.len_sI, jM.len_sL, jM.len_sR, jM.len_fI, jM.len_fL, jM.len_fR, *]; omega)) (fun c3 => ?_) (fun c3 => ?_)
              · rw [if_neg c3] at nxt
                refine J.goto (tgt := 82) rfl rfl ?_
                exact nxt _ ⟨rfl, rfl, rfl, rfl, trivial⟩
              · rw [if_pos (by omega)] at nxt
                first | refine J.aload_n (pc' := 263) rfl rfl rfl ?_ | refine J.aload_nN (pc' := 263) rfl rfl rfl ?_
                refine J.mgR (pc' := 266) (t := 138) B rfl fl_X12_91 rfl rfl (by decide) rfl ?_
                refine J.iload_n (pc' := 267) rfl rfl rfl ?_
                first | refine J.dup2 (pc' := 268) rfl rfl rfl rfl ?_ | refine J.dup2L (pc' := 268) rfl rfl rfl ?_
                refine J.mald (pc' := 269) B rfl rfl rfl (by omega) (by simp only [jLn]; omega) rfl ?_
                rw [q3]
                refine J.iconst (pc' := 270) rfl rfl ?_
                refine J.isub (pc' := 271) rfl rfl ?_
                refine J.mast (pc' := 272) B rfl rfl rfl rfl (by omega) (by simp only [jLn]; omega) rfl ?_
                refine J.goto (tgt := 82) rfl rfl ?_
                exact nxt _ ⟨rfl, rfl, rfl, rfl, trivial⟩
            · omega
          | succ m ih2 =>
            intro i hi
            have h9 := ih2 (i + 1) (by omega)
            rw [show ((i + 1 : Nat) : Int) = (i : Int) + 1 by omega] at h9
            have RA : isR (mlA U (mlY U g) (mlP U) t i) := mlA_R R (by omega)
            have lb := lowL_b R (mlY U g) i
            refine J.iload (pc' := 172) rfl rfl rfl ?_
            refine J.iconst (pc' := 173) rfl rfl ?_
            refine J.icmp_ge (tgt := 222) (pc' := 176) rfl rfl rfl (by first | omega | (exact R.r _ _) | (simp only [jM.len_sI, jM.len_sL, jM.len_sR, jM.len_fI, jM.len_fL, jM.len_fR]; omega) | (simp [jM.len_nw, jM.len_sI, jM.len_sL, jM.len_sR, jM.len_fI, jM.len_fL, jM.len_fR, *]; omega)) (by first | omega | (exact R.r _ _) | (simp only [jM.len_sI, jM.len_sL, jM.len_sR, jM.len_fI, jM.len_fL, jM.len_fR]; omega) | (simp [jM.len_nw, jM.len_sI, jM.len_sL, jM.len_sR, jM.len_fI, jM.len_fL, jM.len_fR, *]; omega)) (fun c2 => ?_) (fun c2 => ?_)
            · omega
            · first | refine J.aload_n (pc' := 177) rfl rfl rfl ?_ | refine J.aload_nN (pc' := 177) rfl rfl rfl ?_
              refine J.mgR (pc' := 180) (t := 156) B rfl fl_X12_142 rfl rfl (by decide) rfl ?_
              refine J.iconst (pc' := 181) rfl rfl ?_
              refine J.iload (pc' := 183) rfl rfl rfl ?_
              refine J.imul (pc' := 184) rfl rfl ?_
              refine J.iload (pc' := 186) rfl rfl rfl ?_
              refine J.iadd (pc' := 187) rfl rfl ?_
              first | refine J.aload_n (pc' := 188) rfl rfl rfl ?_ | refine J.aload_nN (pc' := 188) rfl rfl rfl ?_
              refine J.iload (pc' := 190) rfl rfl rfl ?_
              refine J.iload (pc' := 192) rfl rfl rfl ?_
              refine J.callV (pc' := 195) (t := 16) rfl MX12_lowOfLayer ml_X12_304 iv_X12_lowOfLayer (by decide) ⟨_, rfl, rfl⟩ B.1 (cm_lowL B RA (by omega) (by omega)) rfl rfl (Nat.le_of_ble_eq_true rfl) (by first | omega | (exact R.r _ _) | (simp only [jM.len_sI, jM.len_sL, jM.len_sR, jM.len_fI, jM.len_fL, jM.len_fR]; omega) | (simp [jM.len_nw, jM.len_sI, jM.len_sL, jM.len_sR, jM.len_fI, jM.len_fL, jM.len_fR, *]; omega)) (by first | omega | (exact R.r _ _) | (simp only [jM.len_sI, jM.len_sL, jM.len_sR, jM.len_fI, jM.len_fL, jM.len_fR]; omega) | (simp [jM.len_nw, jM.len_sI, jM.len_sL, jM.len_sR, jM.len_fI, jM.len_fL, jM.len_fR, *]; omega)) (by first | omega | (exact R.r _ _) | (simp only [jM.len_sI, jM.len_sL, jM.len_sR, jM.len_fI, jM.len_fL, jM.len_fR]; omega) | (simp [jM.len_nw, jM.len_sI, jM.len_sL, jM.len_sR, jM.len_fI, jM.len_fL, jM.len_fR, *]; omega)) rfl rfl ?_ ?_
              · exact fun _ _ h => h
              rintro _ _ ⟨rfl, rfl⟩
              rw [mlA_low]
              refine J.mast (pc' := 196) B rfl rfl rfl rfl (by omega) (by simp only [jLn]; omega) rfl ?_
              first | refine J.aload_n (pc' := 197) rfl rfl rfl ?_ | refine J.aload_nN (pc' := 197) rfl rfl rfl ?_
              refine J.mgR (pc' := 200) (t := 157) B rfl fl_X12_145 rfl rfl (by decide) rfl ?_
              refine J.iconst (pc' := 201) rfl rfl ?_
              refine J.iload (pc' := 203) rfl rfl rfl ?_
              refine J.imul (pc' := 204) rfl rfl ?_
              refine J.iload (pc' := 206) rfl rfl rfl ?_
              refine J.iadd (pc' := 207) rfl rfl ?_
              first | refine J.aload_n (pc' := 208) rfl rfl rfl ?_ | refine J.aload_nN (pc' := 208) rfl rfl rfl ?_
              refine J.iload (pc' := 210) rfl rfl rfl ?_
              refine J.iload (pc' := 212) rfl rfl rfl ?_
              refine J.callV (pc' := 215) (t := 16) rfl MX12_highOfLayer ml_X12_307 iv_X12_highOfLayer (by decide) ⟨_, rfl, rfl⟩ B.1 (cm_highL B (RA.up (fun _ => lb.1)) (by omega) (by omega)) rfl rfl (Nat.le_of_ble_eq_true rfl) (by first | omega | (exact R.r _ _) | (simp only [jM.len_sI, jM.len_sL, jM.len_sR, jM.len_fI, jM.len_fL, jM.len_fR]; omega) | (simp [jM.len_nw, jM.len_sI, jM.len_sL, jM.len_sR, jM.len_fI, jM.len_fL, jM.len_fR, *]; omega)) (by first | omega | (exact R.r _ _) | (simp only [jM.len_sI, jM.len_sL, jM.len_sR, jM.len_fI, jM.len_fL, jM.len_fR]; omega) | (simp [jM.len_nw, jM.len_sI, jM.len_sL, jM.len_sR, jM.len_fI, jM.len_fL, jM.len_fR, *]; omega)) (by first | omega | (exact R.r _ _) | (simp only [jM.len_sI, jM.len_sL, jM.len_sR, jM.len_fI, jM.len_fL, jM.len_fR]; omega) | (simp [jM.len_nw, jM.len_sI, jM.len_sL, jM.len_sR, jM.len_fI, jM.len_fL, jM.len_fR, *]; omega)) rfl rfl ?_ ?_
              · exact fun _ _ h => h
              rintro _ _ ⟨rfl, rfl⟩
              rw [mlA_high]
              refine J.mast (pc' := 216) B rfl rfl rfl rfl (by omega) (by simp only [jLn]; omega) rfl ?_
              refine J.iinc (pc' := 219) rfl rfl rfl (by decide) ?_
              refine J.goto (tgt := 170) rfl rfl ?_
              rw [mlA_s (by omega)]
              exact h9
        refine J.istore (pc' := 125) rfl rfl (by decide) ?_
        refine J.bipush (pc' := 127) rfl rfl (by decide) ?_
        first | refine J.aload_n (pc' := 128) rfl rfl rfl ?_ | refine J.aload_nN (pc' := 128) rfl rfl rfl ?_
        refine J.mgI (pc' := 131) (j := 52) B rfl fl_X12_328 rfl rfl rfl ?_
        refine J.imul (pc' := 132) rfl rfl ?_
        first | refine J.aload_n (pc' := 133) rfl rfl rfl ?_ | refine J.aload_nN (pc' := 133) rfl rfl rfl ?_
        refine J.mgR (pc' := 136) (t := 153) B rfl fl_X12_133 rfl rfl (by decide) rfl ?_
        first | refine J.aload_n (pc' := 137) rfl rfl rfl ?_ | refine J.aload_nN (pc' := 137) rfl rfl rfl ?_
        rw [eM]
        refine J.mgI (pc' := 140) (j := 52) B rfl fl_X12_328 rfl rfl rfl ?_
        rw [eM]
        refine J.mald (pc' := 141) B rfl rfl rfl (by omega) (by simp only [jLn]; omega) rfl ?_
        refine J.iadd (pc' := 142) rfl rfl ?_
        refine J.istore (pc' := 144) rfl rfl (by decide) ?_
        rw [show 20 * M + U 153 M = mlP U by unfold mlP; rw [eM]]
        first | refine J.aload_n (pc' := 145) rfl rfl rfl ?_ | refine J.aload_nN (pc' := 145) rfl rfl rfl ?_
        refine J.mgR (pc' := 148) (t := 154) B rfl fl_X12_136 rfl rfl (by decide) rfl ?_
        refine J.iload (pc' := 150) rfl rfl rfl ?_
        refine J.iload (pc' := 152) rfl rfl rfl ?_
        refine J.mast (pc' := 153) B rfl rfl rfl rfl (by omega) (by simp only [jLn]; omega) rfl ?_
        first | refine J.aload_n (pc' := 154) rfl rfl rfl ?_ | refine J.aload_nN (pc' := 154) rfl rfl rfl ?_
        refine J.mgR (pc' := 157) (t := 155) B rfl fl_X12_139 rfl rfl (by decide) rfl ?_
        refine J.iload (pc' := 159) rfl rfl rfl ?_
        first | refine J.aload_n (pc' := 160) rfl rfl rfl ?_ | refine J.aload_nN (pc' := 160) rfl rfl rfl ?_
        refine J.mgR (pc' := 163) (t := 140) B rfl fl_X12_97 rfl rfl (by decide) rfl ?_
        refine J.iload (pc' := 165) rfl rfl rfl ?_
        refine J.mald (pc' := 166) B rfl rfl rfl (by omega) (by simp only [jLn]; omega) rfl ?_
        refine J.mast (pc' := 167) B rfl rfl rfl rfl (by omega) (by simp only [jLn]; omega) rfl ?_
        refine J.iconst (pc' := 168) rfl rfl ?_
        refine J.istore (pc' := 170) rfl rfl (by decide) ?_
        rw [jU_o _ (by decide)]
        have h9 := met 5 0 (by omega)
        rw [show ((0 : Nat) : Int) = 0 from rfl, mlA_0] at h9
        exact h9
      refine J.bipush (pc' := 88) rfl rfl (by decide) ?_
      refine J.iload_n (pc' := 89) rfl rfl rfl ?_
      refine J.imul (pc' := 90) rfl rfl ?_
      first | refine J.aload_n (pc' := 91) rfl rfl rfl ?_ | refine J.aload_nN (pc' := 91) rfl rfl rfl ?_
      refine J.mgR (pc' := 94) (t := 138) B rfl fl_X12_91 rfl rfl (by decide) rfl ?_
      refine J.iload_n (pc' := 95) rfl rfl rfl ?_
      refine J.mald (pc' := 96) B rfl rfl rfl (by omega) (by simp only [jLn]; omega) rfl ?_
      refine J.iadd (pc' := 97) rfl rfl ?_
      refine J.iconst (pc' := 98) rfl rfl ?_
      refine J.isub (pc' := 99) rfl rfl ?_
      refine J.istore (pc' := 101) rfl rfl (by decide) ?_
      rw [show 41 * (g : Int) + U 138 g - 1 = mlY U g from rfl]
      refine J.iload_n (pc' := 102) rfl rfl rfl ?_
      first | refine J.aload_n (pc' := 103) rfl rfl rfl ?_ | refine J.aload_nN (pc' := 103) rfl rfl rfl ?_
      refine J.mgR (pc' := 106) (t := 139) B rfl fl_X12_94 rfl rfl (by decide) rfl ?_
      refine J.iload (pc' := 108) rfl rfl rfl ?_
      refine J.mald (pc' := 109) B rfl rfl rfl (by omega) (by simp only [jLn]; omega) rfl ?_
      refine J.icmp_ge (tgt := 116) (pc' := 112) rfl rfl rfl (by first | omega | (exact R.r _ _) | (simp only [jM.len_sI, jM.len_sL, jM.len_sR, jM.len_fI, jM.len_fL, jM.len_fR]; omega) | (simp [jM.len_nw, jM.len_sI, jM.len_sL, jM.len_sR, jM.len_fI, jM.len_fL, jM.len_fR, *]; omega)) (by first | omega | (exact R.r _ _) | (simp only [jM.len_sI, jM.len_sL, jM.len_sR, jM.len_fI, jM.len_fL, jM.len_fR]; omega) | (simp [jM.len_nw, jM.len_sI, jM.len_sL, jM.len_sR, jM.len_fI, jM.len_fL, jM.len_fR, *]; omega)) (fun c2 => ?_) (fun c2 => ?_)
      · first | refine J.aload_n (pc' := 117) rfl rfl rfl ?_ | refine J.aload_nN (pc' := 117) rfl rfl rfl ?_
        refine J.mgR (pc' := 120) (t := 139) B rfl fl_X12_94 rfl rfl (by decide) rfl ?_
        refine J.iload (pc' := 122) rfl rfl rfl ?_
        refine J.mald (pc' := 123) B rfl rfl rfl (by omega) (by simp only [jLn]; omega) rfl ?_
        exact at123 _ (by unfold mlT; rw [if_neg (by omega)])
      · refine J.iload_n (pc' := 113) rfl rfl rfl ?_
        refine J.goto (tgt := 123) rfl rfl ?_
        exact at123 _ (by unfold mlT; rw [if_pos (by omega)])
theorem scr.tons {W : VV} (h : scr W V) (g : Int) : tonsOf W g = tonsOf V g := scr_tonsOf h g
set_option maxHeartbeats 1000000 in
theorem cm_melt {n : Int} (B : isB β) (R : isR V) (T : isT V) (hn : r32 n) : CT γ mX12_melt 4 0 0 [.ref (β.2 16), .int (jI n)] (jP β V) (meltQ β (jU V 16 0 0) n) X0 := by
  have T : isT (jU V 16 0 0) := T
  refine CT.of MX12_melt (Nat.le_of_ble_eq_true rfl) ?_
  show J γ mX12_melt 4 0 0 0 0 (jP β V) 0 [(0, .ref (β.2 16)), (1, .int (jI n))] [] _ _
  first | refine J.aload_n (pc' := 1) rfl rfl rfl ?_ | refine J.aload_nN (pc' := 1) rfl rfl rfl ?_
  refine J.iconst (pc' := 2) rfl rfl ?_
  refine J.mpI (pc' := 5) (j := 0) B rfl fl_X12_1 rfl rfl rfl rfl ?_
  have h0 := jU_same V 16 0 0
  replace R : isR (jU V 16 0 0) := R.up (fun _ => by decide)
  generalize jU V 16 0 0 = V at h0 R T ⊢
  have hf := R.f
  have rest : (1 ≤ n ∧ n ≤ 20) → J γ mX12_melt 4 0 0 0 0 (jP β V) 31 [(0, .ref (β.2 16)), (1, .int (jI n))] [] (meltQ β V n) X0 := by
    intro q
    unfold meltQ
    simp only [if_pos q]
    have bok := bestP_ok (n := n) R (by omega)
    first | refine J.aload_n (pc' := 32) rfl rfl rfl ?_ | refine J.aload_nN (pc' := 32) rfl rfl rfl ?_
    refine J.iload_n (pc' := 33) rfl rfl rfl ?_
    refine J.callV (pc' := 36) (t := 16) rfl MX12_findBest ml_X12_325 iv_X12_findBest (by decide) ⟨_, rfl, rfl⟩ B.1 (cm_findBest B R T q) rfl rfl (Nat.le_of_ble_eq_true rfl) (by first | omega | (exact R.r _ _) | (simp only [jM.len_sI, jM.len_sL, jM.len_sR, jM.len_fI, jM.len_fL, jM.len_fR]; omega) | (simp [jM.len_nw, jM.len_sI, jM.len_sL, jM.len_sR, jM.len_fI, jM.len_fL, jM.len_fR, *]; omega)) (by first | omega | (exact R.r _ _) | (simp only [jM.len_sI, jM.len_sL, jM.len_sR, jM.len_fI, jM.len_fL, jM.len_fR]; omega) | (simp [jM.len_nw, jM.len_sI, jM.len_sL, jM.len_sR, jM.len_fI, jM.len_fL, jM.len_fR, *]; omega)) (by first | omega | (exact R.r _ _) | (simp only [jM.len_sI, jM.len_sL, jM.len_sR, jM.len_fI, jM.len_fL, jM.len_fR]; omega) | (simp [jM.len_nw, jM.len_sI, jM.len_sL, jM.len_sR, jM.len_fI, jM.len_fL, jM.len_fR, *]; omega)) rfl rfl ?_ ?_
    · exact fun _ _ h => h
    rintro _ _ ⟨rfl, W, w1, w2, w3, w4, rfl⟩
    generalize bestP V n = b at bok w3 w4 ⊢
    have e52 : W 16 52 = V 16 52 := w2 16 52 (by omega)
    refine J.ldc2 (pc' := 39) (z := -1) (v := -1) rfl (List.mem_of_getElem? (i := 1827) (by decide +kernel)) (by decide) rfl ?_
    refine J.lcmp (pc' := 40) rfl rfl (by first | omega | (exact R.r _ _) | (simp only [jM.len_sI, jM.len_sL, jM.len_sR, jM.len_fI, jM.len_fL, jM.len_fR]; omega) | (simp [jM.len_nw, jM.len_sI, jM.len_sL, jM.len_sR, jM.len_fI, jM.len_fL, jM.len_fR, *]; omega)) (by first | omega | (exact R.r _ _) | (simp only [jM.len_sI, jM.len_sL, jM.len_sR, jM.len_fI, jM.len_fL, jM.len_fR]; omega) | (simp [jM.len_nw, jM.len_sI, jM.len_sL, jM.len_sR, jM.len_fI, jM.len_fL, jM.len_fR, *]; omega)) ?_
    by_cases e : b.1 = -1
    · rw [if_neg (by omega), if_pos e]
      refine J.if_ne (tgt := 45) (pc' := 43) rfl rfl rfl (by first | omega | (exact R.r _ _) | (simp only [jM.len_sI, jM.len_sL, jM.len_sR, jM.len_fI, jM.len_fL, jM.len_fR]; omega) | (simp [jM.len_nw, jM.len_sI, jM.len_sL, jM.len_sR, jM.len_fI, jM.len_fL, jM.len_fR, *]; omega)) (fun c1 => ?_) (fun c1 => ?_)
      · omega
      · refine J.iconst (pc' := 44) rfl rfl ?_
        refine J.iret rfl rfl (by first | omega | (exact R.r _ _) | (simp only [jM.len_sI, jM.len_sL, jM.len_sR, jM.len_fI, jM.len_fL, jM.len_fR]; omega) | (simp [jM.len_nw, jM.len_sI, jM.len_sL, jM.len_sR, jM.len_fI, jM.len_fL, jM.len_fR, *]; omega)) (by first | omega | (exact R.r _ _) | (simp only [jM.len_sI, jM.len_sL, jM.len_sR, jM.len_fI, jM.len_fL, jM.len_fR]; omega) | (simp [jM.len_nw, jM.len_sI, jM.len_sL, jM.len_sR, jM.len_fI, jM.len_fL, jM.len_fR, *]; omega)) ?_
        exact ⟨W, w1, w2, by rw [if_pos e]; exact ⟨rfl, rfl⟩⟩
    · rw [if_pos (by omega)]
      have e2 : ∀ j, 0 ≤ j → j < 6 → W 150 j = b.2 j := by
        rcases w3 with z | z
        · exact absurd z e
        · exact z
      have bk : Sm b.2 6 = n ∧ ∀ j, 0 ≤ j → j < 6 → 0 ≤ b.2 j ∧ b.2 j ≤ mostP V n j := by
        rcases bok with z | z
        · exact absurd z e
        · exact z
      refine J.if_ne (tgt := 45) (pc' := 43) rfl rfl rfl (by first | omega | (exact R.r _ _) | (simp only [jM.len_sI, jM.len_sL, jM.len_sR, jM.len_fI, jM.len_fL, jM.len_fR]; omega) | (simp [jM.len_nw, jM.len_sI, jM.len_sL, jM.len_sR, jM.len_fI, jM.len_fL, jM.len_fR, *]; omega)) (fun c1 => ?_) (fun c1 => ?_)
      · first | refine J.aload_n (pc' := 46) rfl rfl rfl ?_ | refine J.aload_nN (pc' := 46) rfl rfl rfl ?_
        refine J.mgI (pc' := 49) (j := 52) B rfl fl_X12_328 rfl rfl rfl ?_
        rw [e52]
        refine J.bipush (pc' := 51) rfl rfl (by decide) ?_
        refine J.icmp_ne (tgt := 57) (pc' := 54) rfl rfl rfl (by first | omega | (exact R.r _ _) | (simp only [jM.len_sI, jM.len_sL, jM.len_sR, jM.len_fI, jM.len_fL, jM.len_fR]; omega) | (simp [jM.len_nw, jM.len_sI, jM.len_sL, jM.len_sR, jM.len_fI, jM.len_fL, jM.len_fR, *]; omega)) (by first | omega | (exact R.r _ _) | (simp only [jM.len_sI, jM.len_sL, jM.len_sR, jM.len_fI, jM.len_fL, jM.len_fR]; omega) | (simp [jM.len_nw, jM.len_sI, jM.len_sL, jM.len_sR, jM.len_fI, jM.len_fL, jM.len_fR, *]; omega)) (fun c2 => ?_) (fun c2 => ?_)
        · first | refine J.aload_n (pc' := 58) rfl rfl rfl ?_ | refine J.aload_nN (pc' := 58) rfl rfl rfl ?_
          refine J.mgR (pc' := 61) (t := 153) B rfl fl_X12_133 rfl rfl (by decide) rfl ?_
          first | refine J.aload_n (pc' := 62) rfl rfl rfl ?_ | refine J.aload_nN (pc' := 62) rfl rfl rfl ?_
          refine J.mgI (pc' := 65) (j := 52) B rfl fl_X12_328 rfl rfl rfl ?_
          rw [e52]
          refine J.iconst (pc' := 66) rfl rfl ?_
          refine J.mast (pc' := 67) B rfl rfl rfl rfl (by omega) (by simp only [jLn]; omega) rfl ?_
          refine J.iconst (pc' := 68) rfl rfl ?_
          refine J.istore_n (pc' := 69) rfl rfl (by decide) ?_
          have TW : isT W := fun g j a1 a2 a3 a4 => by
            rw [w2 138 _ (by omega)] at a4
            rw [w2 139 _ (by omega)]
            exact T g j a1 a2 a3 a4
          obtain ⟨U, hU⟩ : ∃ U, U = jU W 153 (V 16 52) 0 := ⟨_, rfl⟩
          have IU : mlI U (V 16 52) := by
            rw [hU]
            exact ⟨w1.up (fun _ => by show (0 : Int) ≤ 0 ∧ (0 : Int) ≤ 20; decide), TW, e52⟩
          have u50 : ∀ j, U 150 j = W 150 j := fun j => by rw [hU]; rfl
          have uto : ∀ j, tonsOf U j = tonsOf V j := fun j => by rw [hU, ← scr_tonsOf w2]; rfl
          have u53 : U 153 (V 16 52) = 0 := by rw [hU, jU_same]
          have inv := mlH_inv (bt := b.2) IU (fun j j1 j2 => by rw [uto]; have := bk.2 j j1 j2; unfold mostP at this; omega) (by omega) u53
          rw [← hU]
          have key : ∀ (m g : Nat), g + m = 6 → ∀ lv, hasL lv [(0, .ref (β.2 16)), (1, .int (jI n)), (2, .int (jI (g : Int)))] → J γ mX12_melt 4 0 0 0 0 (jP β (mlH U b.2 g)) 69 lv [] (fun r h' => ∃ W, isR W ∧ scr W V ∧ (if b.1 = -1 then r = some (.int (jI (-1))) ∧ h' = jP β W else if V 16 52 = 30 then r = some (.int (jI (-2))) ∧ h' = jP β W else r = some (.int (jI (V 16 52))) ∧ h' = jP β (jU (mlH (jU W 153 (V 16 52) 0) b.2 6) 16 52 (V 16 52 + 1)))) X0 := by
            intro m
            induction m with
            | zero =>
              intro g hg lv hlv
              have eg : g = 6 := by omega
              subst eg
              have i6 := inv 6 (by omega)
              refine J.lc hlv ?_
              refine J.iload_n (pc' := 70) rfl rfl rfl ?_
              refine J.bipush (pc' := 72) rfl rfl (by decide) ?_
              refine J.icmp_ge (tgt := 281) (pc' := 75) rfl rfl rfl (by first | omega | (exact R.r _ _) | (simp only [jM.len_sI, jM.len_sL, jM.len_sR, jM.len_fI, jM.len_fL, jM.len_fR]; omega) | (simp [jM.len_nw, jM.len_sI, jM.len_sL, jM.len_sR, jM.len_fI, jM.len_fL, jM.len_fR, *]; omega)) (by first | omega | (exact R.r _ _) | (simp only [jM.len_sI, jM.len_sL, jM.len_sR, jM.len_fI, jM.len_fL, jM.len_fR]; omega) | (simp [jM.len_nw, jM.len_sI, jM.len_sL, jM.len_sR, jM.len_fI, jM.len_fL, jM.len_fR, *]; omega)) (fun c3 => ?_) (fun c3 => ?_)
              · first | refine J.aload_n (pc' := 282) rfl rfl rfl ?_ | refine J.aload_nN (pc' := 282) rfl rfl rfl ?_
                refine J.dup (pc' := 283) rfl rfl rfl ?_
                refine J.mgI (pc' := 286) (j := 52) B rfl fl_X12_328 rfl rfl rfl ?_
                rw [i6.1.2.2]
                refine J.iconst (pc' := 287) rfl rfl ?_
                refine J.iadd (pc' := 288) rfl rfl ?_
                refine J.mpI (pc' := 291) (j := 52) B rfl fl_X12_328 rfl rfl rfl rfl ?_
                first | refine J.aload_n (pc' := 292) rfl rfl rfl ?_ | refine J.aload_nN (pc' := 292) rfl rfl rfl ?_
                refine J.mgI (pc' := 295) (j := 52) B rfl fl_X12_328 rfl rfl rfl ?_
                rw [jU_same]
                refine J.iconst (pc' := 296) rfl rfl ?_
                refine J.isub (pc' := 297) rfl rfl ?_
                refine J.iret rfl rfl (by first | omega | (exact R.r _ _) | (simp only [jM.len_sI, jM.len_sL, jM.len_sR, jM.len_fI, jM.len_fL, jM.len_fR]; omega) | (simp [jM.len_nw, jM.len_sI, jM.len_sL, jM.len_sR, jM.len_fI, jM.len_fL, jM.len_fR, *]; omega)) (by first | omega | (exact R.r _ _) | (simp only [jM.len_sI, jM.len_sL, jM.len_sR, jM.len_fI, jM.len_fL, jM.len_fR]; omega) | (simp [jM.len_nw, jM.len_sI, jM.len_sL, jM.len_sR, jM.len_fI, jM.len_fL, jM.len_fR, *]; omega)) ?_
                refine ⟨W, w1, w2, ?_⟩
                rw [if_neg e, if_neg c2, ← hU]
                exact ⟨by rw [show V 16 52 + 1 - 1 = V 16 52 by omega], rfl⟩
              · omega
            | succ m ih =>
              intro g hg lv hlv
              have ig := inv g (by omega)
              have h9 := bk.2 g (by omega) (by omega)
              have hs1 := (inv (g + 1) (by omega)).2.2.2.2
              rw [Sm] at hs1
              refine J.lc hlv ?_
              refine J.iload_n (pc' := 70) rfl rfl rfl ?_
              refine J.bipush (pc' := 72) rfl rfl (by decide) ?_
              refine J.icmp_ge (tgt := 281) (pc' := 75) rfl rfl rfl (by first | omega | (exact R.r _ _) | (simp only [jM.len_sI, jM.len_sL, jM.len_sR, jM.len_fI, jM.len_fL, jM.len_fR]; omega) | (simp [jM.len_nw, jM.len_sI, jM.len_sL, jM.len_sR, jM.len_fI, jM.len_fL, jM.len_fR, *]; omega)) (by first | omega | (exact R.r _ _) | (simp only [jM.len_sI, jM.len_sL, jM.len_sR, jM.len_fI, jM.len_fL, jM.len_fR]; omega) | (simp [jM.len_nw, jM.len_sI, jM.len_sL, jM.len_sR, jM.len_fI, jM.len_fL, jM.len_fR, *]; omega)) (fun c3 => ?_) (fun c3 => ?_)
              · omega
              · first | refine J.aload_n (pc' := 76) rfl rfl rfl ?_ | refine J.aload_nN (pc' := 76) rfl rfl rfl ?_
                refine J.mgR (pc' := 79) (t := 150) B rfl fl_X12_127 rfl rfl (by decide) rfl ?_
                refine J.iload_n (pc' := 80) rfl rfl rfl ?_
                refine J.mald (pc' := 81) B rfl rfl rfl (by omega) (by simp only [jLn]; omega) rfl ?_
                rw [ig.2.2.2.1, u50, e2 g (by omega) (by omega)]
                refine J.istore_n (pc' := 82) rfl rfl (by decide) ?_
                refine ml_loop B g (by omega) (M := V 16 52) (by omega) (b.2 g).toNat _ _ (by omega) (by omega) ig.1 (by rw [ig.2.2.1 g (by omega) (by omega), uto]; unfold mostP at h9; omega) (by omega) (fun lv' hlv' => ?_) _ ⟨rfl, rfl, rfl, rfl, trivial⟩
                refine J.lc hlv' ?_
                refine J.iinc (pc' := 278) rfl rfl rfl (by decide) ?_
                refine J.goto (tgt := 69) rfl rfl ?_
                exact ih (g + 1) (by omega) _ ⟨rfl, rfl, rfl, trivial⟩
          exact key 6 0 (by omega) _ ⟨rfl, rfl, rfl, trivial⟩
        · refine J.bipush (pc' := 56) rfl rfl (by decide) ?_
          refine J.iret rfl rfl (by first | omega | (exact R.r _ _) | (simp only [jM.len_sI, jM.len_sL, jM.len_sR, jM.len_fI, jM.len_fL, jM.len_fR]; omega) | (simp [jM.len_nw, jM.len_sI, jM.len_sL, jM.len_sR, jM.len_fI, jM.len_fL, jM.len_fR, *]; omega)) (by first | omega | (exact R.r _ _) | (simp only [jM.len_sI, jM.len_sL, jM.len_sR, jM.len_fI, jM.len_fL, jM.len_fR]; omega) | (simp [jM.len_nw, jM.len_sI, jM.len_sL, jM.len_sR, jM.len_fI, jM.len_fL, jM.len_fR, *]; omega)) ?_
          exact ⟨W, w1, w2, by rw [if_neg e, if_pos (by omega)]; exact ⟨rfl, rfl⟩⟩
      · omega
  first | refine J.aload_n (pc' := 6) rfl rfl rfl ?_ | refine J.aload_nN (pc' := 6) rfl rfl rfl ?_
  refine J.iload_n (pc' := 7) rfl rfl rfl ?_
  refine J.iconst (pc' := 8) rfl rfl ?_
  refine J.icmp_lt (tgt := 21) (pc' := 11) rfl rfl rfl (by first | omega | (exact R.r _ _) | (simp only [jM.len_sI, jM.len_sL, jM.len_sR, jM.len_fI, jM.len_fL, jM.len_fR]; omega) | (simp [jM.len_nw, jM.len_sI, jM.len_sL, jM.len_sR, jM.len_fI, jM.len_fL, jM.len_fR, *]; omega)) (by first | omega | (exact R.r _ _) | (simp only [jM.len_sI, jM.len_sL, jM.len_sR, jM.len_fI, jM.len_fL, jM.len_fR]; omega) | (simp [jM.len_nw, jM.len_sI, jM.len_sL, jM.len_sR, jM.len_fI, jM.len_fL, jM.len_fR, *]; omega)) (fun c8 => ?_) (fun c8 => ?_)
  · first
    | (exfalso; omega)
    | (refine J.iconst (pc' := 22) rfl rfl ?_
       refine J.iconst (pc' := 23) rfl rfl ?_
       first | refine J.callV (pc' := 26) (t := 16) rfl MX12_may ml_X12_161 iv_X12_may (by decide) ⟨_, rfl, rfl⟩ B.1 (cm_may1 B h0) rfl rfl (Nat.le_of_ble_eq_true rfl) (by first | omega | (exact R.r _ _) | (simp only [jM.len_sI, jM.len_sL, jM.len_sR, jM.len_fI, jM.len_fL, jM.len_fR]; omega) | (simp [jM.len_nw, jM.len_sI, jM.len_sL, jM.len_sR, jM.len_fI, jM.len_fL, jM.len_fR, *]; omega)) (by first | omega | (exact R.r _ _) | (simp only [jM.len_sI, jM.len_sL, jM.len_sR, jM.len_fI, jM.len_fL, jM.len_fR]; omega) | (simp [jM.len_nw, jM.len_sI, jM.len_sL, jM.len_sR, jM.len_fI, jM.len_fL, jM.len_fR, *]; omega)) (by first | omega | (exact R.r _ _) | (simp only [jM.len_sI, jM.len_sL, jM.len_sR, jM.len_fI, jM.len_fL, jM.len_fR]; omega) | (simp [jM.len_nw, jM.len_sI, jM.len_sL, jM.len_sR, jM.len_fI, jM.len_fL, jM.len_fR, *]; omega)) rfl rfl ?_ ?_ | refine J.callV (pc' := 26) (t := 16) rfl MX12_may ml_X12_161 iv_X12_may (by decide) ⟨_, rfl, rfl⟩ B.1 (cm_may0 B h0 (by omega)) rfl rfl (Nat.le_of_ble_eq_true rfl) (by first | omega | (exact R.r _ _) | (simp only [jM.len_sI, jM.len_sL, jM.len_sR, jM.len_fI, jM.len_fL, jM.len_fR]; omega) | (simp [jM.len_nw, jM.len_sI, jM.len_sL, jM.len_sR, jM.len_fI, jM.len_fL, jM.len_fR, *]; omega)) (by first | omega | (exact R.r _ _) | (simp only [jM.len_sI, jM.len_sL, jM.len_sR, jM.len_fI, jM.len_fL, jM.len_fR]; omega) | (simp [jM.len_nw, jM.len_sI, jM.len_sL, jM.len_sR, jM.len_fI, jM.len_fL, jM.len_fR, *]; omega)) (by first | omega | (exact R.r _ _) | (simp only [jM.len_sI, jM.len_sL, jM.len_sR, jM.len_fI, jM.len_fL, jM.len_fR]; omega) | (simp [jM.len_nw, jM.len_sI, jM.len_sL, jM.len_sR, jM.len_fI, jM.len_fL, jM.len_fR, *]; omega)) rfl rfl ?_ ?_
       · exact fun _ _ h => h
       rintro _ _ ⟨rfl, rfl⟩
       refine J.if_ne (tgt := 31) (pc' := 29) rfl rfl rfl (by first | omega | (exact R.r _ _) | (simp only [jM.len_sI, jM.len_sL, jM.len_sR, jM.len_fI, jM.len_fL, jM.len_fR]; omega) | (simp [jM.len_nw, jM.len_sI, jM.len_sL, jM.len_sR, jM.len_fI, jM.len_fL, jM.len_fR, *]; omega)) (fun c26 => ?_) (fun c26 => ?_)
       · first
         | (exfalso; omega)
         | (exact rest (by omega))
       · first
         | (exfalso; omega)
         | (refine J.iconst (pc' := 30) rfl rfl ?_
            refine J.iret rfl rfl (by first | omega | (exact R.r _ _) | (simp only [jM.len_sI, jM.len_sL, jM.len_sR, jM.len_fI, jM.len_fL, jM.len_fR]; omega) | (simp [jM.len_nw, jM.len_sI, jM.len_sL, jM.len_sR, jM.len_fI, jM.len_fL, jM.len_fR, *]; omega)) (by first | omega | (exact R.r _ _) | (simp only [jM.len_sI, jM.len_sL, jM.len_sR, jM.len_fI, jM.len_fL, jM.len_fR]; omega) | (simp [jM.len_nw, jM.len_sI, jM.len_sL, jM.len_sR, jM.len_fI, jM.len_fL, jM.len_fR, *]; omega)) ?_
            unfold meltQ
            rw [if_neg (by omega)]
            exact ⟨rfl, rfl⟩))
  · first
    | (exfalso; omega)
    | (refine J.iload_n (pc' := 12) rfl rfl rfl ?_
       refine J.bipush (pc' := 14) rfl rfl (by decide) ?_
       refine J.icmp_gt (tgt := 21) (pc' := 17) rfl rfl rfl (by first | omega | (exact R.r _ _) | (simp only [jM.len_sI, jM.len_sL, jM.len_sR, jM.len_fI, jM.len_fL, jM.len_fR]; omega) | (simp [jM.len_nw, jM.len_sI, jM.len_sL, jM.len_sR, jM.len_fI, jM.len_fL, jM.len_fR, *]; omega)) (by first | omega | (exact R.r _ _) | (simp only [jM.len_sI, jM.len_sL, jM.len_sR, jM.len_fI, jM.len_fL, jM.len_fR]; omega) | (simp [jM.len_nw, jM.len_sI, jM.len_sL, jM.len_sR, jM.len_fI, jM.len_fL, jM.len_fR, *]; omega)) (fun c14 => ?_) (fun c14 => ?_)
       · first
         | (exfalso; omega)
         | (refine J.iconst (pc' := 22) rfl rfl ?_
            refine J.iconst (pc' := 23) rfl rfl ?_
            first | refine J.callV (pc' := 26) (t := 16) rfl MX12_may ml_X12_161 iv_X12_may (by decide) ⟨_, rfl, rfl⟩ B.1 (cm_may1 B h0) rfl rfl (Nat.le_of_ble_eq_true rfl) (by first | omega | (exact R.r _ _) | (simp only [jM.len_sI, jM.len_sL, jM.len_sR, jM.len_fI, jM.len_fL, jM.len_fR]; omega) | (simp [jM.len_nw, jM.len_sI, jM.len_sL, jM.len_sR, jM.len_fI, jM.len_fL, jM.len_fR, *]; omega)) (by first | omega | (exact R.r _ _) | (simp only [jM.len_sI, jM.len_sL, jM.len_sR, jM.len_fI, jM.len_fL, jM.len_fR]; omega) | (simp [jM.len_nw, jM.len_sI, jM.len_sL, jM.len_sR, jM.len_fI, jM.len_fL, jM.len_fR, *]; omega)) (by first | omega | (exact R.r _ _) | (simp only [jM.len_sI, jM.len_sL, jM.len_sR, jM.len_fI, jM.len_fL, jM.len_fR]; omega) | (simp [jM.len_nw, jM.len_sI, jM.len_sL, jM.len_sR, jM.len_fI, jM.len_fL, jM.len_fR, *]; omega)) rfl rfl ?_ ?_ | refine J.callV (pc' := 26) (t := 16) rfl MX12_may ml_X12_161 iv_X12_may (by decide) ⟨_, rfl, rfl⟩ B.1 (cm_may0 B h0 (by omega)) rfl rfl (Nat.le_of_ble_eq_true rfl) (by first | omega | (exact R.r _ _) | (simp only [jM.len_sI, jM.len_sL, jM.len_sR, jM.len_fI, jM.len_fL, jM.len_fR]; omega) | (simp [jM.len_nw, jM.len_sI, jM.len_sL, jM.len_sR, jM.len_fI, jM.len_fL, jM.len_fR, *]; omega)) (by first | omega | (exact R.r _ _) | (simp only [jM.len_sI, jM.len_sL, jM.len_sR, jM.len_fI, jM.len_fL, jM.len_fR]; omega) | (simp [jM.len_nw, jM.len_sI, jM.len_sL, jM.len_sR, jM.len_fI, jM.len_fL, jM.len_fR, *]; omega)) (by first | omega | (exact R.r _ _) | (simp only [jM.len_sI, jM.len_sL, jM.len_sR, jM.len_fI, jM.len_fL, jM.len_fR]; omega) | (simp [jM.len_nw, jM.len_sI, jM.len_sL, jM.len_sR, jM.len_fI, jM.len_fL, jM.len_fR, *]; omega)) rfl rfl ?_ ?_
            · exact fun _ _ h => h
            rintro _ _ ⟨rfl, rfl⟩
            refine J.if_ne (tgt := 31) (pc' := 29) rfl rfl rfl (by first | omega | (exact R.r _ _) | (simp only [jM.len_sI, jM.len_sL, jM.len_sR, jM.len_fI, jM.len_fL, jM.len_fR]; omega) | (simp [jM.len_nw, jM.len_sI, jM.len_sL, jM.len_sR, jM.len_fI, jM.len_fL, jM.len_fR, *]; omega)) (fun c26 => ?_) (fun c26 => ?_)
            · first
              | (exfalso; omega)
              | (exact rest (by omega))
            · first
              | (exfalso; omega)
              | (refine J.iconst (pc' := 30) rfl rfl ?_
                 refine J.iret rfl rfl (by first | omega | (exact R.r _ _) | (simp only [jM.len_sI, jM.len_sL, jM.len_sR, jM.len_fI, jM.len_fL, jM.len_fR]; omega) | (simp [jM.len_nw, jM.len_sI, jM.len_sL, jM.len_sR, jM.len_fI, jM.len_fL, jM.len_fR, *]; omega)) (by first | omega | (exact R.r _ _) | (simp only [jM.len_sI, jM.len_sL, jM.len_sR, jM.len_fI, jM.len_fL, jM.len_fR]; omega) | (simp [jM.len_nw, jM.len_sI, jM.len_sL, jM.len_sR, jM.len_fI, jM.len_fL, jM.len_fR, *]; omega)) ?_
                 unfold meltQ
                 rw [if_neg (by omega)]
                 exact ⟨rfl, rfl⟩))
       · first
         | (exfalso; omega)
         | (refine J.iconst (pc' := 18) rfl rfl ?_
            refine J.goto (tgt := 22) rfl rfl ?_
            refine J.iconst (pc' := 23) rfl rfl ?_
            first | refine J.callV (pc' := 26) (t := 16) rfl MX12_may ml_X12_161 iv_X12_may (by decide) ⟨_, rfl, rfl⟩ B.1 (cm_may1 B h0) rfl rfl (Nat.le_of_ble_eq_true rfl) (by first | omega | (exact R.r _ _) | (simp only [jM.len_sI, jM.len_sL, jM.len_sR, jM.len_fI, jM.len_fL, jM.len_fR]; omega) | (simp [jM.len_nw, jM.len_sI, jM.len_sL, jM.len_sR, jM.len_fI, jM.len_fL, jM.len_fR, *]; omega)) (by first | omega | (exact R.r _ _) | (simp only [jM.len_sI, jM.len_sL, jM.len_sR, jM.len_fI, jM.len_fL, jM.len_fR]; omega) | (simp [jM.len_nw, jM.len_sI, jM.len_sL, jM.len_sR, jM.len_fI, jM.len_fL, jM.len_fR, *]; omega)) (by first | omega | (exact R.r _ _) | (simp only [jM.len_sI, jM.len_sL, jM.len_sR, jM.len_fI, jM.len_fL, jM.len_fR]; omega) | (simp [jM.len_nw, jM.len_sI, jM.len_sL, jM.len_sR, jM.len_fI, jM.len_fL, jM.len_fR, *]; omega)) rfl rfl ?_ ?_ | refine J.callV (pc' := 26) (t := 16) rfl MX12_may ml_X12_161 iv_X12_may (by decide) ⟨_, rfl, rfl⟩ B.1 (cm_may0 B h0 (by omega)) rfl rfl (Nat.le_of_ble_eq_true rfl) (by first | omega | (exact R.r _ _) | (simp only [jM.len_sI, jM.len_sL, jM.len_sR, jM.len_fI, jM.len_fL, jM.len_fR]; omega) | (simp [jM.len_nw, jM.len_sI, jM.len_sL, jM.len_sR, jM.len_fI, jM.len_fL, jM.len_fR, *]; omega)) (by first | omega | (exact R.r _ _) | (simp only [jM.len_sI, jM.len_sL, jM.len_sR, jM.len_fI, jM.len_fL, jM.len_fR]; omega) | (simp [jM.len_nw, jM.len_sI, jM.len_sL, jM.len_sR, jM.len_fI, jM.len_fL, jM.len_fR, *]; omega)) (by first | omega | (exact R.r _ _) | (simp only [jM.len_sI, jM.len_sL, jM.len_sR, jM.len_fI, jM.len_fL, jM.len_fR]; omega) | (simp [jM.len_nw, jM.len_sI, jM.len_sL, jM.len_sR, jM.len_fI, jM.len_fL, jM.len_fR, *]; omega)) rfl rfl ?_ ?_
            · exact fun _ _ h => h
            rintro _ _ ⟨rfl, rfl⟩
            refine J.if_ne (tgt := 31) (pc' := 29) rfl rfl rfl (by first | omega | (exact R.r _ _) | (simp only [jM.len_sI, jM.len_sL, jM.len_sR, jM.len_fI, jM.len_fL, jM.len_fR]; omega) | (simp [jM.len_nw, jM.len_sI, jM.len_sL, jM.len_sR, jM.len_fI, jM.len_fL, jM.len_fR, *]; omega)) (fun c26 => ?_) (fun c26 => ?_)
            · first
              | (exfalso; omega)
              | (exact rest (by omega))
            · first
              | (exfalso; omega)
              | (refine J.iconst (pc' := 30) rfl rfl ?_
                 refine J.iret rfl rfl (by first | omega | (exact R.r _ _) | (simp only [jM.len_sI, jM.len_sL, jM.len_sR, jM.len_fI, jM.len_fL, jM.len_fR]; omega) | (simp [jM.len_nw, jM.len_sI, jM.len_sL, jM.len_sR, jM.len_fI, jM.len_fL, jM.len_fR, *]; omega)) (by first | omega | (exact R.r _ _) | (simp only [jM.len_sI, jM.len_sL, jM.len_sR, jM.len_fI, jM.len_fL, jM.len_fR]; omega) | (simp [jM.len_nw, jM.len_sI, jM.len_sL, jM.len_sR, jM.len_fI, jM.len_fL, jM.len_fR, *]; omega)) ?_
                 unfold meltQ
                 rw [if_neg (by omega)]
                 exact ⟨rfl, rfl⟩)))
end M15

