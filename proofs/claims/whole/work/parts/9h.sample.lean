section SM
variable {γ : jG} {h h' : jM} {S : Nat → Prop} {ρ σ : Nat → Nat} {x : Nat} {ks ss cs ls ms : List Nat} {V V' : VV} {l m lo hi : Int}
theorem lP_b (R : isR V) (l : Int) (i : Nat) : 0 ≤ lP V l i ∧ lP V l i ≤ 10000 := by
  have h1 : ∀ j, 0 ≤ V 134 j ∧ V 134 j ≤ 10000 := fun j => R 134 j rfl
  have h2 : ∀ j, 0 ≤ V 135 j ∧ V 135 j ≤ 10000 := fun j => R 135 j rfl
  unfold lP
  split
  · exact h1 _
  · exact h2 _
theorem yP_bd (R : isR V) (y : Int) (i : Nat) : 0 ≤ yP V y i ∧ yP V y i ≤ 10000 := by
  have h1 : ∀ j, 0 ≤ V 142 j ∧ V 142 j ≤ 10000 := fun j => R 142 j rfl
  have h2 : ∀ j, 0 ≤ V 143 j ∧ V 143 j ≤ 10000 := fun j => R 143 j rfl
  by_cases z : V 140 y = -1
  · rw [yP_eq' z]
    unfold evP
    split
    · exact h1 _
    · exact h2 _
  · rw [yP_eq z]
    exact lP_b R _ _
set_option maxHeartbeats 1000000 in
theorem cf_smL {mc ms' c1 c2 : Nat} {z : Nat} {q : Nat → Nat × Nat × Nat × List Nat} {Q : Option Value → jM → Prop} {X : String → jM → Prop} (hc1 : c1 ≤ mc) (hc2 : c2 ≤ ms') (R : isR V) (hm : 0 ≤ m ∧ m < 5) (hl : 0 ≤ l) (hlo : r32 lo) (hhi : r32 hi) (tx : h.tag x = 15) (rx : h.R 15 x 5 = some (ρ 5)) (t5 : h.tag (ρ 5) = 33) (l5 : h.len (ρ 5) = 6) (hq : ∀ g : Nat, g < 6 → h.R 33 (ρ 5) g = some (q g).1 ∧ hepE γ h ls V g (q g).1 (q g).2.1 (q g).2.2.1 (q g).2.2.2) (hz : ∀ v, -1 ≤ v → (ldR ls v = some z ↔ v = l)) (fin : ∀ k, Fr h k (fun b => 7010 ≤ kd h b ∧ kd h b < 7016) → (∀ g : Nat, g < 6 → hepE γ k ls (smW V l m lo hi) g (q g).1 (q g).2.1 (q g).2.2.1 (q g).2.2.2) → ∀ lv, hasL lv [(5, .ref z)] → J γ mX11_sample 8 mc ms' c1 c2 k 78 lv [] Q X) :
    ∀ (n j : Nat), j + n = 6 → ∀ k, Fr h k (fun b => 7010 ≤ kd h b ∧ kd h b < 7016) → (∀ g : Nat, g < 6 → hepE γ k ls (if g < j then smW V l m lo hi else V) g (q g).1 (q g).2.1 (q g).2.2.1 (q g).2.2.2) → ∀ lv, hasL lv [(0, .ref x), (2, .int (jI m)), (3, .int (jI lo)), (4, .int (jI hi)), (5, .ref z), (6, .int (jI (j : Int)))] → J γ mX11_sample 8 mc ms' c1 c2 k 49 lv [] Q X := by
  intro n
  induction n with
  | zero =>
    intro j hj k F hk lv hlv
    refine J.lc hlv ?_
    refine J.iload (pc' := 51) rfl rfl rfl ?_
    refine J.bipush (pc' := 53) rfl rfl (by decide) ?_
    refine J.icmp_ge (tgt := 78) (pc' := 56) rfl rfl rfl (by first | omega | (exact R.r _ _) | (simp only [jM.len_sI, jM.len_sL, jM.len_sR, jM.len_fI, jM.len_fL, jM.len_fR]; omega) | (simp [jM.len_nw, jM.len_sI, jM.len_sL, jM.len_sR, jM.len_fI, jM.len_fL, jM.len_fR, *]; omega)) (by first | omega | (exact R.r _ _) | (simp only [jM.len_sI, jM.len_sL, jM.len_sR, jM.len_fI, jM.len_fL, jM.len_fR]; omega) | (simp [jM.len_nw, jM.len_sI, jM.len_sL, jM.len_sR, jM.len_fI, jM.len_fL, jM.len_fR, *]; omega)) (fun c3 => ?_) (fun c3 => ?_)
    · refine fin k F (fun g hg => ?_) _ ⟨rfl, trivial⟩
      have := hk g hg
      rw [if_pos (by omega)] at this
      exact this
    · omega
  | succ n ih =>
    intro j hj k F hk lv hlv
    have tx' := F.tag tx (by decide)
    have rx' : k.R 15 x 5 = some (ρ 5) := by rw [F.R tx (by decide) (by rw [kd_t tx (by decide)]; omega)]; exact rx
    have t5' := F.tag t5 (by decide)
    have l5' : k.len (ρ 5) = 6 := by rw [F.len (by omega)]; exact l5
    have r5' : k.R 33 (ρ 5) j = some (q j).1 := by rw [F.R t5 (by decide) (by rw [kd_t t5 (by decide)]; omega)]; exact (hq j (by omega)).1
    have hj' := hk j (by omega)
    rw [if_neg (by omega)] at hj'
    obtain ⟨b1, b2, b3, b4, b5, b6⟩ := hj'
    have rj : k.R 33 (ρ 5) (j : Int).toNat = some (q j).1 := by rw [Int.toNat_natCast]; exact r5'
    refine J.lc hlv ?_
    refine J.iload (pc' := 51) rfl rfl rfl ?_
    refine J.bipush (pc' := 53) rfl rfl (by decide) ?_
    refine J.icmp_ge (tgt := 78) (pc' := 56) rfl rfl rfl (by first | omega | (exact R.r _ _) | (simp only [jM.len_sI, jM.len_sL, jM.len_sR, jM.len_fI, jM.len_fL, jM.len_fR]; omega) | (simp [jM.len_nw, jM.len_sI, jM.len_sL, jM.len_sR, jM.len_fI, jM.len_fL, jM.len_fR, *]; omega)) (by first | omega | (exact R.r _ _) | (simp only [jM.len_sI, jM.len_sL, jM.len_sR, jM.len_fI, jM.len_fL, jM.len_fR]; omega) | (simp [jM.len_nw, jM.len_sI, jM.len_sL, jM.len_sR, jM.len_fI, jM.len_fL, jM.len_fR, *]; omega)) (fun c3 => ?_) (fun c3 => ?_)
    · omega
    first | refine J.aload_n (pc' := 57) rfl rfl rfl ?_ | refine J.aload_nN (pc' := 57) rfl rfl rfl ?_
    first | refine J.getR (pc' := 60) rfl fl_X11_30 rfl (by first | assumption | (simp only [jM.tag_sI, jM.tag_sL, jM.tag_sR, jM.tag_fI, jM.tag_fL, jM.tag_fR]; assumption) | (simp [jM.tag_nw, jM.tag_sI, jM.tag_sL, jM.tag_sR, jM.tag_fI, jM.tag_fL, jM.tag_fR, *]; done)) (by first | assumption | (simp only [jM.R_sI, jM.R_sL, jM.R_fI, jM.R_fL]; assumption) | (simp [jM.R_nw, jM.R_sR, jM.R_fR, jM.R_sI, jM.R_sL, jM.R_fI, jM.R_fL, *]; done)) rfl ?_ | refine J.getRN (pc' := 60) rfl fl_X11_30 rfl (by first | assumption | (simp only [jM.tag_sI, jM.tag_sL, jM.tag_sR, jM.tag_fI, jM.tag_fL, jM.tag_fR]; assumption) | (simp [jM.tag_nw, jM.tag_sI, jM.tag_sL, jM.tag_sR, jM.tag_fI, jM.tag_fL, jM.tag_fR, *]; done)) (by first | assumption | (simp only [jM.R_sI, jM.R_sL, jM.R_fI, jM.R_fL]; assumption) | (simp [jM.R_nw, jM.R_sR, jM.R_fR, jM.R_sI, jM.R_sL, jM.R_fI, jM.R_fL, *]; done)) rfl ?_
    refine J.iload (pc' := 62) rfl rfl rfl ?_
    first | refine J.aald (pc' := 63) rfl (by first | assumption | (simp only [jM.tag_sI, jM.tag_sL, jM.tag_sR, jM.tag_fI, jM.tag_fL, jM.tag_fR]; assumption) | (simp [jM.tag_nw, jM.tag_sI, jM.tag_sL, jM.tag_sR, jM.tag_fI, jM.tag_fL, jM.tag_fR, *]; done)) (by decide) (by decide) rfl (by first | omega | (exact R.r _ _) | (simp only [jM.len_sI, jM.len_sL, jM.len_sR, jM.len_fI, jM.len_fL, jM.len_fR]; omega) | (simp [jM.len_nw, jM.len_sI, jM.len_sL, jM.len_sR, jM.len_fI, jM.len_fL, jM.len_fR, *]; omega)) (by first | omega | (exact R.r _ _) | (simp only [jM.len_sI, jM.len_sL, jM.len_sR, jM.len_fI, jM.len_fL, jM.len_fR]; omega) | (simp [jM.len_nw, jM.len_sI, jM.len_sL, jM.len_sR, jM.len_fI, jM.len_fL, jM.len_fR, *]; omega)) (by first | omega | (exact R.r _ _) | (simp only [jM.len_sI, jM.len_sL, jM.len_sR, jM.len_fI, jM.len_fL, jM.len_fR]; omega) | (simp [jM.len_nw, jM.len_sI, jM.len_sL, jM.len_sR, jM.len_fI, jM.len_fL, jM.len_fR, *]; omega)) (by first | assumption | (simp only [jM.R_sI, jM.R_sL, jM.R_fI, jM.R_fL]; assumption) | (simp [jM.R_nw, jM.R_sR, jM.R_fR, jM.R_sI, jM.R_sL, jM.R_fI, jM.R_fL, *]; done)) rfl ?_ | refine J.aaldN (pc' := 63) rfl (by first | assumption | (simp only [jM.tag_sI, jM.tag_sL, jM.tag_sR, jM.tag_fI, jM.tag_fL, jM.tag_fR]; assumption) | (simp [jM.tag_nw, jM.tag_sI, jM.tag_sL, jM.tag_sR, jM.tag_fI, jM.tag_fL, jM.tag_fR, *]; done)) (by decide) (by decide) rfl (by first | omega | (exact R.r _ _) | (simp only [jM.len_sI, jM.len_sL, jM.len_sR, jM.len_fI, jM.len_fL, jM.len_fR]; omega) | (simp [jM.len_nw, jM.len_sI, jM.len_sL, jM.len_sR, jM.len_fI, jM.len_fL, jM.len_fR, *]; omega)) (by first | omega | (exact R.r _ _) | (simp only [jM.len_sI, jM.len_sL, jM.len_sR, jM.len_fI, jM.len_fL, jM.len_fR]; omega) | (simp [jM.len_nw, jM.len_sI, jM.len_sL, jM.len_sR, jM.len_fI, jM.len_fL, jM.len_fR, *]; omega)) (by first | omega | (exact R.r _ _) | (simp only [jM.len_sI, jM.len_sL, jM.len_sR, jM.len_fI, jM.len_fL, jM.len_fR]; omega) | (simp [jM.len_nw, jM.len_sI, jM.len_sL, jM.len_sR, jM.len_fI, jM.len_fL, jM.len_fR, *]; omega)) (by first | assumption | (simp only [jM.R_sI, jM.R_sL, jM.R_fI, jM.R_fL]; assumption) | (simp [jM.R_nw, jM.R_sR, jM.R_fR, jM.R_sI, jM.R_sL, jM.R_fI, jM.R_fL, *]; done)) rfl ?_
    first | refine J.aload (pc' := 65) rfl rfl rfl ?_ | refine J.aloadN (pc' := 65) rfl rfl rfl ?_
    refine J.iload_n (pc' := 66) rfl rfl rfl ?_
    refine J.iload_n (pc' := 67) rfl rfl rfl ?_
    refine J.iload (pc' := 69) rfl rfl rfl ?_
    refine J.callV (pc' := 72) (t := 8) rfl MX4_narrowLayersOf ml_X11_229 iv_X4_narrowLayersOf (by decide) ⟨_, rfl, rfl⟩ (by first | assumption | (simp only [jM.tag_sI, jM.tag_sL, jM.tag_sR, jM.tag_fI, jM.tag_fL, jM.tag_fR]; assumption) | (simp [jM.tag_nw, jM.tag_sI, jM.tag_sL, jM.tag_sR, jM.tag_fI, jM.tag_fL, jM.tag_fR, *]; done)) (cx_narrowL b1 b2 hm hlo hhi b3 b6 (fun k i _ _ => by have := yP_bd R (41 * (j : Int) + (k : Int)) i; constructor <;> omega)) rfl rfl (Nat.le_of_ble_eq_true rfl) (by first | omega | (exact R.r _ _) | (simp only [jM.len_sI, jM.len_sL, jM.len_sR, jM.len_fI, jM.len_fL, jM.len_fR]; omega) | (simp [jM.len_nw, jM.len_sI, jM.len_sL, jM.len_sR, jM.len_fI, jM.len_fL, jM.len_fR, *]; omega)) (by first | omega | (exact R.r _ _) | (simp only [jM.len_sI, jM.len_sL, jM.len_sR, jM.len_fI, jM.len_fL, jM.len_fR]; omega) | (simp [jM.len_nw, jM.len_sI, jM.len_sL, jM.len_sR, jM.len_fI, jM.len_fL, jM.len_fR, *]; omega)) (by first | omega | (exact R.r _ _) | (simp only [jM.len_sI, jM.len_sL, jM.len_sR, jM.len_fI, jM.len_fL, jM.len_fR]; omega) | (simp [jM.len_nw, jM.len_sI, jM.len_sL, jM.len_sR, jM.len_fI, jM.len_fL, jM.len_fR, *]; omega)) rfl rfl ?_ ?_
    · exact fun _ _ z => z.elim
    rintro _ k2 ⟨rfl, c1', c2', c3', c4'⟩
    have F2 : Fr h k2 (fun b => 7010 ≤ kd h b ∧ kd h b < 7016) := F.trans c3' (fun b hb w => by
      rcases w with w | ⟨w1, y, w2, w3⟩
      · exact w
      · obtain ⟨d1, d2, d3, d4, d5, d6⟩ := (hq j (by omega)).2
        rw [F.ow hb] at w3
        rw [(F b hb).1] at w1
        have := kd_y (Or.inr (Or.inr w1)) w3 (d6.tag w2) (d3.2.2 y w2) d4
        omega)
    refine J.iinc (pc' := 75) rfl rfl rfl (by decide) ?_
    refine J.goto (tgt := 49) rfl rfl ?_
    refine ih (j + 1) (by omega) k2 F2 (fun g hg => ?_) _ ⟨rfl, rfl, rfl, rfl, rfl, rfl, trivial⟩
    by_cases w : g = j
    · subst w
      rw [if_pos (by omega)]
      refine ⟨by rw [c4']; exact b1, ?_, c1', by rw [c3'.ow (by have := b3.1.1; omega)]; exact b4, by rw [smW_o (by decide) (by decide)]; exact b5, c2'.cgP (fun i hi' => ⟨by rw [smW_o (by decide) (by decide)], by rw [smW_o (by decide) (by decide)], by rw [smW_o (by decide) (by decide)], fun t ht => ?_⟩)⟩
      · rw [c3'.R b1 (by decide) (fun w => by have := w.1; omega)]; exact b2
      · rw [← yP_sm hm hl t ht]
        have rr : -1 ≤ V 140 (41 * (g : Int) + (i : Int)) := (R 140 _ rfl).1
        unfold nrL
        (try dsimp only)
        by_cases u : V 140 (41 * (g : Int) + (i : Int)) = l
        · rw [if_pos u, if_pos ((hz _ rr).mpr u)]
        · rw [if_neg u, if_neg (fun w => u ((hz _ rr).mp w))]
    · have hg' := hk g hg
      have FD : FrD k k2 (fun c => c = 7010 + j) := c3'.mono (fun b hb w => by
        obtain ⟨w1, y, w2, w3⟩ := w
        have := kd_y (Or.inr (Or.inr w1)) w3 (b6.tag w2) (b3.2.2 y w2) b4
        omega)
      have := hg'.d FD (by (try dsimp only); omega)
      by_cases u : g < j
      · rw [if_pos u] at this; rw [if_pos (by omega)]; exact this
      · rw [if_neg u] at this; rw [if_neg (by omega)]; exact this
/-- what the class has when a load has been sampled -/
theorem sm_rep {k : jM} {z sz kz zc sp : Nat} {P' : Nat → Int} (I : Inv V) (hR : RepB γ V h x ρ σ ks ss cs ls ms) (hm : 0 ≤ m ∧ m < 5) (al : at' ls l z) (hl : l < V 16 26) (hL0 : isLd h z l sz kz (V 129 l) (V 130 l) zc sp (lP V l) (V 132 l) (V 133 l)) (as : at' ss (V 127 l) sz) (ak : at' ks (V 128 l) kz) (ac : at' cs (V 131 l) zc) (F : Fr h k (fun b => b = z ∨ b = sz ∨ b = pa h sp ∨ (7010 ≤ kd h b ∧ kd h b < 7016))) (hL : isLd k z l sz kz (V 129 l) (V 130 l) zc sp P' (grF (smW V l m lo hi) (V 131 l) l) (payF (smW V l m lo hi) (V 131 l) l)) (hP' : ∀ j, j < 10 → P' j = lP (smW V l m lo hi) l j) (hS : repS k ss (oV V) (fun u => if u = V 127 l then V 109 (V 127 l) + V 129 l * (payF (smW V l m lo hi) (V 131 l) l - V 133 l) else V 109 u)) (hE : ∀ g : Nat, g < 6 → ∃ p a e ys, k.R 33 (ρ 5) g = some p ∧ hepE γ k ls (smW V l m lo hi) g p a e ys) : RepC γ (smV V (smW V l m lo hi) l) k x ∧ FrC h k clsS := by
  have R := I.1
  obtain ⟨a1, a2, a3, a4, a5, a6, a7, a8, a9, a10, a11⟩ := hR
  have l4 := csz a4.1
  have l7 := msz a7.1
  have n5 := a5.2.1
  have ts := (a3.2.2 _ sz as.2).elim fun _ w => w.1
  have tz := hL0.1
  have tp := hL0.2.2.2.2.2.2.2.2.1.1.2.2.1
  have op := hL0.2.2.2.2.2.2.2.2.1.2.2.1
  have kp : kd h (pa h sp) = 111 := by rw [kd_w op tz (by decide), kc_S (Or.inr tp) op tz rfl]
  have FD : FrD h k (fun c => c = 11 ∨ c = 13 ∨ c = 111 ∨ 7010 ≤ c ∧ c < 7016) := F.mono (fun b hb w => by
    rcases w with w | w | w | w
    · rw [w, kd_t tz (by decide)]; exact Or.inl rfl
    · rw [w, kd_t ts (by decide)]; exact Or.inr (Or.inl rfl)
    · rw [w, kp]; exact Or.inr (Or.inr (Or.inl rfl))
    · exact Or.inr (Or.inr (Or.inr w)))
  have FC : FrC h k (fun c => c = 10 ∨ c = 110 ∨ c = 11 ∨ c = 13 ∨ c = 111 ∨ 7010 ≤ c ∧ c < 7016) := FD.toC (fun c w => Or.inr (Or.inr w)) (Or.inl rfl) (Or.inr (Or.inl rfl))
  have e : ∀ t, t ≠ 16 → ¬ (fun t : Nat => t = 109 ∨ 132 ≤ t ∧ t ≤ 135) t → smV V (smW V l m lo hi) l t = V t := fun t ht h1 => by
    have h1 : ¬ (t = 109 ∨ 132 ≤ t ∧ t ≤ 135) := h1
    unfold smV
    rw [jU_f _ (by omega), jU_f _ (by omega), jU_f _ (by omega), fg_o ht, smW_o (by omega) (by omega)]
  have e4 : ∀ t, t = 134 ∨ t = 135 → smV V (smW V l m lo hi) l t = smW V l m lo hi t := fun t ht => by
    unfold smV
    rw [jU_f _ (by omega), jU_f _ (by omega), jU_f _ (by omega), fg_o (by omega)]
  have es' : ∀ i, ¬ (fun i : Int => i = 36 ∨ i = 37) i → smV V (smW V l m lo hi) l 16 i = V 16 i := fun i hi => by
    have hi : ¬ (i = 36 ∨ i = 37) := hi
    unfold smV fgV
    rw [jU_f _ (by decide), jU_f _ (by decide), jU_f _ (by decide), jU_ne _ _ (Or.inr (by omega)), jU_ne _ _ (Or.inr (by omega)), smW_o (by decide) (by decide)]
  have e109 : ∀ u, smV V (smW V l m lo hi) l 109 u = if u = V 127 l then V 109 (V 127 l) + V 129 l * (payF (smW V l m lo hi) (V 131 l) l - V 133 l) else V 109 u := fun u => by
    unfold smV
    rw [jU_f _ (by decide), jU_f _ (by decide), jU_at, fg_o (by decide), smW_o (by decide) (by decide)]
  have e132 : ∀ u, smV V (smW V l m lo hi) l 132 u = if u = l then grF (smW V l m lo hi) (V 131 l) l else V 132 u := fun u => by
    unfold smV
    rw [jU_f _ (by decide), jU_at, jU_f _ (by decide), fg_o (by decide), smW_o (by decide) (by decide)]
  have e133 : ∀ u, smV V (smW V l m lo hi) l 133 u = if u = l then payF (smW V l m lo hi) (V 131 l) l else V 133 u := fun u => by
    unfold smV
    rw [jU_at, jU_f _ (by decide), jU_f _ (by decide), fg_o (by decide), smW_o (by decide) (by decide)]
  have eo : oV (smV V (smW V l m lo hi) l) = oV V := by
    unfold oV
    rw [e 106 (by decide) (by decide), e 107 (by decide) (by decide), e 108 (by decide) (by decide)]
  have lPe : ∀ j, lP (smV V (smW V l m lo hi) l) j = lP (smW V l m lo hi) j := fun j => by
    unfold lP
    rw [e4 134 (Or.inl rfl), e4 135 (Or.inr rfl)]
  refine ⟨⟨ρ, σ, ks, ss, cs, ls, ms, a1.k FC es' (by (try dsimp only); omega) (by (try dsimp only); omega), a2.k FC e es' (by (try dsimp only); omega) (by (try dsimp only); omega), ⟨a3.1.c FC (by (try dsimp only); omega), a3.2.1.trans (es' 2 (by (try dsimp only); omega)).symm, ?_⟩, a4.k FC e es' (by (try dsimp only); omega) (fun _ _ => (by (try dsimp only); omega)) ⟨by (try dsimp only); omega, fun _ _ _ => by (try dsimp only); omega⟩, ⟨a5.1.c FC (by (try dsimp only); omega), a5.2.1.trans (es' 26 (by (try dsimp only); omega)).symm, fun j y hy => ?_⟩, ⟨FC.tag a6.1 (by decide), by rw [FC.len (by have := a6.1; omega)]; exact a6.2.1, fun g hg => ?_⟩, a7.dk FD e es' (by (try dsimp only); omega) (fun _ _ => (by (try dsimp only); omega)) ⟨by (try dsimp only); omega, fun _ _ _ => by (try dsimp only); omega⟩, a8.k FC e a1.1 (by (try dsimp only); omega) (by (try dsimp only); omega), a9.k FC e es' (by (try dsimp only); omega) (by (try dsimp only); omega), a10.c FC (fun _ _ _ => (by (try dsimp only); omega)) (by (try dsimp only); omega), isK.c FC a11 (by (try dsimp only); omega) (by (try dsimp only); omega)⟩, FC.mono (fun b hb w => ?_)⟩
  · rw [eo]
    intro j s hj
    obtain ⟨o, w⟩ := hS j s hj
    refine ⟨o, ?_⟩
    dsimp only
    rw [e109]
    exact w
  · have hj := (List.getElem?_eq_some_iff.mp hy).1
    unfold lodE
    rw [e 127 (by decide) (by decide), e 128 (by decide) (by decide), e 129 (by decide) (by decide), e 130 (by decide) (by decide), e 131 (by decide) (by decide), e132, e133, lPe]
    by_cases w : (j : Int) = l
    · have : y = z := by
        have h2 := al.2
        rw [show l.toNat = j by omega, hy] at h2
        exact Option.some.inj h2
      rw [this, w, if_pos rfl, if_pos rfl]
      obtain ⟨d1, d2, d3, d4, d5, d6, d7, d8, d9, d10, d11⟩ := hL
      exact ⟨sz, kz, zc, sp, ⟨d1, d2, d3, d4, d5, d6, d7, d8, d9.cgP hP', d10, d11⟩, as, ak, ac⟩
    · rw [if_neg w, if_neg w]
      obtain ⟨s', k', c', sp', b1, b2⟩ := a5.2.2 j y hy
      have nz : y ≠ z := fun q => by
        have := ls_inj a5 hy (q ▸ al.2)
        have := al.1
        omega
      have h0 := hL0.2.2.2.2.2.2.2.2.1
      have h0' := b1.2.2.2.2.2.2.2.2.1
      have nsp : sp' ≠ sp := fun q => by
        have h1 := h0.2.1
        have h2 := h0'.2.1
        rw [q, h1] at h2
        exact nz (Option.some.inj h2).symm
      have npa := h0'.1.ne h0.1 nsp
      have b1' : isLd k y (j : Int) s' k' (V 129 j) (V 130 j) c' sp' (lP V j) (V 132 j) (V 133 j) := by
        refine b1.kept F (fun q => ?_) (fun q => ?_) (fun q => ?_)
        · rcases q with q | q | q | q
          · exact nz q
          · have := b1.1; rw [q, ts] at this; omega
          · have := b1.1; rw [q, tp] at this; omega
          · rw [kd_t b1.1 (by decide)] at q; omega
        · have t1 := h0'.1.1
          rcases q with q | q | q | q
          · rw [q, tz] at t1; omega
          · rw [q, ts] at t1; omega
          · rw [q, tp] at t1; omega
          · rw [kd_w h0'.2.1 b1.1 (by decide), kc_S (Or.inl t1) h0'.2.1 b1.1 rfl] at q; omega
        · have t1 := h0'.1.2.2.1
          rcases q with q | q | q | q
          · rw [q, tz] at t1; omega
          · rw [q, ts] at t1; omega
          · exact npa q
          · rw [kd_w h0'.2.2.1 b1.1 (by decide), kc_S (Or.inr t1) h0'.2.2.1 b1.1 rfl] at q; omega
      obtain ⟨d1, d2, d3, d4, d5, d6, d7, d8, d9, d10, d11⟩ := b1'
      exact ⟨s', k', c', sp', ⟨d1, d2, d3, d4, d5, d6, d7, d8, d9.cgP (fun i hi' => lP_sm' hm w i hi'), d10, d11⟩, b2⟩
  · obtain ⟨p, a, e', ys, b1, b2, b3, b4, b5, b6, b7⟩ := hE g hg
    rw [smW_o (by decide) (by decide)] at b6
    refine ⟨p, a, e', ys, b1, b2, b3, b4, b5, by rw [e 138 (by decide) (by decide)]; exact b6, b7.cgP (fun i _ => ⟨by rw [e 139 (by decide) (by decide), smW_o (by decide) (by decide)], by rw [e 140 (by decide) (by decide), smW_o (by decide) (by decide)], by rw [e 141 (by decide) (by decide), smW_o (by decide) (by decide)], fun t _ => ?_⟩)⟩
    unfold yP lowL highL
    rw [e 140 (by decide) (by decide), e 142 (by decide) (by decide), e 143 (by decide) (by decide), e4 134 (Or.inl rfl), e4 135 (Or.inr rfl), smW_o (t := 140) (by decide) (by decide), smW_o (t := 142) (by decide) (by decide), smW_o (t := 143) (by decide) (by decide)]
  · unfold clsS
    omega
theorem cf_sample (hl : r32 l) (hm : r32 m) (hlo : r32 lo) (hhi : r32 hi) (I : Inv V) (h0 : V 16 0 = 0) (hR : RepB γ V h x ρ σ ks ss cs ls ms) : CT γ mX11_sample 8 8 48 [.ref x, .int (jI l), .int (jI m), .int (jI lo), .int (jI hi)] h (opQ γ x h (sp_sample V l m lo hi)) (opX V h (sp_sample V l m lo hi) [(eNSE, 1), (eIAE, 2)]) := by
  have R := I.1
  have Rf := R.f
  have hR0 := hR
  obtain ⟨a1, a2, a3, a4, a5, a6, a7, a8, a9, a10, a11⟩ := hR0
  obtain ⟨x0, x1, x2, x3, x4, x5, x6, x7, x8, x9, x10⟩ := a1
  refine CT.of MX11_sample (Nat.le_of_ble_eq_true rfl) ?_
  show J γ mX11_sample 8 8 48 0 0 h 0 [(0, .ref x), (1, .int (jI l)), (2, .int (jI m)), (3, .int (jI lo)), (4, .int (jI hi))] [] _ _
  first | refine J.aload_n (pc' := 1) rfl rfl rfl ?_ | refine J.aload_nN (pc' := 1) rfl rfl rfl ?_
  refine J.iload_n (pc' := 2) rfl rfl rfl ?_
  refine J.callV (pc' := 5) (t := 15) rfl MX11_loadOf ml_X11_198 iv_X11_loadOf (by decide) ⟨_, rfl, rfl⟩ (by first | assumption | (simp only [jM.tag_sI, jM.tag_sL, jM.tag_sR, jM.tag_fI, jM.tag_fL, jM.tag_fR]; assumption) | (simp [jM.tag_nw, jM.tag_sI, jM.tag_sL, jM.tag_sR, jM.tag_fI, jM.tag_fL, jM.tag_fR, *]; done)) (cf_loadOf hl hR) rfl rfl (Nat.le_of_ble_eq_true rfl) (by first | omega | (exact R.r _ _) | (simp only [jM.len_sI, jM.len_sL, jM.len_sR, jM.len_fI, jM.len_fL, jM.len_fR]; omega) | (simp [jM.len_nw, jM.len_sI, jM.len_sL, jM.len_sR, jM.len_fI, jM.len_fL, jM.len_fR, *]; omega)) (by first | omega | (exact R.r _ _) | (simp only [jM.len_sI, jM.len_sL, jM.len_sR, jM.len_fI, jM.len_fL, jM.len_fR]; omega) | (simp [jM.len_nw, jM.len_sI, jM.len_sL, jM.len_sR, jM.len_fI, jM.len_fL, jM.len_fR, *]; omega)) (by first | omega | (exact R.r _ _) | (simp only [jM.len_sI, jM.len_sL, jM.len_sR, jM.len_fI, jM.len_fL, jM.len_fR]; omega) | (simp [jM.len_nw, jM.len_sI, jM.len_sL, jM.len_sR, jM.len_fI, jM.len_fL, jM.len_fR, *]; omega)) rfl rfl ?_ ?_
  · rintro _ _ ⟨hc, rfl, rfl⟩
    exact ⟨rfl, 1, by simp, by unfold sp_sample; rw [if_neg hc]⟩
  rintro _ h ⟨z, rfl, al, cl, rfl⟩
  first | refine J.astore (pc' := 7) rfl rfl (by decide) ?_ | refine J.astoreN (pc' := 7) rfl rfl (by decide) ?_
  refine J.iload_n (pc' := 8) rfl rfl rfl ?_
  refine J.callS (pc' := 11) rfl MX11_needMetal ml_X11_77 is_X11_needMetal (cx_needMetal hm) rfl rfl (Nat.le_of_ble_eq_true rfl) (by first | omega | (exact R.r _ _) | (simp only [jM.len_sI, jM.len_sL, jM.len_sR, jM.len_fI, jM.len_fL, jM.len_fR]; omega) | (simp [jM.len_nw, jM.len_sI, jM.len_sL, jM.len_sR, jM.len_fI, jM.len_fL, jM.len_fR, *]; omega)) (by first | omega | (exact R.r _ _) | (simp only [jM.len_sI, jM.len_sL, jM.len_sR, jM.len_fI, jM.len_fL, jM.len_fR]; omega) | (simp [jM.len_nw, jM.len_sI, jM.len_sL, jM.len_sR, jM.len_fI, jM.len_fL, jM.len_fR, *]; omega)) (by first | omega | (exact R.r _ _) | (simp only [jM.len_sI, jM.len_sL, jM.len_sR, jM.len_fI, jM.len_fL, jM.len_fR]; omega) | (simp [jM.len_nw, jM.len_sI, jM.len_sL, jM.len_sR, jM.len_fI, jM.len_fL, jM.len_fR, *]; omega)) rfl rfl ?_ ?_
  · rintro _ _ ⟨hc, rfl, rfl⟩
    exact ⟨rfl, 2, by simp, by unfold sp_sample; rw [if_pos cl, if_neg (fun w => hc w.1)]⟩
  rintro _ h ⟨cm1, rfl, rfl⟩
  refine J.iload_n (pc' := 12) rfl rfl rfl ?_
  refine J.iload (pc' := 14) rfl rfl rfl ?_
  refine J.callS (pc' := 17) rfl MX11_needSpan ml_X11_80 is_X11_needSpan (cx_needSpan hlo hhi) rfl rfl (Nat.le_of_ble_eq_true rfl) (by first | omega | (exact R.r _ _) | (simp only [jM.len_sI, jM.len_sL, jM.len_sR, jM.len_fI, jM.len_fL, jM.len_fR]; omega) | (simp [jM.len_nw, jM.len_sI, jM.len_sL, jM.len_sR, jM.len_fI, jM.len_fL, jM.len_fR, *]; omega)) (by first | omega | (exact R.r _ _) | (simp only [jM.len_sI, jM.len_sL, jM.len_sR, jM.len_fI, jM.len_fL, jM.len_fR]; omega) | (simp [jM.len_nw, jM.len_sI, jM.len_sL, jM.len_sR, jM.len_fI, jM.len_fL, jM.len_fR, *]; omega)) (by first | omega | (exact R.r _ _) | (simp only [jM.len_sI, jM.len_sL, jM.len_sR, jM.len_fI, jM.len_fL, jM.len_fR]; omega) | (simp [jM.len_nw, jM.len_sI, jM.len_sL, jM.len_sR, jM.len_fI, jM.len_fL, jM.len_fR, *]; omega)) rfl rfl ?_ ?_
  · rintro _ _ ⟨hc, rfl, rfl⟩
    exact ⟨rfl, 2, by simp, by unfold sp_sample; rw [if_pos cl, if_neg (fun w => hc w.2)]⟩
  rintro _ h ⟨cs1, rfl, rfl⟩
  obtain ⟨sz, kz, zc, sp, hL, as, ak, ac⟩ := a5.2.2 l.toNat z al.2
  rw [show ((l.toNat : Nat) : Int) = l by omega] at hL as ak ac
  have hL0 := hL
  obtain ⟨d1, d2, d3, d4, d5, d6, d7, d8, d9, d10, d11⟩ := hL0
  have pb : ∀ i, i < 10 → r32 (lP V l i) := fun i _ => by have := lP_b R l i; constructor <;> omega
  have tsp := d9.1.1
  have hc := cs_hasCommon (γ := γ) (m := m) (x := lo) (y := hi) d9.1 cm1.1 cm1.2 hlo hhi (fun i hi' => by rw [d9.2.2.2 i hi']; exact pb i hi')
  rw [d9.2.2.2 (2 * m).toNat (by omega), d9.2.2.2 (2 * m + 1).toNat (by omega)] at hc
  have e1 : lP V l (2 * m).toNat = V 134 (5 * l + m) := by unfold lP; rw [if_pos (by omega), show (((2 * m).toNat / 2 : Nat) : Int) = m by omega]
  have e2 : lP V l (2 * m + 1).toNat = V 135 (5 * l + m) := by unfold lP; rw [if_neg (by omega), show (((2 * m + 1).toNat / 2 : Nat) : Int) = m by omega]
  rw [e1, e2, Int.max_comm, Int.min_comm] at hc
  first | refine J.aload (pc' := 19) rfl rfl rfl ?_ | refine J.aloadN (pc' := 19) rfl rfl rfl ?_
  first | refine J.getR (pc' := 22) rfl fl_X11_193 rfl (by first | assumption | (simp only [jM.tag_sI, jM.tag_sL, jM.tag_sR, jM.tag_fI, jM.tag_fL, jM.tag_fR]; assumption) | (simp [jM.tag_nw, jM.tag_sI, jM.tag_sL, jM.tag_sR, jM.tag_fI, jM.tag_fL, jM.tag_fR, *]; done)) (by first | assumption | (simp only [jM.R_sI, jM.R_sL, jM.R_fI, jM.R_fL]; assumption) | (simp [jM.R_nw, jM.R_sR, jM.R_fR, jM.R_sI, jM.R_sL, jM.R_fI, jM.R_fL, *]; done)) rfl ?_ | refine J.getRN (pc' := 22) rfl fl_X11_193 rfl (by first | assumption | (simp only [jM.tag_sI, jM.tag_sL, jM.tag_sR, jM.tag_fI, jM.tag_fL, jM.tag_fR]; assumption) | (simp [jM.tag_nw, jM.tag_sI, jM.tag_sL, jM.tag_sR, jM.tag_fI, jM.tag_fL, jM.tag_fR, *]; done)) (by first | assumption | (simp only [jM.R_sI, jM.R_sL, jM.R_fI, jM.R_fL]; assumption) | (simp [jM.R_nw, jM.R_sR, jM.R_fR, jM.R_sI, jM.R_sL, jM.R_fI, jM.R_fL, *]; done)) rfl ?_
  refine J.iload_n (pc' := 23) rfl rfl rfl ?_
  refine J.iload_n (pc' := 24) rfl rfl rfl ?_
  refine J.iload (pc' := 26) rfl rfl rfl ?_
  refine J.callV (pc' := 29) (t := 14) rfl MX10_hasCommon ml_X11_222 iv_X10_hasCommon (by decide) ⟨_, rfl, rfl⟩ (by first | assumption | (simp only [jM.tag_sI, jM.tag_sL, jM.tag_sR, jM.tag_fI, jM.tag_fL, jM.tag_fR]; assumption) | (simp [jM.tag_nw, jM.tag_sI, jM.tag_sL, jM.tag_sR, jM.tag_fI, jM.tag_fL, jM.tag_fR, *]; done)) hc rfl rfl (Nat.le_of_ble_eq_true rfl) (by first | omega | (exact R.r _ _) | (simp only [jM.len_sI, jM.len_sL, jM.len_sR, jM.len_fI, jM.len_fL, jM.len_fR]; omega) | (simp [jM.len_nw, jM.len_sI, jM.len_sL, jM.len_sR, jM.len_fI, jM.len_fL, jM.len_fR, *]; omega)) (by first | omega | (exact R.r _ _) | (simp only [jM.len_sI, jM.len_sL, jM.len_sR, jM.len_fI, jM.len_fL, jM.len_fR]; omega) | (simp [jM.len_nw, jM.len_sI, jM.len_sL, jM.len_sR, jM.len_fI, jM.len_fL, jM.len_fR, *]; omega)) (by first | omega | (exact R.r _ _) | (simp only [jM.len_sI, jM.len_sL, jM.len_sR, jM.len_fI, jM.len_fL, jM.len_fR]; omega) | (simp [jM.len_nw, jM.len_sI, jM.len_sL, jM.len_sR, jM.len_fI, jM.len_fL, jM.len_fR, *]; omega)) rfl rfl ?_ ?_
  · exact fun _ _ z => z.elim
  rintro _ h ⟨rfl, rfl⟩
  by_cases cc : max (V 134 (5 * l + m)) lo ≤ min (V 135 (5 * l + m)) hi
  · rw [if_pos cc]
    refine J.if_ne (tgt := 34) (pc' := 32) rfl rfl rfl (by first | omega | (exact R.r _ _) | (simp only [jM.len_sI, jM.len_sL, jM.len_sR, jM.len_fI, jM.len_fL, jM.len_fR]; omega) | (simp [jM.len_nw, jM.len_sI, jM.len_sL, jM.len_sR, jM.len_fI, jM.len_fL, jM.len_fR, *]; omega)) (fun c2 => ?_) (fun c2 => ?_)
    · have es : sp_sample V l m lo hi = (1, smV V (smW V l m lo hi) l) := by unfold sp_sample; rw [if_pos cl, if_pos ⟨cm1, cs1⟩, if_pos cc]
      rw [es]
      have Rw : isR (smW V l m lo hi) := by
        have h1 : 0 ≤ V 134 (5 * l + m) ∧ V 134 (5 * l + m) ≤ 10000 := R 134 _ rfl
        have h2 : 0 ≤ V 135 (5 * l + m) ∧ V 135 (5 * l + m) ≤ 10000 := R 135 _ rfl
        exact (R.up (fun _ => (by show (0 : Int) ≤ max _ _ ∧ max _ _ ≤ (10000 : Int); omega))).up (fun _ => (by show (0 : Int) ≤ min _ _ ∧ min _ _ ≤ (10000 : Int); omega))
      have rc : 0 ≤ V 131 l ∧ V 131 l ≤ 19 := R 131 l rfl
      first | refine J.aload (pc' := 36) rfl rfl rfl ?_ | refine J.aloadN (pc' := 36) rfl rfl rfl ?_
      first | refine J.getR (pc' := 39) rfl fl_X11_193 rfl (by first | assumption | (simp only [jM.tag_sI, jM.tag_sL, jM.tag_sR, jM.tag_fI, jM.tag_fL, jM.tag_fR]; assumption) | (simp [jM.tag_nw, jM.tag_sI, jM.tag_sL, jM.tag_sR, jM.tag_fI, jM.tag_fL, jM.tag_fR, *]; done)) (by first | assumption | (simp only [jM.R_sI, jM.R_sL, jM.R_fI, jM.R_fL]; assumption) | (simp [jM.R_nw, jM.R_sR, jM.R_fR, jM.R_sI, jM.R_sL, jM.R_fI, jM.R_fL, *]; done)) rfl ?_ | refine J.getRN (pc' := 39) rfl fl_X11_193 rfl (by first | assumption | (simp only [jM.tag_sI, jM.tag_sL, jM.tag_sR, jM.tag_fI, jM.tag_fL, jM.tag_fR]; assumption) | (simp [jM.tag_nw, jM.tag_sI, jM.tag_sL, jM.tag_sR, jM.tag_fI, jM.tag_fL, jM.tag_fR, *]; done)) (by first | assumption | (simp only [jM.R_sI, jM.R_sL, jM.R_fI, jM.R_fL]; assumption) | (simp [jM.R_nw, jM.R_sR, jM.R_fR, jM.R_sI, jM.R_sL, jM.R_fI, jM.R_fL, *]; done)) rfl ?_
      refine J.iload_n (pc' := 40) rfl rfl rfl ?_
      refine J.iload_n (pc' := 41) rfl rfl rfl ?_
      refine J.iload (pc' := 43) rfl rfl rfl ?_
      refine J.callV (pc' := 46) (t := 14) rfl MX10_narrow ml_X11_226 iv_X10_narrow (by decide) ⟨_, rfl, rfl⟩ (by first | assumption | (simp only [jM.tag_sI, jM.tag_sL, jM.tag_sR, jM.tag_fI, jM.tag_fL, jM.tag_fR]; assumption) | (simp [jM.tag_nw, jM.tag_sI, jM.tag_sL, jM.tag_sR, jM.tag_fI, jM.tag_fL, jM.tag_fR, *]; done)) (cs_nr d9 cm1.1 cm1.2 hlo hhi pb) rfl rfl (Nat.le_of_ble_eq_true rfl) (by first | omega | (exact R.r _ _) | (simp only [jM.len_sI, jM.len_sL, jM.len_sR, jM.len_fI, jM.len_fL, jM.len_fR]; omega) | (simp [jM.len_nw, jM.len_sI, jM.len_sL, jM.len_sR, jM.len_fI, jM.len_fL, jM.len_fR, *]; omega)) (by first | omega | (exact R.r _ _) | (simp only [jM.len_sI, jM.len_sL, jM.len_sR, jM.len_fI, jM.len_fL, jM.len_fR]; omega) | (simp [jM.len_nw, jM.len_sI, jM.len_sL, jM.len_sR, jM.len_fI, jM.len_fL, jM.len_fR, *]; omega)) (by first | omega | (exact R.r _ _) | (simp only [jM.len_sI, jM.len_sL, jM.len_sR, jM.len_fI, jM.len_fL, jM.len_fR]; omega) | (simp [jM.len_nw, jM.len_sI, jM.len_sL, jM.len_sR, jM.len_fI, jM.len_fL, jM.len_fR, *]; omega)) rfl rfl ?_ ?_
      · exact fun _ _ z => z.elim
      rintro _ h1 ⟨rfl, hW, hO1⟩
      have F1 := hW.2.2.2.2.2.1
      have tg1 := hW.1
      have FD1 : FrD h h1 (fun c => c = 111) := F1.mono (fun b hb w => by rw [w, kd_w d9.2.2.1 d1 (by decide), kc_S (Or.inr d9.1.2.2.1) d9.2.2.1 d1 rfl])
      have tp := d9.1.2.2.1
      obtain ⟨q, hq⟩ := a6.fn
      have np : ∀ b, h.tag b ≠ 20 → ¬ b = pa h sp := fun b hb w => by rw [w, tp] at hb; omega
      refine J.iconst (pc' := 47) rfl rfl ?_
      refine J.istore (pc' := 49) rfl rfl (by decide) ?_
      refine cf_smL (V := V) (l := l) (m := m) (lo := lo) (hi := hi) (z := z) (q := q) (h := h1) (ρ := ρ) (x := x) (ls := ls) (by omega) (by omega) R cm1 cl.1 hlo hhi (F1.tag x0 (by decide)) (by rw [F1.R x0 (by decide) (np _ (by omega))]; exact x6) (F1.tag a6.1 (by decide)) (by rw [F1.len (by have := a6.1; omega)]; exact a6.2.1) (fun g hg => ⟨by rw [F1.R a6.1 (by decide) (np _ (by have := a6.1; omega))]; exact (hq g hg).1, (hq g hg).2.d FD1 (by (try dsimp only); omega)⟩) (fun v hv => ldR_iff a5 hv al) ?_ 6 0 rfl h1 Fr.rf (fun g hg => by rw [if_neg (by omega)]; exact (hq g hg).2.d FD1 (by (try dsimp only); omega)) _ ⟨rfl, rfl, rfl, rfl, rfl, rfl, trivial⟩
      intro k Fk hEk lv hlv
      have F2 : Fr h k (fun b => b = z ∨ b = sz ∨ b = pa h sp ∨ (7010 ≤ kd h b ∧ kd h b < 7016)) := F1.trans Fk (fun b hb w => by
        rcases w with w | w
        · exact Or.inr (Or.inr (Or.inl w))
        · rw [spW_kd hW] at w; exact Or.inr (Or.inr (Or.inr w)))
      have pa1 : pa h1 sp = pa h sp := by unfold pa; rw [hW.2.2.2.1]
      have nk : ∀ b t, h1.tag b = t → (t ≠ 10 ∧ t ≠ 14 ∧ t ≠ 20 ∧ t ≠ 3 ∧ t ≠ 34 ∧ t < 36) → ¬ (7010 ≤ kd h1 b ∧ kd h1 b < 7016) := fun b t hb ht w => by rw [kd_t hb ⟨ht.2.2.2.1, ht.2.2.2.2.1, ht.2.1, ht.2.2.1, ht.2.2.2.2.2, ht.1⟩] at w; omega
      have hL1 : isLd h1 z l sz kz (V 129 l) (V 130 l) zc sp (nrP (lP V l) m lo hi) (V 132 l) (V 133 l) := by
        have nz : ¬ z = pa h sp := np _ (by omega)
        exact ⟨F1.tag d1 (by decide), by rw [F1.I d1 (by decide) nz]; exact d2, by rw [F1.R d1 (by decide) nz]; exact d3, by rw [F1.R d1 (by decide) nz]; exact d4, by rw [F1.I d1 (by decide) nz]; exact d5, by rw [F1.I d1 (by decide) nz]; exact d6, by rw [F1.R d1 (by decide) nz]; exact d7, by rw [F1.R d1 (by decide) nz]; exact d8, hO1, by rw [F1.I d1 (by decide) nz]; exact d10, by rw [F1.I d1 (by decide) nz]; exact d11⟩
      have tz1 := hL1.1
      have hL2 : isLd k z l sz kz (V 129 l) (V 130 l) zc sp (nrP (lP V l) m lo hi) (V 132 l) (V 133 l) := by
        refine hL1.kept Fk (nk z 11 tz1 (by decide)) (fun w => ?_) (fun w => ?_)
        · rw [kd_w hO1.2.1 tz1 (by decide), kc_S (Or.inl hO1.1.1) hO1.2.1 tz1 rfl] at w; omega
        · rw [kd_w hO1.2.2.1 tz1 (by decide), kc_S (Or.inr hO1.1.2.2.1) hO1.2.2.1 tz1 rfl] at w; omega
      obtain ⟨o, hS⟩ := a3.2.2 _ sz as.2
      rw [show (((V 127 l).toNat : Nat) : Int) = V 127 l by have := as.1; omega] at hS
      obtain ⟨gg, ge, gl, G, K, hC, hCl, q3, q4, q5, q6, hG, hGo⟩ := a4.2.2 _ zc ac.2
      rw [show (((V 131 l).toNat : Nat) : Int) = V 131 l by have := ac.1; omega] at hC hG
      have hCk : isCt γ k zc gg ge gl (gBl G) (gAl G) (gPl G) (V 120 (V 131 l)) := by
        have nn : ∀ b t, h.tag b = t → (t ≠ 10 ∧ t ≠ 14 ∧ t ≠ 20 ∧ t ≠ 11 ∧ t ≠ 13) → ¬ (fun b => b = z ∨ b = sz ∨ b = pa h sp ∨ (7010 ≤ kd h b ∧ kd h b < 7016)) b ∨ (t = 3 ∨ t = 34 ∨ 36 ≤ t) := fun b t hb ht => by
          by_cases w : t = 3 ∨ t = 34 ∨ 36 ≤ t
          · exact Or.inr w
          · refine Or.inl (fun u => ?_)
            have := hS.1
            rcases u with u | u | u | u
            · rw [u] at hb; omega
            · rw [u] at hb; omega
            · rw [u] at hb; omega
            · rw [kd_t hb (by omega)] at u; omega
        have n2 : ∀ b t, h.tag b = t → (t = 5 ∨ t = 7 ∨ t = 22 ∨ t = 23) → ¬ (fun b => b = z ∨ b = sz ∨ b = pa h sp ∨ (7010 ≤ kd h b ∧ kd h b < 7016)) b := fun b t hb ht => by
          rcases nn b t hb (by omega) with w | w
          · exact w
          · omega
        refine hC.keptW F2 (n2 _ _ hC.1 (by omega)) (fun w => ?_) ?_ (fun b hb => n2 b _ rfl (by omega))
        · have t1 := hC.2.2.1.1
          have := hS.1
          rcases w with w | w | w | w
          · rw [w] at t1; omega
          · rw [w] at t1; omega
          · rw [w] at t1; omega
          · rw [kd_n (by omega), kc_l t1 q3] at w; omega
        · by_cases l0 : h.len ge = 0
          · exact Or.inr l0
          · refine Or.inl (fun w => ?_)
            have t1 := hC.2.2.1.2.2.1
            have := hS.1
            rcases w with w | w | w | w
            · rw [w] at t1; omega
            · rw [w] at t1; omega
            · rw [w] at t1; omega
            · rw [kd_n (by omega), kc_e hC.2.2.1 q3 l0] at w; omega
      have hSk : isSl k sz o (V 127 l) (oV V (V 127 l)) (V 109 (V 127 l)) := by
        have h1S : isSl h1 sz o (V 127 l) (oV V (V 127 l)) (V 109 (V 127 l)) := hS.kept F1 (np _ (by have := hS.1; omega)) (np _ (by have := hS.2.2.2.1; omega))
        exact h1S.kept Fk (nk _ 13 h1S.1 (by decide)) (nk _ 21 h1S.2.2.2.1 (by decide))
      have hep : r32 (V 120 (V 131 l)) := by have q : -1 ≤ V 120 (V 131 l) ∧ V 120 (V 131 l) ≤ 99999 := R 120 _ rfl; constructor <;> omega
      have hPn : ∀ j, j < 10 → nrP (lP V l) m lo hi j = lP (smW V l m lo hi) l j := fun j _ => lP_sm cm1 j
      have hPb : ∀ j, j < 10 → r32 (nrP (lP V l) m lo hi j) := fun j hj => by
        rw [hPn j hj]
        have := lP_b Rw l j
        constructor <;> omega
      have hG' : gRep (smW V l m lo hi) (V 131 l) G K := gRep_cg (smW_o (by decide) (by decide)) (smW_o (by decide) (by decide)) (smW_o (by decide) (by decide)) (smW_o (by decide) (by decide)) (smW_o (by decide) (by decide)) (smW_o (by decide) (by decide)) hG
      obtain ⟨w1, w2⟩ := grF_eq Rw hG' hPn
      rw [smW_o (t := 120) (by decide) (by decide)] at w1 w2
      have tz2 := hL2.1
      have py2 := hL2.2.2.2.2.2.2.2.2.2.2
      refine J.lc hlv ?_
      first | refine J.aload (pc' := 80) rfl rfl rfl ?_ | refine J.aloadN (pc' := 80) rfl rfl rfl ?_
      refine J.getI (pc' := 83) rfl fl_X11_185 rfl (by first | assumption | (simp only [jM.tag_sI, jM.tag_sL, jM.tag_sR, jM.tag_fI, jM.tag_fL, jM.tag_fR]; assumption) | (simp [jM.tag_nw, jM.tag_sI, jM.tag_sL, jM.tag_sR, jM.tag_fI, jM.tag_fL, jM.tag_fR, *]; done)) rfl ?_
      rw [py2]
      refine J.istore (pc' := 85) rfl rfl (by decide) ?_
      first | refine J.aload (pc' := 87) rfl rfl rfl ?_ | refine J.aloadN (pc' := 87) rfl rfl rfl ?_
      refine J.callV (pc' := 90) (t := 11) rfl MX7_gradeAnew ml_X11_175 iv_X7_gradeAnew (by decide) ⟨_, rfl, rfl⟩ (by first | assumption | (simp only [jM.tag_sI, jM.tag_sL, jM.tag_sR, jM.tag_fI, jM.tag_fL, jM.tag_fR]; assumption) | (simp [jM.tag_nw, jM.tag_sI, jM.tag_sL, jM.tag_sR, jM.tag_fI, jM.tag_fL, jM.tag_fR, *]; done)) (cx_gradeAnew hL2 hCk (by rw [hCl]; exact hGo.b) hPb hep) rfl rfl (Nat.le_of_ble_eq_true rfl) (by first | omega | (exact R.r _ _) | (simp only [jM.len_sI, jM.len_sL, jM.len_sR, jM.len_fI, jM.len_fL, jM.len_fR]; omega) | (simp [jM.len_nw, jM.len_sI, jM.len_sL, jM.len_sR, jM.len_fI, jM.len_fL, jM.len_fR, *]; omega)) (by first | omega | (exact R.r _ _) | (simp only [jM.len_sI, jM.len_sL, jM.len_sR, jM.len_fI, jM.len_fL, jM.len_fR]; omega) | (simp [jM.len_nw, jM.len_sI, jM.len_sL, jM.len_sR, jM.len_fI, jM.len_fL, jM.len_fR, *]; omega)) (by first | omega | (exact R.r _ _) | (simp only [jM.len_sI, jM.len_sL, jM.len_sR, jM.len_fI, jM.len_fL, jM.len_fR]; omega) | (simp [jM.len_nw, jM.len_sI, jM.len_sL, jM.len_sR, jM.len_fI, jM.len_fL, jM.len_fR, *]; omega)) rfl rfl ?_ ?_
      · exact fun _ _ z => z.elim
      rintro _ k2 ⟨rfl, ek⟩
      rw [hCl, w1, w2] at ek
      have pB := (gr_b Rw (V 131 l) l).2
      have pB0 : 0 ≤ V 133 l ∧ V 133 l ≤ 99999 := R 133 l rfl
      generalize hGv : grF (smW V l m lo hi) (V 131 l) l = Gv at ek w1
      generalize hPv : payF (smW V l m lo hi) (V 131 l) l = Pv at ek w2 pB
      have F3 : Fr k k2 (fun b => b = z) := by rw [ek]; exact Fr.stI (Fr.stI Fr.rf (Or.inl rfl)) (Or.inl rfl)
      have hL3 : isLd k2 z l sz kz (V 129 l) (V 130 l) zc sp (nrP (lP V l) m lo hi) Gv Pv := by
        obtain ⟨d1, d2, d3, d4, d5, d6, d7, d8, d9, d10, d11⟩ := hL2
        rw [ek]
        refine ⟨d1, ?_, d3, d4, ?_, ?_, d7, d8, d9.kept1 (Fr.stI (Fr.stI Fr.rf (Or.inl rfl)) (Or.inl rfl) : Fr k _ (fun b => b = z)) (by omega), ?_, ?_⟩
        · rw [jM.I_sI, if_neg (by omega), jM.I_sI, if_neg (by omega)]; exact d2
        · rw [jM.I_sI, if_neg (by omega), jM.I_sI, if_neg (by omega)]; exact d5
        · rw [jM.I_sI, if_neg (by omega), jM.I_sI, if_neg (by omega)]; exact d6
        · rw [jM.I_sI, if_neg (by omega), jM.I_sI, if_pos ⟨rfl, rfl, rfl⟩]
        · rw [jM.I_sI, if_pos ⟨rfl, rfl, rfl⟩]
      clear ek
      have ts := hS.1
      have hS3 : isSl k2 sz o (V 127 l) (oV V (V 127 l)) (V 109 (V 127 l)) := hSk.kept F3 (fun w => by have := hSk.1; rw [w] at this; omega) (fun w => by have := hSk.2.2.2.1; rw [w] at this; omega)
      have tz3 := hL3.1
      have r1 := hL3.2.2.1
      have t3v := hL3.2.2.2.2.1
      have py3 := hL3.2.2.2.2.2.2.2.2.2.2
      have ts3 := hS3.1
      have pd3 := hS3.2.2.2.2.2.2.1
      first | refine J.aload (pc' := 92) rfl rfl rfl ?_ | refine J.aloadN (pc' := 92) rfl rfl rfl ?_
      first | refine J.getR (pc' := 95) rfl fl_X11_202 rfl (by first | assumption | (simp only [jM.tag_sI, jM.tag_sL, jM.tag_sR, jM.tag_fI, jM.tag_fL, jM.tag_fR]; assumption) | (simp [jM.tag_nw, jM.tag_sI, jM.tag_sL, jM.tag_sR, jM.tag_fI, jM.tag_fL, jM.tag_fR, *]; done)) (by first | assumption | (simp only [jM.R_sI, jM.R_sL, jM.R_fI, jM.R_fL]; assumption) | (simp [jM.R_nw, jM.R_sR, jM.R_fR, jM.R_sI, jM.R_sL, jM.R_fI, jM.R_fL, *]; done)) rfl ?_ | refine J.getRN (pc' := 95) rfl fl_X11_202 rfl (by first | assumption | (simp only [jM.tag_sI, jM.tag_sL, jM.tag_sR, jM.tag_fI, jM.tag_fL, jM.tag_fR]; assumption) | (simp [jM.tag_nw, jM.tag_sI, jM.tag_sL, jM.tag_sR, jM.tag_fI, jM.tag_fL, jM.tag_fR, *]; done)) (by first | assumption | (simp only [jM.R_sI, jM.R_sL, jM.R_fI, jM.R_fL]; assumption) | (simp [jM.R_nw, jM.R_sR, jM.R_fR, jM.R_sI, jM.R_sL, jM.R_fI, jM.R_fL, *]; done)) rfl ?_
      refine J.dup (pc' := 96) rfl rfl rfl ?_
      refine J.getL (pc' := 99) rfl fl_X11_181 rfl (by first | assumption | (simp only [jM.tag_sI, jM.tag_sL, jM.tag_sR, jM.tag_fI, jM.tag_fL, jM.tag_fR]; assumption) | (simp [jM.tag_nw, jM.tag_sI, jM.tag_sL, jM.tag_sR, jM.tag_fI, jM.tag_fL, jM.tag_fR, *]; done)) rfl ?_
      rw [pd3]
      first | refine J.aload (pc' := 101) rfl rfl rfl ?_ | refine J.aloadN (pc' := 101) rfl rfl rfl ?_
      refine J.getI (pc' := 104) rfl fl_X11_212 rfl (by first | assumption | (simp only [jM.tag_sI, jM.tag_sL, jM.tag_sR, jM.tag_fI, jM.tag_fL, jM.tag_fR]; assumption) | (simp [jM.tag_nw, jM.tag_sI, jM.tag_sL, jM.tag_sR, jM.tag_fI, jM.tag_fL, jM.tag_fR, *]; done)) rfl ?_
      rw [t3v]
      refine J.i2l (pc' := 105) rfl rfl (by first | omega | (exact R.r _ _) | (simp only [jM.len_sI, jM.len_sL, jM.len_sR, jM.len_fI, jM.len_fL, jM.len_fR]; omega) | (simp [jM.len_nw, jM.len_sI, jM.len_sL, jM.len_sR, jM.len_fI, jM.len_fL, jM.len_fR, *]; omega)) ?_
      first | refine J.aload (pc' := 107) rfl rfl rfl ?_ | refine J.aloadN (pc' := 107) rfl rfl rfl ?_
      refine J.getI (pc' := 110) rfl fl_X11_185 rfl (by first | assumption | (simp only [jM.tag_sI, jM.tag_sL, jM.tag_sR, jM.tag_fI, jM.tag_fL, jM.tag_fR]; assumption) | (simp [jM.tag_nw, jM.tag_sI, jM.tag_sL, jM.tag_sR, jM.tag_fI, jM.tag_fL, jM.tag_fR, *]; done)) rfl ?_
      rw [py3]
      refine J.iload (pc' := 112) rfl rfl rfl ?_
      refine J.isub (pc' := 113) rfl rfl ?_
      refine J.i2l (pc' := 114) rfl rfl (by first | omega | (exact R.r _ _) | (simp only [jM.len_sI, jM.len_sL, jM.len_sR, jM.len_fI, jM.len_fL, jM.len_fR]; omega) | (simp [jM.len_nw, jM.len_sI, jM.len_sL, jM.len_sR, jM.len_fI, jM.len_fL, jM.len_fR, *]; omega)) ?_
      refine J.lmul (pc' := 115) rfl rfl ?_
      refine J.ladd (pc' := 116) rfl rfl ?_
      refine J.putL (pc' := 119) rfl fl_X11_181 rfl (Or.inl rfl) (by first | assumption | (simp only [jM.tag_sI, jM.tag_sL, jM.tag_sR, jM.tag_fI, jM.tag_fL, jM.tag_fR]; assumption) | (simp [jM.tag_nw, jM.tag_sI, jM.tag_sL, jM.tag_sR, jM.tag_fI, jM.tag_fL, jM.tag_fR, *]; done)) (Or.inl rfl) rfl ?_
      refine J.iconst (pc' := 120) rfl rfl ?_
      refine J.iret rfl rfl (by first | omega | (exact R.r _ _) | (simp only [jM.len_sI, jM.len_sL, jM.len_sR, jM.len_fI, jM.len_fL, jM.len_fR]; omega) | (simp [jM.len_nw, jM.len_sI, jM.len_sL, jM.len_sR, jM.len_fI, jM.len_fL, jM.len_fR, *]; omega)) (by first | omega | (exact R.r _ _) | (simp only [jM.len_sI, jM.len_sL, jM.len_sR, jM.len_fI, jM.len_fL, jM.len_fR]; omega) | (simp [jM.len_nw, jM.len_sI, jM.len_sL, jM.len_sR, jM.len_fI, jM.len_fL, jM.len_fR, *]; omega)) ?_
      have hS4 : isSl (k2.sL 13 sz 2 (V 109 (V 127 l) + V 129 l * (Pv - V 133 l))) sz o (V 127 l) (oV V (V 127 l)) (V 109 (V 127 l) + V 129 l * (Pv - V 133 l)) := by
        obtain ⟨b1, b2, b3, b4, b5, b6, b7, b8⟩ := hS3
        exact ⟨b1, b2, b3, b4, b5, b6, by rw [jM.L_sL, if_pos ⟨rfl, rfl, rfl⟩], b8⟩
      have F4 : Fr k2 (k2.sL 13 sz 2 (V 109 (V 127 l) + V 129 l * (Pv - V 133 l))) (fun b => b = sz) := Fr.sL
      have hL4 : isLd (k2.sL 13 sz 2 (V 109 (V 127 l) + V 129 l * (Pv - V 133 l))) z l sz kz (V 129 l) (V 130 l) zc sp (nrP (lP V l) m lo hi) Gv Pv := hL3.kept F4 (fun w => by rw [w] at tz3; omega) (fun w => by have := hL3.2.2.2.2.2.2.2.2.1.1.1; rw [w] at this; omega) (fun w => by have := hL3.2.2.2.2.2.2.2.2.1.1.2.2.1; rw [w] at this; omega)
      have F24 : Fr k (k2.sL 13 sz 2 (V 109 (V 127 l) + V 129 l * (Pv - V 133 l))) (fun b => b = z ∨ b = sz) := F3.trans F4 (fun b _ w => w)
      have F4' : Fr h (k2.sL 13 sz 2 (V 109 (V 127 l) + V 129 l * (Pv - V 133 l))) (fun b => b = z ∨ b = sz ∨ b = pa h sp ∨ (7010 ≤ kd h b ∧ kd h b < 7016)) := F2.trans F24 (fun b _ w => by
        rcases w with w | w | w
        · exact w
        · exact Or.inl w
        · exact Or.inr (Or.inl w))
      generalize k2.sL 13 sz 2 (V 109 (V 127 l) + V 129 l * (Pv - V 133 l)) = k4 at hS4 F4 hL4 F24 F4' ⊢
      rw [← hGv, ← hPv] at hL4
      have FDk : FrD k k4 (fun c => c = 11 ∨ c = 13) := F24.mono (fun b hb w => by
        rcases w with w | w
        · rw [w, kd_t tz2 (by decide)]; exact Or.inl rfl
        · rw [w, kd_t hSk.1 (by decide)]; exact Or.inr rfl)
      have fin := sm_rep I hR cm1 al cl.2 hL as ak ac F4' hL4 hPn ?_ (fun g hg => ⟨(q g).1, (q g).2.1, (q g).2.2.1, (q g).2.2.2, ?_, (hEk g hg).d FDk (by (try dsimp only); omega)⟩)
      · refine ⟨rfl, ?_, fin.1, fin.2⟩
        dsimp only
        unfold smV fgV
        rw [jU_f _ (by decide), jU_f _ (by decide), jU_f _ (by decide), jU_ne _ _ (Or.inr (by decide)), jU_ne _ _ (Or.inr (by decide)), smW_o (by decide) (by decide)]
        exact h0
      · intro j s hj
        by_cases w : (j : Int) = V 127 l
        · have : s = sz := by
            have h2 := as.2
            rw [show (V 127 l).toNat = j by omega, hj] at h2
            exact Option.some.inj h2
          refine ⟨o, ?_⟩
          rw [this, w]
          dsimp only
          rw [if_pos rfl, hPv]
          exact hS4
        · obtain ⟨o', b⟩ := a3.2.2 j s hj
          refine ⟨o', ?_⟩
          dsimp only
          rw [if_neg w]
          have nz : s ≠ sz := fun u => by
            have e1 := b.2.1
            have e2 := hS.2.1
            rw [u] at e1
            omega
          refine b.kept F4' (fun u => ?_) (fun u => ?_)
          · rcases u with u | u | u | u
            · have := b.1; rw [u] at this; omega
            · exact nz u
            · have := b.1; rw [u] at this; omega
            · rw [kd_t b.1 (by decide)] at u; omega
          · have t1 := b.2.2.2.1
            rcases u with u | u | u | u
            · rw [u] at t1; omega
            · rw [u] at t1; omega
            · rw [u] at t1; omega
            · rw [kd_t t1 (by decide)] at u; omega
      · have t5 := a6.1
        have : ¬ (fun b => b = z ∨ b = sz ∨ b = pa h sp ∨ (7010 ≤ kd h b ∧ kd h b < 7016)) (ρ 5) := fun u => by
          rcases u with u | u | u | u
          · rw [u] at t5; omega
          · rw [u] at t5; omega
          · rw [u] at t5; omega
          · rw [kd_t t5 (by decide)] at u; omega
        rw [F4'.R t5 (by decide) this]
        exact (hq g hg).1
    · omega
  · rw [if_neg cc]
    refine J.if_ne (tgt := 34) (pc' := 32) rfl rfl rfl (by first | omega | (exact R.r _ _) | (simp only [jM.len_sI, jM.len_sL, jM.len_sR, jM.len_fI, jM.len_fL, jM.len_fR]; omega) | (simp [jM.len_nw, jM.len_sI, jM.len_sL, jM.len_sR, jM.len_fI, jM.len_fL, jM.len_fR, *]; omega)) (fun c2 => ?_) (fun c2 => ?_)
    · omega
    · refine J.iconst (pc' := 33) rfl rfl ?_
      refine J.iret rfl rfl (by first | omega | (exact R.r _ _) | (simp only [jM.len_sI, jM.len_sL, jM.len_sR, jM.len_fI, jM.len_fL, jM.len_fR]; omega) | (simp [jM.len_nw, jM.len_sI, jM.len_sL, jM.len_sR, jM.len_fI, jM.len_fL, jM.len_fR, *]; omega)) (by first | omega | (exact R.r _ _) | (simp only [jM.len_sI, jM.len_sL, jM.len_sR, jM.len_fI, jM.len_fL, jM.len_fR]; omega) | (simp [jM.len_nw, jM.len_sI, jM.len_sL, jM.len_sR, jM.len_fI, jM.len_fL, jM.len_fR, *]; omega)) ?_
      have es : sp_sample V l m lo hi = (0, V) := by unfold sp_sample; rw [if_pos cl, if_pos ⟨cm1, cs1⟩, if_neg cc]
      rw [es]
      exact ⟨rfl, h0, ⟨ρ, σ, ks, ss, cs, ls, ms, hR⟩, Fr.rf⟩
end SM

