/-- only what belongs to the class is written -/
abbrev FrT (h h' : jM) : Prop := Fr h h' (fun b => h.tag b ≠ 16 ∧ h.tag b < 36)
theorem FrC.toT {h h' : jM} (F : FrC h h' clsS) : FrT h h' := F.mono (fun b _ w => by
  have w : kc h b ≠ 16 ∧ kc h b < 9000 := w
  constructor
  · intro z
    rw [kc_o z (by decide)] at w
    exact w.1 rfl
  · by_cases z : h.tag b < 36
    · exact z
    · exfalso
      have : kc h b = 9000 + h.tag b := by
        unfold kc
        rw [if_neg (by omega), if_neg (by omega), if_neg (by omega), if_pos (by omega)]
      omega)
theorem FrT.trans {h h1 h2 : jM} (F : FrT h h1) (G : FrT h1 h2) : FrT h h2 := Fr.trans F G (fun b hb w => by
  rcases w with w | w
  · exact w
  · rw [(F b hb).1] at w; exact w)
section ML5
variable {γ : jG} {h h' : jM} {S : Nat → Prop} {ρ σ : Nat → Nat} {x : Nat} {ks ss cs ls ms : List Nat} {V W U : VV} {bt : Int → Int}
theorem cf_melt {n : Int} (hn : r32 n) (I : Inv V) (hR : RepB γ V h x ρ σ ks ss cs ls ms) : CT γ mX11_melt 10 120 8000 [.ref x, .int (jI n)] h (fun r h' => (1 ≤ n ∧ n ≤ 20) ∧ FrT h h' ∧ (((bestP V n).1 = -1 ∧ r = some (.int (jI (-1))) ∧ RepC γ V h' x) ∨ ((bestP V n).1 ≠ -1 ∧ V 16 52 = 30 ∧ r = some (.int (jI (-2))) ∧ RepC γ V h' x) ∨ ((bestP V n).1 ≠ -1 ∧ V 16 52 ≠ 30 ∧ r = some (.int (jI (V 16 52))) ∧ RepC γ (jU (mlH (jU V 153 (V 16 52) 0) (bestP V n).2 6) 16 52 (V 16 52 + 1)) h' x))) (fun E h' => ¬ (1 ≤ n ∧ n ≤ 20) ∧ E = eIAE ∧ h' = h) := by
  have R := I.1
  have hR0 := hR
  obtain ⟨a1, a2, a3, a4, a5, a6, a7, a8, a9, a10, a11⟩ := hR0
  obtain ⟨x0, x1, x2, x3, x4, x5, x6, x7, x8, x9, x10⟩ := a1
  have t4 := a10.1.1
  have r52 : 0 ≤ V 16 52 ∧ V 16 52 ≤ 30 := R 16 52 rfl
  refine CT.of MX11_melt (Nat.le_of_ble_eq_true rfl) ?_
  show J γ mX11_melt 10 120 8000 0 0 h 0 [(0, .ref x), (1, .int (jI n))] [] _ _
  refine J.iload_n (pc' := 1) rfl rfl rfl ?_
  refine J.callS (pc' := 4) rfl MX11_needChargeTons ml_X11_269 is_X11_needChargeTons (cx_needTons hn) rfl rfl (Nat.le_of_ble_eq_true rfl) (by first | omega | (exact R.r _ _) | (simp only [jM.len_sI, jM.len_sL, jM.len_sR, jM.len_fI, jM.len_fL, jM.len_fR]; omega) | (simp [jM.len_nw, jM.len_sI, jM.len_sL, jM.len_sR, jM.len_fI, jM.len_fL, jM.len_fR, *]; omega)) (by first | omega | (exact R.r _ _) | (simp only [jM.len_sI, jM.len_sL, jM.len_sR, jM.len_fI, jM.len_fL, jM.len_fR]; omega) | (simp [jM.len_nw, jM.len_sI, jM.len_sL, jM.len_sR, jM.len_fI, jM.len_fL, jM.len_fR, *]; omega)) (by first | omega | (exact R.r _ _) | (simp only [jM.len_sI, jM.len_sL, jM.len_sR, jM.len_fI, jM.len_fL, jM.len_fR]; omega) | (simp [jM.len_nw, jM.len_sI, jM.len_sL, jM.len_sR, jM.len_fI, jM.len_fL, jM.len_fR, *]; omega)) rfl rfl ?_ ?_
  · rintro _ _ ⟨hc, rfl, rfl⟩
    exact ⟨by omega, rfl, rfl⟩
  rintro _ h ⟨c1, rfl, rfl⟩
  first | refine J.aload_n (pc' := 5) rfl rfl rfl ?_ | refine J.aload_nN (pc' := 5) rfl rfl rfl ?_
  first | refine J.getR (pc' := 8) rfl fl_X11_44 rfl (by first | assumption | (simp only [jM.tag_sI, jM.tag_sL, jM.tag_sR, jM.tag_fI, jM.tag_fL, jM.tag_fR]; assumption) | (simp [jM.tag_nw, jM.tag_sI, jM.tag_sL, jM.tag_sR, jM.tag_fI, jM.tag_fL, jM.tag_fR, *]; done)) (by first | assumption | (simp only [jM.R_sI, jM.R_sL, jM.R_fI, jM.R_fL]; assumption) | (simp [jM.R_nw, jM.R_sR, jM.R_fR, jM.R_sI, jM.R_sL, jM.R_fI, jM.R_fL, *]; done)) rfl ?_ | refine J.getRN (pc' := 8) rfl fl_X11_44 rfl (by first | assumption | (simp only [jM.tag_sI, jM.tag_sL, jM.tag_sR, jM.tag_fI, jM.tag_fL, jM.tag_fR]; assumption) | (simp [jM.tag_nw, jM.tag_sI, jM.tag_sL, jM.tag_sR, jM.tag_fI, jM.tag_fL, jM.tag_fR, *]; done)) (by first | assumption | (simp only [jM.R_sI, jM.R_sL, jM.R_fI, jM.R_fL]; assumption) | (simp [jM.R_nw, jM.R_sR, jM.R_fR, jM.R_sI, jM.R_sL, jM.R_fI, jM.R_fL, *]; done)) rfl ?_
  first | refine J.aload_n (pc' := 9) rfl rfl rfl ?_ | refine J.aload_nN (pc' := 9) rfl rfl rfl ?_
  first | refine J.getR (pc' := 12) rfl fl_X11_30 rfl (by first | assumption | (simp only [jM.tag_sI, jM.tag_sL, jM.tag_sR, jM.tag_fI, jM.tag_fL, jM.tag_fR]; assumption) | (simp [jM.tag_nw, jM.tag_sI, jM.tag_sL, jM.tag_sR, jM.tag_fI, jM.tag_fL, jM.tag_fR, *]; done)) (by first | assumption | (simp only [jM.R_sI, jM.R_sL, jM.R_fI, jM.R_fL]; assumption) | (simp [jM.R_nw, jM.R_sR, jM.R_fR, jM.R_sI, jM.R_sL, jM.R_fI, jM.R_fL, *]; done)) rfl ?_ | refine J.getRN (pc' := 12) rfl fl_X11_30 rfl (by first | assumption | (simp only [jM.tag_sI, jM.tag_sL, jM.tag_sR, jM.tag_fI, jM.tag_fL, jM.tag_fR]; assumption) | (simp [jM.tag_nw, jM.tag_sI, jM.tag_sL, jM.tag_sR, jM.tag_fI, jM.tag_fL, jM.tag_fR, *]; done)) (by first | assumption | (simp only [jM.R_sI, jM.R_sL, jM.R_fI, jM.R_fL]; assumption) | (simp [jM.R_nw, jM.R_sR, jM.R_fR, jM.R_sI, jM.R_sL, jM.R_fI, jM.R_fL, *]; done)) rfl ?_
  first | refine J.aload_n (pc' := 13) rfl rfl rfl ?_ | refine J.aload_nN (pc' := 13) rfl rfl rfl ?_
  first | refine J.getR (pc' := 16) rfl fl_X11_37 rfl (by first | assumption | (simp only [jM.tag_sI, jM.tag_sL, jM.tag_sR, jM.tag_fI, jM.tag_fL, jM.tag_fR]; assumption) | (simp [jM.tag_nw, jM.tag_sI, jM.tag_sL, jM.tag_sR, jM.tag_fI, jM.tag_fL, jM.tag_fR, *]; done)) (by first | assumption | (simp only [jM.R_sI, jM.R_sL, jM.R_fI, jM.R_fL]; assumption) | (simp [jM.R_nw, jM.R_sR, jM.R_fR, jM.R_sI, jM.R_sL, jM.R_fI, jM.R_fL, *]; done)) rfl ?_ | refine J.getRN (pc' := 16) rfl fl_X11_37 rfl (by first | assumption | (simp only [jM.tag_sI, jM.tag_sL, jM.tag_sR, jM.tag_fI, jM.tag_fL, jM.tag_fR]; assumption) | (simp [jM.tag_nw, jM.tag_sI, jM.tag_sL, jM.tag_sR, jM.tag_fI, jM.tag_fL, jM.tag_fR, *]; done)) (by first | assumption | (simp only [jM.R_sI, jM.R_sL, jM.R_fI, jM.R_fL]; assumption) | (simp [jM.R_nw, jM.R_sR, jM.R_fR, jM.R_sI, jM.R_sL, jM.R_fI, jM.R_fL, *]; done)) rfl ?_
  refine J.iload_n (pc' := 17) rfl rfl rfl ?_
  refine J.callV (pc' := 20) (t := 4) rfl MX0_leastCost ml_X11_272 iv_X0_leastCost (by decide) ⟨_, rfl, rfl⟩ (by first | assumption | (simp only [jM.tag_sI, jM.tag_sL, jM.tag_sR, jM.tag_fI, jM.tag_fL, jM.tag_fR]; assumption) | (simp [jM.tag_nw, jM.tag_sI, jM.tag_sL, jM.tag_sR, jM.tag_fI, jM.tag_fL, jM.tag_fR, *]; done)) (cz_least R I.2.1 c1 a10 a6.hp a8 (aP_m V)) rfl rfl (Nat.le_of_ble_eq_true rfl) (by first | omega | (exact R.r _ _) | (simp only [jM.len_sI, jM.len_sL, jM.len_sR, jM.len_fI, jM.len_fL, jM.len_fR]; omega) | (simp [jM.len_nw, jM.len_sI, jM.len_sL, jM.len_sR, jM.len_fI, jM.len_fL, jM.len_fR, *]; omega)) (by first | omega | (exact R.r _ _) | (simp only [jM.len_sI, jM.len_sL, jM.len_sR, jM.len_fI, jM.len_fL, jM.len_fR]; omega) | (simp [jM.len_nw, jM.len_sI, jM.len_sL, jM.len_sR, jM.len_fI, jM.len_fL, jM.len_fR, *]; omega)) (by first | omega | (exact R.r _ _) | (simp only [jM.len_sI, jM.len_sL, jM.len_sR, jM.len_fI, jM.len_fL, jM.len_fR]; omega) | (simp [jM.len_nw, jM.len_sI, jM.len_sL, jM.len_sR, jM.len_fI, jM.len_fL, jM.len_fR, *]; omega)) rfl rfl ?_ ?_
  · exact fun _ _ z => z.elim
  rintro _ k ⟨rfl, q1, q2, q3, q4⟩
  obtain ⟨r1, r2⟩ := hR.sr q1 q2
  obtain ⟨y0, y1, y2, y3, y4, y5, y6, y7, y8, y9, y10⟩ := r1.1
  obtain ⟨⟨⟨e4, L4⟩, o4⟩, n4, E4⟩ := r1.2.2.2.2.2.2.1
  have tl := L4.1
  refine J.iconst (pc' := 21) rfl rfl ?_
  refine J.icmp_ne (tgt := 26) (pc' := 24) rfl rfl rfl (by first | omega | (exact R.r _ _) | (simp only [jM.len_sI, jM.len_sL, jM.len_sR, jM.len_fI, jM.len_fL, jM.len_fR]; omega) | (simp [jM.len_nw, jM.len_sI, jM.len_sL, jM.len_sR, jM.len_fI, jM.len_fL, jM.len_fR, *]; omega)) (by first | omega | (exact R.r _ _) | (simp only [jM.len_sI, jM.len_sL, jM.len_sR, jM.len_fI, jM.len_fL, jM.len_fR]; omega) | (simp [jM.len_nw, jM.len_sI, jM.len_sL, jM.len_sR, jM.len_fI, jM.len_fL, jM.len_fR, *]; omega)) (fun c3 => ?_) (fun c3 => ?_)
  · first | refine J.aload_n (pc' := 27) rfl rfl rfl ?_ | refine J.aload_nN (pc' := 27) rfl rfl rfl ?_
    first | refine J.getR (pc' := 30) rfl fl_X11_25 rfl (by first | assumption | (simp only [jM.tag_sI, jM.tag_sL, jM.tag_sR, jM.tag_fI, jM.tag_fL, jM.tag_fR]; assumption) | (simp [jM.tag_nw, jM.tag_sI, jM.tag_sL, jM.tag_sR, jM.tag_fI, jM.tag_fL, jM.tag_fR, *]; done)) (by first | assumption | (simp only [jM.R_sI, jM.R_sL, jM.R_fI, jM.R_fL]; assumption) | (simp [jM.R_nw, jM.R_sR, jM.R_fR, jM.R_sI, jM.R_sL, jM.R_fI, jM.R_fL, *]; done)) rfl ?_ | refine J.getRN (pc' := 30) rfl fl_X11_25 rfl (by first | assumption | (simp only [jM.tag_sI, jM.tag_sL, jM.tag_sR, jM.tag_fI, jM.tag_fL, jM.tag_fR]; assumption) | (simp [jM.tag_nw, jM.tag_sI, jM.tag_sL, jM.tag_sR, jM.tag_fI, jM.tag_fL, jM.tag_fR, *]; done)) (by first | assumption | (simp only [jM.R_sI, jM.R_sL, jM.R_fI, jM.R_fL]; assumption) | (simp [jM.R_nw, jM.R_sR, jM.R_fR, jM.R_sI, jM.R_sL, jM.R_fI, jM.R_fL, *]; done)) rfl ?_
    refine J.callV (pc' := 33) (t := 3) rfl MJx4a65c_size_8abf5 ml_X11_60 iv_Jx4a65c_size_8abf5 (by decide) ⟨_, rfl, rfl⟩ (by first | assumption | (simp only [jM.tag_sI, jM.tag_sL, jM.tag_sR, jM.tag_fI, jM.tag_fL, jM.tag_fR]; assumption) | (simp [jM.tag_nw, jM.tag_sI, jM.tag_sL, jM.tag_sR, jM.tag_fI, jM.tag_fL, jM.tag_fR, *]; done)) L4.size rfl rfl (Nat.le_of_ble_eq_true rfl) (by first | omega | (exact R.r _ _) | (simp only [jM.len_sI, jM.len_sL, jM.len_sR, jM.len_fI, jM.len_fL, jM.len_fR]; omega) | (simp [jM.len_nw, jM.len_sI, jM.len_sL, jM.len_sR, jM.len_fI, jM.len_fL, jM.len_fR, *]; omega)) (by first | omega | (exact R.r _ _) | (simp only [jM.len_sI, jM.len_sL, jM.len_sR, jM.len_fI, jM.len_fL, jM.len_fR]; omega) | (simp [jM.len_nw, jM.len_sI, jM.len_sL, jM.len_sR, jM.len_fI, jM.len_fL, jM.len_fR, *]; omega)) (by first | omega | (exact R.r _ _) | (simp only [jM.len_sI, jM.len_sL, jM.len_sR, jM.len_fI, jM.len_fL, jM.len_fR]; omega) | (simp [jM.len_nw, jM.len_sI, jM.len_sL, jM.len_sR, jM.len_fI, jM.len_fL, jM.len_fR, *]; omega)) rfl rfl ?_ ?_
    · exact fun _ _ z => z.elim
    rintro _ k ⟨rfl, rfl⟩
    rw [n4]
    refine J.bipush (pc' := 35) rfl rfl (by decide) ?_
    refine J.icmp_lt (tgt := 41) (pc' := 38) rfl rfl rfl (by first | omega | (exact R.r _ _) | (simp only [jM.len_sI, jM.len_sL, jM.len_sR, jM.len_fI, jM.len_fL, jM.len_fR]; omega) | (simp [jM.len_nw, jM.len_sI, jM.len_sL, jM.len_sR, jM.len_fI, jM.len_fL, jM.len_fR, *]; omega)) (by first | omega | (exact R.r _ _) | (simp only [jM.len_sI, jM.len_sL, jM.len_sR, jM.len_fI, jM.len_fL, jM.len_fR]; omega) | (simp [jM.len_nw, jM.len_sI, jM.len_sL, jM.len_sR, jM.len_fI, jM.len_fL, jM.len_fR, *]; omega)) (fun c4 => ?_) (fun c4 => ?_)
    · refine J.widenQ (fun r h' w => ?_) (fun _ _ w => w) (cf_ml41 (by omega) (by omega) c1 I r1 (fun w => c3 (by rw [w])) c4 (q3.resolve_left (fun w => c3 (by rw [w]))) _ ⟨rfl, rfl, trivial⟩)
      obtain ⟨w1, w2, w3⟩ := w
      exact ⟨c1, r2.toT.trans w3.toT, Or.inr (Or.inr ⟨fun w => c3 (by rw [w]), by omega, w1, w2⟩)⟩
    · refine J.bipush (pc' := 40) rfl rfl (by decide) ?_
      refine J.iret rfl rfl (by first | omega | (exact R.r _ _) | (simp only [jM.len_sI, jM.len_sL, jM.len_sR, jM.len_fI, jM.len_fL, jM.len_fR]; omega) | (simp [jM.len_nw, jM.len_sI, jM.len_sL, jM.len_sR, jM.len_fI, jM.len_fL, jM.len_fR, *]; omega)) (by first | omega | (exact R.r _ _) | (simp only [jM.len_sI, jM.len_sL, jM.len_sR, jM.len_fI, jM.len_fL, jM.len_fR]; omega) | (simp [jM.len_nw, jM.len_sI, jM.len_sL, jM.len_sR, jM.len_fI, jM.len_fL, jM.len_fR, *]; omega)) ?_
      exact ⟨c1, r2.toT, Or.inr (Or.inl ⟨fun w => c3 (by rw [w]), by omega, rfl, ρ, σ, ks, ss, cs, ls, ms, r1⟩)⟩
  · refine J.iconst (pc' := 25) rfl rfl ?_
    refine J.iret rfl rfl (by first | omega | (exact R.r _ _) | (simp only [jM.len_sI, jM.len_sL, jM.len_sR, jM.len_fI, jM.len_fL, jM.len_fR]; omega) | (simp [jM.len_nw, jM.len_sI, jM.len_sL, jM.len_sR, jM.len_fI, jM.len_fL, jM.len_fR, *]; omega)) (by first | omega | (exact R.r _ _) | (simp only [jM.len_sI, jM.len_sL, jM.len_sR, jM.len_fI, jM.len_fL, jM.len_fR]; omega) | (simp [jM.len_nw, jM.len_sI, jM.len_sL, jM.len_sR, jM.len_fI, jM.len_fL, jM.len_fR, *]; omega)) ?_
    exact ⟨c1, r2.toT, Or.inl ⟨by omega, rfl, ρ, σ, ks, ss, cs, ls, ms, r1⟩⟩
/-- scratch makes no difference -/
theorem mlV_scr {g left : Int} (e : ∀ t, t < 148 ∨ 151 < t → W t = V t) : ∀ t, t < 148 ∨ 151 < t → mlV W g left t = mlV V g left t := fun t ht => by
  have eY : mlY W g = mlY V g := by unfold mlY; rw [e 138 (by decide)]
  have eT : mlT W g left = mlT V g left := by unfold mlT; rw [eY, e 139 (by decide)]
  have eP : mlP W = mlP V := by unfold mlP; rw [e 16 (by decide), e 153 (by decide)]
  have eA : ∀ y p q, mlA W y p q 5 t = mlA V y p q 5 t := fun y p q => funext fun i => by
    unfold mlA lowL highL
    rw [e t ht, e 140 (by decide), e 142 (by decide), e 143 (by decide), e 134 (by decide), e 135 (by decide)]
  have eB : mlB W (mlY W g) (mlP W) (mlT W g left) t = mlB V (mlY V g) (mlP V) (mlT V g left) t := funext fun i => by
    unfold mlB
    rw [eY, eT, eP, e 16 (by decide), e 153 (by decide), e 139 (by decide)]
    unfold jU
    rw [eA]
  unfold mlV
  have eC : W 139 (mlY W g) - mlT W g left = V 139 (mlY V g) - mlT V g left := by rw [eY, eT, e 139 (by decide)]
  by_cases c : V 139 (mlY V g) - mlT V g left = 0
  · rw [if_pos c, if_pos (eC.trans c)]
    funext i
    unfold jU
    rw [eB, e 138 (by decide)]
  · rw [if_neg c, if_neg (fun w => c (eC.symm.trans w))]
    exact eB
theorem mlG_scr {g : Int} : ∀ (k : Nat) (W V : VV) (left : Int), (∀ t, t < 148 ∨ 151 < t → W t = V t) → ∀ t, t < 148 ∨ 151 < t → mlG k W g left t = mlG k V g left t := fun k => by
  induction k with
  | zero => exact fun W V left e => e
  | succ k ih =>
    intro W V left e t ht
    have eY : mlY W g = mlY V g := by unfold mlY; rw [e 138 (by decide)]
    have eT : mlT W g left = mlT V g left := by unfold mlT; rw [eY, e 139 (by decide)]
    rw [mlG, mlG]
    split
    · rw [eT]
      exact ih _ _ _ (mlV_scr e) t ht
    · exact e t ht
theorem mlH_scr (e : ∀ t, t < 148 ∨ 151 < t → W t = V t) : ∀ (g : Nat) t, t < 148 ∨ 151 < t → mlH W bt g t = mlH V bt g t := fun g => by
  induction g with
  | zero => exact e
  | succ g ih => exact fun t ht => by rw [mlH, mlH]; exact mlG_scr _ _ _ _ ih t ht
end ML5

