theorem ediv_of {a b q : Int} (hb : 0 < b) (h1 : b * q ≤ a) (h2 : a < b * q + b) : a / b = q := by
  refine Int.le_antisymm (Int.lt_add_one_iff.mp (Int.ediv_lt_of_lt_mul hb ?_)) (Int.le_ediv_of_mul_le hb ?_)
  · rw [Int.add_mul, Int.one_mul, Int.mul_comm q b]; exact h2
  · rw [Int.mul_comm q b]; exact h1
theorem up_eq {s t : Int} (ht : 0 < t) : -(-s / t) = (s + t - 1) / t := by
  have h1 : t * (-s / t) ≤ -s := Int.mul_ediv_self_le (by omega)
  have h2 : -s < t * (-s / t) + t := Int.lt_mul_ediv_self_add ht
  refine (ediv_of ht ?_ ?_).symm
  · rw [Int.mul_neg]; omega
  · rw [Int.mul_neg]; omega
theorem Sm_one {f : Int → Int} : ∀ (n : Nat), (∀ i : Nat, i < n → 0 ≤ f i) → (0 ≤ Sm f n ∧ ∀ j : Nat, j < n → f j ≤ Sm f n) := fun n => by
  induction n with
  | zero => exact fun _ => ⟨Int.le_refl _, fun j hj => absurd hj (Nat.not_lt_zero _)⟩
  | succ n ih =>
    intro h
    obtain ⟨a, b⟩ := ih (fun i hi => h i (by omega))
    have h0 := h n (by omega)
    rw [Sm]
    refine ⟨by omega, fun j hj => ?_⟩
    by_cases z : j = n
    · rw [z]; omega
    · have := b j (by omega)
      omega
section MM
variable {γ : jG} {h h' : jM} {S : Nat → Prop} {ρ σ : Nat → Nat} {x : Nat} {ks ss cs ls ms : List Nat} {V V' : VV}
theorem tons_g (I : Inv V) {g : Int} (hg : 0 ≤ g ∧ g < 6) : tonsOf V g ≤ 5000 := by
  have R := I.1
  have tB : Sm (fun g => tonsOf V g) 6 ≤ 50 * V 16 26 := I.2.2.2.2.2.2.2.2
  have l26 : 0 ≤ V 16 26 ∧ V 16 26 ≤ 100 := R 16 26 rfl
  have := (Sm_one (f := fun g => tonsOf V g) 6 (fun i _ => (tons_b R).1)).2 g.toNat (by omega)
  rw [show ((g.toNat : Nat) : Int) = g by omega] at this
  omega
theorem cf_move {f t n : Int} (hf : r32 f) (ht : r32 t) (hn : r32 n) (I : Inv V) (h0 : V 16 0 = 0) (hR : RepB γ V h x ρ σ ks ss cs ls ms) : CT γ mX11_move 9 60 6300 [.ref x, .int (jI f), .int (jI t), .int (jI n)] h (opQ γ x h (sp_move V f t n)) (opX V h (sp_move V f t n) [(eIAE, 1)]) := by
  have R := I.1
  have hR0 := hR
  obtain ⟨a1, a2, a3, a4, a5, a6, a7, a8, a9, a10, a11⟩ := hR0
  have x0 := a1.1
  have lA := I.2.2.2.1
  have lA0 := layAll_b R
  have same : ∀ v, opQ γ x h (v, V) (some (.int (jI v))) h := fun v => ⟨rfl, h0, ⟨ρ, σ, ks, ss, cs, ls, ms, hR⟩, Fr.rf⟩
  refine CT.of MX11_move (Nat.le_of_ble_eq_true rfl) ?_
  show J γ mX11_move 9 60 6300 0 0 h 0 [(0, .ref x), (1, .int (jI f)), (2, .int (jI t)), (3, .int (jI n))] [] _ _
  first | refine J.aload_n (pc' := 1) rfl rfl rfl ?_ | refine J.aload_nN (pc' := 1) rfl rfl rfl ?_
  refine J.iload_n (pc' := 2) rfl rfl rfl ?_
  refine J.callV (pc' := 5) (t := 15) rfl MX11_heapOf ml_X11_161 iv_X11_heapOf (by decide) ⟨_, rfl, rfl⟩ (by first | assumption | (simp only [jM.tag_sI, jM.tag_sL, jM.tag_sR, jM.tag_fI, jM.tag_fL, jM.tag_fR]; assumption) | (simp [jM.tag_nw, jM.tag_sI, jM.tag_sL, jM.tag_sR, jM.tag_fI, jM.tag_fL, jM.tag_fR, *]; done)) (cf_heapOf hf hR) rfl rfl (Nat.le_of_ble_eq_true rfl) (by first | omega | (exact R.r _ _) | (simp only [jM.len_sI, jM.len_sL, jM.len_sR, jM.len_fI, jM.len_fL, jM.len_fR]; omega) | (simp [jM.len_nw, jM.len_sI, jM.len_sL, jM.len_sR, jM.len_fI, jM.len_fL, jM.len_fR, *]; omega)) (by first | omega | (exact R.r _ _) | (simp only [jM.len_sI, jM.len_sL, jM.len_sR, jM.len_fI, jM.len_fL, jM.len_fR]; omega) | (simp [jM.len_nw, jM.len_sI, jM.len_sL, jM.len_sR, jM.len_fI, jM.len_fL, jM.len_fR, *]; omega)) (by first | omega | (exact R.r _ _) | (simp only [jM.len_sI, jM.len_sL, jM.len_sR, jM.len_fI, jM.len_fL, jM.len_fR]; omega) | (simp [jM.len_nw, jM.len_sI, jM.len_sL, jM.len_sR, jM.len_fI, jM.len_fL, jM.len_fR, *]; omega)) rfl rfl ?_ ?_
  · rintro _ _ ⟨hc, rfl, rfl⟩
    exact ⟨rfl, 1, by simp, by unfold sp_move; rw [if_neg hc]⟩
  rintro _ h ⟨p, a, e, xs, rfl, c1, r1, hE, rfl⟩
  first | refine J.astore (pc' := 7) rfl rfl (by decide) ?_ | refine J.astoreN (pc' := 7) rfl rfl (by decide) ?_
  first | refine J.aload_n (pc' := 8) rfl rfl rfl ?_ | refine J.aload_nN (pc' := 8) rfl rfl rfl ?_
  refine J.iload_n (pc' := 9) rfl rfl rfl ?_
  refine J.callV (pc' := 12) (t := 15) rfl MX11_heapOf ml_X11_161 iv_X11_heapOf (by decide) ⟨_, rfl, rfl⟩ (by first | assumption | (simp only [jM.tag_sI, jM.tag_sL, jM.tag_sR, jM.tag_fI, jM.tag_fL, jM.tag_fR]; assumption) | (simp [jM.tag_nw, jM.tag_sI, jM.tag_sL, jM.tag_sR, jM.tag_fI, jM.tag_fL, jM.tag_fR, *]; done)) (cf_heapOf ht hR) rfl rfl (Nat.le_of_ble_eq_true rfl) (by first | omega | (exact R.r _ _) | (simp only [jM.len_sI, jM.len_sL, jM.len_sR, jM.len_fI, jM.len_fL, jM.len_fR]; omega) | (simp [jM.len_nw, jM.len_sI, jM.len_sL, jM.len_sR, jM.len_fI, jM.len_fL, jM.len_fR, *]; omega)) (by first | omega | (exact R.r _ _) | (simp only [jM.len_sI, jM.len_sL, jM.len_sR, jM.len_fI, jM.len_fL, jM.len_fR]; omega) | (simp [jM.len_nw, jM.len_sI, jM.len_sL, jM.len_sR, jM.len_fI, jM.len_fL, jM.len_fR, *]; omega)) (by first | omega | (exact R.r _ _) | (simp only [jM.len_sI, jM.len_sL, jM.len_sR, jM.len_fI, jM.len_fL, jM.len_fR]; omega) | (simp [jM.len_nw, jM.len_sI, jM.len_sL, jM.len_sR, jM.len_fI, jM.len_fL, jM.len_fR, *]; omega)) rfl rfl ?_ ?_
  · rintro _ _ ⟨hc, rfl, rfl⟩
    exact ⟨rfl, 1, by simp, by unfold sp_move; rw [if_pos c1, if_neg hc]⟩
  rintro _ h ⟨p', b, d, ys, rfl, c2, r2, hE', rfl⟩
  have bad : ¬ (f ≠ t ∧ 1 ≤ n) → opX V h (sp_move V f t n) [(eIAE, 1)] eIAE h := fun q => ⟨rfl, 1, by simp, by unfold sp_move; rw [if_pos c1, if_pos c2, if_neg q]⟩
  have hE0 := hE
  have hE0' := hE'
  obtain ⟨b1, b2, b3, b4, b5, b6⟩ := hE0
  obtain ⟨d1, d2, d3, d4, d5, d6⟩ := hE0'
  have ef : ((f.toNat : Nat) : Int) = f := by omega
  have et : ((t.toNat : Nat) : Int) = t := by omega
  rw [ef] at b5 b6
  rw [et] at d5 d6
  have rm : ∀ i, 0 ≤ V 138 i ∧ V 138 i ≤ 40 := fun i => R 138 i rfl
  have rmf := rm f
  have rmt := rm t
  have tb := tons_b R (f := f)
  have t5 := tons_g I c1
  have eT : tonsOf V f = Sm (fun k => V 139 (41 * f + k)) xs.length := by unfold tonsOf; rw [show (V 138 f).toNat = xs.length by omega]
  first | refine J.astore (pc' := 14) rfl rfl (by decide) ?_ | refine J.astoreN (pc' := 14) rfl rfl (by decide) ?_
  refine J.iload_n (pc' := 15) rfl rfl rfl ?_
  refine J.iload_n (pc' := 16) rfl rfl rfl ?_
  refine J.icmp_ne (tgt := 29) (pc' := 19) rfl rfl rfl (by first | omega | (exact R.r _ _) | (simp only [jM.len_sI, jM.len_sL, jM.len_sR, jM.len_fI, jM.len_fL, jM.len_fR]; omega) | (simp [jM.len_nw, jM.len_sI, jM.len_sL, jM.len_sR, jM.len_fI, jM.len_fL, jM.len_fR, *]; omega)) (by first | omega | (exact R.r _ _) | (simp only [jM.len_sI, jM.len_sL, jM.len_sR, jM.len_fI, jM.len_fL, jM.len_fR]; omega) | (simp [jM.len_nw, jM.len_sI, jM.len_sL, jM.len_sR, jM.len_fI, jM.len_fL, jM.len_fR, *]; omega)) (fun c3 => ?_) (fun c3 => ?_)
  · refine J.iload_n (pc' := 30) rfl rfl rfl ?_
    refine J.iconst (pc' := 31) rfl rfl ?_
    refine J.icmp_ge (tgt := 45) (pc' := 34) rfl rfl rfl (by first | omega | (exact R.r _ _) | (simp only [jM.len_sI, jM.len_sL, jM.len_sR, jM.len_fI, jM.len_fL, jM.len_fR]; omega) | (simp [jM.len_nw, jM.len_sI, jM.len_sL, jM.len_sR, jM.len_fI, jM.len_fL, jM.len_fR, *]; omega)) (by first | omega | (exact R.r _ _) | (simp only [jM.len_sI, jM.len_sL, jM.len_sR, jM.len_fI, jM.len_fL, jM.len_fR]; omega) | (simp [jM.len_nw, jM.len_sI, jM.len_sL, jM.len_sR, jM.len_fI, jM.len_fL, jM.len_fR, *]; omega)) (fun c4 => ?_) (fun c4 => ?_)
    · first | refine J.aload (pc' := 47) rfl rfl rfl ?_ | refine J.aloadN (pc' := 47) rfl rfl rfl ?_
      first | refine J.getR (pc' := 50) rfl fl_X11_188 rfl (by first | assumption | (simp only [jM.tag_sI, jM.tag_sL, jM.tag_sR, jM.tag_fI, jM.tag_fL, jM.tag_fR]; assumption) | (simp [jM.tag_nw, jM.tag_sI, jM.tag_sL, jM.tag_sR, jM.tag_fI, jM.tag_fL, jM.tag_fR, *]; done)) (by first | assumption | (simp only [jM.R_sI, jM.R_sL, jM.R_fI, jM.R_fL]; assumption) | (simp [jM.R_nw, jM.R_sR, jM.R_fR, jM.R_sI, jM.R_sL, jM.R_fI, jM.R_fL, *]; done)) rfl ?_ | refine J.getRN (pc' := 50) rfl fl_X11_188 rfl (by first | assumption | (simp only [jM.tag_sI, jM.tag_sL, jM.tag_sR, jM.tag_fI, jM.tag_fL, jM.tag_fR]; assumption) | (simp [jM.tag_nw, jM.tag_sI, jM.tag_sL, jM.tag_sR, jM.tag_fI, jM.tag_fL, jM.tag_fR, *]; done)) (by first | assumption | (simp only [jM.R_sI, jM.R_sL, jM.R_fI, jM.R_fL]; assumption) | (simp [jM.R_nw, jM.R_sR, jM.R_fR, jM.R_sI, jM.R_sL, jM.R_fI, jM.R_fL, *]; done)) rfl ?_
      refine J.callS (pc' := 53) rfl MX11_tonsOf ml_X11_233 is_X11_tonsOf (cx_tonsOf b3.1 b6) rfl rfl (Nat.le_of_ble_eq_true rfl) (by first | omega | (exact R.r _ _) | (simp only [jM.len_sI, jM.len_sL, jM.len_sR, jM.len_fI, jM.len_fL, jM.len_fR]; omega) | (simp [jM.len_nw, jM.len_sI, jM.len_sL, jM.len_sR, jM.len_fI, jM.len_fL, jM.len_fR, *]; omega)) (by first | omega | (exact R.r _ _) | (simp only [jM.len_sI, jM.len_sL, jM.len_sR, jM.len_fI, jM.len_fL, jM.len_fR]; omega) | (simp [jM.len_nw, jM.len_sI, jM.len_sL, jM.len_sR, jM.len_fI, jM.len_fL, jM.len_fR, *]; omega)) (by first | omega | (exact R.r _ _) | (simp only [jM.len_sI, jM.len_sL, jM.len_sR, jM.len_fI, jM.len_fL, jM.len_fR]; omega) | (simp [jM.len_nw, jM.len_sI, jM.len_sL, jM.len_sR, jM.len_fI, jM.len_fL, jM.len_fR, *]; omega)) rfl rfl ?_ ?_
      · exact fun _ _ z => z.elim
      rintro _ h ⟨rfl, rfl⟩
      rw [← eT]
      refine J.iload_n (pc' := 54) rfl rfl rfl ?_
      refine J.icmp_ge (tgt := 59) (pc' := 57) rfl rfl rfl (by first | omega | (exact R.r _ _) | (simp only [jM.len_sI, jM.len_sL, jM.len_sR, jM.len_fI, jM.len_fL, jM.len_fR]; omega) | (simp [jM.len_nw, jM.len_sI, jM.len_sL, jM.len_sR, jM.len_fI, jM.len_fL, jM.len_fR, *]; omega)) (by first | omega | (exact R.r _ _) | (simp only [jM.len_sI, jM.len_sL, jM.len_sR, jM.len_fI, jM.len_fL, jM.len_fR]; omega) | (simp [jM.len_nw, jM.len_sI, jM.len_sL, jM.len_sR, jM.len_fI, jM.len_fL, jM.len_fR, *]; omega)) (fun c5 => ?_) (fun c5 => ?_)
      · have hN : ∀ k : Nat, k < xs.length → 1 ≤ V 139 (41 * f + k) ∧ V 139 (41 * f + k) ≤ 5000 := fun k hk => by
          have h1 := I.2.1 f k (by omega) (by omega) (by omega) (by omega)
          have h2 : 0 ≤ V 139 (41 * f + k) ∧ V 139 (41 * f + k) ≤ 5000 := R 139 _ rfl
          omega
        have sp := spL_gv (N := fun k => V 139 (41 * f + k)) xs.length n (by omega) (by omega)
        rw [gvW_mv] at sp
        have e38 : (V 138 f).toNat = xs.length := by omega
        have wb := mvW_b V f (fun i => (R 139 i rfl).1) xs.length n (by omega)
        have m2 := lay2 R c1 c2 c3
        have tail : ¬ (0 < (mvW V f xs.length n).2 ∧ layAll V = 40) → ∀ lv, hasL lv [(0, .ref x), (3, .int (jI n)), (4, .ref p), (5, .ref p')] → J γ mX11_move 9 60 6300 (0 + 1 + 1 + 0 + 0) (0 + 6 + 6 + 0 + 0) h 80 lv [] (opQ γ x h (sp_move V f t n)) (opX V h (sp_move V f t n) [(eIAE, 1)]) := fun hno lv hlv => by
          have es : sp_move V f t n = (1, if 0 < (mvW V f xs.length n).2 then mvS (mvX V f t (mvW V f xs.length n).1) f t (mvW V f xs.length n).2 else mvX V f t (mvW V f xs.length n).1) := by
            unfold sp_move
            rw [if_pos c1, if_pos c2, if_pos ⟨c3, by omega⟩, if_neg (by omega), e38, if_neg hno]
          rw [es]
          refine J.lc hlv ?_
          first | refine J.aload (pc' := 82) rfl rfl rfl ?_ | refine J.aloadN (pc' := 82) rfl rfl rfl ?_
          first | refine J.aload (pc' := 84) rfl rfl rfl ?_ | refine J.aloadN (pc' := 84) rfl rfl rfl ?_
          first | refine J.getR (pc' := 87) rfl fl_X11_188 rfl (by first | assumption | (simp only [jM.tag_sI, jM.tag_sL, jM.tag_sR, jM.tag_fI, jM.tag_fL, jM.tag_fR]; assumption) | (simp [jM.tag_nw, jM.tag_sI, jM.tag_sL, jM.tag_sR, jM.tag_fI, jM.tag_fL, jM.tag_fR, *]; done)) (by first | assumption | (simp only [jM.R_sI, jM.R_sL, jM.R_fI, jM.R_fL]; assumption) | (simp [jM.R_nw, jM.R_sR, jM.R_fR, jM.R_sI, jM.R_sL, jM.R_fI, jM.R_fL, *]; done)) rfl ?_ | refine J.getRN (pc' := 87) rfl fl_X11_188 rfl (by first | assumption | (simp only [jM.tag_sI, jM.tag_sL, jM.tag_sR, jM.tag_fI, jM.tag_fL, jM.tag_fR]; assumption) | (simp [jM.tag_nw, jM.tag_sI, jM.tag_sL, jM.tag_sR, jM.tag_fI, jM.tag_fL, jM.tag_fR, *]; done)) (by first | assumption | (simp only [jM.R_sI, jM.R_sL, jM.R_fI, jM.R_fL]; assumption) | (simp [jM.R_nw, jM.R_sR, jM.R_fR, jM.R_sI, jM.R_sL, jM.R_fI, jM.R_fL, *]; done)) rfl ?_
          refine J.iload_n (pc' := 88) rfl rfl rfl ?_
          refine J.callV (pc' := 91) (t := 8) rfl MX4_giveTo ml_X11_262 iv_X4_giveTo (by decide) ⟨_, rfl, rfl⟩ (by first | assumption | (simp only [jM.tag_sI, jM.tag_sL, jM.tag_sR, jM.tag_fI, jM.tag_fL, jM.tag_fR]; assumption) | (simp [jM.tag_nw, jM.tag_sI, jM.tag_sL, jM.tag_sR, jM.tag_fI, jM.tag_fL, jM.tag_fR, *]; done)) (cx_giveTo b1 b2 b3 b6 d3 d6 (fun w => by rw [w, d4] at b4; have := Option.some.inj b4; omega) hN (by omega) (by rw [← eT]; omega) (by omega) a11.2.2.1) rfl rfl (Nat.le_of_ble_eq_true rfl) (by first | omega | (exact R.r _ _) | (simp only [jM.len_sI, jM.len_sL, jM.len_sR, jM.len_fI, jM.len_fL, jM.len_fR]; omega) | (simp [jM.len_nw, jM.len_sI, jM.len_sL, jM.len_sR, jM.len_fI, jM.len_fL, jM.len_fR, *]; omega)) (by first | omega | (exact R.r _ _) | (simp only [jM.len_sI, jM.len_sL, jM.len_sR, jM.len_fI, jM.len_fL, jM.len_fR]; omega) | (simp [jM.len_nw, jM.len_sI, jM.len_sL, jM.len_sR, jM.len_fI, jM.len_fL, jM.len_fR, *]; omega)) (by first | omega | (exact R.r _ _) | (simp only [jM.len_sI, jM.len_sL, jM.len_sR, jM.len_fI, jM.len_fL, jM.len_fR]; omega) | (simp [jM.len_nw, jM.len_sI, jM.len_sL, jM.len_sR, jM.len_fI, jM.len_fL, jM.len_fR, *]; omega)) rfl rfl ?_ ?_
          · exact fun _ _ z => z.elim
          rintro _ k ⟨rfl, G⟩
          refine J.iconst (pc' := 92) rfl rfl ?_
          refine J.iret rfl rfl (by first | omega | (exact R.r _ _) | (simp only [jM.len_sI, jM.len_sL, jM.len_sR, jM.len_fI, jM.len_fL, jM.len_fR]; omega) | (simp [jM.len_nw, jM.len_sI, jM.len_sL, jM.len_sR, jM.len_fI, jM.len_fL, jM.len_fR, *]; omega)) (by first | omega | (exact R.r _ _) | (simp only [jM.len_sI, jM.len_sL, jM.len_sR, jM.len_fI, jM.len_fL, jM.len_fR]; omega) | (simp [jM.len_nw, jM.len_sI, jM.len_sL, jM.len_sR, jM.len_fI, jM.len_fL, jM.len_fR, *]; omega)) ?_
          rw [gvW_mv] at G
          have ok := mv_ok (V := V) (f := f) (t := t) (w := ((mvW V f xs.length n).1 : Int)) (l := (mvW V f xs.length n).2) c1 c2 c3 (by omega) (fun q => by have := (wb.2.2.2 (by rw [← eT]; omega) q).1; omega) (by omega)
          have fin := mv_rep (f := f.toNat) (t := t.toNat) (w := (mvW V f xs.length n).1) (l := (mvW V f xs.length n).2) I hR (by omega) (by omega) (by omega) r1 hE r2 hE' (by rw [ef]; omega) (fun q => by rw [ef]; have := (wb.2.2.2 (by rw [← eT]; omega) q).1; omega) (by rw [ef, et]; exact ok) (by rw [ef, et]; exact G)
          refine ⟨rfl, ?_, fin.1, fin.2⟩
          dsimp only
          rw [ok.o' 16 (by decide)]
          exact h0
        first | refine J.aload (pc' := 61) rfl rfl rfl ?_ | refine J.aloadN (pc' := 61) rfl rfl rfl ?_
        refine J.iload_n (pc' := 62) rfl rfl rfl ?_
        refine J.callV (pc' := 65) (t := 8) rfl MX4_splitsFor ml_X11_258 iv_X4_splitsFor (by decide) ⟨_, rfl, rfl⟩ (by first | assumption | (simp only [jM.tag_sI, jM.tag_sL, jM.tag_sR, jM.tag_fI, jM.tag_fL, jM.tag_fR]; assumption) | (simp [jM.tag_nw, jM.tag_sI, jM.tag_sL, jM.tag_sR, jM.tag_fI, jM.tag_fL, jM.tag_fR, *]; done)) (cx_splitsFor b1 b2 b3.1 b6 (fun k hk => by have := hN k hk; omega) (by omega)) rfl rfl (Nat.le_of_ble_eq_true rfl) (by first | omega | (exact R.r _ _) | (simp only [jM.len_sI, jM.len_sL, jM.len_sR, jM.len_fI, jM.len_fL, jM.len_fR]; omega) | (simp [jM.len_nw, jM.len_sI, jM.len_sL, jM.len_sR, jM.len_fI, jM.len_fL, jM.len_fR, *]; omega)) (by first | omega | (exact R.r _ _) | (simp only [jM.len_sI, jM.len_sL, jM.len_sR, jM.len_fI, jM.len_fL, jM.len_fR]; omega) | (simp [jM.len_nw, jM.len_sI, jM.len_sL, jM.len_sR, jM.len_fI, jM.len_fL, jM.len_fR, *]; omega)) (by first | omega | (exact R.r _ _) | (simp only [jM.len_sI, jM.len_sL, jM.len_sR, jM.len_fI, jM.len_fL, jM.len_fR]; omega) | (simp [jM.len_nw, jM.len_sI, jM.len_sL, jM.len_sR, jM.len_fI, jM.len_fL, jM.len_fR, *]; omega)) rfl rfl ?_ ?_
        · exact fun _ _ z => z.elim
        rintro _ h ⟨rfl, rfl⟩
        by_cases c6 : spL (fun k => V 139 (41 * f + k)) xs.length n < 0
        · rw [if_pos c6]
          refine J.if_eq (tgt := 80) (pc' := 68) rfl rfl rfl (by first | omega | (exact R.r _ _) | (simp only [jM.len_sI, jM.len_sL, jM.len_sR, jM.len_fI, jM.len_fL, jM.len_fR]; omega) | (simp [jM.len_nw, jM.len_sI, jM.len_sL, jM.len_sR, jM.len_fI, jM.len_fL, jM.len_fR, *]; omega)) (fun c7 => ?_) (fun c7 => ?_)
          · omega
          · first | refine J.aload_n (pc' := 69) rfl rfl rfl ?_ | refine J.aload_nN (pc' := 69) rfl rfl rfl ?_
            refine J.callV (pc' := 72) (t := 15) rfl MX11_layersInAll ml_X11_167 iv_X11_layersInAll (by decide) ⟨_, rfl, rfl⟩ (by first | assumption | (simp only [jM.tag_sI, jM.tag_sL, jM.tag_sR, jM.tag_fI, jM.tag_fL, jM.tag_fR]; assumption) | (simp [jM.tag_nw, jM.tag_sI, jM.tag_sL, jM.tag_sR, jM.tag_fI, jM.tag_fL, jM.tag_fR, *]; done)) (cf_layersInAll hR) rfl rfl (Nat.le_of_ble_eq_true rfl) (by first | omega | (exact R.r _ _) | (simp only [jM.len_sI, jM.len_sL, jM.len_sR, jM.len_fI, jM.len_fL, jM.len_fR]; omega) | (simp [jM.len_nw, jM.len_sI, jM.len_sL, jM.len_sR, jM.len_fI, jM.len_fL, jM.len_fR, *]; omega)) (by first | omega | (exact R.r _ _) | (simp only [jM.len_sI, jM.len_sL, jM.len_sR, jM.len_fI, jM.len_fL, jM.len_fR]; omega) | (simp [jM.len_nw, jM.len_sI, jM.len_sL, jM.len_sR, jM.len_fI, jM.len_fL, jM.len_fR, *]; omega)) (by first | omega | (exact R.r _ _) | (simp only [jM.len_sI, jM.len_sL, jM.len_sR, jM.len_fI, jM.len_fL, jM.len_fR]; omega) | (simp [jM.len_nw, jM.len_sI, jM.len_sL, jM.len_sR, jM.len_fI, jM.len_fL, jM.len_fR, *]; omega)) rfl rfl ?_ ?_
            · exact fun _ _ z => z.elim
            rintro _ h ⟨rfl, rfl⟩
            refine J.bipush (pc' := 74) rfl rfl (by decide) ?_
            refine J.icmp_lt (tgt := 80) (pc' := 77) rfl rfl rfl (by first | omega | (exact R.r _ _) | (simp only [jM.len_sI, jM.len_sL, jM.len_sR, jM.len_fI, jM.len_fL, jM.len_fR]; omega) | (simp [jM.len_nw, jM.len_sI, jM.len_sL, jM.len_sR, jM.len_fI, jM.len_fL, jM.len_fR, *]; omega)) (by first | omega | (exact R.r _ _) | (simp only [jM.len_sI, jM.len_sL, jM.len_sR, jM.len_fI, jM.len_fL, jM.len_fR]; omega) | (simp [jM.len_nw, jM.len_sI, jM.len_sL, jM.len_sR, jM.len_fI, jM.len_fL, jM.len_fR, *]; omega)) (fun c8 => ?_) (fun c8 => ?_)
            · exact tail (by omega) _ ⟨rfl, rfl, rfl, rfl, trivial⟩
            · refine J.bipush (pc' := 79) rfl rfl (by decide) ?_
              refine J.iret rfl rfl (by first | omega | (exact R.r _ _) | (simp only [jM.len_sI, jM.len_sL, jM.len_sR, jM.len_fI, jM.len_fL, jM.len_fR]; omega) | (simp [jM.len_nw, jM.len_sI, jM.len_sL, jM.len_sR, jM.len_fI, jM.len_fL, jM.len_fR, *]; omega)) (by first | omega | (exact R.r _ _) | (simp only [jM.len_sI, jM.len_sL, jM.len_sR, jM.len_fI, jM.len_fL, jM.len_fR]; omega) | (simp [jM.len_nw, jM.len_sI, jM.len_sL, jM.len_sR, jM.len_fI, jM.len_fL, jM.len_fR, *]; omega)) ?_
              have es : sp_move V f t n = (-3, V) := by
                unfold sp_move
                rw [if_pos c1, if_pos c2, if_pos ⟨c3, by omega⟩, if_neg (by omega), e38, if_pos ⟨sp.mp c6, by omega⟩]
              rw [es]
              exact same _
        · rw [if_neg c6]
          refine J.if_eq (tgt := 80) (pc' := 68) rfl rfl rfl (by first | omega | (exact R.r _ _) | (simp only [jM.len_sI, jM.len_sL, jM.len_sR, jM.len_fI, jM.len_fL, jM.len_fR]; omega) | (simp [jM.len_nw, jM.len_sI, jM.len_sL, jM.len_sR, jM.len_fI, jM.len_fL, jM.len_fR, *]; omega)) (fun c7 => ?_) (fun c7 => ?_)
          · exact tail (fun q => c6 (sp.mpr q.1)) _ ⟨rfl, rfl, rfl, rfl, trivial⟩
          · omega
      · refine J.iconst (pc' := 58) rfl rfl ?_
        refine J.iret rfl rfl (by first | omega | (exact R.r _ _) | (simp only [jM.len_sI, jM.len_sL, jM.len_sR, jM.len_fI, jM.len_fL, jM.len_fR]; omega) | (simp [jM.len_nw, jM.len_sI, jM.len_sL, jM.len_sR, jM.len_fI, jM.len_fL, jM.len_fR, *]; omega)) (by first | omega | (exact R.r _ _) | (simp only [jM.len_sI, jM.len_sL, jM.len_sR, jM.len_fI, jM.len_fL, jM.len_fR]; omega) | (simp [jM.len_nw, jM.len_sI, jM.len_sL, jM.len_sR, jM.len_fI, jM.len_fL, jM.len_fR, *]; omega)) ?_
        have es : sp_move V f t n = (0, V) := by
          unfold sp_move
          rw [if_pos c1, if_pos c2, if_pos ⟨c3, by omega⟩, if_pos (by omega)]
        rw [es]
        exact same _
    · refine J.throwW (text := "less than a ton") rfl rfl rfl rfl rfl jThr_IAE (List.mem_of_getElem? (i := 582) (by decide +kernel)) (List.mem_of_getElem? (i := 1209) (by decide +kernel)) rfl (by first | omega | (exact R.r _ _) | (simp only [jM.len_sI, jM.len_sL, jM.len_sR, jM.len_fI, jM.len_fL, jM.len_fR]; omega) | (simp [jM.len_nw, jM.len_sI, jM.len_sL, jM.len_sR, jM.len_fI, jM.len_fL, jM.len_fR, *]; omega)) (Nat.le_of_ble_eq_true rfl) (by first | omega | (exact R.r _ _) | (simp only [jM.len_sI, jM.len_sL, jM.len_sR, jM.len_fI, jM.len_fL, jM.len_fR]; omega) | (simp [jM.len_nw, jM.len_sI, jM.len_sL, jM.len_sR, jM.len_fI, jM.len_fL, jM.len_fR, *]; omega)) (by first | omega | (exact R.r _ _) | (simp only [jM.len_sI, jM.len_sL, jM.len_sR, jM.len_fI, jM.len_fL, jM.len_fR]; omega) | (simp [jM.len_nw, jM.len_sI, jM.len_sL, jM.len_sR, jM.len_fI, jM.len_fL, jM.len_fR, *]; omega)) ?_
      exact bad (by omega)
  · refine J.throwL (text := "both heaps are one") rfl rfl rfl rfl rfl jThr_IAE (List.mem_of_getElem? (i := 582) (by decide +kernel)) (List.mem_of_getElem? (i := 1208) (by decide +kernel)) rfl (by first | omega | (exact R.r _ _) | (simp only [jM.len_sI, jM.len_sL, jM.len_sR, jM.len_fI, jM.len_fL, jM.len_fR]; omega) | (simp [jM.len_nw, jM.len_sI, jM.len_sL, jM.len_sR, jM.len_fI, jM.len_fL, jM.len_fR, *]; omega)) (Nat.le_of_ble_eq_true rfl) (by first | omega | (exact R.r _ _) | (simp only [jM.len_sI, jM.len_sL, jM.len_sR, jM.len_fI, jM.len_fL, jM.len_fR]; omega) | (simp [jM.len_nw, jM.len_sI, jM.len_sL, jM.len_sR, jM.len_fI, jM.len_fL, jM.len_fR, *]; omega)) (by first | omega | (exact R.r _ _) | (simp only [jM.len_sI, jM.len_sL, jM.len_sR, jM.len_fI, jM.len_fL, jM.len_fR]; omega) | (simp [jM.len_nw, jM.len_sI, jM.len_sL, jM.len_sR, jM.len_fI, jM.len_fL, jM.len_fR, *]; omega)) ?_
    exact bad (by omega)
theorem mx_rep {k : jM} {g p a e e' z : Nat} {ys : List Nat} (I : Inv V) (hR : RepB γ V h x ρ σ ks ss cs ls ms) (hg : g < 6) (h2 : 2 ≤ V 138 g) (r1 : h.R 33 (ρ 5) g = some p) (hE : hepE γ h ls V g p a e ys) (L : isLs γ k a e' [z]) (Y : isY k z (tonsOf V g) none (mxC V g) (fun j => if j % 2 = 0 then mxL V g ((j / 2 : Nat) : Int) else mxH V g ((j / 2 : Nat) : Int))) (F : Fr h k (lW h a e)) : RepC γ (jU (mxD V g 5) 138 g 1) k x ∧ FrC h k clsS := by
  have R := I.1
  obtain ⟨a1, a2, a3, a4, a5, a6, a7, a8, a9, a10, a11⟩ := hR
  have l4 := csz a4.1
  have l7 := msz a7.1
  obtain ⟨b1, b2, b3, b4, b5, b6⟩ := hE
  have FD : FrD h k (fun c => c = 5010 + g) := F.mono (fun z hz w => by have := lW_kd b3.1 b4 w; omega)
  have FC : FrC h k (fun c => c = 10 ∨ c = 110 ∨ c = 5010 + g) := FD.toC (fun c w => Or.inr (Or.inr w)) (Or.inl rfl) (Or.inr (Or.inl rfl))
  have rm : ∀ i, 0 ≤ V 138 i ∧ V 138 i ≤ 40 := fun i => R 138 i rfl
  have bo : ∀ t i, ¬ (139 ≤ t ∧ t ≤ 145) → mxB V g t i = V t i := fun t i ht => by
    unfold mxB mxA
    rw [jU_o _ (by omega), jU_o _ (by omega), jU_o _ (by omega), if_neg (by omega)]
  have eV : ∀ r, r ≠ 16 → ¬ (fun r : Nat => 138 ≤ r ∧ r ≤ 145) r → jU (mxD V g 5) 138 g 1 r = V r := fun r _ h1 => funext fun i => by
    have h1 : ¬ (138 ≤ r ∧ r ≤ 145) := h1
    unfold mxD
    rw [jU_o _ (by omega), if_neg (by omega), bo _ _ (by omega)]
  have es' : ∀ i, ¬ (fun i : Int => i = 99) i → jU (mxD V g 5) 138 g 1 16 i = V 16 i := fun i _ => by
    unfold mxD
    rw [jU_o _ (by decide), if_neg (by omega), bo _ _ (by omega)]
  have w5 : ¬ (fun c => c = 5010 + g) (kd h (ρ 5)) := by rw [kd_t a6.1 (by decide)]; dsimp only; omega
  have w8 : ¬ (fun c => c = 5010 + g) (kd h p) := by rw [kd_t b1 (by decide)]; dsimp only; omega
  have ao : ∀ t i, t ≠ 144 → t ≠ 145 → mxA V g 5 t i = V t i := fun t i h1 h2 => by
    unfold mxA
    rw [if_neg (by omega)]
  have v139 : ∀ i, jU (mxD V g 5) 138 g 1 139 i = if i = 41 * (g : Int) then tonsOf V g else V 139 i := fun i => by
    unfold mxD mxB
    rw [jU_o _ (by decide), if_neg (by omega), jU_o _ (by decide), jU_o _ (by decide), jU_at, ao _ _ (by decide) (by decide)]
  have v140 : ∀ i, jU (mxD V g 5) 138 g 1 140 i = if i = 41 * (g : Int) then -1 else V 140 i := fun i => by
    unfold mxD mxB
    rw [jU_o _ (by decide), if_neg (by omega), jU_o _ (by decide), jU_at, jU_o _ (by decide), ao _ _ (by decide) (by decide)]
  have v141 : ∀ i, jU (mxD V g 5) 138 g 1 141 i = if i = 41 * (g : Int) then mxC V g else V 141 i := fun i => by
    unfold mxD mxB
    rw [jU_o _ (by decide), if_neg (by omega), jU_at, jU_o _ (by decide), jU_o _ (by decide), ao _ _ (by decide) (by decide)]
  have v142 : ∀ y j, 0 ≤ j → j < 5 → jU (mxD V g 5) 138 g 1 142 (5 * y + j) = (if y = 41 * (g : Int) then mxL V g j else V 142 (5 * y + j)) ∧ jU (mxD V g 5) 138 g 1 143 (5 * y + j) = (if y = 41 * (g : Int) then mxH V g j else V 143 (5 * y + j)) := fun y j h0 h1 => by
    unfold mxD
    rw [jU_o _ (by decide), jU_o _ (by decide)]
    by_cases c : y = 41 * (g : Int)
    · have c1 : (142 = 142 ∨ 142 = 143) ∧ 5 * (41 * (g : Int)) ≤ 5 * y + j ∧ 5 * y + j < 5 * (41 * (g : Int)) + 5 := by omega
      have c2 : (143 = 142 ∨ 143 = 143) ∧ 5 * (41 * (g : Int)) ≤ 5 * y + j ∧ 5 * y + j < 5 * (41 * (g : Int)) + 5 := by omega
      rw [if_pos c1, if_pos c2, if_pos c, if_pos c, if_pos (show 142 = 142 from rfl), if_neg (show ¬ 143 = 142 by decide), show 5 * y + j - 5 * (41 * (g : Int)) = j by omega]
      exact ⟨rfl, rfl⟩
    · have c1 : ¬ ((142 = 142 ∨ 142 = 143) ∧ 5 * (41 * (g : Int)) ≤ 5 * y + j ∧ 5 * y + j < 5 * (41 * (g : Int)) + 5) := by omega
      have c2 : ¬ ((143 = 142 ∨ 143 = 143) ∧ 5 * (41 * (g : Int)) ≤ 5 * y + j ∧ 5 * y + j < 5 * (41 * (g : Int)) + 5) := by omega
      rw [if_neg c1, if_neg c2, if_neg c, if_neg c]
      unfold mxB
      rw [jU_o _ (by decide), jU_o _ (by decide), jU_o _ (by decide), jU_o _ (by decide), jU_o _ (by decide), jU_o _ (by decide), ao _ _ (by decide) (by decide), ao _ _ (by decide) (by decide)]
      exact ⟨rfl, rfl⟩
  have e4 := eV 134 (by decide) (by decide)
  have e5 := eV 135 (by decide) (by decide)
  refine ⟨⟨ρ, σ, ks, ss, cs, ls, ms, a1.k FC es' (by (try dsimp only); omega) (by (try dsimp only); omega), a2.k FC eV es' (by (try dsimp only); omega) (by (try dsimp only); omega), a3.k FC eV es' (by (try dsimp only); omega) (by (try dsimp only); omega), a4.k FC eV es' (by (try dsimp only); omega) (fun _ _ => (by (try dsimp only); omega)) ⟨by (try dsimp only); omega, fun _ _ _ => by (try dsimp only); omega⟩, a5.k FC eV es' (by (try dsimp only); omega) ⟨by (try dsimp only); omega, fun _ _ _ => by (try dsimp only); omega⟩, ⟨FC.tag a6.1 (by decide), by rw [FC.len (by have := a6.1; omega)]; exact a6.2.1, fun g' hg' => ?_⟩, a7.dk FD eV es' (by (try dsimp only); omega) (fun _ _ => (by (try dsimp only); omega)) ⟨by (try dsimp only); omega, fun _ _ _ => by (try dsimp only); omega⟩, a8.k FC eV a1.1 (by (try dsimp only); omega) (by (try dsimp only); omega), a9.k FC eV es' (by (try dsimp only); omega) (by (try dsimp only); omega), a10.c FC (fun _ _ _ => (by (try dsimp only); omega)) (by (try dsimp only); omega), isK.c FC a11 (by (try dsimp only); omega) (by (try dsimp only); omega)⟩, FC.mono (fun b hb w => ?_)⟩
  · rw [FD.R a6.1 (by decide) w5]
    by_cases gg : g' = g
    · subst gg
      refine ⟨p, a, e', [z], r1, FD.tag b1 (by decide), by rw [FD.R b1 (by decide) w8]; exact b2, L, by rw [FD.ow (by have := b3.1.1; omega)]; exact b4, by rw [jU_same]; rfl, fun j y hj => ?_⟩
      cases j with
      | succ j => simp at hj
      | zero =>
        have : z = y := by simpa using hj
        subst this
        have e0 : 41 * (g' : Int) + ((0 : Nat) : Int) = 41 * (g' : Int) := by omega
        dsimp only
        rw [e0, v139, v140, v141, if_pos rfl, if_pos rfl, if_pos rfl]
        refine Y.cgP (fun i hi => ?_)
        unfold yP lowL highL
        rw [v140, if_pos rfl, if_pos rfl, if_pos rfl, (v142 _ _ (by omega) (by omega)).1, (v142 _ _ (by omega) (by omega)).2, if_pos rfl, if_pos rfl]
    · obtain ⟨p2, a2', e2', ys2, q1, q2⟩ := a6.2.2 g' hg'
      obtain ⟨q3, q4, q5, q6, q7, q8⟩ := q2.d FD (by (try dsimp only); omega)
      have u38 : jU (mxD V g 5) 138 g 1 138 g' = V 138 g' := by
        rw [jU_ne _ _ (Or.inr (by omega))]
        unfold mxD
        rw [if_neg (by omega), bo _ _ (by omega)]
      refine ⟨p2, a2', e2', ys2, q1, q3, q4, q5, q6, by rw [u38]; exact q7, q8.cgP (fun j hj => ?_)⟩
      have := rm g'
      have ne : ¬ 41 * (g' : Int) + (j : Int) = 41 * (g : Int) := by omega
      refine ⟨by rw [v139, if_neg ne], by rw [v140, if_neg ne], by rw [v141, if_neg ne], yP_src (by rw [v140, if_neg ne]) e4 e5 (fun i i0 i1 => by rw [(v142 _ _ i0 i1).1, (v142 _ _ i0 i1).2, if_neg ne, if_neg ne]; exact ⟨rfl, rfl⟩)⟩
  · unfold clsS
    omega
theorem cf_mix {g : Int} (hg : r32 g) (I : Inv V) (h0 : V 16 0 = 0) (hR : RepB γ V h x ρ σ ks ss cs ls ms) : CT γ mX11_mix 9 20 1100 [.ref x, .int (jI g)] h (opQ γ x h (sp_mix V g)) (opX V h (sp_mix V g) [(eIAE, 1)]) := by
  have R := I.1
  have hR0 := hR
  obtain ⟨a1, a2, a3, a4, a5, a6, a7, a8, a9, a10, a11⟩ := hR0
  have x0 := a1.1
  refine CT.of MX11_mix (Nat.le_of_ble_eq_true rfl) ?_
  show J γ mX11_mix 9 20 1100 0 0 h 0 [(0, .ref x), (1, .int (jI g))] [] _ _
  first | refine J.aload_n (pc' := 1) rfl rfl rfl ?_ | refine J.aload_nN (pc' := 1) rfl rfl rfl ?_
  refine J.iload_n (pc' := 2) rfl rfl rfl ?_
  refine J.callV (pc' := 5) (t := 15) rfl MX11_heapOf ml_X11_161 iv_X11_heapOf (by decide) ⟨_, rfl, rfl⟩ (by first | assumption | (simp only [jM.tag_sI, jM.tag_sL, jM.tag_sR, jM.tag_fI, jM.tag_fL, jM.tag_fR]; assumption) | (simp [jM.tag_nw, jM.tag_sI, jM.tag_sL, jM.tag_sR, jM.tag_fI, jM.tag_fL, jM.tag_fR, *]; done)) (cf_heapOf hg hR) rfl rfl (Nat.le_of_ble_eq_true rfl) (by first | omega | (exact R.r _ _) | (simp only [jM.len_sI, jM.len_sL, jM.len_sR, jM.len_fI, jM.len_fL, jM.len_fR]; omega) | (simp [jM.len_nw, jM.len_sI, jM.len_sL, jM.len_sR, jM.len_fI, jM.len_fL, jM.len_fR, *]; omega)) (by first | omega | (exact R.r _ _) | (simp only [jM.len_sI, jM.len_sL, jM.len_sR, jM.len_fI, jM.len_fL, jM.len_fR]; omega) | (simp [jM.len_nw, jM.len_sI, jM.len_sL, jM.len_sR, jM.len_fI, jM.len_fL, jM.len_fR, *]; omega)) (by first | omega | (exact R.r _ _) | (simp only [jM.len_sI, jM.len_sL, jM.len_sR, jM.len_fI, jM.len_fL, jM.len_fR]; omega) | (simp [jM.len_nw, jM.len_sI, jM.len_sL, jM.len_sR, jM.len_fI, jM.len_fL, jM.len_fR, *]; omega)) rfl rfl ?_ ?_
  · rintro _ _ ⟨hc, rfl, rfl⟩
    exact ⟨rfl, 1, by simp, by unfold sp_mix; rw [if_neg hc]⟩
  rintro _ h ⟨p, a, e, ys, rfl, c1, r1, hE, rfl⟩
  have hE0 := hE
  obtain ⟨b1, b2, b3, b4, b5, b6⟩ := hE0
  have ef : ((g.toNat : Nat) : Int) = g := by omega
  rw [ef] at b5 b6
  have rm : 0 ≤ V 138 g ∧ V 138 g ≤ 40 := R 138 g rfl
  have e38 : (V 138 g).toNat = ys.length := by omega
  have ta := b3.1.1
  have eT : tonsOf V g = Sm (fun k => V 139 (41 * g + k)) ys.length := by unfold tonsOf; rw [e38]
  have t5 := tons_g I c1
  first | refine J.astore_n (pc' := 6) rfl rfl (by decide) ?_ | refine J.astore_nN (pc' := 6) rfl rfl (by decide) ?_
  first | refine J.aload_n (pc' := 7) rfl rfl rfl ?_ | refine J.aload_nN (pc' := 7) rfl rfl rfl ?_
  first | refine J.getR (pc' := 10) rfl fl_X11_188 rfl (by first | assumption | (simp only [jM.tag_sI, jM.tag_sL, jM.tag_sR, jM.tag_fI, jM.tag_fL, jM.tag_fR]; assumption) | (simp [jM.tag_nw, jM.tag_sI, jM.tag_sL, jM.tag_sR, jM.tag_fI, jM.tag_fL, jM.tag_fR, *]; done)) (by first | assumption | (simp only [jM.R_sI, jM.R_sL, jM.R_fI, jM.R_fL]; assumption) | (simp [jM.R_nw, jM.R_sR, jM.R_fR, jM.R_sI, jM.R_sL, jM.R_fI, jM.R_fL, *]; done)) rfl ?_ | refine J.getRN (pc' := 10) rfl fl_X11_188 rfl (by first | assumption | (simp only [jM.tag_sI, jM.tag_sL, jM.tag_sR, jM.tag_fI, jM.tag_fL, jM.tag_fR]; assumption) | (simp [jM.tag_nw, jM.tag_sI, jM.tag_sL, jM.tag_sR, jM.tag_fI, jM.tag_fL, jM.tag_fR, *]; done)) (by first | assumption | (simp only [jM.R_sI, jM.R_sL, jM.R_fI, jM.R_fL]; assumption) | (simp [jM.R_nw, jM.R_sR, jM.R_fR, jM.R_sI, jM.R_sL, jM.R_fI, jM.R_fL, *]; done)) rfl ?_
  refine J.callV (pc' := 13) (t := 3) rfl MJx4a65c_size_8abf5 ml_X11_60 iv_Jx4a65c_size_8abf5 (by decide) ⟨_, rfl, rfl⟩ (by first | assumption | (simp only [jM.tag_sI, jM.tag_sL, jM.tag_sR, jM.tag_fI, jM.tag_fL, jM.tag_fR]; assumption) | (simp [jM.tag_nw, jM.tag_sI, jM.tag_sL, jM.tag_sR, jM.tag_fI, jM.tag_fL, jM.tag_fR, *]; done)) b3.1.size rfl rfl (Nat.le_of_ble_eq_true rfl) (by first | omega | (exact R.r _ _) | (simp only [jM.len_sI, jM.len_sL, jM.len_sR, jM.len_fI, jM.len_fL, jM.len_fR]; omega) | (simp [jM.len_nw, jM.len_sI, jM.len_sL, jM.len_sR, jM.len_fI, jM.len_fL, jM.len_fR, *]; omega)) (by first | omega | (exact R.r _ _) | (simp only [jM.len_sI, jM.len_sL, jM.len_sR, jM.len_fI, jM.len_fL, jM.len_fR]; omega) | (simp [jM.len_nw, jM.len_sI, jM.len_sL, jM.len_sR, jM.len_fI, jM.len_fL, jM.len_fR, *]; omega)) (by first | omega | (exact R.r _ _) | (simp only [jM.len_sI, jM.len_sL, jM.len_sR, jM.len_fI, jM.len_fL, jM.len_fR]; omega) | (simp [jM.len_nw, jM.len_sI, jM.len_sL, jM.len_sR, jM.len_fI, jM.len_fL, jM.len_fR, *]; omega)) rfl rfl ?_ ?_
  · exact fun _ _ z => z.elim
  rintro _ h ⟨rfl, rfl⟩
  refine J.istore_n (pc' := 14) rfl rfl (by decide) ?_
  refine J.iload_n (pc' := 15) rfl rfl rfl ?_
  refine J.iconst (pc' := 16) rfl rfl ?_
  refine J.icmp_le (tgt := 23) (pc' := 19) rfl rfl rfl (by first | omega | (exact R.r _ _) | (simp only [jM.len_sI, jM.len_sL, jM.len_sR, jM.len_fI, jM.len_fL, jM.len_fR]; omega) | (simp [jM.len_nw, jM.len_sI, jM.len_sL, jM.len_sR, jM.len_fI, jM.len_fL, jM.len_fR, *]; omega)) (by first | omega | (exact R.r _ _) | (simp only [jM.len_sI, jM.len_sL, jM.len_sR, jM.len_fI, jM.len_fL, jM.len_fR]; omega) | (simp [jM.len_nw, jM.len_sI, jM.len_sL, jM.len_sR, jM.len_fI, jM.len_fL, jM.len_fR, *]; omega)) (fun c2 => ?_) (fun c2 => ?_)
  · refine J.iload_n (pc' := 24) rfl rfl rfl ?_
    refine J.iret rfl rfl (by first | omega | (exact R.r _ _) | (simp only [jM.len_sI, jM.len_sL, jM.len_sR, jM.len_fI, jM.len_fL, jM.len_fR]; omega) | (simp [jM.len_nw, jM.len_sI, jM.len_sL, jM.len_sR, jM.len_fI, jM.len_fL, jM.len_fR, *]; omega)) (by first | omega | (exact R.r _ _) | (simp only [jM.len_sI, jM.len_sL, jM.len_sR, jM.len_fI, jM.len_fL, jM.len_fR]; omega) | (simp [jM.len_nw, jM.len_sI, jM.len_sL, jM.len_sR, jM.len_fI, jM.len_fL, jM.len_fR, *]; omega)) ?_
    have es : sp_mix V g = (V 138 g, V) := by unfold sp_mix; rw [if_pos c1, if_pos (by omega)]
    rw [es, b5]
    exact ⟨rfl, h0, ⟨ρ, σ, ks, ss, cs, ls, ms, hR⟩, Fr.rf⟩
  · have es : sp_mix V g = (V 138 g, jU (mxD V g 5) 138 g 1) := by unfold sp_mix; rw [if_pos c1, if_neg (by omega)]
    rw [es]
    have hp := tons_p R I.2.1 c1 (by omega)
    have hw : ∀ i, 0 ≤ V 139 i ∧ V 139 i ≤ 5000 := fun i => R 139 i rfl
    have sP : ∀ j : Nat, Sm (fun k => V 139 (41 * g + k) * yP V (41 * g + k) j) ys.length = if j % 2 = 0 then Sm (fun k => lowL V (41 * g + k) ((j / 2 : Nat) : Int) * V 139 (41 * g + k)) ys.length else Sm (fun k => highL V (41 * g + k) ((j / 2 : Nat) : Int) * V 139 (41 * g + k)) ys.length := fun j => by
      split
      · rename_i c
        exact Sm_cg (fun i _ => by unfold yP; rw [if_pos c, Int.mul_comm])
      · rename_i c
        exact Sm_cg (fun i _ => by unfold yP; rw [if_neg c, Int.mul_comm])
    have sC : Sm (fun k => V 139 (41 * g + k) * V 141 (41 * g + k)) ys.length = Sm (fun k => V 141 (41 * g + k) * V 139 (41 * g + k)) ys.length := Sm_cg (fun i _ => Int.mul_comm _ _)
    have bC := Sm_mul (f := fun k => V 141 (41 * g + k)) (w := fun k => V 139 (41 * g + k)) (n := ys.length) (M := 99999) (fun i _ => ⟨R 141 _ rfl, (hw _).1⟩)
    have bL : ∀ m, _ := fun m => Sm_mul (f := fun k => lowL V (41 * g + k) m) (w := fun k => V 139 (41 * g + k)) (n := ys.length) (M := 10000) (fun i _ => ⟨(lowL_b R _ m).1, (hw _).1⟩)
    have bH : ∀ m, _ := fun m => Sm_mul (f := fun k => highL V (41 * g + k) m) (w := fun k => V 139 (41 * g + k)) (n := ys.length) (M := 10000) (fun i _ => ⟨(lowL_b R _ m).2, (hw _).1⟩)
    rw [← eT] at bC
    first | refine J.aload_n (pc' := 20) rfl rfl rfl ?_ | refine J.aload_nN (pc' := 20) rfl rfl rfl ?_
    refine J.callV (pc' := 23) (t := 8) rfl MX4_becomeOneLayer ml_X11_266 iv_X4_becomeOneLayer (by decide) ⟨_, rfl, rfl⟩ (by first | assumption | (simp only [jM.tag_sI, jM.tag_sL, jM.tag_sR, jM.tag_fI, jM.tag_fL, jM.tag_fR]; assumption) | (simp [jM.tag_nw, jM.tag_sI, jM.tag_sL, jM.tag_sR, jM.tag_fI, jM.tag_fL, jM.tag_fR, *]; done)) (cx_mix b1 b2 b3 b6 (by rw [← eT]; omega) (fun j hj => by have q1 := bL ((j / 2 : Nat) : Int); have q2 := bH ((j / 2 : Nat) : Int); rw [← eT] at q1 q2; rw [sP]; split <;> omega) (by rw [sC]; omega) a11.2.2.1) rfl rfl (Nat.le_of_ble_eq_true rfl) (by first | omega | (exact R.r _ _) | (simp only [jM.len_sI, jM.len_sL, jM.len_sR, jM.len_fI, jM.len_fL, jM.len_fR]; omega) | (simp [jM.len_nw, jM.len_sI, jM.len_sL, jM.len_sR, jM.len_fI, jM.len_fL, jM.len_fR, *]; omega)) (by first | omega | (exact R.r _ _) | (simp only [jM.len_sI, jM.len_sL, jM.len_sR, jM.len_fI, jM.len_fL, jM.len_fR]; omega) | (simp [jM.len_nw, jM.len_sI, jM.len_sL, jM.len_sR, jM.len_fI, jM.len_fL, jM.len_fR, *]; omega)) (by first | omega | (exact R.r _ _) | (simp only [jM.len_sI, jM.len_sL, jM.len_sR, jM.len_fI, jM.len_fL, jM.len_fR]; omega) | (simp [jM.len_nw, jM.len_sI, jM.len_sL, jM.len_sR, jM.len_fI, jM.len_fL, jM.len_fR, *]; omega)) rfl rfl ?_ ?_
    · exact fun _ _ z => z.elim
    rintro _ k ⟨rfl, e', z, L, Y, zf, F, N, hd⟩
    refine J.iload_n (pc' := 24) rfl rfl rfl ?_
    refine J.iret rfl rfl (by first | omega | (exact R.r _ _) | (simp only [jM.len_sI, jM.len_sL, jM.len_sR, jM.len_fI, jM.len_fL, jM.len_fR]; omega) | (simp [jM.len_nw, jM.len_sI, jM.len_sL, jM.len_sR, jM.len_fI, jM.len_fL, jM.len_fR, *]; omega)) (by first | omega | (exact R.r _ _) | (simp only [jM.len_sI, jM.len_sL, jM.len_sR, jM.len_fI, jM.len_fL, jM.len_fR]; omega) | (simp [jM.len_nw, jM.len_sI, jM.len_sL, jM.len_sR, jM.len_fI, jM.len_fL, jM.len_fR, *]; omega)) ?_
    have fin := mx_rep (k := k) (g := g.toNat) (p := p) (a := a) (e := e) (e' := e') (z := z) (ys := ys) I hR (by omega) (by rw [ef]; omega) r1 hE L ?_ F
    · rw [ef] at fin
      refine ⟨by rw [b5], ?_, fin.1, fin.2⟩
      show jU (mxD V g 5) 138 g 1 16 0 = 0
      unfold mxD mxB mxA
      rw [jU_o _ (by decide), if_neg (by omega), jU_o _ (by decide), jU_o _ (by decide), jU_o _ (by decide), if_neg (by omega)]
      exact h0
    · rw [ef]
      have eK : mxK (fun k => V 139 (41 * g + k)) (fun k => V 141 (41 * g + k)) ys.length = mxC V g := by
        unfold mxK mxC
        rw [sC, ← eT, up_eq (by omega), e38]
      rw [← eT, eK] at Y
      refine Y.cgP (fun j hj => ?_)
      unfold mxP mxL mxH
      dsimp only
      rw [sP, ← eT, e38]
      split
      · rfl
      · rw [up_eq (by omega)]
end MM

