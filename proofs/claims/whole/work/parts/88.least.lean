section LC
variable {γ : jG} {h : jM} {σ : Nat → Nat} {V : VV} {n : Int}
/-- the search between its uses -/
def srOk (h : jM) (σ : Nat → Nat) : Prop := isSS h σ ∧ ∀ s : Nat, s < 11 → suV h σ s = 0 ∧ leV h σ s 126 = 0 ∧ ∀ g : Int, 0 ≤ g → g < 6 → gvV h σ s (g * 21) = 0
abbrev srP : Nat → Nat → Prop := fun t _ => 24 ≤ t ∧ t ≤ 30
/-- the heaps as the model has them -/
def isHp (γ : jG) (V : VV) (h : jM) (hp : Nat) (D : Int → Int → Option Nat) : Prop := h.tag hp = 33 ∧ h.len hp = 6 ∧ ∀ g : Nat, g < 6 → ∃ p a e ys, h.R 33 hp g = some p ∧ h.tag p = 8 ∧ h.R 8 p 0 = some a ∧ isL γ h a e ys ∧ (ys.length : Int) = V 138 g ∧ lays h ys (fun k => V 139 (41 * g + k)) (D g) (fun k => V 141 (41 * g + k)) (fun k => yP V (41 * g + k))
theorem isHp.on {h' : jM} {hp : Nat} {D : Int → Int → Option Nat} (hH : isHp γ V h hp D) (o : onI h h' srP) : isHp γ V h' hp D := by
  obtain ⟨a1, a2, a3⟩ := hH
  have F := o.fr
  refine ⟨by rw [o.1]; exact a1, by rw [o.2.1]; exact a2, fun g hg => ?_⟩
  obtain ⟨p, a, e, ys, b1, b2, b3, b4, b5, b6⟩ := a3 g hg
  refine ⟨p, a, e, ys, by rw [o.2.2.2.1]; exact b1, by rw [o.1]; exact b2, by rw [o.2.2.2.1]; exact b3, b4.keptW F (fun z => ?_) (Or.inl (fun z => ?_)), b5, b6.kept F (fun y _ b hb _ z => ?_)⟩
  · have := b4.1
    have z2 : 24 ≤ h.tag a ∧ h.tag a ≤ 30 := z
    omega
  · have := b4.2.2.1
    have z2 : 24 ≤ h.tag e ∧ h.tag e ≤ 30 := z
    omega
  · have z2 : 24 ≤ h.tag b ∧ h.tag b ≤ 30 := z
    omega
def lcQ (h : jM) (σ : Nat → Nat) (V : VV) (n : Int) : Option Value → jM → Prop := fun r h' => r = some (.int (jI (bestP V n).1)) ∧ onI h h' srP ∧ srOk h' σ ∧ ((bestP V n).1 = -1 ∨ ∀ j : Nat, j < 6 → chV h' σ j = (bestP V n).2 j) ∧ (-1 ≤ (bestP V n).1 ∧ (bestP V n).1 ≤ 12000000)
theorem li_st {k : jM} {x u v : Int} (hu : 0 ≤ u) (hx : 0 ≤ x) : liV (k.sI 29 (σ 29) x.toNat v) σ u = if u = x then v else liV k σ u := by
  show (k.sI 29 (σ 29) x.toNat v).I 29 (σ 29) u.toNat = _
  rw [jM.I_sI]
  by_cases c : u = x
  · rw [if_pos c, if_pos ⟨rfl, rfl, by omega⟩]
  · rw [if_neg c, if_neg (by omega)]
    rfl
theorem cz_least {hp ak x0 : Nat} {P : Nat → Int} {D : Int → Int → Option Nat} (R : isR V) (T : isT V) (hn : 1 ≤ n ∧ n ≤ 20) (hS : srOk h σ) (hH : isHp γ V h hp D) (hA : isO h ak x0 P) (hP : ∀ m : Int, 0 ≤ m → m < 5 → P (2 * m).toNat = V 146 m ∧ P (2 * m + 1).toNat = V 147 m) : CT γ mX0_leastCost 9 0 0 [.ref (σ 0), .ref hp, .ref ak, .int (jI n)] h (lcQ h σ V n) X0 := by
  have mo20 : ∀ j, mostP V n j ≤ 20 := fun j => by unfold mostP; omega
  have mo0 : ∀ j, 0 ≤ mostP V n j := fun j => most_b R (by omega) j
  have hS0 := hS.1
  obtain ⟨t0, -, -, -, -, -, ⟨r29, t29, l29⟩, -, -, -⟩ := hS0
  have tak := hA.1.1
  refine CT.of MX0_leastCost (Nat.le_of_ble_eq_true rfl) ?_
  show J γ mX0_leastCost 9 0 0 0 0 h 0 [(0, .ref (σ 0)), (1, .ref hp), (2, .ref ak), (3, .int (jI n))] [] _ _
  first | refine J.aload_n (pc' := 1) rfl rfl rfl ?_ | refine J.aload_nN (pc' := 1) rfl rfl rfl ?_
  first | refine J.getR (pc' := 4) rfl fl_X0_29 rfl (by first | assumption | (simp only [jM.tag_sI, jM.tag_sL, jM.tag_sR, jM.tag_fI, jM.tag_fL, jM.tag_fR]; assumption) | (simp [jM.tag_nw, jM.tag_sI, jM.tag_sL, jM.tag_sR, jM.tag_fI, jM.tag_fL, jM.tag_fR, *]; done)) (by first | assumption | (simp only [jM.R_sI, jM.R_sL, jM.R_fI, jM.R_fL]; assumption) | (simp [jM.R_nw, jM.R_sR, jM.R_fR, jM.R_sI, jM.R_sL, jM.R_fI, jM.R_fL, *]; done)) rfl ?_ | refine J.getRN (pc' := 4) rfl fl_X0_29 rfl (by first | assumption | (simp only [jM.tag_sI, jM.tag_sL, jM.tag_sR, jM.tag_fI, jM.tag_fL, jM.tag_fR]; assumption) | (simp [jM.tag_nw, jM.tag_sI, jM.tag_sL, jM.tag_sR, jM.tag_fI, jM.tag_fL, jM.tag_fR, *]; done)) (by first | assumption | (simp only [jM.R_sI, jM.R_sL, jM.R_fI, jM.R_fL]; assumption) | (simp [jM.R_nw, jM.R_sR, jM.R_fR, jM.R_sI, jM.R_sL, jM.R_fI, jM.R_fL, *]; done)) rfl ?_
  refine J.iconst (pc' := 5) rfl rfl ?_
  refine J.ldc (pc' := 7) (z := 999999999) (v := 999999999) rfl (List.mem_of_getElem? (i := 1289) (by decide +kernel)) (by decide) rfl ?_
  refine J.iast (pc' := 8) rfl (by first | assumption | (simp only [jM.tag_sI, jM.tag_sL, jM.tag_sR, jM.tag_fI, jM.tag_fL, jM.tag_fR]; assumption) | (simp [jM.tag_nw, jM.tag_sI, jM.tag_sL, jM.tag_sR, jM.tag_fI, jM.tag_fL, jM.tag_fR, *]; done)) (by decide) rfl (by first | omega | (exact R.r _ _) | (simp only [jM.len_sI, jM.len_sL, jM.len_sR, jM.len_fI, jM.len_fL, jM.len_fR]; omega) | (simp [jM.len_nw, jM.len_sI, jM.len_sL, jM.len_sR, jM.len_fI, jM.len_fL, jM.len_fR, *]; omega)) (by first | omega | (exact R.r _ _) | (simp only [jM.len_sI, jM.len_sL, jM.len_sR, jM.len_fI, jM.len_fL, jM.len_fR]; omega) | (simp [jM.len_nw, jM.len_sI, jM.len_sL, jM.len_sR, jM.len_fI, jM.len_fL, jM.len_fR, *]; omega)) (by first | omega | (exact R.r _ _) | (simp only [jM.len_sI, jM.len_sL, jM.len_sR, jM.len_fI, jM.len_fL, jM.len_fR]; omega) | (simp [jM.len_nw, jM.len_sI, jM.len_sL, jM.len_sR, jM.len_fI, jM.len_fL, jM.len_fR, *]; omega)) (Or.inl rfl) rfl ?_
  refine J.iconst (pc' := 9) rfl rfl ?_
  refine J.istore (pc' := 11) rfl rfl (by decide) ?_
  -- trying
  have fin : ∀ k : jM, onI h k srP → SB k σ V n → liV k σ 0 = 999999999 → (∀ s : Nat, s < 11 → suV k σ s = 0) → ∀ lv, hasL lv [(0, .ref (σ 0)), (1, .ref hp), (2, .ref ak), (3, .int (jI n))] → J γ mX0_leastCost 9 0 0 0 0 k 112 lv [] (lcQ h σ V n) X0 := by
    intro k b1 b2 b3 b4 lv hlv
    have t0 := b2.1.1
    have ct := cz_try (γ := γ) R hn 6 (Nat.le_refl _) n (fun _ => 0) (-1, fun _ => 0) k (by omega) (by simp [Sm]) (fun j hj => by omega) b2 ⟨by rw [b3]; unfold limA; rw [if_pos rfl], Or.inl rfl, by decide⟩ (fun j hj => by omega) (fun s hs => by rw [b4 s hs]; rfl)
    rw [show (6 : Int) - ((6 : Nat) : Int) = 0 from rfl] at ct
    refine J.lc hlv ?_
    first | refine J.aload_n (pc' := 113) rfl rfl rfl ?_ | refine J.aload_nN (pc' := 113) rfl rfl rfl ?_
    refine J.iconst (pc' := 114) rfl rfl ?_
    refine J.iload_n (pc' := 115) rfl rfl rfl ?_
    refine J.callV (pc' := 118) (t := 4) rfl MX0_tryFrom ml_X0_53 iv_X0_tryFrom (by decide) ⟨_, rfl, rfl⟩ (by first | assumption | (simp only [jM.tag_sI, jM.tag_sL, jM.tag_sR, jM.tag_fI, jM.tag_fL, jM.tag_fR]; assumption) | (simp [jM.tag_nw, jM.tag_sI, jM.tag_sL, jM.tag_sR, jM.tag_fI, jM.tag_fL, jM.tag_fR, *]; done)) ct rfl rfl (Nat.le_of_ble_eq_true rfl) (by first | omega | (exact R.r _ _) | (simp only [jM.len_sI, jM.len_sL, jM.len_sR, jM.len_fI, jM.len_fL, jM.len_fR]; omega) | (simp [jM.len_nw, jM.len_sI, jM.len_sL, jM.len_sR, jM.len_fI, jM.len_fL, jM.len_fR, *]; omega)) (by first | omega | (exact R.r _ _) | (simp only [jM.len_sI, jM.len_sL, jM.len_sR, jM.len_fI, jM.len_fL, jM.len_fR]; omega) | (simp [jM.len_nw, jM.len_sI, jM.len_sL, jM.len_sR, jM.len_fI, jM.len_fL, jM.len_fR, *]; omega)) (by first | omega | (exact R.r _ _) | (simp only [jM.len_sI, jM.len_sL, jM.len_sR, jM.len_fI, jM.len_fL, jM.len_fR]; omega) | (simp [jM.len_nw, jM.len_sI, jM.len_sL, jM.len_sR, jM.len_fI, jM.len_fL, jM.len_fR, *]; omega)) rfl rfl ?_ ?_
    · exact fun _ _ h => h
    rintro _ k1 ⟨rfl, w1, w2, w3, w4, w5⟩
    have hS1 : SB k1 σ V n := b2.on w1 w4
    have hS10 := hS1.1
    obtain ⟨t0, -, -, -, -, -, ⟨r29, t29, l29⟩, -, -, -⟩ := hS10
    have eb : dfs V n 6 n (fun _ => 0) (-1, fun _ => 0) = bestP V n := rfl
    rw [eb] at w5
    have e0 : k1.I 29 (σ 29) (Int.toNat 0) = limA (bestP V n) := w5.1
    have O1 : onI h k1 srP := b1.trans w1 (fun t a z => by
      rcases z with z | z
      · exact z
      · show 24 ≤ t ∧ t ≤ 30
        omega)
    have ok1 : srOk k1 σ := ⟨hS1.1, fun s hs => ⟨(w2 s hs).trans (b4 s hs), (hS1.2.2.2.2.1 s hs).1, fun g g0 g1 => by
      have := hS1.2.2.1 s hs g.toNat 0 (by omega) (by omega) (mo0 _)
      rw [show ((g.toNat : Nat) : Int) * 21 + 0 = g * 21 by omega] at this
      rw [this]
      unfold cg
      show sgn s * 0 = 0
      omega⟩⟩
    have lb := limA_b w5.2.2
    first | refine J.aload_n (pc' := 119) rfl rfl rfl ?_ | refine J.aload_nN (pc' := 119) rfl rfl rfl ?_
    first | refine J.getR (pc' := 122) rfl fl_X0_29 rfl (by first | assumption | (simp only [jM.tag_sI, jM.tag_sL, jM.tag_sR, jM.tag_fI, jM.tag_fL, jM.tag_fR]; assumption) | (simp [jM.tag_nw, jM.tag_sI, jM.tag_sL, jM.tag_sR, jM.tag_fI, jM.tag_fL, jM.tag_fR, *]; done)) (by first | assumption | (simp only [jM.R_sI, jM.R_sL, jM.R_fI, jM.R_fL]; assumption) | (simp [jM.R_nw, jM.R_sR, jM.R_fR, jM.R_sI, jM.R_sL, jM.R_fI, jM.R_fL, *]; done)) rfl ?_ | refine J.getRN (pc' := 122) rfl fl_X0_29 rfl (by first | assumption | (simp only [jM.tag_sI, jM.tag_sL, jM.tag_sR, jM.tag_fI, jM.tag_fL, jM.tag_fR]; assumption) | (simp [jM.tag_nw, jM.tag_sI, jM.tag_sL, jM.tag_sR, jM.tag_fI, jM.tag_fL, jM.tag_fR, *]; done)) (by first | assumption | (simp only [jM.R_sI, jM.R_sL, jM.R_fI, jM.R_fL]; assumption) | (simp [jM.R_nw, jM.R_sR, jM.R_fR, jM.R_sI, jM.R_sL, jM.R_fI, jM.R_fL, *]; done)) rfl ?_
    refine J.iconst (pc' := 123) rfl rfl ?_
    refine J.iald (pc' := 124) rfl (by first | assumption | (simp only [jM.tag_sI, jM.tag_sL, jM.tag_sR, jM.tag_fI, jM.tag_fL, jM.tag_fR]; assumption) | (simp [jM.tag_nw, jM.tag_sI, jM.tag_sL, jM.tag_sR, jM.tag_fI, jM.tag_fL, jM.tag_fR, *]; done)) (by decide) rfl (by first | omega | (exact R.r _ _) | (simp only [jM.len_sI, jM.len_sL, jM.len_sR, jM.len_fI, jM.len_fL, jM.len_fR]; omega) | (simp [jM.len_nw, jM.len_sI, jM.len_sL, jM.len_sR, jM.len_fI, jM.len_fL, jM.len_fR, *]; omega)) (by first | omega | (exact R.r _ _) | (simp only [jM.len_sI, jM.len_sL, jM.len_sR, jM.len_fI, jM.len_fL, jM.len_fR]; omega) | (simp [jM.len_nw, jM.len_sI, jM.len_sL, jM.len_sR, jM.len_fI, jM.len_fL, jM.len_fR, *]; omega)) (by first | omega | (exact R.r _ _) | (simp only [jM.len_sI, jM.len_sL, jM.len_sR, jM.len_fI, jM.len_fL, jM.len_fR]; omega) | (simp [jM.len_nw, jM.len_sI, jM.len_sL, jM.len_sR, jM.len_fI, jM.len_fL, jM.len_fR, *]; omega)) rfl ?_
    rw [e0]
    refine J.ldc (pc' := 126) (z := 999999999) (v := 999999999) rfl (List.mem_of_getElem? (i := 1289) (by decide +kernel)) (by decide) rfl ?_
    unfold limA at lb ⊢
    by_cases z : (bestP V n).1 = -1
    · rw [if_pos z]
      refine J.icmp_ne (tgt := 133) (pc' := 129) rfl rfl rfl (by first | omega | (exact R.r _ _) | (simp only [jM.len_sI, jM.len_sL, jM.len_sR, jM.len_fI, jM.len_fL, jM.len_fR]; omega) | (simp [jM.len_nw, jM.len_sI, jM.len_sL, jM.len_sR, jM.len_fI, jM.len_fL, jM.len_fR, *]; omega)) (by first | omega | (exact R.r _ _) | (simp only [jM.len_sI, jM.len_sL, jM.len_sR, jM.len_fI, jM.len_fL, jM.len_fR]; omega) | (simp [jM.len_nw, jM.len_sI, jM.len_sL, jM.len_sR, jM.len_fI, jM.len_fL, jM.len_fR, *]; omega)) (fun c1 => ?_) (fun c1 => ?_)
      · omega
      · refine J.iconst (pc' := 130) rfl rfl ?_
        refine J.goto (tgt := 141) rfl rfl ?_
        refine J.iret rfl rfl (by first | omega | (exact R.r _ _) | (simp only [jM.len_sI, jM.len_sL, jM.len_sR, jM.len_fI, jM.len_fL, jM.len_fR]; omega) | (simp [jM.len_nw, jM.len_sI, jM.len_sL, jM.len_sR, jM.len_fI, jM.len_fL, jM.len_fR, *]; omega)) (by first | omega | (exact R.r _ _) | (simp only [jM.len_sI, jM.len_sL, jM.len_sR, jM.len_fI, jM.len_fL, jM.len_fR]; omega) | (simp [jM.len_nw, jM.len_sI, jM.len_sL, jM.len_sR, jM.len_fI, jM.len_fL, jM.len_fR, *]; omega)) ?_
        exact ⟨by rw [z], O1, ok1, Or.inl z, w5.2.2⟩
    · rw [if_neg z]
      have w6 := w5.2.2
      refine J.icmp_ne (tgt := 133) (pc' := 129) rfl rfl rfl (by first | omega | (exact R.r _ _) | (simp only [jM.len_sI, jM.len_sL, jM.len_sR, jM.len_fI, jM.len_fL, jM.len_fR]; omega) | (simp [jM.len_nw, jM.len_sI, jM.len_sL, jM.len_sR, jM.len_fI, jM.len_fL, jM.len_fR, *]; omega)) (by first | omega | (exact R.r _ _) | (simp only [jM.len_sI, jM.len_sL, jM.len_sR, jM.len_fI, jM.len_fL, jM.len_fR]; omega) | (simp [jM.len_nw, jM.len_sI, jM.len_sL, jM.len_sR, jM.len_fI, jM.len_fL, jM.len_fR, *]; omega)) (fun c1 => ?_) (fun c1 => ?_)
      · first | refine J.aload_n (pc' := 134) rfl rfl rfl ?_ | refine J.aload_nN (pc' := 134) rfl rfl rfl ?_
        first | refine J.getR (pc' := 137) rfl fl_X0_29 rfl (by first | assumption | (simp only [jM.tag_sI, jM.tag_sL, jM.tag_sR, jM.tag_fI, jM.tag_fL, jM.tag_fR]; assumption) | (simp [jM.tag_nw, jM.tag_sI, jM.tag_sL, jM.tag_sR, jM.tag_fI, jM.tag_fL, jM.tag_fR, *]; done)) (by first | assumption | (simp only [jM.R_sI, jM.R_sL, jM.R_fI, jM.R_fL]; assumption) | (simp [jM.R_nw, jM.R_sR, jM.R_fR, jM.R_sI, jM.R_sL, jM.R_fI, jM.R_fL, *]; done)) rfl ?_ | refine J.getRN (pc' := 137) rfl fl_X0_29 rfl (by first | assumption | (simp only [jM.tag_sI, jM.tag_sL, jM.tag_sR, jM.tag_fI, jM.tag_fL, jM.tag_fR]; assumption) | (simp [jM.tag_nw, jM.tag_sI, jM.tag_sL, jM.tag_sR, jM.tag_fI, jM.tag_fL, jM.tag_fR, *]; done)) (by first | assumption | (simp only [jM.R_sI, jM.R_sL, jM.R_fI, jM.R_fL]; assumption) | (simp [jM.R_nw, jM.R_sR, jM.R_fR, jM.R_sI, jM.R_sL, jM.R_fI, jM.R_fL, *]; done)) rfl ?_
        refine J.iconst (pc' := 138) rfl rfl ?_
        refine J.iald (pc' := 139) rfl (by first | assumption | (simp only [jM.tag_sI, jM.tag_sL, jM.tag_sR, jM.tag_fI, jM.tag_fL, jM.tag_fR]; assumption) | (simp [jM.tag_nw, jM.tag_sI, jM.tag_sL, jM.tag_sR, jM.tag_fI, jM.tag_fL, jM.tag_fR, *]; done)) (by decide) rfl (by first | omega | (exact R.r _ _) | (simp only [jM.len_sI, jM.len_sL, jM.len_sR, jM.len_fI, jM.len_fL, jM.len_fR]; omega) | (simp [jM.len_nw, jM.len_sI, jM.len_sL, jM.len_sR, jM.len_fI, jM.len_fL, jM.len_fR, *]; omega)) (by first | omega | (exact R.r _ _) | (simp only [jM.len_sI, jM.len_sL, jM.len_sR, jM.len_fI, jM.len_fL, jM.len_fR]; omega) | (simp [jM.len_nw, jM.len_sI, jM.len_sL, jM.len_sR, jM.len_fI, jM.len_fL, jM.len_fR, *]; omega)) (by first | omega | (exact R.r _ _) | (simp only [jM.len_sI, jM.len_sL, jM.len_sR, jM.len_fI, jM.len_fL, jM.len_fR]; omega) | (simp [jM.len_nw, jM.len_sI, jM.len_sL, jM.len_sR, jM.len_fI, jM.len_fL, jM.len_fR, *]; omega)) rfl ?_
        rw [e0]
        refine J.iconst (pc' := 140) rfl rfl ?_
        refine J.iadd (pc' := 141) rfl rfl ?_
        refine J.iret rfl rfl (by first | omega | (exact R.r _ _) | (simp only [jM.len_sI, jM.len_sL, jM.len_sR, jM.len_fI, jM.len_fL, jM.len_fR]; omega) | (simp [jM.len_nw, jM.len_sI, jM.len_sL, jM.len_sR, jM.len_fI, jM.len_fL, jM.len_fR, *]; omega)) (by first | omega | (exact R.r _ _) | (simp only [jM.len_sI, jM.len_sL, jM.len_sR, jM.len_fI, jM.len_fL, jM.len_fR]; omega) | (simp [jM.len_nw, jM.len_sI, jM.len_sL, jM.len_sR, jM.len_fI, jM.len_fL, jM.len_fR, *]; omega)) ?_
        refine ⟨?_, O1, ok1, w5.2.1, w5.2.2⟩
        unfold limA
        rw [if_neg z, show (bestP V n).1 - 1 + 1 = (bestP V n).1 by omega]
      · omega
  -- bounds
  have keyB : ∀ (r s : Nat), s + r = 11 → ∀ k : jM, onI h k srP → isSS k σ → (∀ j : Nat, j < 6 → moV k σ j = mostP V n j) → (∀ u : Nat, u < 11 → ∀ (j : Nat) (t : Int), j < 6 → 0 ≤ t → t ≤ mostP V n j → gvV k σ u ((j : Int) * 21 + t) = cg V u j t) → (∀ u : Nat, u < s → ∀ (g : Nat) (l : Int), g ≤ 6 → 0 ≤ l → l ≤ n → LB V n (leV k σ u ((g : Int) * 21 + l)) u g l) → (∀ u : Nat, u < 11 → leV k σ u 126 = 0) → (∀ u : Nat, u < s → ∀ l : Int, 1 ≤ l → l ≤ n → leV k σ u (126 + l) = 1000000000) → (∀ u : Nat, 1 ≤ u → u < 11 → liV k σ u = liP V n u) → liV k σ 0 = 999999999 → (∀ u : Nat, u < 11 → suV k σ u = 0) → ∀ lv, hasL lv [(0, .ref (σ 0)), (1, .ref hp), (2, .ref ak), (3, .int (jI n)), (4, .int (jI (s : Int)))] → J γ mX0_leastCost 9 0 0 0 0 k 92 lv [] (lcQ h σ V n) X0 := by
    intro r
    induction r with
    | zero =>
      intro s hs k b1 b2 b3 b4 b5 b6 b7 b8 b9 b10 lv hlv
      refine J.lc hlv ?_
      refine J.iload (pc' := 94) rfl rfl rfl ?_
      refine J.bipush (pc' := 96) rfl rfl (by decide) ?_
      refine J.icmp_ge (tgt := 112) (pc' := 99) rfl rfl rfl (by first | omega | (exact R.r _ _) | (simp only [jM.len_sI, jM.len_sL, jM.len_sR, jM.len_fI, jM.len_fL, jM.len_fR]; omega) | (simp [jM.len_nw, jM.len_sI, jM.len_sL, jM.len_sR, jM.len_fI, jM.len_fL, jM.len_fR, *]; omega)) (by first | omega | (exact R.r _ _) | (simp only [jM.len_sI, jM.len_sL, jM.len_sR, jM.len_fI, jM.len_fL, jM.len_fR]; omega) | (simp [jM.len_nw, jM.len_sI, jM.len_sL, jM.len_sR, jM.len_fI, jM.len_fL, jM.len_fR, *]; omega)) (fun c1 => ?_) (fun c1 => ?_)
      · exact fin k b1 ⟨b2, b3, b4, fun u hu g l g1 l0 l1 => b5 u (by omega) g l g1 l0 l1, fun u hu => ⟨b6 u hu, fun l l0 l1 => b7 u (by omega) l l0 l1⟩, b8⟩ b9 b10 _ ⟨rfl, rfl, rfl, rfl, trivial⟩
      · omega
    | succ r ih =>
      intro s hs k b1 b2 b3 b4 b5 b6 b7 b8 b9 b10 lv hlv
      have t0 := b2.1
      refine J.lc hlv ?_
      refine J.iload (pc' := 94) rfl rfl rfl ?_
      refine J.bipush (pc' := 96) rfl rfl (by decide) ?_
      refine J.icmp_ge (tgt := 112) (pc' := 99) rfl rfl rfl (by first | omega | (exact R.r _ _) | (simp only [jM.len_sI, jM.len_sL, jM.len_sR, jM.len_fI, jM.len_fL, jM.len_fR]; omega) | (simp [jM.len_nw, jM.len_sI, jM.len_sL, jM.len_sR, jM.len_fI, jM.len_fL, jM.len_fR, *]; omega)) (by first | omega | (exact R.r _ _) | (simp only [jM.len_sI, jM.len_sL, jM.len_sR, jM.len_fI, jM.len_fL, jM.len_fR]; omega) | (simp [jM.len_nw, jM.len_sI, jM.len_sL, jM.len_sR, jM.len_fI, jM.len_fL, jM.len_fR, *]; omega)) (fun c1 => ?_) (fun c1 => ?_)
      · omega
      · first | refine J.aload_n (pc' := 100) rfl rfl rfl ?_ | refine J.aload_nN (pc' := 100) rfl rfl rfl ?_
        refine J.iload (pc' := 102) rfl rfl rfl ?_
        refine J.iload_n (pc' := 103) rfl rfl rfl ?_
        refine J.callV (pc' := 106) (t := 4) rfl MX0_boundSum ml_X0_49 iv_X0_boundSum (by decide) ⟨_, rfl, rfl⟩ (by first | assumption | (simp only [jM.tag_sI, jM.tag_sL, jM.tag_sR, jM.tag_fI, jM.tag_fL, jM.tag_fR]; assumption) | (simp [jM.tag_nw, jM.tag_sI, jM.tag_sL, jM.tag_sR, jM.tag_fI, jM.tag_fL, jM.tag_fR, *]; done)) (cz_bound R hn (by omega) b2 b3 (fun j t q1 q2 q3 => b4 s (by omega) j t q1 q2 q3) (b6 s (by omega))) rfl rfl (Nat.le_of_ble_eq_true rfl) (by first | omega | (exact R.r _ _) | (simp only [jM.len_sI, jM.len_sL, jM.len_sR, jM.len_fI, jM.len_fL, jM.len_fR]; omega) | (simp [jM.len_nw, jM.len_sI, jM.len_sL, jM.len_sR, jM.len_fI, jM.len_fL, jM.len_fR, *]; omega)) (by first | omega | (exact R.r _ _) | (simp only [jM.len_sI, jM.len_sL, jM.len_sR, jM.len_fI, jM.len_fL, jM.len_fR]; omega) | (simp [jM.len_nw, jM.len_sI, jM.len_sL, jM.len_sR, jM.len_fI, jM.len_fL, jM.len_fR, *]; omega)) (by first | omega | (exact R.r _ _) | (simp only [jM.len_sI, jM.len_sL, jM.len_sR, jM.len_fI, jM.len_fL, jM.len_fR]; omega) | (simp [jM.len_nw, jM.len_sI, jM.len_sL, jM.len_sR, jM.len_fI, jM.len_fL, jM.len_fR, *]; omega)) rfl rfl ?_ ?_
        · exact fun _ _ h => h
        rintro _ k1 ⟨rfl, w1, w2, w3, w4⟩
        have eI : ∀ t a i, t ≠ 28 → k1.I t a i = k.I t a i := fun t a i ht => w1.2.2.2.2 t a i (fun z => ht z.1)
        have eL : ∀ (u : Nat) (i : Int), u ≠ s → leV k1 σ u i = leV k σ u i := fun u i hu => w1.2.2.2.2 28 _ _ (fun z => by have := z.2; omega)
        refine J.iinc (pc' := 109) rfl rfl rfl (by decide) ?_
        refine J.goto (tgt := 92) rfl rfl ?_
        refine ih (s + 1) (by omega) k1 (b1.trans w1 (fun t a z => by
          rcases z with z | z
          · exact z
          · show 24 ≤ t ∧ t ≤ 30
            omega)) (b2.on w1) (fun j hj => (eI 26 _ _ (by omega)).trans (b3 j hj)) (fun u hu j t q1 q2 q3 => (eI 27 _ _ (by omega)).trans (b4 u hu j t q1 q2 q3)) (fun u hu g l g1 l0 l1 => ?_) (fun u hu => ?_) (fun u hu l l0 l1 => ?_) (fun u h1 h2 => (eI 29 _ _ (by omega)).trans (b8 u h1 h2)) ((eI 29 _ _ (by omega)).trans b9) (fun u hu => (eI 30 _ _ (by omega)).trans (b10 u hu)) _ ⟨rfl, rfl, rfl, rfl, rfl, trivial⟩
        · by_cases z : u = s
          · subst z; exact (w2 g (by omega) g1 l l0 l1).1
          · rw [eL u _ z]; exact b5 u (by omega) g l g1 l0 l1
        · by_cases z : u = s
          · subst z; exact w3
          · rw [eL u _ z]; exact b6 u hu
        · by_cases z : u = s
          · subst z; exact w4 l l0 l1
          · rw [eL u _ z]; exact b7 u (by omega) l l0 l1
  -- weighing
  have keyW : ∀ (r i : Nat), i + r = 6 → ∀ k : jM, onI h k srP → isSS k σ → (∀ j : Nat, j < i → moV k σ j = mostP V n j) → (∀ u : Nat, u < 11 → ∀ (j : Nat) (t : Int), j < i → 0 ≤ t → t ≤ mostP V n j → gvV k σ u ((j : Int) * 21 + t) = cg V u j t) → (∀ u : Nat, u < 11 → ∀ g : Int, (i : Int) ≤ g → g < 6 → gvV k σ u (g * 21) = 0) → (∀ u : Nat, u < 11 → leV k σ u 126 = 0) → (∀ u : Nat, 1 ≤ u → u < 11 → liV k σ u = liP V n u) → liV k σ 0 = 999999999 → (∀ u : Nat, u < 11 → suV k σ u = 0) → ∀ lv, hasL lv [(0, .ref (σ 0)), (1, .ref hp), (2, .ref ak), (3, .int (jI n)), (4, .int (jI (i : Int)))] → J γ mX0_leastCost 9 0 0 0 0 k 65 lv [] (lcQ h σ V n) X0 := by
    intro r
    induction r with
    | zero =>
      intro i hi k b1 b2 b3 b4 b5 b6 b8 b9 b10 lv hlv
      refine J.lc hlv ?_
      refine J.iload (pc' := 67) rfl rfl rfl ?_
      refine J.bipush (pc' := 69) rfl rfl (by decide) ?_
      refine J.icmp_ge (tgt := 89) (pc' := 72) rfl rfl rfl (by first | omega | (exact R.r _ _) | (simp only [jM.len_sI, jM.len_sL, jM.len_sR, jM.len_fI, jM.len_fL, jM.len_fR]; omega) | (simp [jM.len_nw, jM.len_sI, jM.len_sL, jM.len_sR, jM.len_fI, jM.len_fL, jM.len_fR, *]; omega)) (by first | omega | (exact R.r _ _) | (simp only [jM.len_sI, jM.len_sL, jM.len_sR, jM.len_fI, jM.len_fL, jM.len_fR]; omega) | (simp [jM.len_nw, jM.len_sI, jM.len_sL, jM.len_sR, jM.len_fI, jM.len_fL, jM.len_fR, *]; omega)) (fun c1 => ?_) (fun c1 => ?_)
      · refine J.iconst (pc' := 90) rfl rfl ?_
        refine J.istore (pc' := 92) rfl rfl (by decide) ?_
        exact keyB 11 0 (by omega) k b1 b2 (fun j hj => b3 j (by omega)) (fun u hu j t q1 q2 q3 => b4 u hu j t (by omega) q2 q3) (fun u hu => by omega) b6 (fun u hu => by omega) b8 b9 b10 _ ⟨rfl, rfl, rfl, rfl, rfl, trivial⟩
      · omega
    | succ r ih =>
      intro i hi k b1 b2 b3 b4 b5 b6 b8 b9 b10 lv hlv
      have t0 := b2.1
      obtain ⟨h1, h2, h3⟩ := hH.on b1
      obtain ⟨p, a, e, ys, q1, q2, q3, q4, q5, q6⟩ := h3 i (by omega)
      have q1' : k.R 33 hp (i : Int).toNat = some p := q1
      refine J.lc hlv ?_
      refine J.iload (pc' := 67) rfl rfl rfl ?_
      refine J.bipush (pc' := 69) rfl rfl (by decide) ?_
      refine J.icmp_ge (tgt := 89) (pc' := 72) rfl rfl rfl (by first | omega | (exact R.r _ _) | (simp only [jM.len_sI, jM.len_sL, jM.len_sR, jM.len_fI, jM.len_fL, jM.len_fR]; omega) | (simp [jM.len_nw, jM.len_sI, jM.len_sL, jM.len_sR, jM.len_fI, jM.len_fL, jM.len_fR, *]; omega)) (by first | omega | (exact R.r _ _) | (simp only [jM.len_sI, jM.len_sL, jM.len_sR, jM.len_fI, jM.len_fL, jM.len_fR]; omega) | (simp [jM.len_nw, jM.len_sI, jM.len_sL, jM.len_sR, jM.len_fI, jM.len_fL, jM.len_fR, *]; omega)) (fun c1 => ?_) (fun c1 => ?_)
      · omega
      · first | refine J.aload_n (pc' := 73) rfl rfl rfl ?_ | refine J.aload_nN (pc' := 73) rfl rfl rfl ?_
        refine J.iload (pc' := 75) rfl rfl rfl ?_
        first | refine J.aload_n (pc' := 76) rfl rfl rfl ?_ | refine J.aload_nN (pc' := 76) rfl rfl rfl ?_
        refine J.iload (pc' := 78) rfl rfl rfl ?_
        first | refine J.aald (pc' := 79) rfl (by first | assumption | (simp only [jM.tag_sI, jM.tag_sL, jM.tag_sR, jM.tag_fI, jM.tag_fL, jM.tag_fR]; assumption) | (simp [jM.tag_nw, jM.tag_sI, jM.tag_sL, jM.tag_sR, jM.tag_fI, jM.tag_fL, jM.tag_fR, *]; done)) (by decide) (by decide) rfl (by first | omega | (exact R.r _ _) | (simp only [jM.len_sI, jM.len_sL, jM.len_sR, jM.len_fI, jM.len_fL, jM.len_fR]; omega) | (simp [jM.len_nw, jM.len_sI, jM.len_sL, jM.len_sR, jM.len_fI, jM.len_fL, jM.len_fR, *]; omega)) (by first | omega | (exact R.r _ _) | (simp only [jM.len_sI, jM.len_sL, jM.len_sR, jM.len_fI, jM.len_fL, jM.len_fR]; omega) | (simp [jM.len_nw, jM.len_sI, jM.len_sL, jM.len_sR, jM.len_fI, jM.len_fL, jM.len_fR, *]; omega)) (by first | omega | (exact R.r _ _) | (simp only [jM.len_sI, jM.len_sL, jM.len_sR, jM.len_fI, jM.len_fL, jM.len_fR]; omega) | (simp [jM.len_nw, jM.len_sI, jM.len_sL, jM.len_sR, jM.len_fI, jM.len_fL, jM.len_fR, *]; omega)) (by first | assumption | (simp only [jM.R_sI, jM.R_sL, jM.R_fI, jM.R_fL]; assumption) | (simp [jM.R_nw, jM.R_sR, jM.R_fR, jM.R_sI, jM.R_sL, jM.R_fI, jM.R_fL, *]; done)) rfl ?_ | refine J.aaldN (pc' := 79) rfl (by first | assumption | (simp only [jM.tag_sI, jM.tag_sL, jM.tag_sR, jM.tag_fI, jM.tag_fL, jM.tag_fR]; assumption) | (simp [jM.tag_nw, jM.tag_sI, jM.tag_sL, jM.tag_sR, jM.tag_fI, jM.tag_fL, jM.tag_fR, *]; done)) (by decide) (by decide) rfl (by first | omega | (exact R.r _ _) | (simp only [jM.len_sI, jM.len_sL, jM.len_sR, jM.len_fI, jM.len_fL, jM.len_fR]; omega) | (simp [jM.len_nw, jM.len_sI, jM.len_sL, jM.len_sR, jM.len_fI, jM.len_fL, jM.len_fR, *]; omega)) (by first | omega | (exact R.r _ _) | (simp only [jM.len_sI, jM.len_sL, jM.len_sR, jM.len_fI, jM.len_fL, jM.len_fR]; omega) | (simp [jM.len_nw, jM.len_sI, jM.len_sL, jM.len_sR, jM.len_fI, jM.len_fL, jM.len_fR, *]; omega)) (by first | omega | (exact R.r _ _) | (simp only [jM.len_sI, jM.len_sL, jM.len_sR, jM.len_fI, jM.len_fL, jM.len_fR]; omega) | (simp [jM.len_nw, jM.len_sI, jM.len_sL, jM.len_sR, jM.len_fI, jM.len_fL, jM.len_fR, *]; omega)) (by first | assumption | (simp only [jM.R_sI, jM.R_sL, jM.R_fI, jM.R_fL]; assumption) | (simp [jM.R_nw, jM.R_sR, jM.R_fR, jM.R_sI, jM.R_sL, jM.R_fI, jM.R_fL, *]; done)) rfl ?_
        refine J.iload_n (pc' := 80) rfl rfl rfl ?_
        refine J.callV (pc' := 83) (t := 4) rfl MX0_weigh ml_X0_45 iv_X0_weigh (by decide) ⟨_, rfl, rfl⟩ (by first | assumption | (simp only [jM.tag_sI, jM.tag_sL, jM.tag_sR, jM.tag_fI, jM.tag_fL, jM.tag_fR]; assumption) | (simp [jM.tag_nw, jM.tag_sI, jM.tag_sL, jM.tag_sR, jM.tag_fI, jM.tag_fL, jM.tag_fR, *]; done)) (cz_weigh R T hn (by omega) b2 q2 q3 q4 q5 q6 (fun s hs => b5 s hs i (by omega) (by omega))) rfl rfl (Nat.le_of_ble_eq_true rfl) (by first | omega | (exact R.r _ _) | (simp only [jM.len_sI, jM.len_sL, jM.len_sR, jM.len_fI, jM.len_fL, jM.len_fR]; omega) | (simp [jM.len_nw, jM.len_sI, jM.len_sL, jM.len_sR, jM.len_fI, jM.len_fL, jM.len_fR, *]; omega)) (by first | omega | (exact R.r _ _) | (simp only [jM.len_sI, jM.len_sL, jM.len_sR, jM.len_fI, jM.len_fL, jM.len_fR]; omega) | (simp [jM.len_nw, jM.len_sI, jM.len_sL, jM.len_sR, jM.len_fI, jM.len_fL, jM.len_fR, *]; omega)) (by first | omega | (exact R.r _ _) | (simp only [jM.len_sI, jM.len_sL, jM.len_sR, jM.len_fI, jM.len_fL, jM.len_fR]; omega) | (simp [jM.len_nw, jM.len_sI, jM.len_sL, jM.len_sR, jM.len_fI, jM.len_fL, jM.len_fR, *]; omega)) rfl rfl ?_ ?_
        · exact fun _ _ h => h
        rintro _ k1 ⟨rfl, w1, w2, w3⟩
        have eI : ∀ t a x, t ≠ 26 → t ≠ 27 → k1.I t a x = k.I t a x := fun t a x ht ht2 => w1.2.2.2.2 t a x (fun z => by rcases z with z | z; exact ht2 z.1; exact ht z.1)
        refine J.iinc (pc' := 86) rfl rfl rfl (by decide) ?_
        refine J.goto (tgt := 65) rfl rfl ?_
        refine ih (i + 1) (by omega) k1 (b1.trans w1 (fun t a z => by
          rcases z with z | z
          · exact z
          · show 24 ≤ t ∧ t ≤ 30
            omega)) (b2.on w1) (fun j hj => ?_) (fun u hu j t q1 q2 q3 => ?_) (fun u hu g g0 g1 => ?_) (fun u hu => (eI 28 _ _ (by omega) (by omega)).trans (b6 u hu)) (fun u h1 h2 => (eI 29 _ _ (by omega) (by omega)).trans (b8 u h1 h2)) ((eI 29 _ _ (by omega) (by omega)).trans b9) (fun u hu => (eI 30 _ _ (by omega) (by omega)).trans (b10 u hu)) _ ⟨rfl, rfl, rfl, rfl, rfl, trivial⟩
        · rw [w3 j (by omega)]
          by_cases z : j = i
          · rw [if_pos (by omega), z]
          · rw [if_neg (by omega)]; exact b3 j (by omega)
        · by_cases z : j = i
          · subst z
            have := w2.1 u hu t.toNat (by omega)
            rw [show ((t.toNat : Nat) : Int) = t by omega] at this
            exact this
          · rw [w2.2 u hu j t (by omega) (by omega) q2 (by have := mo20 j; omega)]
            exact b4 u hu j t (by omega) q2 q3
        · have := w2.2 u hu g 0 (by omega) (by omega) (by omega) (by omega)
          rw [Int.add_zero] at this
          rw [this]
          exact b5 u hu g (by omega) g1
  -- limits
  have keyM : ∀ (r m : Nat), m + r = 5 → ∀ k : jM, onI h k (fun t a => t = 29 ∧ a = σ 29) → liV k σ 0 = 999999999 → (∀ u : Nat, 1 ≤ u → u < 1 + 2 * m → liV k σ u = liP V n u) → ∀ lv, hasL lv [(0, .ref (σ 0)), (1, .ref hp), (2, .ref ak), (3, .int (jI n)), (4, .int (jI (m : Int)))] → J γ mX0_leastCost 9 0 0 0 0 k 11 lv [] (lcQ h σ V n) X0 := by
    intro r
    induction r with
    | zero =>
      intro m hm k b1 b2 b3 lv hlv
      have eI : ∀ t a x, t ≠ 29 → k.I t a x = h.I t a x := fun t a x ht => b1.2.2.2.2 t a x (fun z => ht z.1)
      refine J.lc hlv ?_
      refine J.iload (pc' := 13) rfl rfl rfl ?_
      refine J.iconst (pc' := 14) rfl rfl ?_
      refine J.icmp_ge (tgt := 62) (pc' := 17) rfl rfl rfl (by first | omega | (exact R.r _ _) | (simp only [jM.len_sI, jM.len_sL, jM.len_sR, jM.len_fI, jM.len_fL, jM.len_fR]; omega) | (simp [jM.len_nw, jM.len_sI, jM.len_sL, jM.len_sR, jM.len_fI, jM.len_fL, jM.len_fR, *]; omega)) (by first | omega | (exact R.r _ _) | (simp only [jM.len_sI, jM.len_sL, jM.len_sR, jM.len_fI, jM.len_fL, jM.len_fR]; omega) | (simp [jM.len_nw, jM.len_sI, jM.len_sL, jM.len_sR, jM.len_fI, jM.len_fL, jM.len_fR, *]; omega)) (fun c1 => ?_) (fun c1 => ?_)
      · refine J.iconst (pc' := 63) rfl rfl ?_
        refine J.istore (pc' := 65) rfl rfl (by decide) ?_
        exact keyW 6 0 (by omega) k ⟨b1.1, b1.2.1, b1.2.2.1, b1.2.2.2.1, fun t a x hx => eI t a x (fun z => hx (by show 24 ≤ t ∧ t ≤ 30; omega))⟩ (hS.1.on b1) (fun j hj => by omega) (fun u hu j t q1 => by omega) (fun u hu g g0 g1 => (eI 27 _ _ (by omega)).trans ((hS.2 u hu).2.2 g (by omega) g1)) (fun u hu => (eI 28 _ _ (by omega)).trans (hS.2 u hu).2.1) (fun u h1 h2 => b3 u h1 (by omega)) b2 (fun u hu => (eI 30 _ _ (by omega)).trans (hS.2 u hu).1) _ ⟨rfl, rfl, rfl, rfl, rfl, trivial⟩
      · omega
    | succ r ih =>
      intro m hm k b1 b2 b3 lv hlv
      have hS1 := hS.1.on b1
      obtain ⟨t0, -, -, -, -, -, ⟨r29, t29, l29⟩, -, -, -⟩ := hS1
      have A1 : isO k ak x0 P := hA.kept2 b1.fr (fun z => by have := hA.1.1; omega) (fun z => by have := hA.1.2.2.1; omega)
      have tak := A1.1.1
      have pm := hP m (by omega) (by omega)
      have s1 : sv k ak (2 * (m : Int)).toNat = V 146 m := by rw [A1.2.2.2 _ (by omega)]; exact pm.1
      have s2 : sv k ak (2 * (m : Int) + 1).toNat = V 147 m := by rw [A1.2.2.2 _ (by omega)]; exact pm.2
      refine J.lc hlv ?_
      refine J.iload (pc' := 13) rfl rfl rfl ?_
      refine J.iconst (pc' := 14) rfl rfl ?_
      refine J.icmp_ge (tgt := 62) (pc' := 17) rfl rfl rfl (by first | omega | (exact R.r _ _) | (simp only [jM.len_sI, jM.len_sL, jM.len_sR, jM.len_fI, jM.len_fL, jM.len_fR]; omega) | (simp [jM.len_nw, jM.len_sI, jM.len_sL, jM.len_sR, jM.len_fI, jM.len_fL, jM.len_fR, *]; omega)) (by first | omega | (exact R.r _ _) | (simp only [jM.len_sI, jM.len_sL, jM.len_sR, jM.len_fI, jM.len_fL, jM.len_fR]; omega) | (simp [jM.len_nw, jM.len_sI, jM.len_sL, jM.len_sR, jM.len_fI, jM.len_fL, jM.len_fR, *]; omega)) (fun c1 => ?_) (fun c1 => ?_)
      · omega
      · first | refine J.aload_n (pc' := 18) rfl rfl rfl ?_ | refine J.aload_nN (pc' := 18) rfl rfl rfl ?_
        first | refine J.getR (pc' := 21) rfl fl_X0_29 rfl (by first | assumption | (simp only [jM.tag_sI, jM.tag_sL, jM.tag_sR, jM.tag_fI, jM.tag_fL, jM.tag_fR]; assumption) | (simp [jM.tag_nw, jM.tag_sI, jM.tag_sL, jM.tag_sR, jM.tag_fI, jM.tag_fL, jM.tag_fR, *]; done)) (by first | assumption | (simp only [jM.R_sI, jM.R_sL, jM.R_fI, jM.R_fL]; assumption) | (simp [jM.R_nw, jM.R_sR, jM.R_fR, jM.R_sI, jM.R_sL, jM.R_fI, jM.R_fL, *]; done)) rfl ?_ | refine J.getRN (pc' := 21) rfl fl_X0_29 rfl (by first | assumption | (simp only [jM.tag_sI, jM.tag_sL, jM.tag_sR, jM.tag_fI, jM.tag_fL, jM.tag_fR]; assumption) | (simp [jM.tag_nw, jM.tag_sI, jM.tag_sL, jM.tag_sR, jM.tag_fI, jM.tag_fL, jM.tag_fR, *]; done)) (by first | assumption | (simp only [jM.R_sI, jM.R_sL, jM.R_fI, jM.R_fL]; assumption) | (simp [jM.R_nw, jM.R_sR, jM.R_fR, jM.R_sI, jM.R_sL, jM.R_fI, jM.R_fL, *]; done)) rfl ?_
        refine J.iconst (pc' := 22) rfl rfl ?_
        refine J.iconst (pc' := 23) rfl rfl ?_
        refine J.iload (pc' := 25) rfl rfl rfl ?_
        refine J.imul (pc' := 26) rfl rfl ?_
        refine J.iadd (pc' := 27) rfl rfl ?_
        first | refine J.aload_n (pc' := 28) rfl rfl rfl ?_ | refine J.aload_nN (pc' := 28) rfl rfl rfl ?_
        refine J.iload (pc' := 30) rfl rfl rfl ?_
        refine J.callV (pc' := 33) (t := 14) rfl MX10_low ml_X0_36 iv_X10_low (by decide) ⟨_, rfl, rfl⟩ (by first | assumption | (simp only [jM.tag_sI, jM.tag_sL, jM.tag_sR, jM.tag_fI, jM.tag_fL, jM.tag_fR]; assumption) | (simp [jM.tag_nw, jM.tag_sI, jM.tag_sL, jM.tag_sR, jM.tag_fI, jM.tag_fL, jM.tag_fR, *]; done)) (cs_low A1.1 (by omega) (by omega)) rfl rfl (Nat.le_of_ble_eq_true rfl) (by first | omega | (exact R.r _ _) | (simp only [jM.len_sI, jM.len_sL, jM.len_sR, jM.len_fI, jM.len_fL, jM.len_fR]; omega) | (simp [jM.len_nw, jM.len_sI, jM.len_sL, jM.len_sR, jM.len_fI, jM.len_fL, jM.len_fR, *]; omega)) (by first | omega | (exact R.r _ _) | (simp only [jM.len_sI, jM.len_sL, jM.len_sR, jM.len_fI, jM.len_fL, jM.len_fR]; omega) | (simp [jM.len_nw, jM.len_sI, jM.len_sL, jM.len_sR, jM.len_fI, jM.len_fL, jM.len_fR, *]; omega)) (by first | omega | (exact R.r _ _) | (simp only [jM.len_sI, jM.len_sL, jM.len_sR, jM.len_fI, jM.len_fL, jM.len_fR]; omega) | (simp [jM.len_nw, jM.len_sI, jM.len_sL, jM.len_sR, jM.len_fI, jM.len_fL, jM.len_fR, *]; omega)) rfl rfl ?_ ?_
        · exact fun _ _ h => h
        rintro _ k ⟨rfl, rfl⟩
        rw [s1]
        refine J.ineg (pc' := 34) rfl rfl ?_
        refine J.iload_n (pc' := 35) rfl rfl rfl ?_
        refine J.imul (pc' := 36) rfl rfl ?_
        refine J.iast (pc' := 37) rfl (by first | assumption | (simp only [jM.tag_sI, jM.tag_sL, jM.tag_sR, jM.tag_fI, jM.tag_fL, jM.tag_fR]; assumption) | (simp [jM.tag_nw, jM.tag_sI, jM.tag_sL, jM.tag_sR, jM.tag_fI, jM.tag_fL, jM.tag_fR, *]; done)) (by decide) rfl (by first | omega | (exact R.r _ _) | (simp only [jM.len_sI, jM.len_sL, jM.len_sR, jM.len_fI, jM.len_fL, jM.len_fR]; omega) | (simp [jM.len_nw, jM.len_sI, jM.len_sL, jM.len_sR, jM.len_fI, jM.len_fL, jM.len_fR, *]; omega)) (by first | omega | (exact R.r _ _) | (simp only [jM.len_sI, jM.len_sL, jM.len_sR, jM.len_fI, jM.len_fL, jM.len_fR]; omega) | (simp [jM.len_nw, jM.len_sI, jM.len_sL, jM.len_sR, jM.len_fI, jM.len_fL, jM.len_fR, *]; omega)) (by first | omega | (exact R.r _ _) | (simp only [jM.len_sI, jM.len_sL, jM.len_sR, jM.len_fI, jM.len_fL, jM.len_fR]; omega) | (simp [jM.len_nw, jM.len_sI, jM.len_sL, jM.len_sR, jM.len_fI, jM.len_fL, jM.len_fR, *]; omega)) (Or.inl rfl) rfl ?_
        have B1 : onI h (k.sI 29 (σ 29) (1 + 2 * (m : Int)).toNat (-V 146 m * n)) (fun t a => t = 29 ∧ a = σ 29) := b1.sI ⟨rfl, rfl⟩
        have B2 : ∀ u : Int, 0 ≤ u → liV (k.sI 29 (σ 29) (1 + 2 * (m : Int)).toNat (-V 146 m * n)) σ u = if u = 1 + 2 * (m : Int) then -V 146 m * n else liV k σ u := fun u hu => li_st hu (by omega)
        generalize k.sI 29 (σ 29) (1 + 2 * (m : Int)).toNat (-V 146 m * n) = k2 at B1 B2 ⊢
        have hS2 := hS.1.on B1
        obtain ⟨t0, -, -, -, -, -, ⟨r29, t29, l29⟩, -, -, -⟩ := hS2
        have A2 : isO k2 ak x0 P := hA.kept2 B1.fr (fun z => by have := hA.1.1; omega) (fun z => by have := hA.1.2.2.1; omega)
        have tak := A2.1.1
        have s3 : sv k2 ak (2 * (m : Int) + 1).toNat = V 147 m := by rw [A2.2.2.2 _ (by omega)]; exact pm.2
        first | refine J.aload_n (pc' := 38) rfl rfl rfl ?_ | refine J.aload_nN (pc' := 38) rfl rfl rfl ?_
        first | refine J.getR (pc' := 41) rfl fl_X0_29 rfl (by first | assumption | (simp only [jM.tag_sI, jM.tag_sL, jM.tag_sR, jM.tag_fI, jM.tag_fL, jM.tag_fR]; assumption) | (simp [jM.tag_nw, jM.tag_sI, jM.tag_sL, jM.tag_sR, jM.tag_fI, jM.tag_fL, jM.tag_fR, *]; done)) (by first | assumption | (simp only [jM.R_sI, jM.R_sL, jM.R_fI, jM.R_fL]; assumption) | (simp [jM.R_nw, jM.R_sR, jM.R_fR, jM.R_sI, jM.R_sL, jM.R_fI, jM.R_fL, *]; done)) rfl ?_ | refine J.getRN (pc' := 41) rfl fl_X0_29 rfl (by first | assumption | (simp only [jM.tag_sI, jM.tag_sL, jM.tag_sR, jM.tag_fI, jM.tag_fL, jM.tag_fR]; assumption) | (simp [jM.tag_nw, jM.tag_sI, jM.tag_sL, jM.tag_sR, jM.tag_fI, jM.tag_fL, jM.tag_fR, *]; done)) (by first | assumption | (simp only [jM.R_sI, jM.R_sL, jM.R_fI, jM.R_fL]; assumption) | (simp [jM.R_nw, jM.R_sR, jM.R_fR, jM.R_sI, jM.R_sL, jM.R_fI, jM.R_fL, *]; done)) rfl ?_
        refine J.iconst (pc' := 42) rfl rfl ?_
        refine J.iconst (pc' := 43) rfl rfl ?_
        refine J.iload (pc' := 45) rfl rfl rfl ?_
        refine J.imul (pc' := 46) rfl rfl ?_
        refine J.iadd (pc' := 47) rfl rfl ?_
        first | refine J.aload_n (pc' := 48) rfl rfl rfl ?_ | refine J.aload_nN (pc' := 48) rfl rfl rfl ?_
        refine J.iload (pc' := 50) rfl rfl rfl ?_
        refine J.callV (pc' := 53) (t := 14) rfl MX10_high ml_X0_42 iv_X10_high (by decide) ⟨_, rfl, rfl⟩ (by first | assumption | (simp only [jM.tag_sI, jM.tag_sL, jM.tag_sR, jM.tag_fI, jM.tag_fL, jM.tag_fR]; assumption) | (simp [jM.tag_nw, jM.tag_sI, jM.tag_sL, jM.tag_sR, jM.tag_fI, jM.tag_fL, jM.tag_fR, *]; done)) (cs_high A2.1 (by omega) (by omega)) rfl rfl (Nat.le_of_ble_eq_true rfl) (by first | omega | (exact R.r _ _) | (simp only [jM.len_sI, jM.len_sL, jM.len_sR, jM.len_fI, jM.len_fL, jM.len_fR]; omega) | (simp [jM.len_nw, jM.len_sI, jM.len_sL, jM.len_sR, jM.len_fI, jM.len_fL, jM.len_fR, *]; omega)) (by first | omega | (exact R.r _ _) | (simp only [jM.len_sI, jM.len_sL, jM.len_sR, jM.len_fI, jM.len_fL, jM.len_fR]; omega) | (simp [jM.len_nw, jM.len_sI, jM.len_sL, jM.len_sR, jM.len_fI, jM.len_fL, jM.len_fR, *]; omega)) (by first | omega | (exact R.r _ _) | (simp only [jM.len_sI, jM.len_sL, jM.len_sR, jM.len_fI, jM.len_fL, jM.len_fR]; omega) | (simp [jM.len_nw, jM.len_sI, jM.len_sL, jM.len_sR, jM.len_fI, jM.len_fL, jM.len_fR, *]; omega)) rfl rfl ?_ ?_
        · exact fun _ _ h => h
        rintro _ k2 ⟨rfl, rfl⟩
        rw [s3]
        refine J.iload_n (pc' := 54) rfl rfl rfl ?_
        refine J.imul (pc' := 55) rfl rfl ?_
        refine J.iast (pc' := 56) rfl (by first | assumption | (simp only [jM.tag_sI, jM.tag_sL, jM.tag_sR, jM.tag_fI, jM.tag_fL, jM.tag_fR]; assumption) | (simp [jM.tag_nw, jM.tag_sI, jM.tag_sL, jM.tag_sR, jM.tag_fI, jM.tag_fL, jM.tag_fR, *]; done)) (by decide) rfl (by first | omega | (exact R.r _ _) | (simp only [jM.len_sI, jM.len_sL, jM.len_sR, jM.len_fI, jM.len_fL, jM.len_fR]; omega) | (simp [jM.len_nw, jM.len_sI, jM.len_sL, jM.len_sR, jM.len_fI, jM.len_fL, jM.len_fR, *]; omega)) (by first | omega | (exact R.r _ _) | (simp only [jM.len_sI, jM.len_sL, jM.len_sR, jM.len_fI, jM.len_fL, jM.len_fR]; omega) | (simp [jM.len_nw, jM.len_sI, jM.len_sL, jM.len_sR, jM.len_fI, jM.len_fL, jM.len_fR, *]; omega)) (by first | omega | (exact R.r _ _) | (simp only [jM.len_sI, jM.len_sL, jM.len_sR, jM.len_fI, jM.len_fL, jM.len_fR]; omega) | (simp [jM.len_nw, jM.len_sI, jM.len_sL, jM.len_sR, jM.len_fI, jM.len_fL, jM.len_fR, *]; omega)) (Or.inl rfl) rfl ?_
        refine J.iinc (pc' := 59) rfl rfl rfl (by decide) ?_
        refine J.goto (tgt := 11) rfl rfl ?_
        refine ih (m + 1) (by omega) (k2.sI 29 (σ 29) (2 + 2 * (m : Int)).toNat (V 147 m * n)) (B1.sI ⟨rfl, rfl⟩) ?_ (fun u h1 h2 => ?_) _ ⟨rfl, rfl, rfl, rfl, rfl, trivial⟩
        · rw [li_st (by omega) (by omega), if_neg (by omega), B2 0 (by omega), if_neg (by omega)]
          exact b2
        · rw [li_st (by omega) (by omega)]
          by_cases z : (u : Int) = 2 + 2 * (m : Int)
          · rw [if_pos z, z]
            unfold liP
            rw [if_neg (by omega), show (2 + 2 * (m : Int) - 2) / 2 = (m : Int) by omega]
          · rw [if_neg z, B2 u (by omega)]
            by_cases z2 : (u : Int) = 1 + 2 * (m : Int)
            · rw [if_pos z2, z2]
              unfold liP
              rw [if_pos (by omega), show (1 + 2 * (m : Int) - 1) / 2 = (m : Int) by omega]
            · rw [if_neg z2]
              exact b3 u h1 (by omega)
  refine keyM 5 0 (by omega) (h.sI 29 (σ 29) (Int.toNat 0) 999999999) (onI.rf.sI ⟨rfl, rfl⟩) ?_ (fun u h1 h2 => by omega) _ ⟨rfl, rfl, rfl, rfl, rfl, trivial⟩
  rw [li_st (by omega) (by omega), if_pos rfl]
end LC

