section BD
variable {γ : jG} {h : jM} {σ : Nat → Nat} {V : VV} {n : Int}
theorem le_st {k : jM} {s u : Nat} {x i v : Int} (hi : 0 ≤ i) (hx : 0 ≤ x) : leV (k.sI 28 (σ 32 + 1 + s) x.toNat v) σ u i = if u = s ∧ i = x then v else leV k σ u i := by
  show (k.sI 28 (σ 32 + 1 + s) x.toNat v).I 28 (σ 32 + 1 + u) i.toNat = _
  rw [jM.I_sI]
  by_cases c : u = s ∧ i = x
  · rw [if_pos c, if_pos ⟨rfl, by omega, by omega⟩]
  · rw [if_neg c, if_neg (by omega)]
    rfl
theorem tSd_b (R : isR V) {tr : Int → Int} {s : Int} {g : Nat} : ∀ k : Nat, (∀ j : Nat, g ≤ j → j < g + k → tr j ≤ 20) → tS V tr s (g + k) - tS V tr s g ≤ 2000000 * k := fun k => by
  induction k with
  | zero => intro _; show tS V tr s g - tS V tr s g ≤ _; omega
  | succ k ih =>
    intro h
    have a := ih (fun j h1 h2 => h j h1 (by omega))
    have b := cg_b R (s := s) (g := ((g + k : Nat) : Int)) (h (g + k) (by omega) (by omega))
    have e : tS V tr s (g + (k + 1)) = tS V tr s (g + k) + cg V s ((g + k : Nat) : Int) (tr ((g + k : Nat) : Int)) := rfl
    omega
theorem SmD_n {tr : Int → Int} {g : Nat} : ∀ k : Nat, (∀ j : Nat, g ≤ j → j < g + k → 0 ≤ tr j) → 0 ≤ Sm tr (g + k) - Sm tr g := fun k => by
  induction k with
  | zero => intro _; show 0 ≤ Sm tr g - Sm tr g; omega
  | succ k ih =>
    intro h
    have a := ih (fun j h1 h2 => h j h1 (by omega))
    have b := h (g + k) (by omega) (by omega)
    have e : Sm tr (g + (k + 1)) = Sm tr (g + k) + tr ((g + k : Nat) : Int) := rfl
    omega
/-- the bounds from heap g on -/
def lbR (k : jM) (σ : Nat → Nat) (V : VV) (n : Int) (s g : Nat) : Prop := ∀ g' : Nat, g ≤ g' → g' ≤ 6 → ∀ l : Int, 0 ≤ l → l ≤ n → LB V n (leV k σ s ((g' : Int) * 21 + l)) s g' l ∧ -2000000 * (6 - (g' : Int)) ≤ leV k σ s ((g' : Int) * 21 + l)
/-- found is below all that was tried -/
def fnd (k : jM) (σ : Nat → Nat) (V : VV) (s g : Nat) (l t f : Int) : Prop := (-2000000 * (6 - (g : Int)) ≤ f ∧ f ≤ 1000000000) ∧ ∀ u : Int, 0 ≤ u → u < t → leV k σ s (((g : Int) + 1) * 21 + (l - u)) ≠ 1000000000 → f ≤ cg V s g u + leV k σ s (((g : Int) + 1) * 21 + (l - u))
theorem fnd_LB (R : isR V) (hn : 1 ≤ n ∧ n ≤ 20) {k : jM} {s g : Nat} {l t f : Int} (hg : g < 6) (hl : 0 ≤ l ∧ l ≤ n) (hr : lbR k σ V n s (g + 1)) (hf : fnd k σ V s g l t f) (ht : ∀ u : Int, 0 ≤ u → u ≤ l → u ≤ mostP V n g → u < t) : LB V n f s g l ∧ -2000000 * (6 - (g : Int)) ≤ f := by
  refine ⟨⟨by have := hf.1; omega, fun tr' h1 h2 => ?_⟩, hf.1.1⟩
  have eS : Sm tr' (g + 1) = Sm tr' g + tr' g := rfl
  have eT : tS V tr' s (g + 1) = tS V tr' s g + cg V s g (tr' g) := rfl
  have t0 := h1 g (Nat.le_refl _) hg
  have nn := SmD_n (tr := tr') (g := g + 1) (6 - (g + 1)) (fun j q1 q2 => (h1 j (by omega) (by omega)).1)
  rw [show g + 1 + (6 - (g + 1)) = 6 by omega] at nn
  have r1 := (hr (g + 1) (Nat.le_refl _) (by omega) (l - tr' g) (by omega) (by omega)).1.2 tr' (fun j q1 q2 => h1 j (by omega) q2) (by omega)
  have tb := tSd_b R (tr := tr') (s := s) (g := g + 1) (6 - (g + 1)) (fun j q1 q2 => by have := (h1 j (by omega) (by omega)).2; unfold mostP at this; omega)
  rw [show g + 1 + (6 - (g + 1)) = 6 by omega] at tb
  rw [show ((g + 1 : Nat) : Int) = (g : Int) + 1 by omega] at r1
  have r2 := hf.2 (tr' g) t0.1 (ht _ t0.1 (by omega) t0.2) (by omega)
  omega
abbrev bdP (σ : Nat → Nat) (s : Nat) : Nat → Nat → Prop := fun t a => t = 28 ∧ a = σ 32 + 1 + s
def bdQ (h : jM) (σ : Nat → Nat) (V : VV) (n : Int) (s : Nat) : Option Value → jM → Prop := fun r h' => r = none ∧ onI h h' (bdP σ s) ∧ lbR h' σ V n s 0 ∧ leV h' σ s 126 = 0 ∧ ∀ l : Int, 1 ≤ l → l ≤ n → leV h' σ s (126 + l) = 1000000000
theorem cz_bound {s : Nat} (R : isR V) (hn : 1 ≤ n ∧ n ≤ 20) (hs : s < 11) (hS : isSS h σ) (hmo : ∀ j : Nat, j < 6 → moV h σ j = mostP V n j) (hgv : ∀ (j : Nat) (t : Int), j < 6 → 0 ≤ t → t ≤ mostP V n j → gvV h σ s ((j : Int) * 21 + t) = cg V s j t) (h0 : leV h σ s 126 = 0) : CT γ mX0_boundSum 1 0 0 [.ref (σ 0), .int (jI (s : Int)), .int (jI n)] h (bdQ h σ V n s) X0 := by
  have mo20 : ∀ j, mostP V n j ≤ 20 := fun j => by unfold mostP; omega
  have mo0 : ∀ j, 0 ≤ mostP V n j := fun j => most_b R (by omega) j
  refine CT.of MX0_boundSum (Nat.le_of_ble_eq_true rfl) ?_
  show J γ mX0_boundSum 1 0 0 0 0 h 0 [(0, .ref (σ 0)), (1, .int (jI (s : Int))), (2, .int (jI n))] [] _ _
  refine J.iconst (pc' := 1) rfl rfl ?_
  refine J.istore_n (pc' := 2) rfl rfl (by decide) ?_
  -- the heaps
  have keyH : ∀ (g : Nat), g ≤ 6 → ∀ k : jM, onI h k (bdP σ s) → lbR k σ V n s g → leV k σ s 126 = 0 → (∀ l : Int, 1 ≤ l → l ≤ n → leV k σ s (126 + l) = 1000000000) → ∀ lv, hasL lv [(0, .ref (σ 0)), (1, .int (jI (s : Int))), (2, .int (jI n)), (3, .int (jI ((g : Int) - 1)))] → J γ mX0_boundSum 1 0 0 0 0 k 30 lv [] (bdQ h σ V n s) X0 := by
    intro g
    induction g with
    | zero =>
      intro hg k b1 b2 b3 b4 lv hlv
      refine J.lc hlv ?_
      refine J.iload_n (pc' := 31) rfl rfl rfl ?_
      refine J.if_lt (tgt := 151) (pc' := 34) rfl rfl rfl (by first | omega | (exact R.r _ _) | (simp only [jM.len_sI, jM.len_sL, jM.len_sR, jM.len_fI, jM.len_fL, jM.len_fR]; omega) | (simp [jM.len_nw, jM.len_sI, jM.len_sL, jM.len_sR, jM.len_fI, jM.len_fL, jM.len_fR, *]; omega)) (fun c1 => ?_) (fun c1 => ?_)
      · refine J.vret rfl rfl (by first | omega | (exact R.r _ _) | (simp only [jM.len_sI, jM.len_sL, jM.len_sR, jM.len_fI, jM.len_fL, jM.len_fR]; omega) | (simp [jM.len_nw, jM.len_sI, jM.len_sL, jM.len_sR, jM.len_fI, jM.len_fL, jM.len_fR, *]; omega)) (by first | omega | (exact R.r _ _) | (simp only [jM.len_sI, jM.len_sL, jM.len_sR, jM.len_fI, jM.len_fL, jM.len_fR]; omega) | (simp [jM.len_nw, jM.len_sI, jM.len_sL, jM.len_sR, jM.len_fI, jM.len_fL, jM.len_fR, *]; omega)) ?_
        exact ⟨rfl, b1, b2, b3, b4⟩
      · omega
    | succ g ihg =>
      intro hg k b1 b2 b3 b4 lv hlv
      rw [show ((g + 1 : Nat) : Int) - 1 = (g : Int) by omega] at hlv
      refine J.lc hlv ?_
      refine J.iload_n (pc' := 31) rfl rfl rfl ?_
      refine J.if_lt (tgt := 151) (pc' := 34) rfl rfl rfl (by first | omega | (exact R.r _ _) | (simp only [jM.len_sI, jM.len_sL, jM.len_sR, jM.len_fI, jM.len_fL, jM.len_fR]; omega) | (simp [jM.len_nw, jM.len_sI, jM.len_sL, jM.len_sR, jM.len_fI, jM.len_fL, jM.len_fR, *]; omega)) (fun c1 => ?_) (fun c1 => ?_)
      · omega
      · refine J.iconst (pc' := 35) rfl rfl ?_
        refine J.istore (pc' := 37) rfl rfl (by decide) ?_
        -- what is left
        have keyL : ∀ (r l : Nat), (l : Int) + r = n + 1 → ∀ k : jM, onI h k (bdP σ s) → lbR k σ V n s (g + 1) → leV k σ s 126 = 0 → (∀ l : Int, 1 ≤ l → l ≤ n → leV k σ s (126 + l) = 1000000000) → (∀ x : Int, 0 ≤ x → x < l → LB V n (leV k σ s ((g : Int) * 21 + x)) s g x ∧ -2000000 * (6 - (g : Int)) ≤ leV k σ s ((g : Int) * 21 + x)) → ∀ lv, hasL lv [(0, .ref (σ 0)), (1, .int (jI (s : Int))), (2, .int (jI n)), (3, .int (jI (g : Int))), (4, .int (jI (l : Int)))] → J γ mX0_boundSum 1 0 0 0 0 k 37 lv [] (bdQ h σ V n s) X0 := by
          intro r
          induction r with
          | zero =>
            intro l hl k b1 b2 b3 b4 b5 lv hlv
            refine J.lc hlv ?_
            refine J.iload (pc' := 39) rfl rfl rfl ?_
            refine J.iload_n (pc' := 40) rfl rfl rfl ?_
            refine J.icmp_gt (tgt := 145) (pc' := 43) rfl rfl rfl (by first | omega | (exact R.r _ _) | (simp only [jM.len_sI, jM.len_sL, jM.len_sR, jM.len_fI, jM.len_fL, jM.len_fR]; omega) | (simp [jM.len_nw, jM.len_sI, jM.len_sL, jM.len_sR, jM.len_fI, jM.len_fL, jM.len_fR, *]; omega)) (by first | omega | (exact R.r _ _) | (simp only [jM.len_sI, jM.len_sL, jM.len_sR, jM.len_fI, jM.len_fL, jM.len_fR]; omega) | (simp [jM.len_nw, jM.len_sI, jM.len_sL, jM.len_sR, jM.len_fI, jM.len_fL, jM.len_fR, *]; omega)) (fun c2 => ?_) (fun c2 => ?_)
            · refine J.iinc (pc' := 148) rfl rfl rfl (by decide) ?_
              refine J.goto (tgt := 30) rfl rfl ?_
              refine ihg (by omega) k b1 (fun g' q1 q2 x x0 x1 => ?_) b3 b4 _ ⟨rfl, rfl, rfl, ?_, trivial⟩
              · by_cases z : g' = g
                · subst z; exact b5 x x0 (by omega)
                · exact b2 g' (by omega) q2 x x0 x1
              · show some (Value.int (jI ((g : Int) + -1))) = some (Value.int (jI ((g : Int) - 1)))
                rfl
            · omega
          | succ r ihr =>
            intro l hl k b1 b2 b3 b4 b5 lv hlv
            have hS1 := hS.on b1
            obtain ⟨t0, -, -, ⟨r26, t26, l26⟩, ⟨r31, t31, l31⟩, ⟨r32', t32, l32⟩, -, -, rg, rl⟩ := hS1
            obtain ⟨p1, p2, p3⟩ := rg s hs
            obtain ⟨w1, w2, w3⟩ := rl s hs
            have p1' : k.R 31 (σ 31) (s : Int).toNat = some (σ 31 + 1 + s) := p1
            have w1' : k.R 32 (σ 32) (s : Int).toNat = some (σ 32 + 1 + s) := w1
            have em : k.I 26 (σ 26) (g : Int).toNat = mostP V n g := (b1.2.2.2.2 26 _ _ (by omega)).trans (hmo g (by omega))
            have mg := mo0 (g : Int)
            have mg2 := mo20 (g : Int)
            refine J.lc hlv ?_
            refine J.iload (pc' := 39) rfl rfl rfl ?_
            refine J.iload_n (pc' := 40) rfl rfl rfl ?_
            refine J.icmp_gt (tgt := 145) (pc' := 43) rfl rfl rfl (by first | omega | (exact R.r _ _) | (simp only [jM.len_sI, jM.len_sL, jM.len_sR, jM.len_fI, jM.len_fL, jM.len_fR]; omega) | (simp [jM.len_nw, jM.len_sI, jM.len_sL, jM.len_sR, jM.len_fI, jM.len_fL, jM.len_fR, *]; omega)) (by first | omega | (exact R.r _ _) | (simp only [jM.len_sI, jM.len_sL, jM.len_sR, jM.len_fI, jM.len_fL, jM.len_fR]; omega) | (simp [jM.len_nw, jM.len_sI, jM.len_sL, jM.len_sR, jM.len_fI, jM.len_fL, jM.len_fR, *]; omega)) (fun c2 => ?_) (fun c2 => ?_)
            · omega
            · refine J.ldc (pc' := 45) (z := 1000000000) (v := 1000000000) rfl (List.mem_of_getElem? (i := 1309) (by decide +kernel)) (by decide) rfl ?_
              refine J.istore (pc' := 47) rfl rfl (by decide) ?_
              refine J.iconst (pc' := 48) rfl rfl ?_
              refine J.istore (pc' := 50) rfl rfl (by decide) ?_
              have fin : ∀ (t f : Int), r32 f → fnd k σ V s g l t f → (∀ u : Int, 0 ≤ u → u ≤ l → u ≤ mostP V n g → u < t) → ∀ lv, hasL lv [(0, .ref (σ 0)), (1, .int (jI (s : Int))), (2, .int (jI n)), (3, .int (jI (g : Int))), (4, .int (jI (l : Int))), (5, .int (jI f))] → J γ mX0_boundSum 1 0 0 0 0 k 124 lv [] (bdQ h σ V n s) X0 := by
                intro t f hf32 hf hte lv hlv
                have nb := fnd_LB R hn (by omega) (by omega) b2 hf hte
                refine J.lc hlv ?_
                first | refine J.aload_n (pc' := 125) rfl rfl rfl ?_ | refine J.aload_nN (pc' := 125) rfl rfl rfl ?_
                first | refine J.getR (pc' := 128) rfl fl_X0_26 rfl (by first | assumption | (simp only [jM.tag_sI, jM.tag_sL, jM.tag_sR, jM.tag_fI, jM.tag_fL, jM.tag_fR]; assumption) | (simp [jM.tag_nw, jM.tag_sI, jM.tag_sL, jM.tag_sR, jM.tag_fI, jM.tag_fL, jM.tag_fR, *]; done)) (by first | assumption | (simp only [jM.R_sI, jM.R_sL, jM.R_fI, jM.R_fL]; assumption) | (simp [jM.R_nw, jM.R_sR, jM.R_fR, jM.R_sI, jM.R_sL, jM.R_fI, jM.R_fL, *]; done)) rfl ?_ | refine J.getRN (pc' := 128) rfl fl_X0_26 rfl (by first | assumption | (simp only [jM.tag_sI, jM.tag_sL, jM.tag_sR, jM.tag_fI, jM.tag_fL, jM.tag_fR]; assumption) | (simp [jM.tag_nw, jM.tag_sI, jM.tag_sL, jM.tag_sR, jM.tag_fI, jM.tag_fL, jM.tag_fR, *]; done)) (by first | assumption | (simp only [jM.R_sI, jM.R_sL, jM.R_fI, jM.R_fL]; assumption) | (simp [jM.R_nw, jM.R_sR, jM.R_fR, jM.R_sI, jM.R_sL, jM.R_fI, jM.R_fL, *]; done)) rfl ?_
                refine J.iload_n (pc' := 129) rfl rfl rfl ?_
                first | refine J.aald (pc' := 130) rfl (by first | assumption | (simp only [jM.tag_sI, jM.tag_sL, jM.tag_sR, jM.tag_fI, jM.tag_fL, jM.tag_fR]; assumption) | (simp [jM.tag_nw, jM.tag_sI, jM.tag_sL, jM.tag_sR, jM.tag_fI, jM.tag_fL, jM.tag_fR, *]; done)) (by decide) (by decide) rfl (by first | omega | (exact R.r _ _) | (simp only [jM.len_sI, jM.len_sL, jM.len_sR, jM.len_fI, jM.len_fL, jM.len_fR]; omega) | (simp [jM.len_nw, jM.len_sI, jM.len_sL, jM.len_sR, jM.len_fI, jM.len_fL, jM.len_fR, *]; omega)) (by first | omega | (exact R.r _ _) | (simp only [jM.len_sI, jM.len_sL, jM.len_sR, jM.len_fI, jM.len_fL, jM.len_fR]; omega) | (simp [jM.len_nw, jM.len_sI, jM.len_sL, jM.len_sR, jM.len_fI, jM.len_fL, jM.len_fR, *]; omega)) (by first | omega | (exact R.r _ _) | (simp only [jM.len_sI, jM.len_sL, jM.len_sR, jM.len_fI, jM.len_fL, jM.len_fR]; omega) | (simp [jM.len_nw, jM.len_sI, jM.len_sL, jM.len_sR, jM.len_fI, jM.len_fL, jM.len_fR, *]; omega)) (by first | assumption | (simp only [jM.R_sI, jM.R_sL, jM.R_fI, jM.R_fL]; assumption) | (simp [jM.R_nw, jM.R_sR, jM.R_fR, jM.R_sI, jM.R_sL, jM.R_fI, jM.R_fL, *]; done)) rfl ?_ | refine J.aaldN (pc' := 130) rfl (by first | assumption | (simp only [jM.tag_sI, jM.tag_sL, jM.tag_sR, jM.tag_fI, jM.tag_fL, jM.tag_fR]; assumption) | (simp [jM.tag_nw, jM.tag_sI, jM.tag_sL, jM.tag_sR, jM.tag_fI, jM.tag_fL, jM.tag_fR, *]; done)) (by decide) (by decide) rfl (by first | omega | (exact R.r _ _) | (simp only [jM.len_sI, jM.len_sL, jM.len_sR, jM.len_fI, jM.len_fL, jM.len_fR]; omega) | (simp [jM.len_nw, jM.len_sI, jM.len_sL, jM.len_sR, jM.len_fI, jM.len_fL, jM.len_fR, *]; omega)) (by first | omega | (exact R.r _ _) | (simp only [jM.len_sI, jM.len_sL, jM.len_sR, jM.len_fI, jM.len_fL, jM.len_fR]; omega) | (simp [jM.len_nw, jM.len_sI, jM.len_sL, jM.len_sR, jM.len_fI, jM.len_fL, jM.len_fR, *]; omega)) (by first | omega | (exact R.r _ _) | (simp only [jM.len_sI, jM.len_sL, jM.len_sR, jM.len_fI, jM.len_fL, jM.len_fR]; omega) | (simp [jM.len_nw, jM.len_sI, jM.len_sL, jM.len_sR, jM.len_fI, jM.len_fL, jM.len_fR, *]; omega)) (by first | assumption | (simp only [jM.R_sI, jM.R_sL, jM.R_fI, jM.R_fL]; assumption) | (simp [jM.R_nw, jM.R_sR, jM.R_fR, jM.R_sI, jM.R_sL, jM.R_fI, jM.R_fL, *]; done)) rfl ?_
                refine J.iload_n (pc' := 131) rfl rfl rfl ?_
                refine J.iload (pc' := 133) rfl rfl rfl ?_
                refine J.callS (pc' := 136) rfl MX0_at ml_X0_78 is_X0_at cz_at rfl rfl (Nat.le_of_ble_eq_true rfl) (by first | omega | (exact R.r _ _) | (simp only [jM.len_sI, jM.len_sL, jM.len_sR, jM.len_fI, jM.len_fL, jM.len_fR]; omega) | (simp [jM.len_nw, jM.len_sI, jM.len_sL, jM.len_sR, jM.len_fI, jM.len_fL, jM.len_fR, *]; omega)) (by first | omega | (exact R.r _ _) | (simp only [jM.len_sI, jM.len_sL, jM.len_sR, jM.len_fI, jM.len_fL, jM.len_fR]; omega) | (simp [jM.len_nw, jM.len_sI, jM.len_sL, jM.len_sR, jM.len_fI, jM.len_fL, jM.len_fR, *]; omega)) (by first | omega | (exact R.r _ _) | (simp only [jM.len_sI, jM.len_sL, jM.len_sR, jM.len_fI, jM.len_fL, jM.len_fR]; omega) | (simp [jM.len_nw, jM.len_sI, jM.len_sL, jM.len_sR, jM.len_fI, jM.len_fL, jM.len_fR, *]; omega)) rfl rfl ?_ ?_
                · exact fun _ _ h => h
                rintro _ k ⟨rfl, rfl⟩
                refine J.iload (pc' := 138) rfl rfl rfl ?_
                refine J.iast (pc' := 139) rfl (by first | assumption | (simp only [jM.tag_sI, jM.tag_sL, jM.tag_sR, jM.tag_fI, jM.tag_fL, jM.tag_fR]; assumption) | (simp [jM.tag_nw, jM.tag_sI, jM.tag_sL, jM.tag_sR, jM.tag_fI, jM.tag_fL, jM.tag_fR, *]; done)) (by decide) rfl (by first | omega | (exact R.r _ _) | (simp only [jM.len_sI, jM.len_sL, jM.len_sR, jM.len_fI, jM.len_fL, jM.len_fR]; omega) | (simp [jM.len_nw, jM.len_sI, jM.len_sL, jM.len_sR, jM.len_fI, jM.len_fL, jM.len_fR, *]; omega)) (by first | omega | (exact R.r _ _) | (simp only [jM.len_sI, jM.len_sL, jM.len_sR, jM.len_fI, jM.len_fL, jM.len_fR]; omega) | (simp [jM.len_nw, jM.len_sI, jM.len_sL, jM.len_sR, jM.len_fI, jM.len_fL, jM.len_fR, *]; omega)) (by first | omega | (exact R.r _ _) | (simp only [jM.len_sI, jM.len_sL, jM.len_sR, jM.len_fI, jM.len_fL, jM.len_fR]; omega) | (simp [jM.len_nw, jM.len_sI, jM.len_sL, jM.len_sR, jM.len_fI, jM.len_fL, jM.len_fR, *]; omega)) (Or.inl rfl) rfl ?_
                refine J.iinc (pc' := 142) rfl rfl rfl (by decide) ?_
                refine J.goto (tgt := 37) rfl rfl ?_
                refine ihr (l + 1) (by omega) (k.sI 28 (σ 32 + 1 + s) ((g : Int) * 21 + l).toNat f) (b1.sI ⟨rfl, rfl⟩) (fun g' q1 q2 x x0 x1 => ?_) ?_ (fun x x0 x1 => ?_) (fun x x0 x1 => ?_) _ ⟨rfl, rfl, rfl, rfl, rfl, trivial⟩
                · rw [le_st (by omega) (by omega), if_neg (by omega)]
                  exact b2 g' q1 q2 x x0 x1
                · rw [le_st (by omega) (by omega), if_neg (by omega)]
                  exact b3
                · rw [le_st (by omega) (by omega), if_neg (by omega)]
                  exact b4 x x0 x1
                · rw [le_st (by omega) (by omega)]
                  by_cases z : x = (l : Int)
                  · rw [if_pos ⟨rfl, by omega⟩, z]
                    exact nb
                  · rw [if_neg (by omega)]
                    exact b5 x x0 (by omega)
              have keyT : ∀ (q : Nat) (t f : Int), 0 ≤ t → t + q = min (l : Int) (mostP V n g) + 1 → fnd k σ V s g l t f → ∀ lv, hasL lv [(0, .ref (σ 0)), (1, .int (jI (s : Int))), (2, .int (jI n)), (3, .int (jI (g : Int))), (4, .int (jI (l : Int))), (5, .int (jI f)), (6, .int (jI t))] → J γ mX0_boundSum 1 0 0 0 0 k 50 lv [] (bdQ h σ V n s) X0 := by
                intro q
                induction q with
                | zero =>
                  intro t f ht hq hf lv hlv
                  have hf32 : r32 f := by have := hf.1; constructor <;> omega
                  refine J.lc hlv ?_
                  refine J.iload (pc' := 52) rfl rfl rfl ?_
                  refine J.iload (pc' := 54) rfl rfl rfl ?_
                  refine J.icmp_gt (tgt := 124) (pc' := 57) rfl rfl rfl (by first | omega | (exact R.r _ _) | (simp only [jM.len_sI, jM.len_sL, jM.len_sR, jM.len_fI, jM.len_fL, jM.len_fR]; omega) | (simp [jM.len_nw, jM.len_sI, jM.len_sL, jM.len_sR, jM.len_fI, jM.len_fL, jM.len_fR, *]; omega)) (by first | omega | (exact R.r _ _) | (simp only [jM.len_sI, jM.len_sL, jM.len_sR, jM.len_fI, jM.len_fL, jM.len_fR]; omega) | (simp [jM.len_nw, jM.len_sI, jM.len_sL, jM.len_sR, jM.len_fI, jM.len_fL, jM.len_fR, *]; omega)) (fun c3 => ?_) (fun c3 => ?_)
                  · exact fin t f hf32 hf (fun u u0 u1 u2 => by omega) _ ⟨rfl, rfl, rfl, rfl, rfl, rfl, trivial⟩
                  · refine J.iload (pc' := 59) rfl rfl rfl ?_
                    first | refine J.aload_n (pc' := 60) rfl rfl rfl ?_ | refine J.aload_nN (pc' := 60) rfl rfl rfl ?_
                    first | refine J.getR (pc' := 63) rfl fl_X0_18 rfl (by first | assumption | (simp only [jM.tag_sI, jM.tag_sL, jM.tag_sR, jM.tag_fI, jM.tag_fL, jM.tag_fR]; assumption) | (simp [jM.tag_nw, jM.tag_sI, jM.tag_sL, jM.tag_sR, jM.tag_fI, jM.tag_fL, jM.tag_fR, *]; done)) (by first | assumption | (simp only [jM.R_sI, jM.R_sL, jM.R_fI, jM.R_fL]; assumption) | (simp [jM.R_nw, jM.R_sR, jM.R_fR, jM.R_sI, jM.R_sL, jM.R_fI, jM.R_fL, *]; done)) rfl ?_ | refine J.getRN (pc' := 63) rfl fl_X0_18 rfl (by first | assumption | (simp only [jM.tag_sI, jM.tag_sL, jM.tag_sR, jM.tag_fI, jM.tag_fL, jM.tag_fR]; assumption) | (simp [jM.tag_nw, jM.tag_sI, jM.tag_sL, jM.tag_sR, jM.tag_fI, jM.tag_fL, jM.tag_fR, *]; done)) (by first | assumption | (simp only [jM.R_sI, jM.R_sL, jM.R_fI, jM.R_fL]; assumption) | (simp [jM.R_nw, jM.R_sR, jM.R_fR, jM.R_sI, jM.R_sL, jM.R_fI, jM.R_fL, *]; done)) rfl ?_
                    refine J.iload_n (pc' := 64) rfl rfl rfl ?_
                    refine J.iald (pc' := 65) rfl (by first | assumption | (simp only [jM.tag_sI, jM.tag_sL, jM.tag_sR, jM.tag_fI, jM.tag_fL, jM.tag_fR]; assumption) | (simp [jM.tag_nw, jM.tag_sI, jM.tag_sL, jM.tag_sR, jM.tag_fI, jM.tag_fL, jM.tag_fR, *]; done)) (by decide) rfl (by first | omega | (exact R.r _ _) | (simp only [jM.len_sI, jM.len_sL, jM.len_sR, jM.len_fI, jM.len_fL, jM.len_fR]; omega) | (simp [jM.len_nw, jM.len_sI, jM.len_sL, jM.len_sR, jM.len_fI, jM.len_fL, jM.len_fR, *]; omega)) (by first | omega | (exact R.r _ _) | (simp only [jM.len_sI, jM.len_sL, jM.len_sR, jM.len_fI, jM.len_fL, jM.len_fR]; omega) | (simp [jM.len_nw, jM.len_sI, jM.len_sL, jM.len_sR, jM.len_fI, jM.len_fL, jM.len_fR, *]; omega)) (by first | omega | (exact R.r _ _) | (simp only [jM.len_sI, jM.len_sL, jM.len_sR, jM.len_fI, jM.len_fL, jM.len_fR]; omega) | (simp [jM.len_nw, jM.len_sI, jM.len_sL, jM.len_sR, jM.len_fI, jM.len_fL, jM.len_fR, *]; omega)) rfl ?_
                    rw [em]
                    refine J.icmp_gt (tgt := 124) (pc' := 68) rfl rfl rfl (by first | omega | (exact R.r _ _) | (simp only [jM.len_sI, jM.len_sL, jM.len_sR, jM.len_fI, jM.len_fL, jM.len_fR]; omega) | (simp [jM.len_nw, jM.len_sI, jM.len_sL, jM.len_sR, jM.len_fI, jM.len_fL, jM.len_fR, *]; omega)) (by first | omega | (exact R.r _ _) | (simp only [jM.len_sI, jM.len_sL, jM.len_sR, jM.len_fI, jM.len_fL, jM.len_fR]; omega) | (simp [jM.len_nw, jM.len_sI, jM.len_sL, jM.len_sR, jM.len_fI, jM.len_fL, jM.len_fR, *]; omega)) (fun c4 => ?_) (fun c4 => ?_)
                    · exact fin t f hf32 hf (fun u u0 u1 u2 => by omega) _ ⟨rfl, rfl, rfl, rfl, rfl, rfl, trivial⟩
                    · omega
                | succ q ihq =>
                  intro t f ht hq hf lv hlv
                  have hf32 : r32 f := by have := hf.1; constructor <;> omega
                  have gb := cg_b R (s := (s : Int)) (g := (g : Int)) (t := t) (by omega)
                  have lb1 := b2 (g + 1) (Nat.le_refl _) (by omega) ((l : Int) - t) (by omega) (by omega)
                  rw [show ((g + 1 : Nat) : Int) = (g : Int) + 1 by omega] at lb1
                  refine J.lc hlv ?_
                  refine J.iload (pc' := 52) rfl rfl rfl ?_
                  refine J.iload (pc' := 54) rfl rfl rfl ?_
                  refine J.icmp_gt (tgt := 124) (pc' := 57) rfl rfl rfl (by first | omega | (exact R.r _ _) | (simp only [jM.len_sI, jM.len_sL, jM.len_sR, jM.len_fI, jM.len_fL, jM.len_fR]; omega) | (simp [jM.len_nw, jM.len_sI, jM.len_sL, jM.len_sR, jM.len_fI, jM.len_fL, jM.len_fR, *]; omega)) (by first | omega | (exact R.r _ _) | (simp only [jM.len_sI, jM.len_sL, jM.len_sR, jM.len_fI, jM.len_fL, jM.len_fR]; omega) | (simp [jM.len_nw, jM.len_sI, jM.len_sL, jM.len_sR, jM.len_fI, jM.len_fL, jM.len_fR, *]; omega)) (fun c3 => ?_) (fun c3 => ?_)
                  · omega
                  · refine J.iload (pc' := 59) rfl rfl rfl ?_
                    first | refine J.aload_n (pc' := 60) rfl rfl rfl ?_ | refine J.aload_nN (pc' := 60) rfl rfl rfl ?_
                    first | refine J.getR (pc' := 63) rfl fl_X0_18 rfl (by first | assumption | (simp only [jM.tag_sI, jM.tag_sL, jM.tag_sR, jM.tag_fI, jM.tag_fL, jM.tag_fR]; assumption) | (simp [jM.tag_nw, jM.tag_sI, jM.tag_sL, jM.tag_sR, jM.tag_fI, jM.tag_fL, jM.tag_fR, *]; done)) (by first | assumption | (simp only [jM.R_sI, jM.R_sL, jM.R_fI, jM.R_fL]; assumption) | (simp [jM.R_nw, jM.R_sR, jM.R_fR, jM.R_sI, jM.R_sL, jM.R_fI, jM.R_fL, *]; done)) rfl ?_ | refine J.getRN (pc' := 63) rfl fl_X0_18 rfl (by first | assumption | (simp only [jM.tag_sI, jM.tag_sL, jM.tag_sR, jM.tag_fI, jM.tag_fL, jM.tag_fR]; assumption) | (simp [jM.tag_nw, jM.tag_sI, jM.tag_sL, jM.tag_sR, jM.tag_fI, jM.tag_fL, jM.tag_fR, *]; done)) (by first | assumption | (simp only [jM.R_sI, jM.R_sL, jM.R_fI, jM.R_fL]; assumption) | (simp [jM.R_nw, jM.R_sR, jM.R_fR, jM.R_sI, jM.R_sL, jM.R_fI, jM.R_fL, *]; done)) rfl ?_
                    refine J.iload_n (pc' := 64) rfl rfl rfl ?_
                    refine J.iald (pc' := 65) rfl (by first | assumption | (simp only [jM.tag_sI, jM.tag_sL, jM.tag_sR, jM.tag_fI, jM.tag_fL, jM.tag_fR]; assumption) | (simp [jM.tag_nw, jM.tag_sI, jM.tag_sL, jM.tag_sR, jM.tag_fI, jM.tag_fL, jM.tag_fR, *]; done)) (by decide) rfl (by first | omega | (exact R.r _ _) | (simp only [jM.len_sI, jM.len_sL, jM.len_sR, jM.len_fI, jM.len_fL, jM.len_fR]; omega) | (simp [jM.len_nw, jM.len_sI, jM.len_sL, jM.len_sR, jM.len_fI, jM.len_fL, jM.len_fR, *]; omega)) (by first | omega | (exact R.r _ _) | (simp only [jM.len_sI, jM.len_sL, jM.len_sR, jM.len_fI, jM.len_fL, jM.len_fR]; omega) | (simp [jM.len_nw, jM.len_sI, jM.len_sL, jM.len_sR, jM.len_fI, jM.len_fL, jM.len_fR, *]; omega)) (by first | omega | (exact R.r _ _) | (simp only [jM.len_sI, jM.len_sL, jM.len_sR, jM.len_fI, jM.len_fL, jM.len_fR]; omega) | (simp [jM.len_nw, jM.len_sI, jM.len_sL, jM.len_sR, jM.len_fI, jM.len_fL, jM.len_fR, *]; omega)) rfl ?_
                    rw [em]
                    refine J.icmp_gt (tgt := 124) (pc' := 68) rfl rfl rfl (by first | omega | (exact R.r _ _) | (simp only [jM.len_sI, jM.len_sL, jM.len_sR, jM.len_fI, jM.len_fL, jM.len_fR]; omega) | (simp [jM.len_nw, jM.len_sI, jM.len_sL, jM.len_sR, jM.len_fI, jM.len_fL, jM.len_fR, *]; omega)) (by first | omega | (exact R.r _ _) | (simp only [jM.len_sI, jM.len_sL, jM.len_sR, jM.len_fI, jM.len_fL, jM.len_fR]; omega) | (simp [jM.len_nw, jM.len_sI, jM.len_sL, jM.len_sR, jM.len_fI, jM.len_fL, jM.len_fR, *]; omega)) (fun c4 => ?_) (fun c4 => ?_)
                    · omega
                    · first | refine J.aload_n (pc' := 69) rfl rfl rfl ?_ | refine J.aload_nN (pc' := 69) rfl rfl rfl ?_
                      first | refine J.getR (pc' := 72) rfl fl_X0_26 rfl (by first | assumption | (simp only [jM.tag_sI, jM.tag_sL, jM.tag_sR, jM.tag_fI, jM.tag_fL, jM.tag_fR]; assumption) | (simp [jM.tag_nw, jM.tag_sI, jM.tag_sL, jM.tag_sR, jM.tag_fI, jM.tag_fL, jM.tag_fR, *]; done)) (by first | assumption | (simp only [jM.R_sI, jM.R_sL, jM.R_fI, jM.R_fL]; assumption) | (simp [jM.R_nw, jM.R_sR, jM.R_fR, jM.R_sI, jM.R_sL, jM.R_fI, jM.R_fL, *]; done)) rfl ?_ | refine J.getRN (pc' := 72) rfl fl_X0_26 rfl (by first | assumption | (simp only [jM.tag_sI, jM.tag_sL, jM.tag_sR, jM.tag_fI, jM.tag_fL, jM.tag_fR]; assumption) | (simp [jM.tag_nw, jM.tag_sI, jM.tag_sL, jM.tag_sR, jM.tag_fI, jM.tag_fL, jM.tag_fR, *]; done)) (by first | assumption | (simp only [jM.R_sI, jM.R_sL, jM.R_fI, jM.R_fL]; assumption) | (simp [jM.R_nw, jM.R_sR, jM.R_fR, jM.R_sI, jM.R_sL, jM.R_fI, jM.R_fL, *]; done)) rfl ?_
                      refine J.iload_n (pc' := 73) rfl rfl rfl ?_
                      first | refine J.aald (pc' := 74) rfl (by first | assumption | (simp only [jM.tag_sI, jM.tag_sL, jM.tag_sR, jM.tag_fI, jM.tag_fL, jM.tag_fR]; assumption) | (simp [jM.tag_nw, jM.tag_sI, jM.tag_sL, jM.tag_sR, jM.tag_fI, jM.tag_fL, jM.tag_fR, *]; done)) (by decide) (by decide) rfl (by first | omega | (exact R.r _ _) | (simp only [jM.len_sI, jM.len_sL, jM.len_sR, jM.len_fI, jM.len_fL, jM.len_fR]; omega) | (simp [jM.len_nw, jM.len_sI, jM.len_sL, jM.len_sR, jM.len_fI, jM.len_fL, jM.len_fR, *]; omega)) (by first | omega | (exact R.r _ _) | (simp only [jM.len_sI, jM.len_sL, jM.len_sR, jM.len_fI, jM.len_fL, jM.len_fR]; omega) | (simp [jM.len_nw, jM.len_sI, jM.len_sL, jM.len_sR, jM.len_fI, jM.len_fL, jM.len_fR, *]; omega)) (by first | omega | (exact R.r _ _) | (simp only [jM.len_sI, jM.len_sL, jM.len_sR, jM.len_fI, jM.len_fL, jM.len_fR]; omega) | (simp [jM.len_nw, jM.len_sI, jM.len_sL, jM.len_sR, jM.len_fI, jM.len_fL, jM.len_fR, *]; omega)) (by first | assumption | (simp only [jM.R_sI, jM.R_sL, jM.R_fI, jM.R_fL]; assumption) | (simp [jM.R_nw, jM.R_sR, jM.R_fR, jM.R_sI, jM.R_sL, jM.R_fI, jM.R_fL, *]; done)) rfl ?_ | refine J.aaldN (pc' := 74) rfl (by first | assumption | (simp only [jM.tag_sI, jM.tag_sL, jM.tag_sR, jM.tag_fI, jM.tag_fL, jM.tag_fR]; assumption) | (simp [jM.tag_nw, jM.tag_sI, jM.tag_sL, jM.tag_sR, jM.tag_fI, jM.tag_fL, jM.tag_fR, *]; done)) (by decide) (by decide) rfl (by first | omega | (exact R.r _ _) | (simp only [jM.len_sI, jM.len_sL, jM.len_sR, jM.len_fI, jM.len_fL, jM.len_fR]; omega) | (simp [jM.len_nw, jM.len_sI, jM.len_sL, jM.len_sR, jM.len_fI, jM.len_fL, jM.len_fR, *]; omega)) (by first | omega | (exact R.r _ _) | (simp only [jM.len_sI, jM.len_sL, jM.len_sR, jM.len_fI, jM.len_fL, jM.len_fR]; omega) | (simp [jM.len_nw, jM.len_sI, jM.len_sL, jM.len_sR, jM.len_fI, jM.len_fL, jM.len_fR, *]; omega)) (by first | omega | (exact R.r _ _) | (simp only [jM.len_sI, jM.len_sL, jM.len_sR, jM.len_fI, jM.len_fL, jM.len_fR]; omega) | (simp [jM.len_nw, jM.len_sI, jM.len_sL, jM.len_sR, jM.len_fI, jM.len_fL, jM.len_fR, *]; omega)) (by first | assumption | (simp only [jM.R_sI, jM.R_sL, jM.R_fI, jM.R_fL]; assumption) | (simp [jM.R_nw, jM.R_sR, jM.R_fR, jM.R_sI, jM.R_sL, jM.R_fI, jM.R_fL, *]; done)) rfl ?_
                      refine J.iload_n (pc' := 75) rfl rfl rfl ?_
                      refine J.iconst (pc' := 76) rfl rfl ?_
                      refine J.iadd (pc' := 77) rfl rfl ?_
                      refine J.iload (pc' := 79) rfl rfl rfl ?_
                      refine J.iload (pc' := 81) rfl rfl rfl ?_
                      refine J.isub (pc' := 82) rfl rfl ?_
                      refine J.callS (pc' := 85) rfl MX0_at ml_X0_78 is_X0_at cz_at rfl rfl (Nat.le_of_ble_eq_true rfl) (by first | omega | (exact R.r _ _) | (simp only [jM.len_sI, jM.len_sL, jM.len_sR, jM.len_fI, jM.len_fL, jM.len_fR]; omega) | (simp [jM.len_nw, jM.len_sI, jM.len_sL, jM.len_sR, jM.len_fI, jM.len_fL, jM.len_fR, *]; omega)) (by first | omega | (exact R.r _ _) | (simp only [jM.len_sI, jM.len_sL, jM.len_sR, jM.len_fI, jM.len_fL, jM.len_fR]; omega) | (simp [jM.len_nw, jM.len_sI, jM.len_sL, jM.len_sR, jM.len_fI, jM.len_fL, jM.len_fR, *]; omega)) (by first | omega | (exact R.r _ _) | (simp only [jM.len_sI, jM.len_sL, jM.len_sR, jM.len_fI, jM.len_fL, jM.len_fR]; omega) | (simp [jM.len_nw, jM.len_sI, jM.len_sL, jM.len_sR, jM.len_fI, jM.len_fL, jM.len_fR, *]; omega)) rfl rfl ?_ ?_
                      · exact fun _ _ h => h
                      rintro _ k ⟨rfl, rfl⟩
                      refine J.iald (pc' := 86) rfl (by first | assumption | (simp only [jM.tag_sI, jM.tag_sL, jM.tag_sR, jM.tag_fI, jM.tag_fL, jM.tag_fR]; assumption) | (simp [jM.tag_nw, jM.tag_sI, jM.tag_sL, jM.tag_sR, jM.tag_fI, jM.tag_fL, jM.tag_fR, *]; done)) (by decide) rfl (by first | omega | (exact R.r _ _) | (simp only [jM.len_sI, jM.len_sL, jM.len_sR, jM.len_fI, jM.len_fL, jM.len_fR]; omega) | (simp [jM.len_nw, jM.len_sI, jM.len_sL, jM.len_sR, jM.len_fI, jM.len_fL, jM.len_fR, *]; omega)) (by first | omega | (exact R.r _ _) | (simp only [jM.len_sI, jM.len_sL, jM.len_sR, jM.len_fI, jM.len_fL, jM.len_fR]; omega) | (simp [jM.len_nw, jM.len_sI, jM.len_sL, jM.len_sR, jM.len_fI, jM.len_fL, jM.len_fR, *]; omega)) (by first | omega | (exact R.r _ _) | (simp only [jM.len_sI, jM.len_sL, jM.len_sR, jM.len_fI, jM.len_fL, jM.len_fR]; omega) | (simp [jM.len_nw, jM.len_sI, jM.len_sL, jM.len_sR, jM.len_fI, jM.len_fL, jM.len_fR, *]; omega)) rfl ?_
                      have e1 : k.I 28 (σ 32 + 1 + s) (((g : Int) + 1) * 21 + ((l : Int) - t)).toNat = leV k σ s (((g : Int) + 1) * 21 + ((l : Int) - t)) := rfl
                      rw [e1]
                      have hR := lb1.1.1
                      have hR2 := lb1.2
                      generalize hx : leV k σ s (((g : Int) + 1) * 21 + ((l : Int) - t)) = x at hR hR2 ⊢
                      refine J.istore (pc' := 88) rfl rfl (by decide) ?_
                      refine J.lc (lv' := [(0, .ref (σ 0)), (1, .int (jI (s : Int))), (2, .int (jI n)), (3, .int (jI (g : Int))), (4, .int (jI (l : Int))), (5, .int (jI f)), (6, .int (jI t)), (7, .int (jI x))]) (by repeat' (first | exact trivial | refine ⟨rfl, ?_⟩)) ?_
                      refine J.iload (pc' := 90) rfl rfl rfl ?_
                      refine J.ldc (pc' := 92) (z := 1000000000) (v := 1000000000) rfl (List.mem_of_getElem? (i := 1309) (by decide +kernel)) (by decide) rfl ?_
                      refine J.icmp_eq (tgt := 118) (pc' := 95) rfl rfl rfl (by first | omega | (exact R.r _ _) | (simp only [jM.len_sI, jM.len_sL, jM.len_sR, jM.len_fI, jM.len_fL, jM.len_fR]; omega) | (simp [jM.len_nw, jM.len_sI, jM.len_sL, jM.len_sR, jM.len_fI, jM.len_fL, jM.len_fR, *]; omega)) (by first | omega | (exact R.r _ _) | (simp only [jM.len_sI, jM.len_sL, jM.len_sR, jM.len_fI, jM.len_fL, jM.len_fR]; omega) | (simp [jM.len_nw, jM.len_sI, jM.len_sL, jM.len_sR, jM.len_fI, jM.len_fL, jM.len_fR, *]; omega)) (fun c5 => ?_) (fun c5 => ?_)
                      · refine J.iinc (pc' := 121) rfl rfl rfl (by decide) ?_
                        refine J.goto (tgt := 50) rfl rfl ?_
                        refine ihq (t + 1) f (by omega) (by omega) ⟨hf.1, fun u u0 u1 u2 => ?_⟩ _ ⟨rfl, rfl, rfl, rfl, rfl, rfl, rfl, trivial⟩
                        by_cases z : u = t
                        · subst z; exact absurd (hx.trans c5) u2
                        · exact hf.2 u u0 (by omega) u2
                      · refine J.iload (pc' := 97) rfl rfl rfl ?_
                        first | refine J.aload_n (pc' := 98) rfl rfl rfl ?_ | refine J.aload_nN (pc' := 98) rfl rfl rfl ?_
                        first | refine J.getR (pc' := 101) rfl fl_X0_23 rfl (by first | assumption | (simp only [jM.tag_sI, jM.tag_sL, jM.tag_sR, jM.tag_fI, jM.tag_fL, jM.tag_fR]; assumption) | (simp [jM.tag_nw, jM.tag_sI, jM.tag_sL, jM.tag_sR, jM.tag_fI, jM.tag_fL, jM.tag_fR, *]; done)) (by first | assumption | (simp only [jM.R_sI, jM.R_sL, jM.R_fI, jM.R_fL]; assumption) | (simp [jM.R_nw, jM.R_sR, jM.R_fR, jM.R_sI, jM.R_sL, jM.R_fI, jM.R_fL, *]; done)) rfl ?_ | refine J.getRN (pc' := 101) rfl fl_X0_23 rfl (by first | assumption | (simp only [jM.tag_sI, jM.tag_sL, jM.tag_sR, jM.tag_fI, jM.tag_fL, jM.tag_fR]; assumption) | (simp [jM.tag_nw, jM.tag_sI, jM.tag_sL, jM.tag_sR, jM.tag_fI, jM.tag_fL, jM.tag_fR, *]; done)) (by first | assumption | (simp only [jM.R_sI, jM.R_sL, jM.R_fI, jM.R_fL]; assumption) | (simp [jM.R_nw, jM.R_sR, jM.R_fR, jM.R_sI, jM.R_sL, jM.R_fI, jM.R_fL, *]; done)) rfl ?_
                        refine J.iload_n (pc' := 102) rfl rfl rfl ?_
                        first | refine J.aald (pc' := 103) rfl (by first | assumption | (simp only [jM.tag_sI, jM.tag_sL, jM.tag_sR, jM.tag_fI, jM.tag_fL, jM.tag_fR]; assumption) | (simp [jM.tag_nw, jM.tag_sI, jM.tag_sL, jM.tag_sR, jM.tag_fI, jM.tag_fL, jM.tag_fR, *]; done)) (by decide) (by decide) rfl (by first | omega | (exact R.r _ _) | (simp only [jM.len_sI, jM.len_sL, jM.len_sR, jM.len_fI, jM.len_fL, jM.len_fR]; omega) | (simp [jM.len_nw, jM.len_sI, jM.len_sL, jM.len_sR, jM.len_fI, jM.len_fL, jM.len_fR, *]; omega)) (by first | omega | (exact R.r _ _) | (simp only [jM.len_sI, jM.len_sL, jM.len_sR, jM.len_fI, jM.len_fL, jM.len_fR]; omega) | (simp [jM.len_nw, jM.len_sI, jM.len_sL, jM.len_sR, jM.len_fI, jM.len_fL, jM.len_fR, *]; omega)) (by first | omega | (exact R.r _ _) | (simp only [jM.len_sI, jM.len_sL, jM.len_sR, jM.len_fI, jM.len_fL, jM.len_fR]; omega) | (simp [jM.len_nw, jM.len_sI, jM.len_sL, jM.len_sR, jM.len_fI, jM.len_fL, jM.len_fR, *]; omega)) (by first | assumption | (simp only [jM.R_sI, jM.R_sL, jM.R_fI, jM.R_fL]; assumption) | (simp [jM.R_nw, jM.R_sR, jM.R_fR, jM.R_sI, jM.R_sL, jM.R_fI, jM.R_fL, *]; done)) rfl ?_ | refine J.aaldN (pc' := 103) rfl (by first | assumption | (simp only [jM.tag_sI, jM.tag_sL, jM.tag_sR, jM.tag_fI, jM.tag_fL, jM.tag_fR]; assumption) | (simp [jM.tag_nw, jM.tag_sI, jM.tag_sL, jM.tag_sR, jM.tag_fI, jM.tag_fL, jM.tag_fR, *]; done)) (by decide) (by decide) rfl (by first | omega | (exact R.r _ _) | (simp only [jM.len_sI, jM.len_sL, jM.len_sR, jM.len_fI, jM.len_fL, jM.len_fR]; omega) | (simp [jM.len_nw, jM.len_sI, jM.len_sL, jM.len_sR, jM.len_fI, jM.len_fL, jM.len_fR, *]; omega)) (by first | omega | (exact R.r _ _) | (simp only [jM.len_sI, jM.len_sL, jM.len_sR, jM.len_fI, jM.len_fL, jM.len_fR]; omega) | (simp [jM.len_nw, jM.len_sI, jM.len_sL, jM.len_sR, jM.len_fI, jM.len_fL, jM.len_fR, *]; omega)) (by first | omega | (exact R.r _ _) | (simp only [jM.len_sI, jM.len_sL, jM.len_sR, jM.len_fI, jM.len_fL, jM.len_fR]; omega) | (simp [jM.len_nw, jM.len_sI, jM.len_sL, jM.len_sR, jM.len_fI, jM.len_fL, jM.len_fR, *]; omega)) (by first | assumption | (simp only [jM.R_sI, jM.R_sL, jM.R_fI, jM.R_fL]; assumption) | (simp [jM.R_nw, jM.R_sR, jM.R_fR, jM.R_sI, jM.R_sL, jM.R_fI, jM.R_fL, *]; done)) rfl ?_
                        refine J.iload_n (pc' := 104) rfl rfl rfl ?_
                        refine J.iload (pc' := 106) rfl rfl rfl ?_
                        refine J.callS (pc' := 109) rfl MX0_at ml_X0_78 is_X0_at cz_at rfl rfl (Nat.le_of_ble_eq_true rfl) (by first | omega | (exact R.r _ _) | (simp only [jM.len_sI, jM.len_sL, jM.len_sR, jM.len_fI, jM.len_fL, jM.len_fR]; omega) | (simp [jM.len_nw, jM.len_sI, jM.len_sL, jM.len_sR, jM.len_fI, jM.len_fL, jM.len_fR, *]; omega)) (by first | omega | (exact R.r _ _) | (simp only [jM.len_sI, jM.len_sL, jM.len_sR, jM.len_fI, jM.len_fL, jM.len_fR]; omega) | (simp [jM.len_nw, jM.len_sI, jM.len_sL, jM.len_sR, jM.len_fI, jM.len_fL, jM.len_fR, *]; omega)) (by first | omega | (exact R.r _ _) | (simp only [jM.len_sI, jM.len_sL, jM.len_sR, jM.len_fI, jM.len_fL, jM.len_fR]; omega) | (simp [jM.len_nw, jM.len_sI, jM.len_sL, jM.len_sR, jM.len_fI, jM.len_fL, jM.len_fR, *]; omega)) rfl rfl ?_ ?_
                        · exact fun _ _ h => h
                        rintro _ k ⟨rfl, rfl⟩
                        refine J.iald (pc' := 110) rfl (by first | assumption | (simp only [jM.tag_sI, jM.tag_sL, jM.tag_sR, jM.tag_fI, jM.tag_fL, jM.tag_fR]; assumption) | (simp [jM.tag_nw, jM.tag_sI, jM.tag_sL, jM.tag_sR, jM.tag_fI, jM.tag_fL, jM.tag_fR, *]; done)) (by decide) rfl (by first | omega | (exact R.r _ _) | (simp only [jM.len_sI, jM.len_sL, jM.len_sR, jM.len_fI, jM.len_fL, jM.len_fR]; omega) | (simp [jM.len_nw, jM.len_sI, jM.len_sL, jM.len_sR, jM.len_fI, jM.len_fL, jM.len_fR, *]; omega)) (by first | omega | (exact R.r _ _) | (simp only [jM.len_sI, jM.len_sL, jM.len_sR, jM.len_fI, jM.len_fL, jM.len_fR]; omega) | (simp [jM.len_nw, jM.len_sI, jM.len_sL, jM.len_sR, jM.len_fI, jM.len_fL, jM.len_fR, *]; omega)) (by first | omega | (exact R.r _ _) | (simp only [jM.len_sI, jM.len_sL, jM.len_sR, jM.len_fI, jM.len_fL, jM.len_fR]; omega) | (simp [jM.len_nw, jM.len_sI, jM.len_sL, jM.len_sR, jM.len_fI, jM.len_fL, jM.len_fR, *]; omega)) rfl ?_
                        refine J.iload (pc' := 112) rfl rfl rfl ?_
                        have e2 : k.I 27 (σ 31 + 1 + s) ((g : Int) * 21 + t).toNat = cg V s g t := (b1.2.2.2.2 27 _ _ (by omega)).trans (hgv g t (by omega) ht (by omega))
                        rw [e2]
                        refine J.iadd (pc' := 113) rfl rfl ?_
                        refine J.callS (pc' := 116) rfl MJ9_min_7cf53 ml_X0_94 is_J9_min_7cf53 (ct_min hf32 (by constructor <;> omega)) rfl rfl (Nat.le_of_ble_eq_true rfl) (by first | omega | (exact R.r _ _) | (simp only [jM.len_sI, jM.len_sL, jM.len_sR, jM.len_fI, jM.len_fL, jM.len_fR]; omega) | (simp [jM.len_nw, jM.len_sI, jM.len_sL, jM.len_sR, jM.len_fI, jM.len_fL, jM.len_fR, *]; omega)) (by first | omega | (exact R.r _ _) | (simp only [jM.len_sI, jM.len_sL, jM.len_sR, jM.len_fI, jM.len_fL, jM.len_fR]; omega) | (simp [jM.len_nw, jM.len_sI, jM.len_sL, jM.len_sR, jM.len_fI, jM.len_fL, jM.len_fR, *]; omega)) (by first | omega | (exact R.r _ _) | (simp only [jM.len_sI, jM.len_sL, jM.len_sR, jM.len_fI, jM.len_fL, jM.len_fR]; omega) | (simp [jM.len_nw, jM.len_sI, jM.len_sL, jM.len_sR, jM.len_fI, jM.len_fL, jM.len_fR, *]; omega)) rfl rfl ?_ ?_
                        · exact fun _ _ h => h
                        rintro _ k ⟨rfl, rfl⟩
                        refine J.istore (pc' := 118) rfl rfl (by decide) ?_
                        refine J.iinc (pc' := 121) rfl rfl rfl (by decide) ?_
                        refine J.goto (tgt := 50) rfl rfl ?_
                        refine ihq (t + 1) (min f (cg V s g t + x)) (by omega) (by omega) ⟨by have := hf.1; omega, fun u u0 u1 u2 => ?_⟩ _ ⟨rfl, rfl, rfl, rfl, rfl, rfl, rfl, trivial⟩
                        by_cases z : u = t
                        · subst z; rw [hx]; omega
                        · have := hf.2 u u0 (by omega) u2; omega
              exact keyT (min (l : Int) (mostP V n g) + 1).toNat 0 1000000000 (by omega) (by omega) ⟨by omega, fun u u0 u1 => by omega⟩ _ ⟨rfl, rfl, rfl, rfl, rfl, rfl, rfl, trivial⟩
        exact keyL (n + 1).toNat 0 (by omega) k b1 b2 b3 b4 (fun x x0 x1 => by omega) _ ⟨rfl, rfl, rfl, rfl, rfl, trivial⟩
  -- behind the last heap
  have key0 : ∀ (r l : Nat), (l : Int) + r = n + 1 → 1 ≤ l → ∀ k : jM, onI h k (bdP σ s) → leV k σ s 126 = 0 → (∀ x : Int, 1 ≤ x → x < l → leV k σ s (126 + x) = 1000000000) → ∀ lv, hasL lv [(0, .ref (σ 0)), (1, .int (jI (s : Int))), (2, .int (jI n)), (3, .int (jI (l : Int)))] → J γ mX0_boundSum 1 0 0 0 0 k 2 lv [] (bdQ h σ V n s) X0 := by
    intro r
    induction r with
    | zero =>
      intro l hl l1 k b1 b3 b4 lv hlv
      refine J.lc hlv ?_
      refine J.iload_n (pc' := 3) rfl rfl rfl ?_
      refine J.iload_n (pc' := 4) rfl rfl rfl ?_
      refine J.icmp_gt (tgt := 28) (pc' := 7) rfl rfl rfl (by first | omega | (exact R.r _ _) | (simp only [jM.len_sI, jM.len_sL, jM.len_sR, jM.len_fI, jM.len_fL, jM.len_fR]; omega) | (simp [jM.len_nw, jM.len_sI, jM.len_sL, jM.len_sR, jM.len_fI, jM.len_fL, jM.len_fR, *]; omega)) (by first | omega | (exact R.r _ _) | (simp only [jM.len_sI, jM.len_sL, jM.len_sR, jM.len_fI, jM.len_fL, jM.len_fR]; omega) | (simp [jM.len_nw, jM.len_sI, jM.len_sL, jM.len_sR, jM.len_fI, jM.len_fL, jM.len_fR, *]; omega)) (fun c1 => ?_) (fun c1 => ?_)
      · refine J.iconst (pc' := 29) rfl rfl ?_
        refine J.istore_n (pc' := 30) rfl rfl (by decide) ?_
        refine keyH 6 (Nat.le_refl _) k b1 (fun g' q1 q2 x x0 x1 => ?_) b3 (fun x x0 x1 => b4 x x0 (by omega)) _ ⟨rfl, rfl, rfl, rfl, trivial⟩
        have eg : g' = 6 := by omega
        subst eg
        by_cases z : x = 0
        · subst z
          rw [show ((6 : Nat) : Int) * 21 + 0 = 126 from rfl, b3]
          exact ⟨⟨by omega, fun tr' _ _ => by omega⟩, by omega⟩
        · rw [show ((6 : Nat) : Int) * 21 + x = 126 + x by omega, b4 x (by omega) (by omega)]
          exact ⟨⟨by omega, fun tr' _ q => by omega⟩, by omega⟩
      · omega
    | succ r ih =>
      intro l hl l1 k b1 b3 b4 lv hlv
      have hS1 := hS.on b1
      obtain ⟨t0, -, -, -, -, ⟨r32', t32, l32⟩, -, -, rg, rl⟩ := hS1
      obtain ⟨w1, w2, w3⟩ := rl s hs
      have w1' : k.R 32 (σ 32) (s : Int).toNat = some (σ 32 + 1 + s) := w1
      refine J.lc hlv ?_
      refine J.iload_n (pc' := 3) rfl rfl rfl ?_
      refine J.iload_n (pc' := 4) rfl rfl rfl ?_
      refine J.icmp_gt (tgt := 28) (pc' := 7) rfl rfl rfl (by first | omega | (exact R.r _ _) | (simp only [jM.len_sI, jM.len_sL, jM.len_sR, jM.len_fI, jM.len_fL, jM.len_fR]; omega) | (simp [jM.len_nw, jM.len_sI, jM.len_sL, jM.len_sR, jM.len_fI, jM.len_fL, jM.len_fR, *]; omega)) (by first | omega | (exact R.r _ _) | (simp only [jM.len_sI, jM.len_sL, jM.len_sR, jM.len_fI, jM.len_fL, jM.len_fR]; omega) | (simp [jM.len_nw, jM.len_sI, jM.len_sL, jM.len_sR, jM.len_fI, jM.len_fL, jM.len_fR, *]; omega)) (fun c1 => ?_) (fun c1 => ?_)
      · omega
      · first | refine J.aload_n (pc' := 8) rfl rfl rfl ?_ | refine J.aload_nN (pc' := 8) rfl rfl rfl ?_
        first | refine J.getR (pc' := 11) rfl fl_X0_26 rfl (by first | assumption | (simp only [jM.tag_sI, jM.tag_sL, jM.tag_sR, jM.tag_fI, jM.tag_fL, jM.tag_fR]; assumption) | (simp [jM.tag_nw, jM.tag_sI, jM.tag_sL, jM.tag_sR, jM.tag_fI, jM.tag_fL, jM.tag_fR, *]; done)) (by first | assumption | (simp only [jM.R_sI, jM.R_sL, jM.R_fI, jM.R_fL]; assumption) | (simp [jM.R_nw, jM.R_sR, jM.R_fR, jM.R_sI, jM.R_sL, jM.R_fI, jM.R_fL, *]; done)) rfl ?_ | refine J.getRN (pc' := 11) rfl fl_X0_26 rfl (by first | assumption | (simp only [jM.tag_sI, jM.tag_sL, jM.tag_sR, jM.tag_fI, jM.tag_fL, jM.tag_fR]; assumption) | (simp [jM.tag_nw, jM.tag_sI, jM.tag_sL, jM.tag_sR, jM.tag_fI, jM.tag_fL, jM.tag_fR, *]; done)) (by first | assumption | (simp only [jM.R_sI, jM.R_sL, jM.R_fI, jM.R_fL]; assumption) | (simp [jM.R_nw, jM.R_sR, jM.R_fR, jM.R_sI, jM.R_sL, jM.R_fI, jM.R_fL, *]; done)) rfl ?_
        refine J.iload_n (pc' := 12) rfl rfl rfl ?_
        first | refine J.aald (pc' := 13) rfl (by first | assumption | (simp only [jM.tag_sI, jM.tag_sL, jM.tag_sR, jM.tag_fI, jM.tag_fL, jM.tag_fR]; assumption) | (simp [jM.tag_nw, jM.tag_sI, jM.tag_sL, jM.tag_sR, jM.tag_fI, jM.tag_fL, jM.tag_fR, *]; done)) (by decide) (by decide) rfl (by first | omega | (exact R.r _ _) | (simp only [jM.len_sI, jM.len_sL, jM.len_sR, jM.len_fI, jM.len_fL, jM.len_fR]; omega) | (simp [jM.len_nw, jM.len_sI, jM.len_sL, jM.len_sR, jM.len_fI, jM.len_fL, jM.len_fR, *]; omega)) (by first | omega | (exact R.r _ _) | (simp only [jM.len_sI, jM.len_sL, jM.len_sR, jM.len_fI, jM.len_fL, jM.len_fR]; omega) | (simp [jM.len_nw, jM.len_sI, jM.len_sL, jM.len_sR, jM.len_fI, jM.len_fL, jM.len_fR, *]; omega)) (by first | omega | (exact R.r _ _) | (simp only [jM.len_sI, jM.len_sL, jM.len_sR, jM.len_fI, jM.len_fL, jM.len_fR]; omega) | (simp [jM.len_nw, jM.len_sI, jM.len_sL, jM.len_sR, jM.len_fI, jM.len_fL, jM.len_fR, *]; omega)) (by first | assumption | (simp only [jM.R_sI, jM.R_sL, jM.R_fI, jM.R_fL]; assumption) | (simp [jM.R_nw, jM.R_sR, jM.R_fR, jM.R_sI, jM.R_sL, jM.R_fI, jM.R_fL, *]; done)) rfl ?_ | refine J.aaldN (pc' := 13) rfl (by first | assumption | (simp only [jM.tag_sI, jM.tag_sL, jM.tag_sR, jM.tag_fI, jM.tag_fL, jM.tag_fR]; assumption) | (simp [jM.tag_nw, jM.tag_sI, jM.tag_sL, jM.tag_sR, jM.tag_fI, jM.tag_fL, jM.tag_fR, *]; done)) (by decide) (by decide) rfl (by first | omega | (exact R.r _ _) | (simp only [jM.len_sI, jM.len_sL, jM.len_sR, jM.len_fI, jM.len_fL, jM.len_fR]; omega) | (simp [jM.len_nw, jM.len_sI, jM.len_sL, jM.len_sR, jM.len_fI, jM.len_fL, jM.len_fR, *]; omega)) (by first | omega | (exact R.r _ _) | (simp only [jM.len_sI, jM.len_sL, jM.len_sR, jM.len_fI, jM.len_fL, jM.len_fR]; omega) | (simp [jM.len_nw, jM.len_sI, jM.len_sL, jM.len_sR, jM.len_fI, jM.len_fL, jM.len_fR, *]; omega)) (by first | omega | (exact R.r _ _) | (simp only [jM.len_sI, jM.len_sL, jM.len_sR, jM.len_fI, jM.len_fL, jM.len_fR]; omega) | (simp [jM.len_nw, jM.len_sI, jM.len_sL, jM.len_sR, jM.len_fI, jM.len_fL, jM.len_fR, *]; omega)) (by first | assumption | (simp only [jM.R_sI, jM.R_sL, jM.R_fI, jM.R_fL]; assumption) | (simp [jM.R_nw, jM.R_sR, jM.R_fR, jM.R_sI, jM.R_sL, jM.R_fI, jM.R_fL, *]; done)) rfl ?_
        refine J.bipush (pc' := 15) rfl rfl (by decide) ?_
        refine J.iload_n (pc' := 16) rfl rfl rfl ?_
        refine J.callS (pc' := 19) rfl MX0_at ml_X0_78 is_X0_at cz_at rfl rfl (Nat.le_of_ble_eq_true rfl) (by first | omega | (exact R.r _ _) | (simp only [jM.len_sI, jM.len_sL, jM.len_sR, jM.len_fI, jM.len_fL, jM.len_fR]; omega) | (simp [jM.len_nw, jM.len_sI, jM.len_sL, jM.len_sR, jM.len_fI, jM.len_fL, jM.len_fR, *]; omega)) (by first | omega | (exact R.r _ _) | (simp only [jM.len_sI, jM.len_sL, jM.len_sR, jM.len_fI, jM.len_fL, jM.len_fR]; omega) | (simp [jM.len_nw, jM.len_sI, jM.len_sL, jM.len_sR, jM.len_fI, jM.len_fL, jM.len_fR, *]; omega)) (by first | omega | (exact R.r _ _) | (simp only [jM.len_sI, jM.len_sL, jM.len_sR, jM.len_fI, jM.len_fL, jM.len_fR]; omega) | (simp [jM.len_nw, jM.len_sI, jM.len_sL, jM.len_sR, jM.len_fI, jM.len_fL, jM.len_fR, *]; omega)) rfl rfl ?_ ?_
        · exact fun _ _ h => h
        rintro _ k ⟨rfl, rfl⟩
        refine J.ldc (pc' := 21) (z := 1000000000) (v := 1000000000) rfl (List.mem_of_getElem? (i := 1309) (by decide +kernel)) (by decide) rfl ?_
        refine J.iast (pc' := 22) rfl (by first | assumption | (simp only [jM.tag_sI, jM.tag_sL, jM.tag_sR, jM.tag_fI, jM.tag_fL, jM.tag_fR]; assumption) | (simp [jM.tag_nw, jM.tag_sI, jM.tag_sL, jM.tag_sR, jM.tag_fI, jM.tag_fL, jM.tag_fR, *]; done)) (by decide) rfl (by first | omega | (exact R.r _ _) | (simp only [jM.len_sI, jM.len_sL, jM.len_sR, jM.len_fI, jM.len_fL, jM.len_fR]; omega) | (simp [jM.len_nw, jM.len_sI, jM.len_sL, jM.len_sR, jM.len_fI, jM.len_fL, jM.len_fR, *]; omega)) (by first | omega | (exact R.r _ _) | (simp only [jM.len_sI, jM.len_sL, jM.len_sR, jM.len_fI, jM.len_fL, jM.len_fR]; omega) | (simp [jM.len_nw, jM.len_sI, jM.len_sL, jM.len_sR, jM.len_fI, jM.len_fL, jM.len_fR, *]; omega)) (by first | omega | (exact R.r _ _) | (simp only [jM.len_sI, jM.len_sL, jM.len_sR, jM.len_fI, jM.len_fL, jM.len_fR]; omega) | (simp [jM.len_nw, jM.len_sI, jM.len_sL, jM.len_sR, jM.len_fI, jM.len_fL, jM.len_fR, *]; omega)) (Or.inl rfl) rfl ?_
        refine J.iinc (pc' := 25) rfl rfl rfl (by decide) ?_
        refine J.goto (tgt := 2) rfl rfl ?_
        refine ih (l + 1) (by omega) (by omega) (k.sI 28 (σ 32 + 1 + s) (6 * 21 + (l : Int)).toNat 1000000000) (b1.sI ⟨rfl, rfl⟩) ?_ (fun x x0 x1 => ?_) _ ⟨rfl, rfl, rfl, rfl, trivial⟩
        · rw [le_st (by omega) (by omega), if_neg (by omega)]
          exact b3
        · rw [le_st (by omega) (by omega)]
          by_cases z : x = (l : Int)
          · rw [if_pos ⟨rfl, by omega⟩]
          · rw [if_neg (by omega)]
            exact b4 x x0 (by omega)
  exact key0 n.toNat 1 (by omega) (by omega) h onI.rf h0 (fun x x0 x1 => by omega) _ ⟨rfl, rfl, rfl, rfl, trivial⟩
end BD

