section TF
variable {γ : jG} {σ : Nat → Nat} {V : VV} {n : Int}
/-- what the search knows ahead -/
def SB (k : jM) (σ : Nat → Nat) (V : VV) (n : Int) : Prop := isSS k σ ∧ (∀ j : Nat, j < 6 → moV k σ j = mostP V n j) ∧ (∀ s : Nat, s < 11 → ∀ (j : Nat) (t : Int), j < 6 → 0 ≤ t → t ≤ mostP V n j → gvV k σ s ((j : Int) * 21 + t) = cg V s j t) ∧ (∀ s : Nat, s < 11 → ∀ (g : Nat) (l : Int), g ≤ 6 → 0 ≤ l → l ≤ n → LB V n (leV k σ s ((g : Int) * 21 + l)) s g l) ∧ (∀ s : Nat, s < 11 → leV k σ s 126 = 0 ∧ ∀ l : Int, 1 ≤ l → l ≤ n → leV k σ s (126 + l) = 1000000000) ∧ ∀ s : Nat, 1 ≤ s → s < 11 → liV k σ s = liP V n s
abbrev tfP (σ : Nat → Nat) : Nat → Nat → Prop := fun t a => (t = 24 ∧ a = σ 24) ∨ (t = 25 ∧ a = σ 25) ∨ (t = 29 ∧ a = σ 29) ∨ (t = 30 ∧ a = σ 30)
theorem SB.on {k k' : jM} (hS : SB k σ V n) (o : onI k k' (tfP σ)) (hl : ∀ s : Nat, 1 ≤ s → s < 11 → liV k' σ s = liV k σ s) : SB k' σ V n := by
  obtain ⟨a1, a2, a3, a4, a5, a6⟩ := hS
  have oI := o.2.2.2.2
  have eg : ∀ s i, gvV k' σ s i = gvV k σ s i := fun s i => oI 27 _ _ (by omega)
  have el : ∀ s i, leV k' σ s i = leV k σ s i := fun s i => oI 28 _ _ (by omega)
  refine ⟨a1.on o, fun j hj => (oI 26 _ _ (by omega)).trans (a2 j hj), fun s hs j t hj h0 h1 => by rw [eg]; exact a3 s hs j t hj h0 h1, fun s hs g l hg h0 h1 => by rw [el]; exact a4 s hs g l hg h0 h1, fun s hs => by rw [el]; exact ⟨(a5 s hs).1, fun l h1 h2 => by rw [el]; exact (a5 s hs).2 l h1 h2⟩, fun s h1 h2 => (hl s h1 h2).trans (a6 s h1 h2)⟩
def aOk (k : jM) (σ : Nat → Nat) (a : Acc) : Prop := liV k σ 0 = limA a ∧ (a.1 = -1 ∨ ∀ j : Nat, j < 6 → chV k σ j = a.2 j) ∧ (-1 ≤ a.1 ∧ a.1 ≤ 12000000)
def tfQ (k : jM) (σ : Nat → Nat) (d : Nat) (tr : Int → Int) (a' : Acc) : Option Value → jM → Prop := fun r k' => r = none ∧ onI k k' (tfP σ) ∧ (∀ s : Nat, s < 11 → suV k' σ s = suV k σ s) ∧ (∀ j : Nat, j < 6 - d → trV k' σ j = tr j) ∧ (∀ s : Nat, 1 ≤ s → s < 11 → liV k' σ s = liV k σ s) ∧ aOk k' σ a'
theorem limA_b {a : Acc} (h : -1 ≤ a.1 ∧ a.1 ≤ 12000000) : -1 ≤ limA a ∧ limA a ≤ 999999999 := by
  unfold limA
  split <;> omega
theorem liP_b (R : isR V) (hn : 1 ≤ n ∧ n ≤ 20) (s : Int) : -200000 ≤ liP V n s ∧ liP V n s ≤ 200000 := by
  have h1 := R 146 ((s - 1) / 2) rfl
  have h2 := R 147 ((s - 2) / 2) rfl
  simp [jLo, jHi] at h1 h2
  have m1 := mul_b h1 (A := 10000) (C := 20) (b := n) (by omega)
  have m2 := mul_b h2 (A := 10000) (C := 20) (b := n) (by omega)
  unfold liP
  split
  · rw [Int.neg_mul]; omega
  · omega
theorem hope_iff {k : jM} {g l : Int} : hopeB k σ g l = true ↔ ∀ s : Nat, s < 11 → suV k σ s + leV k σ s (g * 21 + l) ≤ liV k σ s := by
  unfold hopeB
  constructor
  · intro h s hs
    by_cases c : suV k σ s + leV k σ s (g * 21 + l) ≤ liV k σ s
    · exact c
    · have z1 : allB (fun s => decide (suV k σ s + leV k σ s (g * 21 + l) ≤ liV k σ s)) 0 (s + 1) = false := by
        rw [allB, Int.zero_add]
        rw [show decide (suV k σ s + leV k σ s (g * 21 + l) ≤ liV k σ s) = false from decide_eq_false c, Bool.and_false]
      have z2 := allB_st z1 (11 - (s + 1))
      rw [show s + 1 + (11 - (s + 1)) = 11 by omega, h] at z2
      cases z2
  · intro h
    have : ∀ m : Nat, m ≤ 11 → allB (fun s => decide (suV k σ s + leV k σ s (g * 21 + l) ≤ liV k σ s)) 0 m = true := fun m => by
      induction m with
      | zero => exact fun _ => rfl
      | succ m ih =>
        intro hm
        rw [allB, ih (by omega), Int.zero_add]
        rw [show decide (suV k σ m + leV k σ m (g * 21 + l) ≤ liV k σ m) = true from decide_eq_true (h m (by omega))]
        rfl
    exact this 11 (by omega)
theorem cz_try (R : isR V) (hn : 1 ≤ n ∧ n ≤ 20) : ∀ (d : Nat), d ≤ 6 → ∀ (L : Int) (tr : Int → Int) (a : Acc) (k : jM), 0 ≤ L → Sm tr (6 - d) + L = n → (∀ j : Nat, j < 6 - d → 0 ≤ tr j ∧ tr j ≤ mostP V n j) → SB k σ V n → aOk k σ a → (∀ j : Nat, j < 6 - d → trV k σ j = tr j) → (∀ s : Nat, s < 11 → suV k σ s = tS V tr s (6 - d)) → CT γ mX0_tryFrom (d + 2) 0 0 [.ref (σ 0), .int (jI (6 - (d : Int))), .int (jI L)] k (tfQ k σ d tr (dfs V n d L tr a)) X0 := by
  have mo20 : ∀ j, mostP V n j ≤ 20 := fun j => by unfold mostP; omega
  have mo0 : ∀ j, 0 ≤ mostP V n j := fun j => most_b R (by omega) j
  intro d
  induction d with
  | zero =>
    intro hd L tr a k hL hsum htr hS hA hT hU
    have hLn : L ≤ n := by
      have := Sm_le (f := tr) (n := 6 - 0) (a := 0) (b := 20) (fun i hi => ⟨(htr i hi).1, by have := (htr i hi).2; have := mo20 i; omega⟩)
      omega
    have tb : ∀ s, -12000000 ≤ tS V tr s 6 ∧ tS V tr s 6 ≤ 12000000 := fun s => tS_b R (Nat.le_refl 6) (fun j hj => by have := (htr j hj).2; have := mo20 j; omega)
    have t00 := tS_0 R (tr := tr) (Nat.le_refl 6) (fun j hj => by have := (htr j hj).2; have := mo20 j; omega)
    have ll : ∀ s : Nat, s < 11 → liV k σ s = lims V n a s := fun s hs => by
      unfold lims
      by_cases c : s = 0
      · subst c; rw [if_pos (show ((0 : Nat) : Int) = 0 from rfl)]; exact hA.1
      · rw [if_neg (by omega)]; exact hS.2.2.2.2.2 s (by omega) hs
    have lb : ∀ s : Nat, s < 11 → -1000000 ≤ lims V n a s ∧ lims V n a s ≤ 999999999 := fun s hs => by
      unfold lims
      have := limA_b hA.2.2
      have := liP_b R hn s
      split <;> omega
    have les : ∀ s : Nat, s < 11 → leV k σ s (6 * 21 + L) = if L = 0 then 0 else 1000000000 := fun s hs => by
      have := hS.2.2.2.2.1 s hs
      by_cases c : L = 0
      · rw [if_pos c, c]; exact this.1
      · rw [if_neg c, show (6 * 21 + L) = 126 + L by omega]; exact this.2 L (by omega) hLn
    have hb : ∀ s : Nat, s < 11 → r32 (suV k σ s + leV k σ s (6 * 21 + L)) ∧ r32 (liV k σ s) := fun s hs => by
      have b1 := tb s
      have b2 := lb s hs
      have e6 : tS V tr s (6 - 0) = tS V tr s 6 := rfl
      rw [hU s hs, les s hs, ll s hs, e6]
      have e7 : (0 : Int) ≤ (if L = 0 then 0 else 1000000000) ∧ (if L = 0 then 0 else 1000000000) ≤ (1000000000 : Int) := by split <;> omega
      generalize (if L = 0 then (0 : Int) else 1000000000) = w at e7 ⊢
      constructor <;> constructor <;> omega
    have t0 := hS.1.1
    refine CT.of MX0_tryFrom (Nat.le_of_ble_eq_true rfl) ?_
    show J γ mX0_tryFrom 2 0 0 0 0 k 0 [(0, .ref (σ 0)), (1, .int (jI (6 - ((0 : Nat) : Int)))), (2, .int (jI L))] [] _ _
    first | refine J.aload_n (pc' := 1) rfl rfl rfl ?_ | refine J.aload_nN (pc' := 1) rfl rfl rfl ?_
    refine J.iload_n (pc' := 2) rfl rfl rfl ?_
    refine J.iload_n (pc' := 3) rfl rfl rfl ?_
    rw [show (6 : Int) - ((0 : Nat) : Int) = 6 by omega]
    refine J.callV (pc' := 6) (t := 4) rfl MX0_hasHope ml_X0_99 iv_X0_hasHope (by decide) ⟨_, rfl, rfl⟩ (by first | assumption | (simp only [jM.tag_sI, jM.tag_sL, jM.tag_sR, jM.tag_fI, jM.tag_fL, jM.tag_fR]; assumption) | (simp [jM.tag_nw, jM.tag_sI, jM.tag_sL, jM.tag_sR, jM.tag_fI, jM.tag_fL, jM.tag_fR, *]; done)) (cz_hope hS.1 (by omega) (by omega) hb) rfl rfl (Nat.le_of_ble_eq_true rfl) (by first | omega | (exact R.r _ _) | (simp only [jM.len_sI, jM.len_sL, jM.len_sR, jM.len_fI, jM.len_fL, jM.len_fR]; omega) | (simp [jM.len_nw, jM.len_sI, jM.len_sL, jM.len_sR, jM.len_fI, jM.len_fL, jM.len_fR, *]; omega)) (by first | omega | (exact R.r _ _) | (simp only [jM.len_sI, jM.len_sL, jM.len_sR, jM.len_fI, jM.len_fL, jM.len_fR]; omega) | (simp [jM.len_nw, jM.len_sI, jM.len_sL, jM.len_sR, jM.len_fI, jM.len_fL, jM.len_fR, *]; omega)) (by first | omega | (exact R.r _ _) | (simp only [jM.len_sI, jM.len_sL, jM.len_sR, jM.len_fI, jM.len_fL, jM.len_fR]; omega) | (simp [jM.len_nw, jM.len_sI, jM.len_sL, jM.len_sR, jM.len_fI, jM.len_fL, jM.len_fR, *]; omega)) rfl rfl ?_ ?_
    · exact fun _ _ h => h
    rintro _ k ⟨rfl, rfl⟩
    cases hc : hopeB k σ 6 L with
    | false =>
      show J γ mX0_tryFrom 2 0 0 0 0 k 6 _ [.int (jI 0)] _ _
      refine J.if_ne (tgt := 10) (pc' := 9) rfl rfl rfl (by first | omega | (exact R.r _ _) | (simp only [jM.len_sI, jM.len_sL, jM.len_sR, jM.len_fI, jM.len_fL, jM.len_fR]; omega) | (simp [jM.len_nw, jM.len_sI, jM.len_sL, jM.len_sR, jM.len_fI, jM.len_fL, jM.len_fR, *]; omega)) (fun c1 => ?_) (fun c1 => ?_)
      · omega
      · refine J.vret rfl rfl (by first | omega | (exact R.r _ _) | (simp only [jM.len_sI, jM.len_sL, jM.len_sR, jM.len_fI, jM.len_fL, jM.len_fR]; omega) | (simp [jM.len_nw, jM.len_sI, jM.len_sL, jM.len_sR, jM.len_fI, jM.len_fL, jM.len_fR, *]; omega)) (by first | omega | (exact R.r _ _) | (simp only [jM.len_sI, jM.len_sL, jM.len_sR, jM.len_fI, jM.len_fL, jM.len_fR]; omega) | (simp [jM.len_nw, jM.len_sI, jM.len_sL, jM.len_sR, jM.len_fI, jM.len_fL, jM.len_fR, *]; omega)) ?_
        have ed : dfs V n 0 L tr a = a := by
          rw [dfs]
          split
          · rename_i z
            have : ∃ s : Nat, s < 11 ∧ lims V n a s < tS V tr s 6 := by
              refine Classical.byContradiction (fun hne => ?_)
              have : hopeB k σ 6 L = true := hope_iff.mpr (fun s hs => by
                rw [hU s hs, les s hs, ll s hs, if_pos z]
                have : ¬ lims V n a s < tS V tr s 6 := fun q => hne ⟨s, hs, q⟩
                show tS V tr s 6 + 0 ≤ _
                omega)
              rw [hc] at this
              cases this
            obtain ⟨s, hs, hq⟩ := this
            exact leaf_no R hs (fun j hj => by have := (htr j hj).2; have := mo20 j; omega) hq
          · rfl
        rw [ed]
        exact ⟨rfl, onI.rf, fun _ _ => rfl, hT, fun _ _ _ => rfl, hA⟩
    | true =>
      have hh := hope_iff.mp hc
      have L0 : L = 0 := by
        refine Classical.byContradiction (fun c => ?_)
        have h0 := hh 0 (by omega)
        rw [hU 0 (by omega), les 0 (by omega), ll 0 (by omega), if_neg c] at h0
        have := (lb 0 (by omega)).2
        have e0 : tS V tr ((0 : Nat) : Int) (6 - 0) = tS V tr 0 6 := rfl
        omega
      show J γ mX0_tryFrom 2 0 0 0 0 k 6 _ [.int (jI 1)] _ _
      refine J.if_ne (tgt := 10) (pc' := 9) rfl rfl rfl (by first | omega | (exact R.r _ _) | (simp only [jM.len_sI, jM.len_sL, jM.len_sR, jM.len_fI, jM.len_fL, jM.len_fR]; omega) | (simp [jM.len_nw, jM.len_sI, jM.len_sL, jM.len_sR, jM.len_fI, jM.len_fL, jM.len_fR, *]; omega)) (fun c1 => ?_) (fun c1 => ?_)
      · refine J.iload_n (pc' := 11) rfl rfl rfl ?_
        refine J.bipush (pc' := 13) rfl rfl (by decide) ?_
        refine J.icmp_lt (tgt := 21) (pc' := 16) rfl rfl rfl (by first | omega | (exact R.r _ _) | (simp only [jM.len_sI, jM.len_sL, jM.len_sR, jM.len_fI, jM.len_fL, jM.len_fR]; omega) | (simp [jM.len_nw, jM.len_sI, jM.len_sL, jM.len_sR, jM.len_fI, jM.len_fL, jM.len_fR, *]; omega)) (by first | omega | (exact R.r _ _) | (simp only [jM.len_sI, jM.len_sL, jM.len_sR, jM.len_fI, jM.len_fL, jM.len_fR]; omega) | (simp [jM.len_nw, jM.len_sI, jM.len_sL, jM.len_sR, jM.len_fI, jM.len_fL, jM.len_fR, *]; omega)) (fun c2 => ?_) (fun c2 => ?_)
        · omega
        · first | refine J.aload_n (pc' := 17) rfl rfl rfl ?_ | refine J.aload_nN (pc' := 17) rfl rfl rfl ?_
          refine J.callV (pc' := 20) (t := 4) rfl MX0_keep ml_X0_103 iv_X0_keep (by decide) ⟨_, rfl, rfl⟩ (by first | assumption | (simp only [jM.tag_sI, jM.tag_sL, jM.tag_sR, jM.tag_fI, jM.tag_fL, jM.tag_fR]; assumption) | (simp [jM.tag_nw, jM.tag_sI, jM.tag_sL, jM.tag_sR, jM.tag_fI, jM.tag_fL, jM.tag_fR, *]; done)) (cz_keep hS.1) rfl rfl (Nat.le_of_ble_eq_true rfl) (by first | omega | (exact R.r _ _) | (simp only [jM.len_sI, jM.len_sL, jM.len_sR, jM.len_fI, jM.len_fL, jM.len_fR]; omega) | (simp [jM.len_nw, jM.len_sI, jM.len_sL, jM.len_sR, jM.len_fI, jM.len_fL, jM.len_fR, *]; omega)) (by first | omega | (exact R.r _ _) | (simp only [jM.len_sI, jM.len_sL, jM.len_sR, jM.len_fI, jM.len_fL, jM.len_fR]; omega) | (simp [jM.len_nw, jM.len_sI, jM.len_sL, jM.len_sR, jM.len_fI, jM.len_fL, jM.len_fR, *]; omega)) (by first | omega | (exact R.r _ _) | (simp only [jM.len_sI, jM.len_sL, jM.len_sR, jM.len_fI, jM.len_fL, jM.len_fR]; omega) | (simp [jM.len_nw, jM.len_sI, jM.len_sL, jM.len_sR, jM.len_fI, jM.len_fL, jM.len_fR, *]; omega)) rfl rfl ?_ ?_
          · exact fun _ _ h => h
          rintro _ k' ⟨rfl, q1, q2, q3⟩
          refine J.vret rfl rfl (by first | omega | (exact R.r _ _) | (simp only [jM.len_sI, jM.len_sL, jM.len_sR, jM.len_fI, jM.len_fL, jM.len_fR]; omega) | (simp [jM.len_nw, jM.len_sI, jM.len_sL, jM.len_sR, jM.len_fI, jM.len_fL, jM.len_fR, *]; omega)) (by first | omega | (exact R.r _ _) | (simp only [jM.len_sI, jM.len_sL, jM.len_sR, jM.len_fI, jM.len_fL, jM.len_fR]; omega) | (simp [jM.len_nw, jM.len_sI, jM.len_sL, jM.len_sR, jM.len_fI, jM.len_fL, jM.len_fR, *]; omega)) ?_
          have ed : dfs V n 0 L tr a = (totP V tr 0, tr) := by
            rw [dfs, if_pos L0]
            refine leaf_yes (fun z => by have := hA.2.2; omega) (fun s hs => ?_)
            have h0 := hh s hs
            rw [hU s hs, les s hs, ll s hs, if_pos L0] at h0
            have : tS V tr s (6 - 0) + 0 ≤ lims V n a s := h0
            have e : tS V tr s (6 - 0) = tS V tr s 6 := rfl
            omega
          have e0 : tS V tr 0 6 = totP V tr 0 := by rw [tS_eq]; show 1 * totP V tr 0 = _; omega
          have b0 := tb 0
          rw [ed]
          refine ⟨rfl, ⟨q1.1, q1.2.1, q1.2.2.1, q1.2.2.2.1, fun t a9 k9 hn9 => q1.2.2.2.2 t a9 k9 (fun z => hn9 ?_)⟩, fun s hs => q1.2.2.2.2 30 _ _ (by omega), fun j hj => (q1.2.2.2.2 25 _ _ (by omega)).trans (hT j hj), fun s h1 h2 => by rw [q3 s h2, if_neg (by omega)], ?_, Or.inr (fun j hj => ?_), ?_⟩
          · rcases z with z | z
            · exact Or.inl z
            · exact Or.inr (Or.inr (Or.inl z))
          · have h0 := q3 0 (by omega)
            rw [if_pos rfl, show suV k σ 0 = tS V tr 0 6 from hU 0 (by omega)] at h0
            rw [show liV k' σ 0 = liV k' σ ((0 : Nat) : Int) from rfl, h0, e0]
            unfold limA
            rw [if_neg (show ¬ totP V tr 0 = -1 by omega)]
          · rw [q2 j (by omega) (by omega)]; exact hT j hj
          · show -1 ≤ totP V tr 0 ∧ totP V tr 0 ≤ 12000000
            omega
      · omega
  | succ d ih =>
    intro hd L tr a k hL hsum htr hS hA hT hU
    have hLn : L ≤ n := by
      have := Sm_le (f := tr) (n := 6 - (d + 1)) (a := 0) (b := 20) (fun i hi => ⟨(htr i hi).1, by have := (htr i hi).2; have := mo20 i; omega⟩)
      omega
    have tb : ∀ s, -12000000 ≤ tS V tr s (6 - (d + 1)) ∧ tS V tr s (6 - (d + 1)) ≤ 12000000 := fun s => tS_b R (by omega) (fun j hj => by have := (htr j hj).2; have := mo20 j; omega)
    have ll : ∀ s : Nat, s < 11 → liV k σ s = lims V n a s := fun s hs => by
      unfold lims
      by_cases c : s = 0
      · subst c; rw [if_pos (show ((0 : Nat) : Int) = 0 from rfl)]; exact hA.1
      · rw [if_neg (by omega)]; exact hS.2.2.2.2.2 s (by omega) hs
    have lb : ∀ s : Nat, s < 11 → -1000000 ≤ lims V n a s ∧ lims V n a s ≤ 999999999 := fun s hs => by
      unfold lims
      have := limA_b hA.2.2
      have := liP_b R hn s
      split <;> omega
    have eg : (6 : Int) - ((d + 1 : Nat) : Int) = ((6 - (d + 1) : Nat) : Int) := by omega
    have LBs : ∀ s : Nat, s < 11 → LB V n (leV k σ s ((6 - ((d + 1 : Nat) : Int)) * 21 + L)) s (6 - (d + 1)) L := fun s hs => by
      rw [eg]
      exact hS.2.2.2.1 s hs (6 - (d + 1)) L (by omega) hL hLn
    have hb : ∀ s : Nat, s < 11 → r32 (suV k σ s + leV k σ s ((6 - ((d + 1 : Nat) : Int)) * 21 + L)) ∧ r32 (liV k σ s) := fun s hs => by
      have b1 := tb s
      have b2 := lb s hs
      have b3 := (LBs s hs).1
      rw [hU s hs, ll s hs]
      constructor <;> constructor <;> omega
    have t0 := hS.1.1
    refine CT.of MX0_tryFrom (Nat.le_of_ble_eq_true rfl) ?_
    show J γ mX0_tryFrom (d+1+2) 0 0 0 0 k 0 [(0, .ref (σ 0)), (1, .int (jI (6 - ((d + 1 : Nat) : Int)))), (2, .int (jI L))] [] _ _
    first | refine J.aload_n (pc' := 1) rfl rfl rfl ?_ | refine J.aload_nN (pc' := 1) rfl rfl rfl ?_
    refine J.iload_n (pc' := 2) rfl rfl rfl ?_
    refine J.iload_n (pc' := 3) rfl rfl rfl ?_
    refine J.callV (pc' := 6) (t := 4) rfl MX0_hasHope ml_X0_99 iv_X0_hasHope (by decide) ⟨_, rfl, rfl⟩ (by first | assumption | (simp only [jM.tag_sI, jM.tag_sL, jM.tag_sR, jM.tag_fI, jM.tag_fL, jM.tag_fR]; assumption) | (simp [jM.tag_nw, jM.tag_sI, jM.tag_sL, jM.tag_sR, jM.tag_fI, jM.tag_fL, jM.tag_fR, *]; done)) (cz_hope hS.1 (by omega) (by omega) hb) rfl rfl (Nat.le_of_ble_eq_true rfl) (by first | omega | (exact R.r _ _) | (simp only [jM.len_sI, jM.len_sL, jM.len_sR, jM.len_fI, jM.len_fL, jM.len_fR]; omega) | (simp [jM.len_nw, jM.len_sI, jM.len_sL, jM.len_sR, jM.len_fI, jM.len_fL, jM.len_fR, *]; omega)) (by first | omega | (exact R.r _ _) | (simp only [jM.len_sI, jM.len_sL, jM.len_sR, jM.len_fI, jM.len_fL, jM.len_fR]; omega) | (simp [jM.len_nw, jM.len_sI, jM.len_sL, jM.len_sR, jM.len_fI, jM.len_fL, jM.len_fR, *]; omega)) (by first | omega | (exact R.r _ _) | (simp only [jM.len_sI, jM.len_sL, jM.len_sR, jM.len_fI, jM.len_fL, jM.len_fR]; omega) | (simp [jM.len_nw, jM.len_sI, jM.len_sL, jM.len_sR, jM.len_fI, jM.len_fL, jM.len_fR, *]; omega)) rfl rfl ?_ ?_
    · exact fun _ _ h => h
    rintro _ k ⟨rfl, rfl⟩
    cases hc : hopeB k σ (6 - ((d + 1 : Nat) : Int)) L with
    | false =>
      show J γ mX0_tryFrom (d + 1 + 2) 0 0 0 0 k 6 _ [.int (jI 0)] _ _
      refine J.if_ne (tgt := 10) (pc' := 9) rfl rfl rfl (by first | omega | (exact R.r _ _) | (simp only [jM.len_sI, jM.len_sL, jM.len_sR, jM.len_fI, jM.len_fL, jM.len_fR]; omega) | (simp [jM.len_nw, jM.len_sI, jM.len_sL, jM.len_sR, jM.len_fI, jM.len_fL, jM.len_fR, *]; omega)) (fun c1 => ?_) (fun c1 => ?_)
      · omega
      · refine J.vret rfl rfl (by first | omega | (exact R.r _ _) | (simp only [jM.len_sI, jM.len_sL, jM.len_sR, jM.len_fI, jM.len_fL, jM.len_fR]; omega) | (simp [jM.len_nw, jM.len_sI, jM.len_sL, jM.len_sR, jM.len_fI, jM.len_fL, jM.len_fR, *]; omega)) (by first | omega | (exact R.r _ _) | (simp only [jM.len_sI, jM.len_sL, jM.len_sR, jM.len_fI, jM.len_fL, jM.len_fR]; omega) | (simp [jM.len_nw, jM.len_sI, jM.len_sL, jM.len_sR, jM.len_fI, jM.len_fL, jM.len_fR, *]; omega)) ?_
        have : ∃ s : Nat, s < 11 ∧ lims V n a s < tS V tr s (6 - (d + 1)) + leV k σ s ((6 - ((d + 1 : Nat) : Int)) * 21 + L) := by
          refine Classical.byContradiction (fun hne => ?_)
          have : hopeB k σ (6 - ((d + 1 : Nat) : Int)) L = true := hope_iff.mpr (fun s hs => by
            rw [hU s hs, ll s hs]
            have : ¬ lims V n a s < tS V tr s (6 - (d + 1)) + leV k σ s ((6 - ((d + 1 : Nat) : Int)) * 21 + L) := fun q => hne ⟨s, hs, q⟩
            omega)
          rw [hc] at this
          cases this
        obtain ⟨s, hs, hq⟩ := this
        rw [dfs_prune R hd (by omega) hL hsum hs (fun j hj => by have := (htr j hj).2; have := mo20 j; omega) (LBs s hs) hq]
        exact ⟨rfl, onI.rf, fun _ _ => rfl, hT, fun _ _ _ => rfl, hA⟩
    | true =>
      show J γ mX0_tryFrom (d + 1 + 2) 0 0 0 0 k 6 _ [.int (jI 1)] _ _
      refine J.if_ne (tgt := 10) (pc' := 9) rfl rfl rfl (by first | omega | (exact R.r _ _) | (simp only [jM.len_sI, jM.len_sL, jM.len_sR, jM.len_fI, jM.len_fL, jM.len_fR]; omega) | (simp [jM.len_nw, jM.len_sI, jM.len_sL, jM.len_sR, jM.len_fI, jM.len_fL, jM.len_fR, *]; omega)) (fun c1 => ?_) (fun c1 => ?_)
      · refine J.iload_n (pc' := 11) rfl rfl rfl ?_
        refine J.bipush (pc' := 13) rfl rfl (by decide) ?_
        refine J.icmp_lt (tgt := 21) (pc' := 16) rfl rfl rfl (by first | omega | (exact R.r _ _) | (simp only [jM.len_sI, jM.len_sL, jM.len_sR, jM.len_fI, jM.len_fL, jM.len_fR]; omega) | (simp [jM.len_nw, jM.len_sI, jM.len_sL, jM.len_sR, jM.len_fI, jM.len_fL, jM.len_fR, *]; omega)) (by first | omega | (exact R.r _ _) | (simp only [jM.len_sI, jM.len_sL, jM.len_sR, jM.len_fI, jM.len_fL, jM.len_fR]; omega) | (simp [jM.len_nw, jM.len_sI, jM.len_sL, jM.len_sR, jM.len_fI, jM.len_fL, jM.len_fR, *]; omega)) (fun c2 => ?_) (fun c2 => ?_)
        · refine J.iconst (pc' := 22) rfl rfl ?_
          refine J.istore_n (pc' := 23) rfl rfl (by decide) ?_
          have ed : dfs V n (d + 1) L tr a = itF (fun t a => dfs V n d (L - t) (updT tr (5 - (d : Int)) t) a) 0 (min L (mostP V n (5 - (d : Int))) + 1).toNat a := rfl
          rw [ed]
          have mg := mo0 (5 - (d : Int))
          have mg2 := mo20 (5 - (d : Int))
          have e5 : (6 : Int) - ((d + 1 : Nat) : Int) = 5 - (d : Int) := by omega
          rw [e5]
          have key : ∀ (r : Nat) (t : Int) (a1 : Acc) (k1 : jM), 0 ≤ t → t + r = min L (mostP V n (5 - (d : Int))) + 1 → onI k k1 (tfP σ) → (∀ s : Nat, s < 11 → suV k1 σ s = suV k σ s) → (∀ j : Nat, j < 6 - (d + 1) → trV k1 σ j = tr j) → (∀ s : Nat, 1 ≤ s → s < 11 → liV k1 σ s = liV k σ s) → aOk k1 σ a1 → ∀ lv, hasL lv [(0, .ref (σ 0)), (1, .int (jI (5 - (d : Int)))), (2, .int (jI L)), (3, .int (jI t))] → J γ mX0_tryFrom (d + 1 + 2) 0 0 0 0 k1 23 lv [] (tfQ k σ (d + 1) tr (itF (fun t a => dfs V n d (L - t) (updT tr (5 - (d : Int)) t) a) t r a1)) X0 := by
            intro r
            induction r with
            | zero =>
              intro t a1 k1 ht htr2 o1 o2 o3 o4 o5 lv hlv
              have hS1 := hS.on o1 o4
              have hS10 := hS1.1
              obtain ⟨s0, -, -, ⟨r26, t26, l26⟩, -, -, -, -, -, -⟩ := hS10
              have em : k1.I 26 (σ 26) (5 - (d : Int)).toNat = mostP V n (5 - (d : Int)) := by
                have := hS1.2.1 (5 - d) (by omega)
                rw [show (((5 - d : Nat) : Int)) = 5 - (d : Int) by omega] at this
                exact this
              refine J.lc hlv ?_
              refine J.iload_n (pc' := 24) rfl rfl rfl ?_
              refine J.iload_n (pc' := 25) rfl rfl rfl ?_
              refine J.icmp_gt (tgt := 81) (pc' := 28) rfl rfl rfl (by first | omega | (exact R.r _ _) | (simp only [jM.len_sI, jM.len_sL, jM.len_sR, jM.len_fI, jM.len_fL, jM.len_fR]; omega) | (simp [jM.len_nw, jM.len_sI, jM.len_sL, jM.len_sR, jM.len_fI, jM.len_fL, jM.len_fR, *]; omega)) (by first | omega | (exact R.r _ _) | (simp only [jM.len_sI, jM.len_sL, jM.len_sR, jM.len_fI, jM.len_fL, jM.len_fR]; omega) | (simp [jM.len_nw, jM.len_sI, jM.len_sL, jM.len_sR, jM.len_fI, jM.len_fL, jM.len_fR, *]; omega)) (fun c3 => ?_) (fun c3 => ?_)
              · refine J.vret rfl rfl (by first | omega | (exact R.r _ _) | (simp only [jM.len_sI, jM.len_sL, jM.len_sR, jM.len_fI, jM.len_fL, jM.len_fR]; omega) | (simp [jM.len_nw, jM.len_sI, jM.len_sL, jM.len_sR, jM.len_fI, jM.len_fL, jM.len_fR, *]; omega)) (by first | omega | (exact R.r _ _) | (simp only [jM.len_sI, jM.len_sL, jM.len_sR, jM.len_fI, jM.len_fL, jM.len_fR]; omega) | (simp [jM.len_nw, jM.len_sI, jM.len_sL, jM.len_sR, jM.len_fI, jM.len_fL, jM.len_fR, *]; omega)) ?_
                exact ⟨rfl, o1, o2, o3, o4, o5⟩
              · refine J.iload_n (pc' := 29) rfl rfl rfl ?_
                first | refine J.aload_n (pc' := 30) rfl rfl rfl ?_ | refine J.aload_nN (pc' := 30) rfl rfl rfl ?_
                first | refine J.getR (pc' := 33) rfl fl_X0_18 rfl (by first | assumption | (simp only [jM.tag_sI, jM.tag_sL, jM.tag_sR, jM.tag_fI, jM.tag_fL, jM.tag_fR]; assumption) | (simp [jM.tag_nw, jM.tag_sI, jM.tag_sL, jM.tag_sR, jM.tag_fI, jM.tag_fL, jM.tag_fR, *]; done)) (by first | assumption | (simp only [jM.R_sI, jM.R_sL, jM.R_fI, jM.R_fL]; assumption) | (simp [jM.R_nw, jM.R_sR, jM.R_fR, jM.R_sI, jM.R_sL, jM.R_fI, jM.R_fL, *]; done)) rfl ?_ | refine J.getRN (pc' := 33) rfl fl_X0_18 rfl (by first | assumption | (simp only [jM.tag_sI, jM.tag_sL, jM.tag_sR, jM.tag_fI, jM.tag_fL, jM.tag_fR]; assumption) | (simp [jM.tag_nw, jM.tag_sI, jM.tag_sL, jM.tag_sR, jM.tag_fI, jM.tag_fL, jM.tag_fR, *]; done)) (by first | assumption | (simp only [jM.R_sI, jM.R_sL, jM.R_fI, jM.R_fL]; assumption) | (simp [jM.R_nw, jM.R_sR, jM.R_fR, jM.R_sI, jM.R_sL, jM.R_fI, jM.R_fL, *]; done)) rfl ?_
                refine J.iload_n (pc' := 34) rfl rfl rfl ?_
                refine J.iald (pc' := 35) rfl (by first | assumption | (simp only [jM.tag_sI, jM.tag_sL, jM.tag_sR, jM.tag_fI, jM.tag_fL, jM.tag_fR]; assumption) | (simp [jM.tag_nw, jM.tag_sI, jM.tag_sL, jM.tag_sR, jM.tag_fI, jM.tag_fL, jM.tag_fR, *]; done)) (by decide) rfl (by first | omega | (exact R.r _ _) | (simp only [jM.len_sI, jM.len_sL, jM.len_sR, jM.len_fI, jM.len_fL, jM.len_fR]; omega) | (simp [jM.len_nw, jM.len_sI, jM.len_sL, jM.len_sR, jM.len_fI, jM.len_fL, jM.len_fR, *]; omega)) (by first | omega | (exact R.r _ _) | (simp only [jM.len_sI, jM.len_sL, jM.len_sR, jM.len_fI, jM.len_fL, jM.len_fR]; omega) | (simp [jM.len_nw, jM.len_sI, jM.len_sL, jM.len_sR, jM.len_fI, jM.len_fL, jM.len_fR, *]; omega)) (by first | omega | (exact R.r _ _) | (simp only [jM.len_sI, jM.len_sL, jM.len_sR, jM.len_fI, jM.len_fL, jM.len_fR]; omega) | (simp [jM.len_nw, jM.len_sI, jM.len_sL, jM.len_sR, jM.len_fI, jM.len_fL, jM.len_fR, *]; omega)) rfl ?_
                rw [em]
                refine J.icmp_gt (tgt := 81) (pc' := 38) rfl rfl rfl (by first | omega | (exact R.r _ _) | (simp only [jM.len_sI, jM.len_sL, jM.len_sR, jM.len_fI, jM.len_fL, jM.len_fR]; omega) | (simp [jM.len_nw, jM.len_sI, jM.len_sL, jM.len_sR, jM.len_fI, jM.len_fL, jM.len_fR, *]; omega)) (by first | omega | (exact R.r _ _) | (simp only [jM.len_sI, jM.len_sL, jM.len_sR, jM.len_fI, jM.len_fL, jM.len_fR]; omega) | (simp [jM.len_nw, jM.len_sI, jM.len_sL, jM.len_sR, jM.len_fI, jM.len_fL, jM.len_fR, *]; omega)) (fun c4 => ?_) (fun c4 => ?_)
                · refine J.vret rfl rfl (by first | omega | (exact R.r _ _) | (simp only [jM.len_sI, jM.len_sL, jM.len_sR, jM.len_fI, jM.len_fL, jM.len_fR]; omega) | (simp [jM.len_nw, jM.len_sI, jM.len_sL, jM.len_sR, jM.len_fI, jM.len_fL, jM.len_fR, *]; omega)) (by first | omega | (exact R.r _ _) | (simp only [jM.len_sI, jM.len_sL, jM.len_sR, jM.len_fI, jM.len_fL, jM.len_fR]; omega) | (simp [jM.len_nw, jM.len_sI, jM.len_sL, jM.len_sR, jM.len_fI, jM.len_fL, jM.len_fR, *]; omega)) ?_
                  exact ⟨rfl, o1, o2, o3, o4, o5⟩
                · omega
            | succ r ihr =>
              intro t a1 k1 ht htr2 o1 o2 o3 o4 o5 lv hlv
              have hS1 := hS.on o1 o4
              have hS10 := hS1.1
              obtain ⟨s0, -, ⟨r25, t25, l25⟩, ⟨r26, t26, l26⟩, -, -, -, -, -, -⟩ := hS10
              have em : k1.I 26 (σ 26) (5 - (d : Int)).toNat = mostP V n (5 - (d : Int)) := by
                have := hS1.2.1 (5 - d) (by omega)
                rw [show (((5 - d : Nat) : Int)) = 5 - (d : Int) by omega] at this
                exact this
              refine J.lc hlv ?_
              refine J.iload_n (pc' := 24) rfl rfl rfl ?_
              refine J.iload_n (pc' := 25) rfl rfl rfl ?_
              refine J.icmp_gt (tgt := 81) (pc' := 28) rfl rfl rfl (by first | omega | (exact R.r _ _) | (simp only [jM.len_sI, jM.len_sL, jM.len_sR, jM.len_fI, jM.len_fL, jM.len_fR]; omega) | (simp [jM.len_nw, jM.len_sI, jM.len_sL, jM.len_sR, jM.len_fI, jM.len_fL, jM.len_fR, *]; omega)) (by first | omega | (exact R.r _ _) | (simp only [jM.len_sI, jM.len_sL, jM.len_sR, jM.len_fI, jM.len_fL, jM.len_fR]; omega) | (simp [jM.len_nw, jM.len_sI, jM.len_sL, jM.len_sR, jM.len_fI, jM.len_fL, jM.len_fR, *]; omega)) (fun c3 => ?_) (fun c3 => ?_)
              · omega
              · refine J.iload_n (pc' := 29) rfl rfl rfl ?_
                first | refine J.aload_n (pc' := 30) rfl rfl rfl ?_ | refine J.aload_nN (pc' := 30) rfl rfl rfl ?_
                first | refine J.getR (pc' := 33) rfl fl_X0_18 rfl (by first | assumption | (simp only [jM.tag_sI, jM.tag_sL, jM.tag_sR, jM.tag_fI, jM.tag_fL, jM.tag_fR]; assumption) | (simp [jM.tag_nw, jM.tag_sI, jM.tag_sL, jM.tag_sR, jM.tag_fI, jM.tag_fL, jM.tag_fR, *]; done)) (by first | assumption | (simp only [jM.R_sI, jM.R_sL, jM.R_fI, jM.R_fL]; assumption) | (simp [jM.R_nw, jM.R_sR, jM.R_fR, jM.R_sI, jM.R_sL, jM.R_fI, jM.R_fL, *]; done)) rfl ?_ | refine J.getRN (pc' := 33) rfl fl_X0_18 rfl (by first | assumption | (simp only [jM.tag_sI, jM.tag_sL, jM.tag_sR, jM.tag_fI, jM.tag_fL, jM.tag_fR]; assumption) | (simp [jM.tag_nw, jM.tag_sI, jM.tag_sL, jM.tag_sR, jM.tag_fI, jM.tag_fL, jM.tag_fR, *]; done)) (by first | assumption | (simp only [jM.R_sI, jM.R_sL, jM.R_fI, jM.R_fL]; assumption) | (simp [jM.R_nw, jM.R_sR, jM.R_fR, jM.R_sI, jM.R_sL, jM.R_fI, jM.R_fL, *]; done)) rfl ?_
                refine J.iload_n (pc' := 34) rfl rfl rfl ?_
                refine J.iald (pc' := 35) rfl (by first | assumption | (simp only [jM.tag_sI, jM.tag_sL, jM.tag_sR, jM.tag_fI, jM.tag_fL, jM.tag_fR]; assumption) | (simp [jM.tag_nw, jM.tag_sI, jM.tag_sL, jM.tag_sR, jM.tag_fI, jM.tag_fL, jM.tag_fR, *]; done)) (by decide) rfl (by first | omega | (exact R.r _ _) | (simp only [jM.len_sI, jM.len_sL, jM.len_sR, jM.len_fI, jM.len_fL, jM.len_fR]; omega) | (simp [jM.len_nw, jM.len_sI, jM.len_sL, jM.len_sR, jM.len_fI, jM.len_fL, jM.len_fR, *]; omega)) (by first | omega | (exact R.r _ _) | (simp only [jM.len_sI, jM.len_sL, jM.len_sR, jM.len_fI, jM.len_fL, jM.len_fR]; omega) | (simp [jM.len_nw, jM.len_sI, jM.len_sL, jM.len_sR, jM.len_fI, jM.len_fL, jM.len_fR, *]; omega)) (by first | omega | (exact R.r _ _) | (simp only [jM.len_sI, jM.len_sL, jM.len_sR, jM.len_fI, jM.len_fL, jM.len_fR]; omega) | (simp [jM.len_nw, jM.len_sI, jM.len_sL, jM.len_sR, jM.len_fI, jM.len_fL, jM.len_fR, *]; omega)) rfl ?_
                rw [em]
                refine J.icmp_gt (tgt := 81) (pc' := 38) rfl rfl rfl (by first | omega | (exact R.r _ _) | (simp only [jM.len_sI, jM.len_sL, jM.len_sR, jM.len_fI, jM.len_fL, jM.len_fR]; omega) | (simp [jM.len_nw, jM.len_sI, jM.len_sL, jM.len_sR, jM.len_fI, jM.len_fL, jM.len_fR, *]; omega)) (by first | omega | (exact R.r _ _) | (simp only [jM.len_sI, jM.len_sL, jM.len_sR, jM.len_fI, jM.len_fL, jM.len_fR]; omega) | (simp [jM.len_nw, jM.len_sI, jM.len_sL, jM.len_sR, jM.len_fI, jM.len_fL, jM.len_fR, *]; omega)) (fun c4 => ?_) (fun c4 => ?_)
                · omega
                · first | refine J.aload_n (pc' := 39) rfl rfl rfl ?_ | refine J.aload_nN (pc' := 39) rfl rfl rfl ?_
                  first | refine J.getR (pc' := 42) rfl fl_X0_15 rfl (by first | assumption | (simp only [jM.tag_sI, jM.tag_sL, jM.tag_sR, jM.tag_fI, jM.tag_fL, jM.tag_fR]; assumption) | (simp [jM.tag_nw, jM.tag_sI, jM.tag_sL, jM.tag_sR, jM.tag_fI, jM.tag_fL, jM.tag_fR, *]; done)) (by first | assumption | (simp only [jM.R_sI, jM.R_sL, jM.R_fI, jM.R_fL]; assumption) | (simp [jM.R_nw, jM.R_sR, jM.R_fR, jM.R_sI, jM.R_sL, jM.R_fI, jM.R_fL, *]; done)) rfl ?_ | refine J.getRN (pc' := 42) rfl fl_X0_15 rfl (by first | assumption | (simp only [jM.tag_sI, jM.tag_sL, jM.tag_sR, jM.tag_fI, jM.tag_fL, jM.tag_fR]; assumption) | (simp [jM.tag_nw, jM.tag_sI, jM.tag_sL, jM.tag_sR, jM.tag_fI, jM.tag_fL, jM.tag_fR, *]; done)) (by first | assumption | (simp only [jM.R_sI, jM.R_sL, jM.R_fI, jM.R_fL]; assumption) | (simp [jM.R_nw, jM.R_sR, jM.R_fR, jM.R_sI, jM.R_sL, jM.R_fI, jM.R_fL, *]; done)) rfl ?_
                  refine J.iload_n (pc' := 43) rfl rfl rfl ?_
                  refine J.iload_n (pc' := 44) rfl rfl rfl ?_
                  refine J.iast (pc' := 45) rfl (by first | assumption | (simp only [jM.tag_sI, jM.tag_sL, jM.tag_sR, jM.tag_fI, jM.tag_fL, jM.tag_fR]; assumption) | (simp [jM.tag_nw, jM.tag_sI, jM.tag_sL, jM.tag_sR, jM.tag_fI, jM.tag_fL, jM.tag_fR, *]; done)) (by decide) rfl (by first | omega | (exact R.r _ _) | (simp only [jM.len_sI, jM.len_sL, jM.len_sR, jM.len_fI, jM.len_fL, jM.len_fR]; omega) | (simp [jM.len_nw, jM.len_sI, jM.len_sL, jM.len_sR, jM.len_fI, jM.len_fL, jM.len_fR, *]; omega)) (by first | omega | (exact R.r _ _) | (simp only [jM.len_sI, jM.len_sL, jM.len_sR, jM.len_fI, jM.len_fL, jM.len_fR]; omega) | (simp [jM.len_nw, jM.len_sI, jM.len_sL, jM.len_sR, jM.len_fI, jM.len_fL, jM.len_fR, *]; omega)) (by first | omega | (exact R.r _ _) | (simp only [jM.len_sI, jM.len_sL, jM.len_sR, jM.len_fI, jM.len_fL, jM.len_fR]; omega) | (simp [jM.len_nw, jM.len_sI, jM.len_sL, jM.len_sR, jM.len_fI, jM.len_fL, jM.len_fR, *]; omega)) (Or.inl rfl) rfl ?_
                  have O2 : onI k (k1.sI 25 (σ 25) (5 - (d : Int)).toNat t) (tfP σ) := o1.sI (Or.inr (Or.inl ⟨rfl, rfl⟩))
                  have u2 : ∀ s : Nat, s < 11 → suV (k1.sI 25 (σ 25) (5 - (d : Int)).toNat t) σ s = suV k σ s := fun s hs => by
                    show (k1.sI 25 (σ 25) (5 - (d : Int)).toNat t).I 30 _ _ = _
                    rw [jM.I_sI, if_neg (by omega)]; exact o2 s hs
                  have i2 : ∀ s : Int, liV (k1.sI 25 (σ 25) (5 - (d : Int)).toNat t) σ s = liV k1 σ s := fun s => by
                    show (k1.sI 25 (σ 25) (5 - (d : Int)).toNat t).I 29 _ _ = _
                    rw [jM.I_sI, if_neg (by omega)]; rfl
                  have c2' : ∀ j : Int, chV (k1.sI 25 (σ 25) (5 - (d : Int)).toNat t) σ j = chV k1 σ j := fun j => by
                    show (k1.sI 25 (σ 25) (5 - (d : Int)).toNat t).I 24 _ _ = _
                    rw [jM.I_sI, if_neg (by omega)]; rfl
                  have r2 : ∀ j : Nat, j < 6 - d → trV (k1.sI 25 (σ 25) (5 - (d : Int)).toNat t) σ j = updT tr (5 - (d : Int)) t j := fun j hj => by
                    show (k1.sI 25 (σ 25) (5 - (d : Int)).toNat t).I 25 _ _ = _
                    rw [jM.I_sI]
                    unfold updT
                    by_cases z : (j : Int) = 5 - (d : Int)
                    · rw [if_pos ⟨rfl, rfl, by omega⟩, if_pos z]
                    · rw [if_neg (by omega), if_neg z]; exact o3 j (by omega)
                  generalize k1.sI 25 (σ 25) (5 - (d : Int)).toNat t = k2 at O2 u2 i2 c2' r2 ⊢
                  have hS2 : SB k2 σ V n := hS.on O2 (fun s h1 h2 => (i2 s).trans (o4 s h1 h2))
                  have s02 := hS2.1.1
                  first | refine J.aload_n (pc' := 46) rfl rfl rfl ?_ | refine J.aload_nN (pc' := 46) rfl rfl rfl ?_
                  refine J.iload_n (pc' := 47) rfl rfl rfl ?_
                  refine J.iload_n (pc' := 48) rfl rfl rfl ?_
                  refine J.callS (pc' := 51) rfl MX0_at ml_X0_78 is_X0_at cz_at rfl rfl (Nat.le_of_ble_eq_true rfl) (by first | omega | (exact R.r _ _) | (simp only [jM.len_sI, jM.len_sL, jM.len_sR, jM.len_fI, jM.len_fL, jM.len_fR]; omega) | (simp [jM.len_nw, jM.len_sI, jM.len_sL, jM.len_sR, jM.len_fI, jM.len_fL, jM.len_fR, *]; omega)) (by first | omega | (exact R.r _ _) | (simp only [jM.len_sI, jM.len_sL, jM.len_sR, jM.len_fI, jM.len_fL, jM.len_fR]; omega) | (simp [jM.len_nw, jM.len_sI, jM.len_sL, jM.len_sR, jM.len_fI, jM.len_fL, jM.len_fR, *]; omega)) (by first | omega | (exact R.r _ _) | (simp only [jM.len_sI, jM.len_sL, jM.len_sR, jM.len_fI, jM.len_fL, jM.len_fR]; omega) | (simp [jM.len_nw, jM.len_sI, jM.len_sL, jM.len_sR, jM.len_fI, jM.len_fL, jM.len_fR, *]; omega)) rfl rfl ?_ ?_
                  · exact fun _ _ h => h
                  rintro _ k2 ⟨rfl, rfl⟩
                  refine J.iconst (pc' := 52) rfl rfl ?_
                  refine J.callV (pc' := 55) (t := 4) rfl MX0_addGiven ml_X0_106 iv_X0_addGiven (by decide) ⟨_, rfl, rfl⟩ (by first | assumption | (simp only [jM.tag_sI, jM.tag_sL, jM.tag_sR, jM.tag_fI, jM.tag_fL, jM.tag_fR]; assumption) | (simp [jM.tag_nw, jM.tag_sI, jM.tag_sL, jM.tag_sR, jM.tag_fI, jM.tag_fL, jM.tag_fR, *]; done)) (cz_addGiven (w := 1) hS2.1 (by omega)) rfl rfl (Nat.le_of_ble_eq_true rfl) (by first | omega | (exact R.r _ _) | (simp only [jM.len_sI, jM.len_sL, jM.len_sR, jM.len_fI, jM.len_fL, jM.len_fR]; omega) | (simp [jM.len_nw, jM.len_sI, jM.len_sL, jM.len_sR, jM.len_fI, jM.len_fL, jM.len_fR, *]; omega)) (by first | omega | (exact R.r _ _) | (simp only [jM.len_sI, jM.len_sL, jM.len_sR, jM.len_fI, jM.len_fL, jM.len_fR]; omega) | (simp [jM.len_nw, jM.len_sI, jM.len_sL, jM.len_sR, jM.len_fI, jM.len_fL, jM.len_fR, *]; omega)) (by first | omega | (exact R.r _ _) | (simp only [jM.len_sI, jM.len_sL, jM.len_sR, jM.len_fI, jM.len_fL, jM.len_fR]; omega) | (simp [jM.len_nw, jM.len_sI, jM.len_sL, jM.len_sR, jM.len_fI, jM.len_fL, jM.len_fR, *]; omega)) rfl rfl ?_ ?_
                  · exact fun _ _ h => h
                  rintro _ k3 ⟨rfl, p1, p2⟩
                  have O3 : onI k k3 (tfP σ) := O2.trans p1 (fun t9 a9 z => z.elim id (fun z => Or.inr (Or.inr (Or.inr z))))
                  have i3 : ∀ s : Int, liV k3 σ s = liV k2 σ s := fun s => p1.2.2.2.2 29 _ _ (by omega)
                  have c3' : ∀ j : Int, chV k3 σ j = chV k2 σ j := fun j => p1.2.2.2.2 24 _ _ (by omega)
                  have r3 : ∀ j : Int, trV k3 σ j = trV k2 σ j := fun j => p1.2.2.2.2 25 _ _ (by omega)
                  have li3 : ∀ s : Nat, 1 ≤ s → s < 11 → liV k3 σ s = liV k σ s := fun s h1 h2 => ((i3 s).trans (i2 s)).trans (o4 s h1 h2)
                  have hS3 : SB k3 σ V n := hS.on O3 li3
                  have gvt : ∀ (kk : jM), SB kk σ V n → ∀ s : Nat, s < 11 → gvV kk σ s ((5 - (d : Int)) * 21 + t) = cg V s (5 - (d : Int)) t := fun kk hkk s hs => by
                    have := hkk.2.2.1 s hs (5 - d) t (by omega) ht (by rw [show (((5 - d : Nat) : Int)) = 5 - (d : Int) by omega]; omega)
                    rw [show (((5 - d : Nat) : Int)) = 5 - (d : Int) by omega] at this
                    exact this
                  have tS6 : ∀ s : Nat, tS V (updT tr (5 - (d : Int)) t) s (6 - d) = tS V tr s (6 - (d + 1)) + cg V s (5 - (d : Int)) t := fun s => by
                    unfold tS
                    rw [show 6 - d = (6 - (d + 1)) + 1 by omega, Sm]
                    have e1 : Sm (fun j => cg V s j (updT tr (5 - (d : Int)) t j)) (6 - (d + 1)) = Sm (fun j => cg V s j (tr j)) (6 - (d + 1)) := Sm_cg (fun i hi => by unfold updT; rw [if_neg (by omega)])
                    rw [e1, show ((6 - (d + 1) : Nat) : Int) = 5 - (d : Int) by omega]
                    unfold updT
                    rw [if_pos rfl]
                  have e6 : Sm (updT tr (5 - (d : Int)) t) (6 - d) = Sm tr (6 - (d + 1)) + t := by
                    rw [show 6 - d = (6 - (d + 1)) + 1 by omega, Sm, Sm_upd (by omega)]
                    show _ + (if ((6 - (d + 1) : Nat) : Int) = 5 - (d : Int) then t else _) = _
                    rw [if_pos (by omega)]
                  have u3 : ∀ s : Nat, s < 11 → suV k3 σ s = tS V (updT tr (5 - (d : Int)) t) s (6 - d) := fun s hs => by
                    rw [p2 s hs, u2 s hs, hU s hs, gvt k2 hS2 s hs, tS6 s]
                    omega
                  have s03 := hS3.1.1
                  have recu := ih (by omega) (L - t) (updT tr (5 - (d : Int)) t) a1 k3 (by omega) (by omega) (fun j hj => by
                    unfold updT
                    by_cases z : (j : Int) = 5 - (d : Int)
                    · rw [if_pos z, z]; omega
                    · rw [if_neg z]; exact htr j (by omega)) hS3 ⟨((i3 0).trans (i2 0)).trans o5.1, o5.2.1.imp id (fun z j hj => ((c3' j).trans (c2' j)).trans (z j hj)), o5.2.2⟩ (fun j hj => (r3 j).trans (r2 j hj)) u3
                  rw [show (6 : Int) - (d : Int) = 5 - (d : Int) + 1 by omega] at recu
                  first | refine J.aload_n (pc' := 56) rfl rfl rfl ?_ | refine J.aload_nN (pc' := 56) rfl rfl rfl ?_
                  refine J.iload_n (pc' := 57) rfl rfl rfl ?_
                  refine J.iconst (pc' := 58) rfl rfl ?_
                  refine J.iadd (pc' := 59) rfl rfl ?_
                  refine J.iload_n (pc' := 60) rfl rfl rfl ?_
                  refine J.iload_n (pc' := 61) rfl rfl rfl ?_
                  refine J.isub (pc' := 62) rfl rfl ?_
                  refine J.callV (pc' := 65) (t := 4) rfl MX0_tryFrom ml_X0_53 iv_X0_tryFrom (by decide) ⟨_, rfl, rfl⟩ (by first | assumption | (simp only [jM.tag_sI, jM.tag_sL, jM.tag_sR, jM.tag_fI, jM.tag_fL, jM.tag_fR]; assumption) | (simp [jM.tag_nw, jM.tag_sI, jM.tag_sL, jM.tag_sR, jM.tag_fI, jM.tag_fL, jM.tag_fR, *]; done)) recu rfl rfl (Nat.le_of_ble_eq_true rfl) (by first | omega | (exact R.r _ _) | (simp only [jM.len_sI, jM.len_sL, jM.len_sR, jM.len_fI, jM.len_fL, jM.len_fR]; omega) | (simp [jM.len_nw, jM.len_sI, jM.len_sL, jM.len_sR, jM.len_fI, jM.len_fL, jM.len_fR, *]; omega)) (by first | omega | (exact R.r _ _) | (simp only [jM.len_sI, jM.len_sL, jM.len_sR, jM.len_fI, jM.len_fL, jM.len_fR]; omega) | (simp [jM.len_nw, jM.len_sI, jM.len_sL, jM.len_sR, jM.len_fI, jM.len_fL, jM.len_fR, *]; omega)) (by first | omega | (exact R.r _ _) | (simp only [jM.len_sI, jM.len_sL, jM.len_sR, jM.len_fI, jM.len_fL, jM.len_fR]; omega) | (simp [jM.len_nw, jM.len_sI, jM.len_sL, jM.len_sR, jM.len_fI, jM.len_fL, jM.len_fR, *]; omega)) rfl rfl ?_ ?_
                  · exact fun _ _ h => h
                  rintro _ k4 ⟨rfl, w1, w2, w3, w4, w5⟩
                  have O4 : onI k k4 (tfP σ) := O3.trans w1 (fun t9 a9 z => z.elim id id)
                  have li4 : ∀ s : Nat, 1 ≤ s → s < 11 → liV k4 σ s = liV k σ s := fun s h1 h2 => (w4 s h1 h2).trans (li3 s h1 h2)
                  have hS4 : SB k4 σ V n := hS.on O4 li4
                  have s04 := hS4.1.1
                  first | refine J.aload_n (pc' := 66) rfl rfl rfl ?_ | refine J.aload_nN (pc' := 66) rfl rfl rfl ?_
                  refine J.iload_n (pc' := 67) rfl rfl rfl ?_
                  refine J.iload_n (pc' := 68) rfl rfl rfl ?_
                  refine J.callS (pc' := 71) rfl MX0_at ml_X0_78 is_X0_at cz_at rfl rfl (Nat.le_of_ble_eq_true rfl) (by first | omega | (exact R.r _ _) | (simp only [jM.len_sI, jM.len_sL, jM.len_sR, jM.len_fI, jM.len_fL, jM.len_fR]; omega) | (simp [jM.len_nw, jM.len_sI, jM.len_sL, jM.len_sR, jM.len_fI, jM.len_fL, jM.len_fR, *]; omega)) (by first | omega | (exact R.r _ _) | (simp only [jM.len_sI, jM.len_sL, jM.len_sR, jM.len_fI, jM.len_fL, jM.len_fR]; omega) | (simp [jM.len_nw, jM.len_sI, jM.len_sL, jM.len_sR, jM.len_fI, jM.len_fL, jM.len_fR, *]; omega)) (by first | omega | (exact R.r _ _) | (simp only [jM.len_sI, jM.len_sL, jM.len_sR, jM.len_fI, jM.len_fL, jM.len_fR]; omega) | (simp [jM.len_nw, jM.len_sI, jM.len_sL, jM.len_sR, jM.len_fI, jM.len_fL, jM.len_fR, *]; omega)) rfl rfl ?_ ?_
                  · exact fun _ _ h => h
                  rintro _ k4 ⟨rfl, rfl⟩
                  refine J.iconst (pc' := 72) rfl rfl ?_
                  refine J.callV (pc' := 75) (t := 4) rfl MX0_addGiven ml_X0_106 iv_X0_addGiven (by decide) ⟨_, rfl, rfl⟩ (by first | assumption | (simp only [jM.tag_sI, jM.tag_sL, jM.tag_sR, jM.tag_fI, jM.tag_fL, jM.tag_fR]; assumption) | (simp [jM.tag_nw, jM.tag_sI, jM.tag_sL, jM.tag_sR, jM.tag_fI, jM.tag_fL, jM.tag_fR, *]; done)) (cz_addGiven (w := -1) hS4.1 (by omega)) rfl rfl (Nat.le_of_ble_eq_true rfl) (by first | omega | (exact R.r _ _) | (simp only [jM.len_sI, jM.len_sL, jM.len_sR, jM.len_fI, jM.len_fL, jM.len_fR]; omega) | (simp [jM.len_nw, jM.len_sI, jM.len_sL, jM.len_sR, jM.len_fI, jM.len_fL, jM.len_fR, *]; omega)) (by first | omega | (exact R.r _ _) | (simp only [jM.len_sI, jM.len_sL, jM.len_sR, jM.len_fI, jM.len_fL, jM.len_fR]; omega) | (simp [jM.len_nw, jM.len_sI, jM.len_sL, jM.len_sR, jM.len_fI, jM.len_fL, jM.len_fR, *]; omega)) (by first | omega | (exact R.r _ _) | (simp only [jM.len_sI, jM.len_sL, jM.len_sR, jM.len_fI, jM.len_fL, jM.len_fR]; omega) | (simp [jM.len_nw, jM.len_sI, jM.len_sL, jM.len_sR, jM.len_fI, jM.len_fL, jM.len_fR, *]; omega)) rfl rfl ?_ ?_
                  · exact fun _ _ h => h
                  rintro _ k5 ⟨rfl, v1, v2⟩
                  have O5 : onI k k5 (tfP σ) := O4.trans v1 (fun t9 a9 z => z.elim id (fun z => Or.inr (Or.inr (Or.inr z))))
                  have i5 : ∀ s : Int, liV k5 σ s = liV k4 σ s := fun s => v1.2.2.2.2 29 _ _ (by omega)
                  have c5' : ∀ j : Int, chV k5 σ j = chV k4 σ j := fun j => v1.2.2.2.2 24 _ _ (by omega)
                  have r5 : ∀ j : Int, trV k5 σ j = trV k4 σ j := fun j => v1.2.2.2.2 25 _ _ (by omega)
                  refine J.iinc (pc' := 78) rfl rfl rfl (by decide) ?_
                  refine J.goto (tgt := 23) rfl rfl ?_
                  rw [itF_s]
                  refine ihr (t + 1) _ k5 (by omega) (by omega) O5 (fun s hs => ?_) (fun j hj => ?_) (fun s h1 h2 => (i5 s).trans (li4 s h1 h2)) ⟨(i5 0).trans w5.1, w5.2.1.imp id (fun z j hj => (c5' j).trans (z j hj)), w5.2.2⟩ _ ⟨rfl, rfl, rfl, rfl, trivial⟩
                  · rw [v2 s hs, w2 s hs, u3 s hs, gvt k4 hS4 s hs, tS6 s, hU s hs]
                    omega
                  · rw [r5 j, w3 j (by omega)]
                    unfold updT
                    rw [if_neg (by omega)]
          exact key _ 0 a k (by omega) (by omega) onI.rf (fun _ _ => rfl) hT (fun _ _ _ => rfl) hA _ ⟨rfl, rfl, rfl, rfl, trivial⟩
        · omega
      · omega
end TF

