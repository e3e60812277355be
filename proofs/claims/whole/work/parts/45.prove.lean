theorem ediv_b {a b A : Int} (h1 : -A ≤ a) (h2 : a ≤ A) (hA : 0 ≤ A) (hb : 1 ≤ b) : -A ≤ a / b ∧ a / b ≤ A := by
  have h3 : A * 1 ≤ A * b := Int.mul_le_mul_of_nonneg_left hb hA
  have h4 : -A * b = -(A * b) := Int.neg_mul A b
  constructor
  · exact Int.le_ediv_of_mul_le (by omega) (by omega)
  · exact Int.ediv_le_of_le_mul (by omega) (by omega)
/-- what a portion may be, of melt i, metal m -/
def pvL (V : VV) (i m : Int) : Int := Sm (fun k => V 154 (20 * i + k) * V 156 (5 * (20 * i + k) + m)) (V 153 i).toNat
def pvH (V : VV) (i m : Int) : Int := Sm (fun k => V 154 (20 * i + k) * V 157 (5 * (20 * i + k) + m)) (V 153 i).toNat
def pvA (V : VV) (i m lo k : Int) : Int := -(-(tonsP V i * lo - (pvH V i m - V 154 (20 * i + k) * V 157 (5 * (20 * i + k) + m))) / V 154 (20 * i + k))
def pvZ (V : VV) (i m hi k : Int) : Int := (tonsP V i * hi - (pvL V i m - V 154 (20 * i + k) * V 156 (5 * (20 * i + k) + m))) / V 154 (20 * i + k)
def nLo (V : VV) (i m lo k : Int) : Int := max (pvA V i m lo k) (V 156 (5 * (20 * i + k) + m))
def nHi (V : VV) (i m hi k : Int) : Int := min (pvZ V i m hi k) (V 157 (5 * (20 * i + k) + m))
def pvOk (V : VV) (i m lo hi : Int) : Prop := ∀ k : Int, 0 ≤ k → k < V 153 i → nLo V i m lo k ≤ nHi V i m hi k
def pvF (V : VV) (i m : Int) (nl nh : Int → Int) : Nat → VV
  | 0 => V
  | k + 1 => if V 155 (20 * i + k) = -1 then jU (jU (pvF V i m nl nh k) 156 (5 * (20 * i + k) + m) (nl k)) 157 (5 * (20 * i + k) + m) (nh k) else prV (jU (jU (pvF V i m nl nh k) 156 (5 * (20 * i + k) + m) (nl k)) 157 (5 * (20 * i + k) + m) (nh k)) (V 127 (V 155 (20 * i + k))) (V 128 (V 155 (20 * i + k))) m (nl k) (nh k)
/-- all portions have tons -/
def isPt (V : VV) : Prop := ∀ i k : Int, 0 ≤ i → i < V 16 52 → 0 ≤ k → k < V 153 i → 1 ≤ V 154 (20 * i + k)
def scp (W V : VV) : Prop := ∀ t i, t ≠ 158 → t ≠ 159 → W t i = V t i
abbrev pvQ (β : jB) (V : VV) (i m lo hi : Int) : Option Value → jM → Prop := fun r h' => ∃ W, isR W ∧ scp W V ∧ ((pvOk V i m lo hi ∧ r = some (.int (jI 1)) ∧ h' = jP β (pvF W i m (nLo V i m lo) (nHi V i m hi) (V 153 i).toNat)) ∨ (¬ pvOk V i m lo hi ∧ r = some (.int (jI 0)) ∧ h' = jP β W))
def proveQ (β : jB) (V : VV) (i m lo hi : Int) : Option Value → jM → Prop := fun r h' => if 0 ≤ i ∧ i < V 16 52 then (if (0 ≤ m ∧ m < 5) ∧ 0 ≤ lo ∧ lo ≤ hi ∧ hi ≤ 10000 then (∃ W, isR W ∧ scp W V ∧ ((pvOk V i m lo hi ∧ r = some (.int (jI 1)) ∧ h' = jP β (pvF W i m (nLo V i m lo) (nHi V i m hi) (V 153 i).toNat)) ∨ (¬ pvOk V i m lo hi ∧ r = some (.int (jI 0)) ∧ h' = jP β W))) else r = some (.int (jI 0)) ∧ h' = jP β (jU V 16 0 2)) else r = some (.int (jI 0)) ∧ h' = jP β (jU V 16 0 1)
section M16
variable {γ : jG} {β : jB} {V : VV}
theorem cm_floor {a b : Int} {h : jM} (ha : -1000000000000 ≤ a ∧ a ≤ 1000000000000) (hb : 0 < b ∧ b ≤ 1000000) : CT γ mX12_floor 0 0 0 [.long (jL a), .long (jL b)] h (fun r h' => r = some (.long (jL (a / b))) ∧ h' = h) X0 := by
  have e1 := Int.tdiv_eq_ediv (a := a) (b := b)
  have e2 := Int.mul_tdiv_add_tmod a b
  have e3 := Int.mul_ediv_add_emod a b
  have e4 := Int.emod_nonneg a (show b ≠ 0 by omega)
  have e5 := Int.emod_lt_of_pos a hb.1
  have hs : b.sign = 1 := Int.sign_eq_one_of_pos hb.1
  have eb := ediv_b (A := 1000000000000) ha.1 ha.2 (by omega) (show 1 ≤ b by omega)
  refine CT.of MX12_floor (Nat.le_of_ble_eq_true rfl) ?_
  show J γ mX12_floor 0 0 0 0 0 h 0 [(0, .long (jL a)), (2, .long (jL b))] [] _ _
  refine J.lload_n (pc' := 1) rfl rfl rfl ?_
  refine J.lconst (pc' := 2) rfl rfl ?_
  refine J.lcmp (pc' := 3) rfl rfl (by first | omega | (exact R.r _ _) | (simp only [jM.len_sI, jM.len_sL, jM.len_sR, jM.len_fI, jM.len_fL, jM.len_fR]; omega) | (simp [jM.len_nw, jM.len_sI, jM.len_sL, jM.len_sR, jM.len_fI, jM.len_fL, jM.len_fR, *]; omega)) (by first | omega | (exact R.r _ _) | (simp only [jM.len_sI, jM.len_sL, jM.len_sR, jM.len_fI, jM.len_fL, jM.len_fR]; omega) | (simp [jM.len_nw, jM.len_sI, jM.len_sL, jM.len_sR, jM.len_fI, jM.len_fL, jM.len_fR, *]; omega)) ?_
  by_cases hn : 0 ≤ a
  · rw [if_pos (Or.inl hn), Int.add_zero] at e1
    refine J.if_ge (tgt := 14) (pc' := 6) rfl rfl rfl (by first | omega | (exact R.r _ _) | (simp only [jM.len_sI, jM.len_sL, jM.len_sR, jM.len_fI, jM.len_fL, jM.len_fR]; omega) | (simp [jM.len_nw, jM.len_sI, jM.len_sL, jM.len_sR, jM.len_fI, jM.len_fL, jM.len_fR, *]; omega)) (fun c1 => ?_) (fun c1 => ?_)
    · refine J.lload_n (pc' := 15) rfl rfl rfl ?_
      refine J.lload_n (pc' := 16) rfl rfl rfl ?_
      refine J.ldiv (pc' := 17) rfl rfl (by first | omega | (exact R.r _ _) | (simp only [jM.len_sI, jM.len_sL, jM.len_sR, jM.len_fI, jM.len_fL, jM.len_fR]; omega) | (simp [jM.len_nw, jM.len_sI, jM.len_sL, jM.len_sR, jM.len_fI, jM.len_fL, jM.len_fR, *]; omega)) (by first | omega | (exact R.r _ _) | (simp only [jM.len_sI, jM.len_sL, jM.len_sR, jM.len_fI, jM.len_fL, jM.len_fR]; omega) | (simp [jM.len_nw, jM.len_sI, jM.len_sL, jM.len_sR, jM.len_fI, jM.len_fL, jM.len_fR, *]; omega)) (by first | omega | (exact R.r _ _) | (simp only [jM.len_sI, jM.len_sL, jM.len_sR, jM.len_fI, jM.len_fL, jM.len_fR]; omega) | (simp [jM.len_nw, jM.len_sI, jM.len_sL, jM.len_sR, jM.len_fI, jM.len_fL, jM.len_fR, *]; omega)) ?_
      refine J.goto (tgt := 25) rfl rfl ?_
      refine J.lret rfl rfl (by first | omega | (exact R.r _ _) | (simp only [jM.len_sI, jM.len_sL, jM.len_sR, jM.len_fI, jM.len_fL, jM.len_fR]; omega) | (simp [jM.len_nw, jM.len_sI, jM.len_sL, jM.len_sR, jM.len_fI, jM.len_fL, jM.len_fR, *]; omega)) (by first | omega | (exact R.r _ _) | (simp only [jM.len_sI, jM.len_sL, jM.len_sR, jM.len_fI, jM.len_fL, jM.len_fR]; omega) | (simp [jM.len_nw, jM.len_sI, jM.len_sL, jM.len_sR, jM.len_fI, jM.len_fL, jM.len_fR, *]; omega)) ?_
      exact ⟨by rw [e1], rfl⟩
    · exfalso
      revert c1
      split
      · simp
      · rw [if_pos (by omega)]; simp
  · refine J.if_ge (tgt := 14) (pc' := 6) rfl rfl rfl (by first | omega | (exact R.r _ _) | (simp only [jM.len_sI, jM.len_sL, jM.len_sR, jM.len_fI, jM.len_fL, jM.len_fR]; omega) | (simp [jM.len_nw, jM.len_sI, jM.len_sL, jM.len_sR, jM.len_fI, jM.len_fL, jM.len_fR, *]; omega)) (fun c1 => ?_) (fun c1 => ?_)
    · exfalso
      revert c1
      rw [if_neg (by omega), if_neg (by omega)]
      decide
    · have hd : b ∣ a ↔ a % b = 0 := Int.dvd_iff_emod_eq_zero
      by_cases hv : b ∣ a
      · rw [if_pos (Or.inr hv), Int.add_zero] at e1
        have h00 := hd.mp hv
        have hz : a.tmod b = 0 := by rw [e1] at e2; omega
        refine J.lload_n (pc' := 7) rfl rfl rfl ?_
        refine J.lload_n (pc' := 8) rfl rfl rfl ?_
        refine J.lrem (pc' := 9) rfl rfl (by first | omega | (exact R.r _ _) | (simp only [jM.len_sI, jM.len_sL, jM.len_sR, jM.len_fI, jM.len_fL, jM.len_fR]; omega) | (simp [jM.len_nw, jM.len_sI, jM.len_sL, jM.len_sR, jM.len_fI, jM.len_fL, jM.len_fR, *]; omega)) (by first | omega | (exact R.r _ _) | (simp only [jM.len_sI, jM.len_sL, jM.len_sR, jM.len_fI, jM.len_fL, jM.len_fR]; omega) | (simp [jM.len_nw, jM.len_sI, jM.len_sL, jM.len_sR, jM.len_fI, jM.len_fL, jM.len_fR, *]; omega)) (by first | omega | (exact R.r _ _) | (simp only [jM.len_sI, jM.len_sL, jM.len_sR, jM.len_fI, jM.len_fL, jM.len_fR]; omega) | (simp [jM.len_nw, jM.len_sI, jM.len_sL, jM.len_sR, jM.len_fI, jM.len_fL, jM.len_fR, *]; omega)) ?_
        rw [hz]
        refine J.lconst (pc' := 10) rfl rfl ?_
        refine J.lcmp (pc' := 11) rfl rfl (by first | omega | (exact R.r _ _) | (simp only [jM.len_sI, jM.len_sL, jM.len_sR, jM.len_fI, jM.len_fL, jM.len_fR]; omega) | (simp [jM.len_nw, jM.len_sI, jM.len_sL, jM.len_sR, jM.len_fI, jM.len_fL, jM.len_fR, *]; omega)) (by first | omega | (exact R.r _ _) | (simp only [jM.len_sI, jM.len_sL, jM.len_sR, jM.len_fI, jM.len_fL, jM.len_fR]; omega) | (simp [jM.len_nw, jM.len_sI, jM.len_sL, jM.len_sR, jM.len_fI, jM.len_fL, jM.len_fR, *]; omega)) ?_
        refine J.if_ne (tgt := 20) (pc' := 14) rfl rfl rfl (by first | omega | (exact R.r _ _) | (simp only [jM.len_sI, jM.len_sL, jM.len_sR, jM.len_fI, jM.len_fL, jM.len_fR]; omega) | (simp [jM.len_nw, jM.len_sI, jM.len_sL, jM.len_sR, jM.len_fI, jM.len_fL, jM.len_fR, *]; omega)) (fun c2 => ?_) (fun c2 => ?_)
        · exfalso; revert c2; simp
        · refine J.lload_n (pc' := 15) rfl rfl rfl ?_
          refine J.lload_n (pc' := 16) rfl rfl rfl ?_
          refine J.ldiv (pc' := 17) rfl rfl (by first | omega | (exact R.r _ _) | (simp only [jM.len_sI, jM.len_sL, jM.len_sR, jM.len_fI, jM.len_fL, jM.len_fR]; omega) | (simp [jM.len_nw, jM.len_sI, jM.len_sL, jM.len_sR, jM.len_fI, jM.len_fL, jM.len_fR, *]; omega)) (by first | omega | (exact R.r _ _) | (simp only [jM.len_sI, jM.len_sL, jM.len_sR, jM.len_fI, jM.len_fL, jM.len_fR]; omega) | (simp [jM.len_nw, jM.len_sI, jM.len_sL, jM.len_sR, jM.len_fI, jM.len_fL, jM.len_fR, *]; omega)) (by first | omega | (exact R.r _ _) | (simp only [jM.len_sI, jM.len_sL, jM.len_sR, jM.len_fI, jM.len_fL, jM.len_fR]; omega) | (simp [jM.len_nw, jM.len_sI, jM.len_sL, jM.len_sR, jM.len_fI, jM.len_fL, jM.len_fR, *]; omega)) ?_
          refine J.goto (tgt := 25) rfl rfl ?_
          refine J.lret rfl rfl (by first | omega | (exact R.r _ _) | (simp only [jM.len_sI, jM.len_sL, jM.len_sR, jM.len_fI, jM.len_fL, jM.len_fR]; omega) | (simp [jM.len_nw, jM.len_sI, jM.len_sL, jM.len_sR, jM.len_fI, jM.len_fL, jM.len_fR, *]; omega)) (by first | omega | (exact R.r _ _) | (simp only [jM.len_sI, jM.len_sL, jM.len_sR, jM.len_fI, jM.len_fL, jM.len_fR]; omega) | (simp [jM.len_nw, jM.len_sI, jM.len_sL, jM.len_sR, jM.len_fI, jM.len_fL, jM.len_fR, *]; omega)) ?_
          exact ⟨by rw [e1], rfl⟩
      · rw [if_neg (by rintro (q | q); exact hn q; exact hv q), hs] at e1
        have h00 : a % b ≠ 0 := fun q => hv (hd.mpr q)
        have hz : a.tmod b = a % b - b := by
          rw [e1, Int.mul_add, Int.mul_one] at e2
          omega
        refine J.lload_n (pc' := 7) rfl rfl rfl ?_
        refine J.lload_n (pc' := 8) rfl rfl rfl ?_
        refine J.lrem (pc' := 9) rfl rfl (by first | omega | (exact R.r _ _) | (simp only [jM.len_sI, jM.len_sL, jM.len_sR, jM.len_fI, jM.len_fL, jM.len_fR]; omega) | (simp [jM.len_nw, jM.len_sI, jM.len_sL, jM.len_sR, jM.len_fI, jM.len_fL, jM.len_fR, *]; omega)) (by first | omega | (exact R.r _ _) | (simp only [jM.len_sI, jM.len_sL, jM.len_sR, jM.len_fI, jM.len_fL, jM.len_fR]; omega) | (simp [jM.len_nw, jM.len_sI, jM.len_sL, jM.len_sR, jM.len_fI, jM.len_fL, jM.len_fR, *]; omega)) (by first | omega | (exact R.r _ _) | (simp only [jM.len_sI, jM.len_sL, jM.len_sR, jM.len_fI, jM.len_fL, jM.len_fR]; omega) | (simp [jM.len_nw, jM.len_sI, jM.len_sL, jM.len_sR, jM.len_fI, jM.len_fL, jM.len_fR, *]; omega)) ?_
        rw [hz]
        refine J.lconst (pc' := 10) rfl rfl ?_
        refine J.lcmp (pc' := 11) rfl rfl (by first | omega | (exact R.r _ _) | (simp only [jM.len_sI, jM.len_sL, jM.len_sR, jM.len_fI, jM.len_fL, jM.len_fR]; omega) | (simp [jM.len_nw, jM.len_sI, jM.len_sL, jM.len_sR, jM.len_fI, jM.len_fL, jM.len_fR, *]; omega)) (by first | omega | (exact R.r _ _) | (simp only [jM.len_sI, jM.len_sL, jM.len_sR, jM.len_fI, jM.len_fL, jM.len_fR]; omega) | (simp [jM.len_nw, jM.len_sI, jM.len_sL, jM.len_sR, jM.len_fI, jM.len_fL, jM.len_fR, *]; omega)) ?_
        refine J.if_ne (tgt := 20) (pc' := 14) rfl rfl rfl (by first | omega | (exact R.r _ _) | (simp only [jM.len_sI, jM.len_sL, jM.len_sR, jM.len_fI, jM.len_fL, jM.len_fR]; omega) | (simp [jM.len_nw, jM.len_sI, jM.len_sL, jM.len_sR, jM.len_fI, jM.len_fL, jM.len_fR, *]; omega)) (fun c2 => ?_) (fun c2 => ?_)
        · refine J.lload_n (pc' := 21) rfl rfl rfl ?_
          refine J.lload_n (pc' := 22) rfl rfl rfl ?_
          refine J.ldiv (pc' := 23) rfl rfl (by first | omega | (exact R.r _ _) | (simp only [jM.len_sI, jM.len_sL, jM.len_sR, jM.len_fI, jM.len_fL, jM.len_fR]; omega) | (simp [jM.len_nw, jM.len_sI, jM.len_sL, jM.len_sR, jM.len_fI, jM.len_fL, jM.len_fR, *]; omega)) (by first | omega | (exact R.r _ _) | (simp only [jM.len_sI, jM.len_sL, jM.len_sR, jM.len_fI, jM.len_fL, jM.len_fR]; omega) | (simp [jM.len_nw, jM.len_sI, jM.len_sL, jM.len_sR, jM.len_fI, jM.len_fL, jM.len_fR, *]; omega)) (by first | omega | (exact R.r _ _) | (simp only [jM.len_sI, jM.len_sL, jM.len_sR, jM.len_fI, jM.len_fL, jM.len_fR]; omega) | (simp [jM.len_nw, jM.len_sI, jM.len_sL, jM.len_sR, jM.len_fI, jM.len_fL, jM.len_fR, *]; omega)) ?_
          refine J.lconst (pc' := 24) rfl rfl ?_
          refine J.lsub (pc' := 25) rfl rfl ?_
          refine J.lret rfl rfl (by first | omega | (exact R.r _ _) | (simp only [jM.len_sI, jM.len_sL, jM.len_sR, jM.len_fI, jM.len_fL, jM.len_fR]; omega) | (simp [jM.len_nw, jM.len_sI, jM.len_sL, jM.len_sR, jM.len_fI, jM.len_fL, jM.len_fR, *]; omega)) (by first | omega | (exact R.r _ _) | (simp only [jM.len_sI, jM.len_sL, jM.len_sR, jM.len_fI, jM.len_fL, jM.len_fR]; omega) | (simp [jM.len_nw, jM.len_sI, jM.len_sL, jM.len_sR, jM.len_fI, jM.len_fL, jM.len_fR, *]; omega)) ?_
          exact ⟨by rw [e1]; congr 3; omega, rfl⟩
        · exfalso
          revert c2
          rw [if_neg (by omega), if_neg (by omega)]
          decide
theorem pvF_o {i m : Int} {nl nh : Int → Int} {r : Nat} {j : Int} (hr : r ≠ 106 ∧ r ≠ 107 ∧ r ≠ 108 ∧ r ≠ 156 ∧ r ≠ 157) : ∀ k, pvF V i m nl nh k r j = V r j := by
  intro k
  induction k with
  | zero => rfl
  | succ k ih =>
    rw [pvF]
    split
    · rw [jU_o _ hr.2.2.2.2, jU_o _ hr.2.2.2.1, ih]
    · unfold prV
      rw [jU_o _ hr.2.2.1, jU_o _ hr.2.1, jU_o _ hr.1, jU_o _ hr.2.2.2.2, jU_o _ hr.2.2.2.1, ih]
theorem isR.pr {s k m lo hi : Int} (R : isR V) (h1 : 0 ≤ lo ∧ lo ≤ 10000) (h2 : 0 ≤ hi ∧ hi ≤ 10000) : isR (prV V s k m lo hi) := by
  have hb := low_b (s := s) (k := k) (m := m) R
  exact ((R.up (fun _ => by show (0 : Int) ≤ (3 * lowOf V s k m + lo) / 4 ∧ (3 * lowOf V s k m + lo) / 4 ≤ 10000; omega)).up (fun _ => by show (0 : Int) ≤ (3 * highOf V s k m + hi + 3) / 4 ∧ (3 * highOf V s k m + hi + 3) / 4 ≤ 10000; omega)).up (fun _ => by show (0 : Int) ≤ 1 ∧ (1 : Int) ≤ 1; decide)
theorem isR.pvFR {i m : Int} {nl nh : Int → Int} (R : isR V) : ∀ k : Nat, (∀ j : Nat, j < k → (0 ≤ nl j ∧ nl j ≤ 10000) ∧ (0 ≤ nh j ∧ nh j ≤ 10000)) → isR (pvF V i m nl nh k) := by
  intro k
  induction k with
  | zero => intro _; exact R
  | succ k ih =>
    intro hk
    have h1 := ih (fun j hj => hk j (by omega))
    have h2 := hk k (by omega)
    have h3 := (h1.up (t := 156) (i := 5 * (20 * i + k) + m) (x := nl k) (fun _ => h2.1)).up (t := 157) (i := 5 * (20 * i + k) + m) (x := nh k) (fun _ => h2.2)
    rw [pvF]
    split
    · exact h3
    · exact h3.pr h2.1 h2.2
end M16
abbrev pvL1 (β : jB) (i m lo hi n a b c k : Int) : List (Nat × Value) := [(0, .ref (β.2 16)), (1, .int (jI i)), (2, .int (jI m)), (3, .int (jI lo)), (4, .int (jI hi)), (5, .int (jI n)), (6, .long (jL a)), (8, .long (jL b)), (10, .long (jL c)), (12, .int (jI k))]
abbrev pvL2 (β : jB) (i m lo hi n a b c k : Int) (p : Int) : List (Nat × Value) := [(0, .ref (β.2 16)), (1, .int (jI i)), (2, .int (jI m)), (3, .int (jI lo)), (4, .int (jI hi)), (5, .int (jI n)), (6, .long (jL a)), (8, .long (jL b)), (10, .long (jL c)), (12, .int (jI k)), (13, .int (jI p))]
abbrev pvL3 (β : jB) (i m lo hi n a b c k : Int) (p l h : Int) : List (Nat × Value) := [(0, .ref (β.2 16)), (1, .int (jI i)), (2, .int (jI m)), (3, .int (jI lo)), (4, .int (jI hi)), (5, .int (jI n)), (6, .long (jL a)), (8, .long (jL b)), (10, .long (jL c)), (12, .int (jI k)), (13, .int (jI p)), (14, .int (jI l)), (15, .int (jI h))]
abbrev pvL4 (β : jB) (i m lo hi n a b c k : Int) (p l h x : Int) : List (Nat × Value) := [(0, .ref (β.2 16)), (1, .int (jI i)), (2, .int (jI m)), (3, .int (jI lo)), (4, .int (jI hi)), (5, .int (jI n)), (6, .long (jL a)), (8, .long (jL b)), (10, .long (jL c)), (12, .int (jI k)), (13, .int (jI p)), (14, .int (jI l)), (15, .int (jI h)), (16, .long (jL x))]
abbrev pvL5 (β : jB) (i m lo hi n a b c k : Int) (p l h x y : Int) : List (Nat × Value) := [(0, .ref (β.2 16)), (1, .int (jI i)), (2, .int (jI m)), (3, .int (jI lo)), (4, .int (jI hi)), (5, .int (jI n)), (6, .long (jL a)), (8, .long (jL b)), (10, .long (jL c)), (12, .int (jI k)), (13, .int (jI p)), (14, .int (jI l)), (15, .int (jI h)), (16, .long (jL x)), (18, .long (jL y))]
section M17
variable {γ : jG} {β : jB} {V : VV}
set_option maxHeartbeats 8000000 in
theorem cm_prove {i m lo hi : Int} (B : isB β) (R : isR V) (P : isPt V) (hi' : r32 i) (hm' : r32 m) (hl' : r32 lo) (hh' : r32 hi) : CT γ mX12_prove 3 0 0 [.ref (β.2 16), .int (jI i), .int (jI m), .int (jI lo), .int (jI hi)] (jP β V) (proveQ β (jU V 16 0 0) i m lo hi) X0 := by
  have P : isPt (jU V 16 0 0) := P
  refine CT.of MX12_prove (Nat.le_of_ble_eq_true rfl) ?_
  show J γ mX12_prove 3 0 0 0 0 (jP β V) 0 [(0, .ref (β.2 16)), (1, .int (jI i)), (2, .int (jI m)), (3, .int (jI lo)), (4, .int (jI hi))] [] _ _
  first | refine J.aload_n (pc' := 1) rfl rfl rfl ?_ | refine J.aload_nN (pc' := 1) rfl rfl rfl ?_
  refine J.iconst (pc' := 2) rfl rfl ?_
  refine J.mpI (pc' := 5) (j := 0) B rfl fl_X12_1 rfl rfl rfl rfl ?_
  have h0 := jU_same V 16 0 0
  replace R : isR (jU V 16 0 0) := R.up (fun _ => by decide)
  generalize jU V 16 0 0 = V at h0 R P ⊢
  have hf := R.f
  have rest : (0 ≤ i ∧ i < V 16 52) → ((0 ≤ m ∧ m < 5) ∧ 0 ≤ lo ∧ lo ≤ hi ∧ hi ≤ 10000) → J γ mX12_prove 3 0 0 0 0 (jP β V) 30 [(0, .ref (β.2 16)), (1, .int (jI i)), (2, .int (jI m)), (3, .int (jI lo)), (4, .int (jI hi))] [] (proveQ β V i m lo hi) X0 := by
    intro b1 b2
    refine J.widenQ (Q := pvQ β V i m lo hi) (X := X0) (fun r h' q => by unfold proveQ; rw [if_pos b1, if_pos b2]; exact q) (fun _ _ h => h) ?_
    have r3 := R 153 i rfl
    simp [jLo, jHi] at r3
    have w4 : ∀ k : Int, 0 ≤ k → k < V 153 i → 1 ≤ V 154 (20 * i + k) ∧ V 154 (20 * i + k) ≤ 20 := fun k k1 k2 => by
      have h1 := P i k b1.1 b1.2 k1 k2
      have h2 := R 154 (20 * i + k) rfl
      simp [jLo, jHi] at h2
      omega
    have w5 : ∀ j, (0 ≤ V 156 j ∧ V 156 j ≤ 10000) ∧ (0 ≤ V 157 j ∧ V 157 j ≤ 10000) := fun j => by
      have h1 := R 156 j rfl
      have h2 := R 157 j rfl
      simp [jLo, jHi] at h1 h2
      exact ⟨h1, h2⟩
    have sT : 0 ≤ tonsP V i ∧ tonsP V i ≤ 400 := by
      have h := Sm_le (f := fun p => V 154 (20 * i + p)) (n := (V 153 i).toNat) (a := 0) (b := 20) (fun j hj => by have := w4 j (by omega) (by omega); show 0 ≤ V 154 (20 * i + j) ∧ V 154 (20 * i + j) ≤ 20; omega)
      unfold tonsP
      omega
    have p4 : ∀ k : Int, 0 ≤ k → k < V 153 i → (0 ≤ V 154 (20 * i + k) * V 156 (5 * (20 * i + k) + m) ∧ V 154 (20 * i + k) * V 156 (5 * (20 * i + k) + m) ≤ 200000) ∧ (0 ≤ V 154 (20 * i + k) * V 157 (5 * (20 * i + k) + m) ∧ V 154 (20 * i + k) * V 157 (5 * (20 * i + k) + m) ≤ 200000) := fun k k1 k2 => by
      have h1 := w4 k k1 k2
      have h2 := mul_b (a := V 154 (20 * i + k)) (A := 20) (C := 10000) (by omega) (w5 (5 * (20 * i + k) + m)).1
      have h3 := mul_b (a := V 154 (20 * i + k)) (A := 20) (C := 10000) (by omega) (w5 (5 * (20 * i + k) + m)).2
      omega
    have sL : 0 ≤ pvL V i m ∧ pvL V i m ≤ 4000000 := by
      have h := Sm_le (f := fun k => V 154 (20 * i + k) * V 156 (5 * (20 * i + k) + m)) (n := (V 153 i).toNat) (a := 0) (b := 200000) (fun j hj => (p4 j (by omega) (by omega)).1)
      unfold pvL
      omega
    have sH : 0 ≤ pvH V i m ∧ pvH V i m ≤ 4000000 := by
      have h := Sm_le (f := fun k => V 154 (20 * i + k) * V 157 (5 * (20 * i + k) + m)) (n := (V 153 i).toNat) (a := 0) (b := 200000) (fun j hj => (p4 j (by omega) (by omega)).2)
      unfold pvH
      omega
    have q1 := mul_b (a := tonsP V i) (b := lo) (A := 400) (C := 10000) (by omega) (by omega)
    have q2 := mul_b (a := tonsP V i) (b := hi) (A := 400) (C := 10000) (by omega) (by omega)
    have nb : ∀ k : Int, 0 ≤ k → k < V 153 i → (0 ≤ nLo V i m lo k ∧ nLo V i m lo k ≤ 10000000) ∧ (-10000000 ≤ nHi V i m hi k ∧ nHi V i m hi k ≤ 10000) ∧ (-10000000 ≤ pvA V i m lo k ∧ pvA V i m lo k ≤ 10000000) ∧ (-10000000 ≤ pvZ V i m hi k ∧ pvZ V i m hi k ≤ 10000000) := fun k k1 k2 => by
      have h1 := w4 k k1 k2
      have h2 := p4 k k1 k2
      have h3 := w5 (5 * (20 * i + k) + m)
      have h4 := ediv_b (a := -(tonsP V i * lo - (pvH V i m - V 154 (20 * i + k) * V 157 (5 * (20 * i + k) + m)))) (A := 10000000) (by omega) (by omega) (by omega) h1.1
      have h5 := ediv_b (a := tonsP V i * hi - (pvL V i m - V 154 (20 * i + k) * V 156 (5 * (20 * i + k) + m))) (A := 10000000) (by omega) (by omega) (by omega) h1.1
      clear hf sT sL sH q1 q2 h2 h1
      unfold nLo nHi pvA pvZ
      generalize -(tonsP V i * lo - (pvH V i m - V 154 (20 * i + k) * V 157 (5 * (20 * i + k) + m))) / V 154 (20 * i + k) = x4 at h4 ⊢
      generalize (tonsP V i * hi - (pvL V i m - V 154 (20 * i + k) * V 156 (5 * (20 * i + k) + m))) / V 154 (20 * i + k) = x5 at h5 ⊢
      refine ⟨⟨?_, ?_⟩, ⟨?_, ?_⟩, ⟨?_, ?_⟩, ?_, ?_⟩ <;> omega
    have third : pvOk V i m lo hi → ∀ W, isR W → scp W V → (∀ k : Int, 0 ≤ k → k < V 153 i → W 158 k = nLo V i m lo k ∧ W 159 k = nHi V i m hi k) → ∀ (z j : Nat), (j : Int) + z = V 153 i → ∀ lv, hasL lv [(0, .ref (β.2 16)), (1, .int (jI i)), (2, .int (jI m)), (5, .int (jI (V 153 i))), (12, .int (jI (j : Int)))] → J γ mX12_prove 3 0 0 0 0 (jP β (pvF W i m (nLo V i m lo) (nHi V i m hi) j)) 330 lv [] (pvQ β V i m lo hi) X0 := by
      intro ok W RW SW hn z
      have nb2 : ∀ k : Int, 0 ≤ k → k < V 153 i → (0 ≤ nLo V i m lo k ∧ nLo V i m lo k ≤ 10000) ∧ (0 ≤ nHi V i m hi k ∧ nHi V i m hi k ≤ 10000) := fun k k1 k2 => by
        have h1 := nb k k1 k2
        have h2 := ok k k1 k2
        omega
      induction z with
      | zero =>
        intro j hj lv hlv
        refine J.lc hlv ?_
        refine J.iload (pc' := 332) rfl rfl rfl ?_
        refine J.iload (pc' := 334) rfl rfl rfl ?_
        refine J.icmp_ge (tgt := 442) (pc' := 337) rfl rfl rfl (by first | omega | (exact R.r _ _) | (simp only [jM.len_sI, jM.len_sL, jM.len_sR, jM.len_fI, jM.len_fL, jM.len_fR]; omega) | (simp [jM.len_nw, jM.len_sI, jM.len_sL, jM.len_sR, jM.len_fI, jM.len_fL, jM.len_fR, *]; omega)) (by first | omega | (exact R.r _ _) | (simp only [jM.len_sI, jM.len_sL, jM.len_sR, jM.len_fI, jM.len_fL, jM.len_fR]; omega) | (simp [jM.len_nw, jM.len_sI, jM.len_sL, jM.len_sR, jM.len_fI, jM.len_fL, jM.len_fR, *]; omega)) (fun c1 => ?_) (fun c1 => ?_)
        · refine J.iconst (pc' := 443) rfl rfl ?_
          refine J.iret rfl rfl (by first | omega | (exact R.r _ _) | (simp only [jM.len_sI, jM.len_sL, jM.len_sR, jM.len_fI, jM.len_fL, jM.len_fR]; omega) | (simp [jM.len_nw, jM.len_sI, jM.len_sL, jM.len_sR, jM.len_fI, jM.len_fL, jM.len_fR, *]; omega)) (by first | omega | (exact R.r _ _) | (simp only [jM.len_sI, jM.len_sL, jM.len_sR, jM.len_fI, jM.len_fL, jM.len_fR]; omega) | (simp [jM.len_nw, jM.len_sI, jM.len_sL, jM.len_sR, jM.len_fI, jM.len_fL, jM.len_fR, *]; omega)) ?_
          refine ⟨W, RW, SW, Or.inl ⟨ok, rfl, ?_⟩⟩
          rw [show (V 153 i).toNat = j by omega]
        · omega
      | succ z ih =>
        intro j hj lv hlv
        have h9 := ih (j + 1) (by omega)
        have n1 := nb2 j (by omega) (by omega)
        have hw := hn j (by omega) (by omega)
        have RF := RW.pvFR (i := i) (m := m) (nl := nLo V i m lo) (nh := nHi V i m hi) j (fun k hk => nb2 k (by omega) (by omega))
        have f58 : pvF W i m (nLo V i m lo) (nHi V i m hi) j 158 j = nLo V i m lo j := by rw [pvF_o (by decide)]; exact hw.1
        have f59 : pvF W i m (nLo V i m lo) (nHi V i m hi) j 159 j = nHi V i m hi j := by rw [pvF_o (by decide)]; exact hw.2
        have f55 : ∀ x, pvF W i m (nLo V i m lo) (nHi V i m hi) j 155 x = W 155 x := fun x => pvF_o (by decide) j
        have f27 : ∀ x, pvF W i m (nLo V i m lo) (nHi V i m hi) j 127 x = W 127 x := fun x => pvF_o (by decide) j
        have f28 : ∀ x, pvF W i m (nLo V i m lo) (nHi V i m hi) j 128 x = W 128 x := fun x => pvF_o (by decide) j
        rw [pvF, show ((j + 1 : Nat) : Int) = (j : Int) + 1 by omega] at h9
        generalize pvF W i m (nLo V i m lo) (nHi V i m hi) j = F at RF f58 f59 f55 f27 f28 h9 ⊢
        have r5 := RW 155 (20 * i + j) rfl
        simp [jLo, jHi] at r5
        have r7 := RW 127 (W 155 (20 * i + j)) rfl
        have r8 := RW 128 (W 155 (20 * i + j)) rfl
        simp [jLo, jHi] at r7 r8
        have b1' : 0 ≤ i ∧ i < 30 := by omega
        have b2' : 0 ≤ m ∧ m < 5 := by omega
        have b4' : (j : Int) < V 153 i ∧ V 153 i ≤ 20 := by omega
        clear hf sT sL sH q1 q2 ih hn h0 P hi' hm' hl' hh' w4 w5 p4 nb nb2 b1 r3 hj
        refine J.lc hlv ?_
        refine J.iload (pc' := 332) rfl rfl rfl ?_
        refine J.iload (pc' := 334) rfl rfl rfl ?_
        refine J.icmp_ge (tgt := 442) (pc' := 337) rfl rfl rfl (by first | omega | (exact R.r _ _) | (simp only [jM.len_sI, jM.len_sL, jM.len_sR, jM.len_fI, jM.len_fL, jM.len_fR]; omega) | (simp [jM.len_nw, jM.len_sI, jM.len_sL, jM.len_sR, jM.len_fI, jM.len_fL, jM.len_fR, *]; omega)) (by first | omega | (exact R.r _ _) | (simp only [jM.len_sI, jM.len_sL, jM.len_sR, jM.len_fI, jM.len_fL, jM.len_fR]; omega) | (simp [jM.len_nw, jM.len_sI, jM.len_sL, jM.len_sR, jM.len_fI, jM.len_fL, jM.len_fR, *]; omega)) (fun c1 => ?_) (fun c1 => ?_)
        · omega
        · refine J.bipush (pc' := 339) rfl rfl (by decide) ?_
          refine J.iload_n (pc' := 340) rfl rfl rfl ?_
          refine J.imul (pc' := 341) rfl rfl ?_
          refine J.iload (pc' := 343) rfl rfl rfl ?_
          refine J.iadd (pc' := 344) rfl rfl ?_
          refine J.istore (pc' := 346) rfl rfl (by decide) ?_
          first | refine J.aload_n (pc' := 347) rfl rfl rfl ?_ | refine J.aload_nN (pc' := 347) rfl rfl rfl ?_
          refine J.mgR (pc' := 350) (t := 156) B rfl fl_X12_142 rfl rfl (by decide) rfl ?_
          refine J.iconst (pc' := 351) rfl rfl ?_
          refine J.iload (pc' := 353) rfl rfl rfl ?_
          refine J.imul (pc' := 354) rfl rfl ?_
          refine J.iload_n (pc' := 355) rfl rfl rfl ?_
          refine J.iadd (pc' := 356) rfl rfl ?_
          first | refine J.aload_n (pc' := 357) rfl rfl rfl ?_ | refine J.aload_nN (pc' := 357) rfl rfl rfl ?_
          refine J.mgR (pc' := 360) (t := 158) B rfl fl_X12_148 rfl rfl (by decide) rfl ?_
          refine J.iload (pc' := 362) rfl rfl rfl ?_
          refine J.mald (pc' := 363) B rfl rfl rfl (by omega) (by simp only [jLn]; omega) rfl ?_
          rw [f58]
          refine J.mast (pc' := 364) B rfl rfl rfl rfl (by omega) (by simp only [jLn]; omega) rfl ?_
          first | refine J.aload_n (pc' := 365) rfl rfl rfl ?_ | refine J.aload_nN (pc' := 365) rfl rfl rfl ?_
          refine J.mgR (pc' := 368) (t := 157) B rfl fl_X12_145 rfl rfl (by decide) rfl ?_
          refine J.iconst (pc' := 369) rfl rfl ?_
          refine J.iload (pc' := 371) rfl rfl rfl ?_
          refine J.imul (pc' := 372) rfl rfl ?_
          refine J.iload_n (pc' := 373) rfl rfl rfl ?_
          refine J.iadd (pc' := 374) rfl rfl ?_
          first | refine J.aload_n (pc' := 375) rfl rfl rfl ?_ | refine J.aload_nN (pc' := 375) rfl rfl rfl ?_
          refine J.mgR (pc' := 378) (t := 159) B rfl fl_X12_151 rfl rfl (by decide) rfl ?_
          refine J.iload (pc' := 380) rfl rfl rfl ?_
          refine J.mald (pc' := 381) B rfl rfl rfl (by omega) (by simp only [jLn]; omega) rfl ?_
          rw [jU_o _ (by decide), f59]
          refine J.mast (pc' := 382) B rfl rfl rfl rfl (by omega) (by simp only [jLn]; omega) rfl ?_
          first | refine J.aload_n (pc' := 383) rfl rfl rfl ?_ | refine J.aload_nN (pc' := 383) rfl rfl rfl ?_
          refine J.mgR (pc' := 386) (t := 155) B rfl fl_X12_139 rfl rfl (by decide) rfl ?_
          refine J.iload (pc' := 388) rfl rfl rfl ?_
          refine J.mald (pc' := 389) B rfl rfl rfl (by omega) (by simp only [jLn]; omega) rfl ?_
          rw [jU_o _ (by decide), jU_o _ (by decide), f55]
          refine J.iconst (pc' := 390) rfl rfl ?_
          refine J.icmp_eq (tgt := 436) (pc' := 393) rfl rfl rfl (by first | omega | (exact R.r _ _) | (simp only [jM.len_sI, jM.len_sL, jM.len_sR, jM.len_fI, jM.len_fL, jM.len_fR]; omega) | (simp [jM.len_nw, jM.len_sI, jM.len_sL, jM.len_sR, jM.len_fI, jM.len_fL, jM.len_fR, *]; omega)) (by first | omega | (exact R.r _ _) | (simp only [jM.len_sI, jM.len_sL, jM.len_sR, jM.len_fI, jM.len_fL, jM.len_fR]; omega) | (simp [jM.len_nw, jM.len_sI, jM.len_sL, jM.len_sR, jM.len_fI, jM.len_fL, jM.len_fR, *]; omega)) (fun c2 => ?_) (fun c2 => ?_)
          · rw [if_pos c2] at h9
            refine J.iinc (pc' := 439) rfl rfl rfl (by decide) ?_
            refine J.goto (tgt := 330) rfl rfl ?_
            exact h9 _ ⟨rfl, rfl, rfl, rfl, rfl, trivial⟩
          · rw [if_neg c2] at h9
            first | refine J.aload_n (pc' := 394) rfl rfl rfl ?_ | refine J.aload_nN (pc' := 394) rfl rfl rfl ?_
            first | refine J.aload_n (pc' := 395) rfl rfl rfl ?_ | refine J.aload_nN (pc' := 395) rfl rfl rfl ?_
            refine J.mgR (pc' := 398) (t := 127) B rfl fl_X12_64 rfl rfl (by decide) rfl ?_
            first | refine J.aload_n (pc' := 399) rfl rfl rfl ?_ | refine J.aload_nN (pc' := 399) rfl rfl rfl ?_
            refine J.mgR (pc' := 402) (t := 155) B rfl fl_X12_139 rfl rfl (by decide) rfl ?_
            refine J.iload (pc' := 404) rfl rfl rfl ?_
            refine J.mald (pc' := 405) B rfl rfl rfl (by omega) (by simp only [jLn]; omega) rfl ?_
            rw [jU_o _ (by decide), jU_o _ (by decide), f55]
            refine J.mald (pc' := 406) B rfl rfl rfl (by omega) (by simp only [jLn]; omega) rfl ?_
            rw [jU_o _ (by decide), jU_o _ (by decide), f27]
            first | refine J.aload_n (pc' := 407) rfl rfl rfl ?_ | refine J.aload_nN (pc' := 407) rfl rfl rfl ?_
            refine J.mgR (pc' := 410) (t := 128) B rfl fl_X12_67 rfl rfl (by decide) rfl ?_
            first | refine J.aload_n (pc' := 411) rfl rfl rfl ?_ | refine J.aload_nN (pc' := 411) rfl rfl rfl ?_
            refine J.mgR (pc' := 414) (t := 155) B rfl fl_X12_139 rfl rfl (by decide) rfl ?_
            refine J.iload (pc' := 416) rfl rfl rfl ?_
            refine J.mald (pc' := 417) B rfl rfl rfl (by omega) (by simp only [jLn]; omega) rfl ?_
            rw [jU_o _ (by decide), jU_o _ (by decide), f55]
            refine J.mald (pc' := 418) B rfl rfl rfl (by omega) (by simp only [jLn]; omega) rfl ?_
            rw [jU_o _ (by decide), jU_o _ (by decide), f28]
            refine J.iload_n (pc' := 419) rfl rfl rfl ?_
            first | refine J.aload_n (pc' := 420) rfl rfl rfl ?_ | refine J.aload_nN (pc' := 420) rfl rfl rfl ?_
            refine J.mgR (pc' := 423) (t := 158) B rfl fl_X12_148 rfl rfl (by decide) rfl ?_
            refine J.iload (pc' := 425) rfl rfl rfl ?_
            refine J.mald (pc' := 426) B rfl rfl rfl (by omega) (by simp only [jLn]; omega) rfl ?_
            rw [jU_o _ (by decide), jU_o _ (by decide), f58]
            first | refine J.aload_n (pc' := 427) rfl rfl rfl ?_ | refine J.aload_nN (pc' := 427) rfl rfl rfl ?_
            refine J.mgR (pc' := 430) (t := 159) B rfl fl_X12_151 rfl rfl (by decide) rfl ?_
            refine J.iload (pc' := 432) rfl rfl rfl ?_
            refine J.mald (pc' := 433) B rfl rfl rfl (by omega) (by simp only [jLn]; omega) rfl ?_
            rw [jU_o _ (by decide), jU_o _ (by decide), f59]
            refine J.callV (pc' := 436) (t := 16) rfl MX12_putRight ml_X12_338 iv_X12_putRight (by decide) ⟨_, rfl, rfl⟩ B.1 (cm_putRight (s := W 127 (W 155 (20 * i + j))) (k := W 128 (W 155 (20 * i + j))) B ((RF.up (fun _ => n1.1)).up (fun _ => n1.2)) (by omega) (by omega) b2.1 n1.1 n1.2) rfl rfl (Nat.le_of_ble_eq_true rfl) (by first | omega | (exact R.r _ _) | (simp only [jM.len_sI, jM.len_sL, jM.len_sR, jM.len_fI, jM.len_fL, jM.len_fR]; omega) | (simp [jM.len_nw, jM.len_sI, jM.len_sL, jM.len_sR, jM.len_fI, jM.len_fL, jM.len_fR, *]; omega)) (by first | omega | (exact R.r _ _) | (simp only [jM.len_sI, jM.len_sL, jM.len_sR, jM.len_fI, jM.len_fL, jM.len_fR]; omega) | (simp [jM.len_nw, jM.len_sI, jM.len_sL, jM.len_sR, jM.len_fI, jM.len_fL, jM.len_fR, *]; omega)) (by first | omega | (exact R.r _ _) | (simp only [jM.len_sI, jM.len_sL, jM.len_sR, jM.len_fI, jM.len_fL, jM.len_fR]; omega) | (simp [jM.len_nw, jM.len_sI, jM.len_sL, jM.len_sR, jM.len_fI, jM.len_fL, jM.len_fR, *]; omega)) rfl rfl ?_ ?_
            · exact fun _ _ h => h
            rintro _ _ ⟨rfl, rfl⟩
            refine J.iinc (pc' := 439) rfl rfl rfl (by decide) ?_
            refine J.goto (tgt := 330) rfl rfl ?_
            exact h9 _ ⟨rfl, rfl, rfl, rfl, rfl, trivial⟩
    have second : ∀ (z j : Nat), (j : Int) + z = V 153 i → ∀ W, isR W → scp W V → (∀ k : Int, 0 ≤ k → k < j → nLo V i m lo k ≤ nHi V i m hi k ∧ W 158 k = nLo V i m lo k ∧ W 159 k = nHi V i m hi k) → ∀ lv, hasL lv [(0, .ref (β.2 16)), (1, .int (jI i)), (2, .int (jI m)), (3, .int (jI lo)), (4, .int (jI hi)), (5, .int (jI (V 153 i))), (6, .long (jL (tonsP V i))), (8, .long (jL (pvL V i m))), (10, .long (jL (pvH V i m))), (12, .int (jI (j : Int)))] → J γ mX12_prove 3 0 0 0 0 (jP β W) 140 lv [] (pvQ β V i m lo hi) X0 := by
      intro z
      induction z with
      | zero =>
        intro j hj W RW SW hn lv hlv
        refine J.lc hlv ?_
        refine J.iload (pc' := 142) rfl rfl rfl ?_
        refine J.iload (pc' := 144) rfl rfl rfl ?_
        refine J.icmp_ge (tgt := 327) (pc' := 147) rfl rfl rfl (by first | omega | (exact R.r _ _) | (simp only [jM.len_sI, jM.len_sL, jM.len_sR, jM.len_fI, jM.len_fL, jM.len_fR]; omega) | (simp [jM.len_nw, jM.len_sI, jM.len_sL, jM.len_sR, jM.len_fI, jM.len_fL, jM.len_fR, *]; omega)) (by first | omega | (exact R.r _ _) | (simp only [jM.len_sI, jM.len_sL, jM.len_sR, jM.len_fI, jM.len_fL, jM.len_fR]; omega) | (simp [jM.len_nw, jM.len_sI, jM.len_sL, jM.len_sR, jM.len_fI, jM.len_fL, jM.len_fR, *]; omega)) (fun c1 => ?_) (fun c1 => ?_)
        · refine J.iconst (pc' := 328) rfl rfl ?_
          refine J.istore (pc' := 330) rfl rfl (by decide) ?_
          exact third (fun k k1 k2 => (hn k k1 (by omega)).1) W RW SW (fun k k1 k2 => (hn k k1 (by omega)).2) (V 153 i).toNat 0 (by omega) _ ⟨rfl, rfl, rfl, rfl, rfl, trivial⟩
        · omega
      | succ z ih =>
        intro j hj W RW SW hn lv hlv
        have a1 := w4 j (by omega) (by omega)
        have a2 := w5 (5 * (20 * i + j) + m)
        have a3 := p4 j (by omega) (by omega)
        have a4 := nb j (by omega) (by omega)
        have f54 : W 154 (20 * i + j) = V 154 (20 * i + j) := SW _ _ (by decide) (by decide)
        have f56 : W 156 (5 * (20 * i + j) + m) = V 156 (5 * (20 * i + j) + m) := SW _ _ (by decide) (by decide)
        have f57 : W 157 (5 * (20 * i + j) + m) = V 157 (5 * (20 * i + j) + m) := SW _ _ (by decide) (by decide)
        have eA : -(-(tonsP V i * lo - (pvH V i m - V 154 (20 * i + j) * V 157 (5 * (20 * i + j) + m))) / V 154 (20 * i + j)) = pvA V i m lo j := rfl
        have eZ : (tonsP V i * hi - (pvL V i m - V 154 (20 * i + j) * V 156 (5 * (20 * i + j) + m))) / V 154 (20 * i + j) = pvZ V i m hi j := rfl
        have at291 : ∀ x y : Int, x = nLo V i m lo j → y = nHi V i m hi j → ∀ lv, hasL lv [(0, .ref (β.2 16)), (1, .int (jI i)), (2, .int (jI m)), (3, .int (jI lo)), (4, .int (jI hi)), (5, .int (jI (V 153 i))), (6, .long (jL (tonsP V i))), (8, .long (jL (pvL V i m))), (10, .long (jL (pvH V i m))), (12, .int (jI (j : Int))), (16, .long (jL x)), (18, .long (jL y))] → J γ mX12_prove 3 0 0 0 0 (jP β W) 291 lv [] (pvQ β V i m lo hi) X0 := by
          intro x y ex ey lv hlv
          refine J.lc hlv ?_
          refine J.lload (pc' := 293) rfl rfl rfl ?_
          refine J.lload (pc' := 295) rfl rfl rfl ?_
          refine J.lcmp (pc' := 296) rfl rfl (by first | omega | (exact R.r _ _) | (simp only [jM.len_sI, jM.len_sL, jM.len_sR, jM.len_fI, jM.len_fL, jM.len_fR]; omega) | (simp [jM.len_nw, jM.len_sI, jM.len_sL, jM.len_sR, jM.len_fI, jM.len_fL, jM.len_fR, *]; omega)) (by first | omega | (exact R.r _ _) | (simp only [jM.len_sI, jM.len_sL, jM.len_sR, jM.len_fI, jM.len_fL, jM.len_fR]; omega) | (simp [jM.len_nw, jM.len_sI, jM.len_sL, jM.len_sR, jM.len_fI, jM.len_fL, jM.len_fR, *]; omega)) ?_
          by_cases q : x ≤ y
          · refine J.if_le (tgt := 301) (pc' := 299) rfl rfl rfl (by first | omega | (exact R.r _ _) | (simp only [jM.len_sI, jM.len_sL, jM.len_sR, jM.len_fI, jM.len_fL, jM.len_fR]; omega) | (simp [jM.len_nw, jM.len_sI, jM.len_sL, jM.len_sR, jM.len_fI, jM.len_fL, jM.len_fR, *]; omega)) (fun c2 => ?_) (fun c2 => ?_)
            · first | refine J.aload_n (pc' := 302) rfl rfl rfl ?_ | refine J.aload_nN (pc' := 302) rfl rfl rfl ?_
              refine J.mgR (pc' := 305) (t := 158) B rfl fl_X12_148 rfl rfl (by decide) rfl ?_
              refine J.iload (pc' := 307) rfl rfl rfl ?_
              refine J.lload (pc' := 309) rfl rfl rfl ?_
              refine J.l2i (pc' := 310) rfl rfl ?_
              refine J.mast (pc' := 311) B rfl rfl rfl rfl (by omega) (by simp only [jLn]; omega) rfl ?_
              first | refine J.aload_n (pc' := 312) rfl rfl rfl ?_ | refine J.aload_nN (pc' := 312) rfl rfl rfl ?_
              refine J.mgR (pc' := 315) (t := 159) B rfl fl_X12_151 rfl rfl (by decide) rfl ?_
              refine J.iload (pc' := 317) rfl rfl rfl ?_
              refine J.lload (pc' := 319) rfl rfl rfl ?_
              refine J.l2i (pc' := 320) rfl rfl ?_
              refine J.mast (pc' := 321) B rfl rfl rfl rfl (by omega) (by simp only [jLn]; omega) rfl ?_
              refine J.iinc (pc' := 324) rfl rfl rfl (by decide) ?_
              refine J.goto (tgt := 140) rfl rfl ?_
              refine ih (j + 1) (by omega) _ ((RW.up (fun _ => by show (0 : Int) ≤ x ∧ x ≤ 10000; omega)).up (fun _ => by show (0 : Int) ≤ y ∧ y ≤ 10000; omega)) (fun t u h1 h2 => by rw [jU_o _ h2, jU_o _ h1]; exact SW t u h1 h2) (fun k k1 k2 => ?_) _ ⟨rfl, rfl, rfl, rfl, rfl, rfl, rfl, rfl, rfl, rfl, trivial⟩
              rw [jU_o _ (by decide), jU_at, jU_at]
              by_cases e : k = (j : Int)
              · rw [if_pos e, if_pos e, e, ← ex, ← ey]
                exact ⟨q, rfl, rfl⟩
              · rw [if_neg e, if_neg e, jU_o _ (by decide)]
                exact hn k k1 (by omega)
            · exfalso
              apply c2
              rw [if_neg (by omega)]
              split <;> decide
          · rw [if_pos (by omega)]
            refine J.if_le (tgt := 301) (pc' := 299) rfl rfl rfl (by first | omega | (exact R.r _ _) | (simp only [jM.len_sI, jM.len_sL, jM.len_sR, jM.len_fI, jM.len_fL, jM.len_fR]; omega) | (simp [jM.len_nw, jM.len_sI, jM.len_sL, jM.len_sR, jM.len_fI, jM.len_fL, jM.len_fR, *]; omega)) (fun c2 => ?_) (fun c2 => ?_)
            · omega
            · refine J.iconst (pc' := 300) rfl rfl ?_
              refine J.iret rfl rfl (by first | omega | (exact R.r _ _) | (simp only [jM.len_sI, jM.len_sL, jM.len_sR, jM.len_fI, jM.len_fL, jM.len_fR]; omega) | (simp [jM.len_nw, jM.len_sI, jM.len_sL, jM.len_sR, jM.len_fI, jM.len_fL, jM.len_fR, *]; omega)) (by first | omega | (exact R.r _ _) | (simp only [jM.len_sI, jM.len_sL, jM.len_sR, jM.len_fI, jM.len_fL, jM.len_fR]; omega) | (simp [jM.len_nw, jM.len_sI, jM.len_sL, jM.len_sR, jM.len_fI, jM.len_fL, jM.len_fR, *]; omega)) ?_
              refine ⟨W, RW, SW, Or.inr ⟨fun ok => q ?_, rfl, rfl⟩⟩
              rw [ex, ey]
              exact ok j (by omega) (by omega)
        have at272 : ∀ x : Int, x = nLo V i m lo j → ∀ lv, hasL lv [(0, .ref (β.2 16)), (1, .int (jI i)), (2, .int (jI m)), (3, .int (jI lo)), (4, .int (jI hi)), (5, .int (jI (V 153 i))), (6, .long (jL (tonsP V i))), (8, .long (jL (pvL V i m))), (10, .long (jL (pvH V i m))), (12, .int (jI (j : Int))), (15, .int (jI (V 157 (5 * (20 * i + j) + m)))), (16, .long (jL x)), (18, .long (jL (pvZ V i m hi j)))] → J γ mX12_prove 3 0 0 0 0 (jP β W) 272 lv [] (pvQ β V i m lo hi) X0 := by
          intro x ex lv hlv
          refine J.lc hlv ?_
          refine J.lload (pc' := 274) rfl rfl rfl ?_
          refine J.iload (pc' := 276) rfl rfl rfl ?_
          refine J.i2l (pc' := 277) rfl rfl (by first | omega | (exact R.r _ _) | (simp only [jM.len_sI, jM.len_sL, jM.len_sR, jM.len_fI, jM.len_fL, jM.len_fR]; omega) | (simp [jM.len_nw, jM.len_sI, jM.len_sL, jM.len_sR, jM.len_fI, jM.len_fL, jM.len_fR, *]; omega)) ?_
          refine J.lcmp (pc' := 278) rfl rfl (by first | omega | (exact R.r _ _) | (simp only [jM.len_sI, jM.len_sL, jM.len_sR, jM.len_fI, jM.len_fL, jM.len_fR]; omega) | (simp [jM.len_nw, jM.len_sI, jM.len_sL, jM.len_sR, jM.len_fI, jM.len_fL, jM.len_fR, *]; omega)) (by first | omega | (exact R.r _ _) | (simp only [jM.len_sI, jM.len_sL, jM.len_sR, jM.len_fI, jM.len_fL, jM.len_fR]; omega) | (simp [jM.len_nw, jM.len_sI, jM.len_sL, jM.len_sR, jM.len_fI, jM.len_fL, jM.len_fR, *]; omega)) ?_
          by_cases q : V 157 (5 * (20 * i + j) + m) ≤ pvZ V i m hi j
          · refine J.if_ge (tgt := 286) (pc' := 281) rfl rfl rfl (by first | omega | (exact R.r _ _) | (simp only [jM.len_sI, jM.len_sL, jM.len_sR, jM.len_fI, jM.len_fL, jM.len_fR]; omega) | (simp [jM.len_nw, jM.len_sI, jM.len_sL, jM.len_sR, jM.len_fI, jM.len_fL, jM.len_fR, *]; omega)) (fun c2 => ?_) (fun c2 => ?_)
            · refine J.iload (pc' := 288) rfl rfl rfl ?_
              refine J.i2l (pc' := 289) rfl rfl (by first | omega | (exact R.r _ _) | (simp only [jM.len_sI, jM.len_sL, jM.len_sR, jM.len_fI, jM.len_fL, jM.len_fR]; omega) | (simp [jM.len_nw, jM.len_sI, jM.len_sL, jM.len_sR, jM.len_fI, jM.len_fL, jM.len_fR, *]; omega)) ?_
              refine J.lstore (pc' := 291) rfl rfl (by decide) ?_
              exact at291 x (V 157 (5 * (20 * i + j) + m)) ex (by unfold nHi; omega) _ ⟨rfl, rfl, rfl, rfl, rfl, rfl, rfl, rfl, rfl, rfl, rfl, rfl, trivial⟩
            · exfalso
              apply c2
              split
              · simp
              · rw [if_pos (by omega)]; simp
          · refine J.if_ge (tgt := 286) (pc' := 281) rfl rfl rfl (by first | omega | (exact R.r _ _) | (simp only [jM.len_sI, jM.len_sL, jM.len_sR, jM.len_fI, jM.len_fL, jM.len_fR]; omega) | (simp [jM.len_nw, jM.len_sI, jM.len_sL, jM.len_sR, jM.len_fI, jM.len_fL, jM.len_fR, *]; omega)) (fun c2 => ?_) (fun c2 => ?_)
            · exfalso
              revert c2
              rw [if_neg (by omega), if_neg (by omega)]
              decide
            · refine J.lload (pc' := 283) rfl rfl rfl ?_
              refine J.goto (tgt := 289) rfl rfl ?_
              refine J.lstore (pc' := 291) rfl rfl (by decide) ?_
              exact at291 x (pvZ V i m hi j) ex (by unfold nHi; omega) _ ⟨rfl, rfl, rfl, rfl, rfl, rfl, rfl, rfl, rfl, rfl, rfl, rfl, trivial⟩
        have fl1 : -1000000000000 ≤ -(tonsP V i * lo - (pvH V i m - V 154 (20 * i + j) * V 157 (5 * (20 * i + j) + m))) ∧ -(tonsP V i * lo - (pvH V i m - V 154 (20 * i + j) * V 157 (5 * (20 * i + j) + m))) ≤ 1000000000000 := by omega
        have fl2 : -1000000000000 ≤ tonsP V i * hi - (pvL V i m - V 154 (20 * i + j) * V 156 (5 * (20 * i + j) + m)) ∧ tonsP V i * hi - (pvL V i m - V 154 (20 * i + j) * V 156 (5 * (20 * i + j) + m)) ≤ 1000000000000 := by omega
        have b1' : 0 ≤ i ∧ i < 30 := by omega
        have b2' : 0 ≤ m ∧ m < 5 := by omega
        have b3' : 0 ≤ lo ∧ lo ≤ 10000 ∧ 0 ≤ hi ∧ hi ≤ 10000 := by omega
        have b4' : (j : Int) < V 153 i ∧ V 153 i ≤ 20 := by omega
        clear hf sT sL sH q1 q2 a3 third ih hn h0 P hi' hm' hl' hh' w4 w5 p4 nb b1 b2 r3 hj
        refine J.lc hlv ?_
        refine J.iload (pc' := 142) rfl rfl rfl ?_
        refine J.iload (pc' := 144) rfl rfl rfl ?_
        refine J.icmp_ge (tgt := 327) (pc' := 147) rfl rfl rfl (by first | omega | (exact R.r _ _) | (simp only [jM.len_sI, jM.len_sL, jM.len_sR, jM.len_fI, jM.len_fL, jM.len_fR]; omega) | (simp [jM.len_nw, jM.len_sI, jM.len_sL, jM.len_sR, jM.len_fI, jM.len_fL, jM.len_fR, *]; omega)) (by first | omega | (exact R.r _ _) | (simp only [jM.len_sI, jM.len_sL, jM.len_sR, jM.len_fI, jM.len_fL, jM.len_fR]; omega) | (simp [jM.len_nw, jM.len_sI, jM.len_sL, jM.len_sR, jM.len_fI, jM.len_fL, jM.len_fR, *]; omega)) (fun c1 => ?_) (fun c1 => ?_)
        · omega
        · refine J.bipush (pc' := 149) rfl rfl (by decide) ?_
          refine J.iload_n (pc' := 150) rfl rfl rfl ?_
          refine J.imul (pc' := 151) rfl rfl ?_
          refine J.iload (pc' := 153) rfl rfl rfl ?_
          refine J.iadd (pc' := 154) rfl rfl ?_
          refine J.istore (pc' := 156) rfl rfl (by decide) ?_
          refine J.lc (lv' := pvL2 β i m lo hi (V 153 i) (tonsP V i) (pvL V i m) (pvH V i m) j (20 * i + j)) (by repeat' (first | exact trivial | refine ⟨rfl, ?_⟩)) ?_
          first | refine J.aload_n (pc' := 157) rfl rfl rfl ?_ | refine J.aload_nN (pc' := 157) rfl rfl rfl ?_
          refine J.mgR (pc' := 160) (t := 156) B rfl fl_X12_142 rfl rfl (by decide) rfl ?_
          refine J.iconst (pc' := 161) rfl rfl ?_
          refine J.iload (pc' := 163) rfl rfl rfl ?_
          refine J.imul (pc' := 164) rfl rfl ?_
          refine J.iload_n (pc' := 165) rfl rfl rfl ?_
          refine J.iadd (pc' := 166) rfl rfl ?_
          refine J.mald (pc' := 167) B rfl rfl rfl (by omega) (by simp only [jLn]; omega) rfl ?_
          rw [f56]
          refine J.istore (pc' := 169) rfl rfl (by decide) ?_
          first | refine J.aload_n (pc' := 170) rfl rfl rfl ?_ | refine J.aload_nN (pc' := 170) rfl rfl rfl ?_
          refine J.mgR (pc' := 173) (t := 157) B rfl fl_X12_145 rfl rfl (by decide) rfl ?_
          refine J.iconst (pc' := 174) rfl rfl ?_
          refine J.iload (pc' := 176) rfl rfl rfl ?_
          refine J.imul (pc' := 177) rfl rfl ?_
          refine J.iload_n (pc' := 178) rfl rfl rfl ?_
          refine J.iadd (pc' := 179) rfl rfl ?_
          refine J.mald (pc' := 180) B rfl rfl rfl (by omega) (by simp only [jLn]; omega) rfl ?_
          rw [f57]
          refine J.istore (pc' := 182) rfl rfl (by decide) ?_
          refine J.lc (lv' := pvL3 β i m lo hi (V 153 i) (tonsP V i) (pvL V i m) (pvH V i m) j (20 * i + j) (V 156 (5 * (20 * i + j) + m)) (V 157 (5 * (20 * i + j) + m))) (by repeat' (first | exact trivial | refine ⟨rfl, ?_⟩)) ?_
          refine J.lload (pc' := 184) rfl rfl rfl ?_
          refine J.iload_n (pc' := 185) rfl rfl rfl ?_
          refine J.i2l (pc' := 186) rfl rfl (by first | omega | (exact R.r _ _) | (simp only [jM.len_sI, jM.len_sL, jM.len_sR, jM.len_fI, jM.len_fL, jM.len_fR]; omega) | (simp [jM.len_nw, jM.len_sI, jM.len_sL, jM.len_sR, jM.len_fI, jM.len_fL, jM.len_fR, *]; omega)) ?_
          refine J.lmul (pc' := 187) rfl rfl ?_
          refine J.lload (pc' := 189) rfl rfl rfl ?_
          first | refine J.aload_n (pc' := 190) rfl rfl rfl ?_ | refine J.aload_nN (pc' := 190) rfl rfl rfl ?_
          refine J.mgR (pc' := 193) (t := 154) B rfl fl_X12_136 rfl rfl (by decide) rfl ?_
          refine J.iload (pc' := 195) rfl rfl rfl ?_
          refine J.mald (pc' := 196) B rfl rfl rfl (by omega) (by simp only [jLn]; omega) rfl ?_
          rw [f54]
          refine J.i2l (pc' := 197) rfl rfl (by first | omega | (exact R.r _ _) | (simp only [jM.len_sI, jM.len_sL, jM.len_sR, jM.len_fI, jM.len_fL, jM.len_fR]; omega) | (simp [jM.len_nw, jM.len_sI, jM.len_sL, jM.len_sR, jM.len_fI, jM.len_fL, jM.len_fR, *]; omega)) ?_
          refine J.iload (pc' := 199) rfl rfl rfl ?_
          refine J.i2l (pc' := 200) rfl rfl (by first | omega | (exact R.r _ _) | (simp only [jM.len_sI, jM.len_sL, jM.len_sR, jM.len_fI, jM.len_fL, jM.len_fR]; omega) | (simp [jM.len_nw, jM.len_sI, jM.len_sL, jM.len_sR, jM.len_fI, jM.len_fL, jM.len_fR, *]; omega)) ?_
          refine J.lmul (pc' := 201) rfl rfl ?_
          refine J.lsub (pc' := 202) rfl rfl ?_
          refine J.lsub (pc' := 203) rfl rfl ?_
          refine J.lneg (pc' := 204) rfl rfl ?_
          first | refine J.aload_n (pc' := 205) rfl rfl rfl ?_ | refine J.aload_nN (pc' := 205) rfl rfl rfl ?_
          refine J.mgR (pc' := 208) (t := 154) B rfl fl_X12_136 rfl rfl (by decide) rfl ?_
          refine J.iload (pc' := 210) rfl rfl rfl ?_
          refine J.mald (pc' := 211) B rfl rfl rfl (by omega) (by simp only [jLn]; omega) rfl ?_
          rw [f54]
          refine J.i2l (pc' := 212) rfl rfl (by first | omega | (exact R.r _ _) | (simp only [jM.len_sI, jM.len_sL, jM.len_sR, jM.len_fI, jM.len_fL, jM.len_fR]; omega) | (simp [jM.len_nw, jM.len_sI, jM.len_sL, jM.len_sR, jM.len_fI, jM.len_fL, jM.len_fR, *]; omega)) ?_
          refine J.callS (pc' := 215) rfl MX12_floor ml_X12_334 is_X12_floor (cm_floor fl1 (by omega)) rfl rfl (Nat.le_of_ble_eq_true rfl) (by first | omega | (exact R.r _ _) | (simp only [jM.len_sI, jM.len_sL, jM.len_sR, jM.len_fI, jM.len_fL, jM.len_fR]; omega) | (simp [jM.len_nw, jM.len_sI, jM.len_sL, jM.len_sR, jM.len_fI, jM.len_fL, jM.len_fR, *]; omega)) (by first | omega | (exact R.r _ _) | (simp only [jM.len_sI, jM.len_sL, jM.len_sR, jM.len_fI, jM.len_fL, jM.len_fR]; omega) | (simp [jM.len_nw, jM.len_sI, jM.len_sL, jM.len_sR, jM.len_fI, jM.len_fL, jM.len_fR, *]; omega)) (by first | omega | (exact R.r _ _) | (simp only [jM.len_sI, jM.len_sL, jM.len_sR, jM.len_fI, jM.len_fL, jM.len_fR]; omega) | (simp [jM.len_nw, jM.len_sI, jM.len_sL, jM.len_sR, jM.len_fI, jM.len_fL, jM.len_fR, *]; omega)) rfl rfl ?_ ?_
          · exact fun _ _ h => h
          rintro _ _ ⟨rfl, rfl⟩
          refine J.lneg (pc' := 216) rfl rfl ?_
          rw [eA]
          refine J.lstore (pc' := 218) rfl rfl (by decide) ?_
          refine J.lc (lv' := pvL4 β i m lo hi (V 153 i) (tonsP V i) (pvL V i m) (pvH V i m) j (20 * i + j) (V 156 (5 * (20 * i + j) + m)) (V 157 (5 * (20 * i + j) + m)) (pvA V i m lo j)) (by repeat' (first | exact trivial | refine ⟨rfl, ?_⟩)) ?_
          refine J.lload (pc' := 220) rfl rfl rfl ?_
          refine J.iload (pc' := 222) rfl rfl rfl ?_
          refine J.i2l (pc' := 223) rfl rfl (by first | omega | (exact R.r _ _) | (simp only [jM.len_sI, jM.len_sL, jM.len_sR, jM.len_fI, jM.len_fL, jM.len_fR]; omega) | (simp [jM.len_nw, jM.len_sI, jM.len_sL, jM.len_sR, jM.len_fI, jM.len_fL, jM.len_fR, *]; omega)) ?_
          refine J.lmul (pc' := 224) rfl rfl ?_
          refine J.lload (pc' := 226) rfl rfl rfl ?_
          first | refine J.aload_n (pc' := 227) rfl rfl rfl ?_ | refine J.aload_nN (pc' := 227) rfl rfl rfl ?_
          refine J.mgR (pc' := 230) (t := 154) B rfl fl_X12_136 rfl rfl (by decide) rfl ?_
          refine J.iload (pc' := 232) rfl rfl rfl ?_
          refine J.mald (pc' := 233) B rfl rfl rfl (by omega) (by simp only [jLn]; omega) rfl ?_
          rw [f54]
          refine J.i2l (pc' := 234) rfl rfl (by first | omega | (exact R.r _ _) | (simp only [jM.len_sI, jM.len_sL, jM.len_sR, jM.len_fI, jM.len_fL, jM.len_fR]; omega) | (simp [jM.len_nw, jM.len_sI, jM.len_sL, jM.len_sR, jM.len_fI, jM.len_fL, jM.len_fR, *]; omega)) ?_
          refine J.iload (pc' := 236) rfl rfl rfl ?_
          refine J.i2l (pc' := 237) rfl rfl (by first | omega | (exact R.r _ _) | (simp only [jM.len_sI, jM.len_sL, jM.len_sR, jM.len_fI, jM.len_fL, jM.len_fR]; omega) | (simp [jM.len_nw, jM.len_sI, jM.len_sL, jM.len_sR, jM.len_fI, jM.len_fL, jM.len_fR, *]; omega)) ?_
          refine J.lmul (pc' := 238) rfl rfl ?_
          refine J.lsub (pc' := 239) rfl rfl ?_
          refine J.lsub (pc' := 240) rfl rfl ?_
          first | refine J.aload_n (pc' := 241) rfl rfl rfl ?_ | refine J.aload_nN (pc' := 241) rfl rfl rfl ?_
          refine J.mgR (pc' := 244) (t := 154) B rfl fl_X12_136 rfl rfl (by decide) rfl ?_
          refine J.iload (pc' := 246) rfl rfl rfl ?_
          refine J.mald (pc' := 247) B rfl rfl rfl (by omega) (by simp only [jLn]; omega) rfl ?_
          rw [f54]
          refine J.i2l (pc' := 248) rfl rfl (by first | omega | (exact R.r _ _) | (simp only [jM.len_sI, jM.len_sL, jM.len_sR, jM.len_fI, jM.len_fL, jM.len_fR]; omega) | (simp [jM.len_nw, jM.len_sI, jM.len_sL, jM.len_sR, jM.len_fI, jM.len_fL, jM.len_fR, *]; omega)) ?_
          refine J.callS (pc' := 251) rfl MX12_floor ml_X12_334 is_X12_floor (cm_floor fl2 (by omega)) rfl rfl (Nat.le_of_ble_eq_true rfl) (by first | omega | (exact R.r _ _) | (simp only [jM.len_sI, jM.len_sL, jM.len_sR, jM.len_fI, jM.len_fL, jM.len_fR]; omega) | (simp [jM.len_nw, jM.len_sI, jM.len_sL, jM.len_sR, jM.len_fI, jM.len_fL, jM.len_fR, *]; omega)) (by first | omega | (exact R.r _ _) | (simp only [jM.len_sI, jM.len_sL, jM.len_sR, jM.len_fI, jM.len_fL, jM.len_fR]; omega) | (simp [jM.len_nw, jM.len_sI, jM.len_sL, jM.len_sR, jM.len_fI, jM.len_fL, jM.len_fR, *]; omega)) (by first | omega | (exact R.r _ _) | (simp only [jM.len_sI, jM.len_sL, jM.len_sR, jM.len_fI, jM.len_fL, jM.len_fR]; omega) | (simp [jM.len_nw, jM.len_sI, jM.len_sL, jM.len_sR, jM.len_fI, jM.len_fL, jM.len_fR, *]; omega)) rfl rfl ?_ ?_
          · exact fun _ _ h => h
          rintro _ _ ⟨rfl, rfl⟩
          rw [eZ]
          refine J.lstore (pc' := 253) rfl rfl (by decide) ?_
          refine J.lc (lv' := pvL5 β i m lo hi (V 153 i) (tonsP V i) (pvL V i m) (pvH V i m) j (20 * i + j) (V 156 (5 * (20 * i + j) + m)) (V 157 (5 * (20 * i + j) + m)) (pvA V i m lo j) (pvZ V i m hi j)) (by repeat' (first | exact trivial | refine ⟨rfl, ?_⟩)) ?_
          refine J.lload (pc' := 255) rfl rfl rfl ?_
          refine J.iload (pc' := 257) rfl rfl rfl ?_
          refine J.i2l (pc' := 258) rfl rfl (by first | omega | (exact R.r _ _) | (simp only [jM.len_sI, jM.len_sL, jM.len_sR, jM.len_fI, jM.len_fL, jM.len_fR]; omega) | (simp [jM.len_nw, jM.len_sI, jM.len_sL, jM.len_sR, jM.len_fI, jM.len_fL, jM.len_fR, *]; omega)) ?_
          refine J.lcmp (pc' := 259) rfl rfl (by first | omega | (exact R.r _ _) | (simp only [jM.len_sI, jM.len_sL, jM.len_sR, jM.len_fI, jM.len_fL, jM.len_fR]; omega) | (simp [jM.len_nw, jM.len_sI, jM.len_sL, jM.len_sR, jM.len_fI, jM.len_fL, jM.len_fR, *]; omega)) (by first | omega | (exact R.r _ _) | (simp only [jM.len_sI, jM.len_sL, jM.len_sR, jM.len_fI, jM.len_fL, jM.len_fR]; omega) | (simp [jM.len_nw, jM.len_sI, jM.len_sL, jM.len_sR, jM.len_fI, jM.len_fL, jM.len_fR, *]; omega)) ?_
          by_cases q : V 156 (5 * (20 * i + j) + m) < pvA V i m lo j
          · rw [if_pos q]
            refine J.if_le (tgt := 267) (pc' := 262) rfl rfl rfl (by first | omega | (exact R.r _ _) | (simp only [jM.len_sI, jM.len_sL, jM.len_sR, jM.len_fI, jM.len_fL, jM.len_fR]; omega) | (simp [jM.len_nw, jM.len_sI, jM.len_sL, jM.len_sR, jM.len_fI, jM.len_fL, jM.len_fR, *]; omega)) (fun c2 => ?_) (fun c2 => ?_)
            · omega
            · refine J.lload (pc' := 264) rfl rfl rfl ?_
              refine J.goto (tgt := 270) rfl rfl ?_
              refine J.lstore (pc' := 272) rfl rfl (by decide) ?_
              exact at272 (pvA V i m lo j) (by unfold nLo; omega) _ ⟨rfl, rfl, rfl, rfl, rfl, rfl, rfl, rfl, rfl, rfl, rfl, rfl, rfl, trivial⟩
          · refine J.if_le (tgt := 267) (pc' := 262) rfl rfl rfl (by first | omega | (exact R.r _ _) | (simp only [jM.len_sI, jM.len_sL, jM.len_sR, jM.len_fI, jM.len_fL, jM.len_fR]; omega) | (simp [jM.len_nw, jM.len_sI, jM.len_sL, jM.len_sR, jM.len_fI, jM.len_fL, jM.len_fR, *]; omega)) (fun c2 => ?_) (fun c2 => ?_)
            · refine J.iload (pc' := 269) rfl rfl rfl ?_
              refine J.i2l (pc' := 270) rfl rfl (by first | omega | (exact R.r _ _) | (simp only [jM.len_sI, jM.len_sL, jM.len_sR, jM.len_fI, jM.len_fL, jM.len_fR]; omega) | (simp [jM.len_nw, jM.len_sI, jM.len_sL, jM.len_sR, jM.len_fI, jM.len_fL, jM.len_fR, *]; omega)) ?_
              refine J.lstore (pc' := 272) rfl rfl (by decide) ?_
              exact at272 (V 156 (5 * (20 * i + j) + m)) (by unfold nLo; omega) _ ⟨rfl, rfl, rfl, rfl, rfl, rfl, rfl, rfl, rfl, rfl, rfl, rfl, rfl, trivial⟩
            · exfalso
              apply c2
              rw [if_neg q]
              split <;> decide
    have first : ∀ (z j : Nat), (j : Int) + z = V 153 i → ∀ lv, hasL lv [(0, .ref (β.2 16)), (1, .int (jI i)), (2, .int (jI m)), (3, .int (jI lo)), (4, .int (jI hi)), (5, .int (jI (V 153 i))), (6, .long (jL (Sm (fun p => V 154 (20 * i + p)) j))), (8, .long (jL (Sm (fun k => V 154 (20 * i + k) * V 156 (5 * (20 * i + k) + m)) j))), (10, .long (jL (Sm (fun k => V 154 (20 * i + k) * V 157 (5 * (20 * i + k) + m)) j))), (12, .int (jI (j : Int)))] → J γ mX12_prove 3 0 0 0 0 (jP β V) 50 lv [] (pvQ β V i m lo hi) X0 := by
      intro z
      induction z with
      | zero =>
        intro j hj lv hlv
        have ej : j = (V 153 i).toNat := by omega
        subst ej
        refine J.lc hlv ?_
        refine J.iload (pc' := 52) rfl rfl rfl ?_
        refine J.iload (pc' := 54) rfl rfl rfl ?_
        refine J.icmp_ge (tgt := 137) (pc' := 57) rfl rfl rfl (by first | omega | (exact R.r _ _) | (simp only [jM.len_sI, jM.len_sL, jM.len_sR, jM.len_fI, jM.len_fL, jM.len_fR]; omega) | (simp [jM.len_nw, jM.len_sI, jM.len_sL, jM.len_sR, jM.len_fI, jM.len_fL, jM.len_fR, *]; omega)) (by first | omega | (exact R.r _ _) | (simp only [jM.len_sI, jM.len_sL, jM.len_sR, jM.len_fI, jM.len_fL, jM.len_fR]; omega) | (simp [jM.len_nw, jM.len_sI, jM.len_sL, jM.len_sR, jM.len_fI, jM.len_fL, jM.len_fR, *]; omega)) (fun c1 => ?_) (fun c1 => ?_)
        · refine J.iconst (pc' := 138) rfl rfl ?_
          refine J.istore (pc' := 140) rfl rfl (by decide) ?_
          exact second (V 153 i).toNat 0 (by omega) V R (fun _ _ _ _ => rfl) (fun k k1 k2 => by omega) _ ⟨rfl, rfl, rfl, rfl, rfl, rfl, rfl, rfl, rfl, rfl, trivial⟩
        · omega
      | succ z ih =>
        intro j hj lv hlv
        have h9 := ih (j + 1) (by omega)
        have a1 := w4 j (by omega) (by omega)
        have a2 := w5 (5 * (20 * i + j) + m)
        rw [Sm, Sm, Sm, show ((j + 1 : Nat) : Int) = (j : Int) + 1 by omega] at h9
        have b1' : 0 ≤ i ∧ i < 30 := by omega
        have b2' : 0 ≤ m ∧ m < 5 := by omega
        have b4' : (j : Int) < V 153 i ∧ V 153 i ≤ 20 := by omega
        clear hf sT sL sH q1 q2 ih h0 P hi' hm' hl' hh' w4 w5 p4 nb b1 b2 r3 hj second third
        refine J.lc hlv ?_
        refine J.iload (pc' := 52) rfl rfl rfl ?_
        refine J.iload (pc' := 54) rfl rfl rfl ?_
        refine J.icmp_ge (tgt := 137) (pc' := 57) rfl rfl rfl (by first | omega | (exact R.r _ _) | (simp only [jM.len_sI, jM.len_sL, jM.len_sR, jM.len_fI, jM.len_fL, jM.len_fR]; omega) | (simp [jM.len_nw, jM.len_sI, jM.len_sL, jM.len_sR, jM.len_fI, jM.len_fL, jM.len_fR, *]; omega)) (by first | omega | (exact R.r _ _) | (simp only [jM.len_sI, jM.len_sL, jM.len_sR, jM.len_fI, jM.len_fL, jM.len_fR]; omega) | (simp [jM.len_nw, jM.len_sI, jM.len_sL, jM.len_sR, jM.len_fI, jM.len_fL, jM.len_fR, *]; omega)) (fun c1 => ?_) (fun c1 => ?_)
        · omega
        · refine J.bipush (pc' := 59) rfl rfl (by decide) ?_
          refine J.iload_n (pc' := 60) rfl rfl rfl ?_
          refine J.imul (pc' := 61) rfl rfl ?_
          refine J.iload (pc' := 63) rfl rfl rfl ?_
          refine J.iadd (pc' := 64) rfl rfl ?_
          refine J.istore (pc' := 66) rfl rfl (by decide) ?_
          refine J.lc (lv' := pvL2 β i m lo hi (V 153 i) (Sm (fun p => V 154 (20 * i + p)) j) (Sm (fun k => V 154 (20 * i + k) * V 156 (5 * (20 * i + k) + m)) j) (Sm (fun k => V 154 (20 * i + k) * V 157 (5 * (20 * i + k) + m)) j) j (20 * i + j)) (by repeat' (first | exact trivial | refine ⟨rfl, ?_⟩)) ?_
          refine J.lload (pc' := 68) rfl rfl rfl ?_
          first | refine J.aload_n (pc' := 69) rfl rfl rfl ?_ | refine J.aload_nN (pc' := 69) rfl rfl rfl ?_
          refine J.mgR (pc' := 72) (t := 154) B rfl fl_X12_136 rfl rfl (by decide) rfl ?_
          refine J.iload (pc' := 74) rfl rfl rfl ?_
          refine J.mald (pc' := 75) B rfl rfl rfl (by omega) (by simp only [jLn]; omega) rfl ?_
          refine J.i2l (pc' := 76) rfl rfl (by first | omega | (exact R.r _ _) | (simp only [jM.len_sI, jM.len_sL, jM.len_sR, jM.len_fI, jM.len_fL, jM.len_fR]; omega) | (simp [jM.len_nw, jM.len_sI, jM.len_sL, jM.len_sR, jM.len_fI, jM.len_fL, jM.len_fR, *]; omega)) ?_
          refine J.ladd (pc' := 77) rfl rfl ?_
          refine J.lstore (pc' := 79) rfl rfl (by decide) ?_
          refine J.lc (lv' := pvL2 β i m lo hi (V 153 i) (Sm (fun p => V 154 (20 * i + p)) j + V 154 (20 * i + j)) (Sm (fun k => V 154 (20 * i + k) * V 156 (5 * (20 * i + k) + m)) j) (Sm (fun k => V 154 (20 * i + k) * V 157 (5 * (20 * i + k) + m)) j) j (20 * i + j)) (by repeat' (first | exact trivial | refine ⟨rfl, ?_⟩)) ?_
          refine J.lload (pc' := 81) rfl rfl rfl ?_
          first | refine J.aload_n (pc' := 82) rfl rfl rfl ?_ | refine J.aload_nN (pc' := 82) rfl rfl rfl ?_
          refine J.mgR (pc' := 85) (t := 154) B rfl fl_X12_136 rfl rfl (by decide) rfl ?_
          refine J.iload (pc' := 87) rfl rfl rfl ?_
          refine J.mald (pc' := 88) B rfl rfl rfl (by omega) (by simp only [jLn]; omega) rfl ?_
          refine J.i2l (pc' := 89) rfl rfl (by first | omega | (exact R.r _ _) | (simp only [jM.len_sI, jM.len_sL, jM.len_sR, jM.len_fI, jM.len_fL, jM.len_fR]; omega) | (simp [jM.len_nw, jM.len_sI, jM.len_sL, jM.len_sR, jM.len_fI, jM.len_fL, jM.len_fR, *]; omega)) ?_
          first | refine J.aload_n (pc' := 90) rfl rfl rfl ?_ | refine J.aload_nN (pc' := 90) rfl rfl rfl ?_
          refine J.mgR (pc' := 93) (t := 156) B rfl fl_X12_142 rfl rfl (by decide) rfl ?_
          refine J.iconst (pc' := 94) rfl rfl ?_
          refine J.iload (pc' := 96) rfl rfl rfl ?_
          refine J.imul (pc' := 97) rfl rfl ?_
          refine J.iload_n (pc' := 98) rfl rfl rfl ?_
          refine J.iadd (pc' := 99) rfl rfl ?_
          refine J.mald (pc' := 100) B rfl rfl rfl (by omega) (by simp only [jLn]; omega) rfl ?_
          refine J.i2l (pc' := 101) rfl rfl (by first | omega | (exact R.r _ _) | (simp only [jM.len_sI, jM.len_sL, jM.len_sR, jM.len_fI, jM.len_fL, jM.len_fR]; omega) | (simp [jM.len_nw, jM.len_sI, jM.len_sL, jM.len_sR, jM.len_fI, jM.len_fL, jM.len_fR, *]; omega)) ?_
          refine J.lmul (pc' := 102) rfl rfl ?_
          refine J.ladd (pc' := 103) rfl rfl ?_
          refine J.lstore (pc' := 105) rfl rfl (by decide) ?_
          refine J.lc (lv' := pvL2 β i m lo hi (V 153 i) (Sm (fun p => V 154 (20 * i + p)) j + V 154 (20 * i + j)) (Sm (fun k => V 154 (20 * i + k) * V 156 (5 * (20 * i + k) + m)) j + V 154 (20 * i + j) * V 156 (5 * (20 * i + j) + m)) (Sm (fun k => V 154 (20 * i + k) * V 157 (5 * (20 * i + k) + m)) j) j (20 * i + j)) (by repeat' (first | exact trivial | refine ⟨rfl, ?_⟩)) ?_
          refine J.lload (pc' := 107) rfl rfl rfl ?_
          first | refine J.aload_n (pc' := 108) rfl rfl rfl ?_ | refine J.aload_nN (pc' := 108) rfl rfl rfl ?_
          refine J.mgR (pc' := 111) (t := 154) B rfl fl_X12_136 rfl rfl (by decide) rfl ?_
          refine J.iload (pc' := 113) rfl rfl rfl ?_
          refine J.mald (pc' := 114) B rfl rfl rfl (by omega) (by simp only [jLn]; omega) rfl ?_
          refine J.i2l (pc' := 115) rfl rfl (by first | omega | (exact R.r _ _) | (simp only [jM.len_sI, jM.len_sL, jM.len_sR, jM.len_fI, jM.len_fL, jM.len_fR]; omega) | (simp [jM.len_nw, jM.len_sI, jM.len_sL, jM.len_sR, jM.len_fI, jM.len_fL, jM.len_fR, *]; omega)) ?_
          first | refine J.aload_n (pc' := 116) rfl rfl rfl ?_ | refine J.aload_nN (pc' := 116) rfl rfl rfl ?_
          refine J.mgR (pc' := 119) (t := 157) B rfl fl_X12_145 rfl rfl (by decide) rfl ?_
          refine J.iconst (pc' := 120) rfl rfl ?_
          refine J.iload (pc' := 122) rfl rfl rfl ?_
          refine J.imul (pc' := 123) rfl rfl ?_
          refine J.iload_n (pc' := 124) rfl rfl rfl ?_
          refine J.iadd (pc' := 125) rfl rfl ?_
          refine J.mald (pc' := 126) B rfl rfl rfl (by omega) (by simp only [jLn]; omega) rfl ?_
          refine J.i2l (pc' := 127) rfl rfl (by first | omega | (exact R.r _ _) | (simp only [jM.len_sI, jM.len_sL, jM.len_sR, jM.len_fI, jM.len_fL, jM.len_fR]; omega) | (simp [jM.len_nw, jM.len_sI, jM.len_sL, jM.len_sR, jM.len_fI, jM.len_fL, jM.len_fR, *]; omega)) ?_
          refine J.lmul (pc' := 128) rfl rfl ?_
          refine J.ladd (pc' := 129) rfl rfl ?_
          refine J.lstore (pc' := 131) rfl rfl (by decide) ?_
          refine J.lc (lv' := pvL1 β i m lo hi (V 153 i) (Sm (fun p => V 154 (20 * i + p)) j + V 154 (20 * i + j)) (Sm (fun k => V 154 (20 * i + k) * V 156 (5 * (20 * i + k) + m)) j + V 154 (20 * i + j) * V 156 (5 * (20 * i + j) + m)) (Sm (fun k => V 154 (20 * i + k) * V 157 (5 * (20 * i + k) + m)) j + V 154 (20 * i + j) * V 157 (5 * (20 * i + j) + m)) j) (by repeat' (first | exact trivial | refine ⟨rfl, ?_⟩)) ?_
          refine J.iinc (pc' := 134) rfl rfl rfl (by decide) ?_
          refine J.goto (tgt := 50) rfl rfl ?_
          exact h9 _ ⟨rfl, rfl, rfl, rfl, rfl, rfl, rfl, rfl, rfl, rfl, trivial⟩
    have h9 := first (V 153 i).toNat 0 (by omega)
    simp only [Sm] at h9
    first | refine J.aload_n (pc' := 31) rfl rfl rfl ?_ | refine J.aload_nN (pc' := 31) rfl rfl rfl ?_
    refine J.mgR (pc' := 34) (t := 153) B rfl fl_X12_133 rfl rfl (by decide) rfl ?_
    refine J.iload_n (pc' := 35) rfl rfl rfl ?_
    refine J.mald (pc' := 36) B rfl rfl rfl (by omega) (by simp only [jLn]; omega) rfl ?_
    refine J.istore (pc' := 38) rfl rfl (by decide) ?_
    refine J.lconst (pc' := 39) rfl rfl ?_
    refine J.lstore (pc' := 41) rfl rfl (by decide) ?_
    refine J.lconst (pc' := 42) rfl rfl ?_
    refine J.lstore (pc' := 44) rfl rfl (by decide) ?_
    refine J.lconst (pc' := 45) rfl rfl ?_
    refine J.lstore (pc' := 47) rfl rfl (by decide) ?_
    refine J.iconst (pc' := 48) rfl rfl ?_
    refine J.istore (pc' := 50) rfl rfl (by decide) ?_
    exact h9 _ (by repeat' (first | exact trivial | refine ⟨rfl, ?_⟩))
  first | refine J.aload_n (pc' := 6) rfl rfl rfl ?_ | refine J.aload_nN (pc' := 6) rfl rfl rfl ?_
  refine J.iload_n (pc' := 7) rfl rfl rfl ?_
  refine J.callV (pc' := 10) (t := 16) rfl MX12_isMelt ml_X12_331 iv_X12_isMelt (by decide) ⟨_, rfl, rfl⟩ B.1 (cm_isMelt B R h0 hi') rfl rfl (Nat.le_of_ble_eq_true rfl) (by first | omega | (exact R.r _ _) | (simp only [jM.len_sI, jM.len_sL, jM.len_sR, jM.len_fI, jM.len_fL, jM.len_fR]; omega) | (simp [jM.len_nw, jM.len_sI, jM.len_sL, jM.len_sR, jM.len_fI, jM.len_fL, jM.len_fR, *]; omega)) (by first | omega | (exact R.r _ _) | (simp only [jM.len_sI, jM.len_sL, jM.len_sR, jM.len_fI, jM.len_fL, jM.len_fR]; omega) | (simp [jM.len_nw, jM.len_sI, jM.len_sL, jM.len_sR, jM.len_fI, jM.len_fL, jM.len_fR, *]; omega)) (by first | omega | (exact R.r _ _) | (simp only [jM.len_sI, jM.len_sL, jM.len_sR, jM.len_fI, jM.len_fL, jM.len_fR]; omega) | (simp [jM.len_nw, jM.len_sI, jM.len_sL, jM.len_sR, jM.len_fI, jM.len_fL, jM.len_fR, *]; omega)) rfl rfl ?_ ?_
  · exact fun _ _ h => h
  rintro _ _ ⟨b, hb, rfl⟩
  rcases hb with ⟨rfl, hb, rfl⟩ | ⟨rfl, hb, rfl⟩
  · first
    | (exfalso; omega)
    | (refine J.if_eq (tgt := 28) (pc' := 13) rfl rfl rfl (by first | omega | (exact R.r _ _) | (simp only [jM.len_sI, jM.len_sL, jM.len_sR, jM.len_fI, jM.len_fL, jM.len_fR]; omega) | (simp [jM.len_nw, jM.len_sI, jM.len_sL, jM.len_sR, jM.len_fI, jM.len_fL, jM.len_fR, *]; omega)) (fun c10 => ?_) (fun c10 => ?_)
       · first
         | (exfalso; omega)
         | (refine J.iconst (pc' := 29) rfl rfl ?_
            refine J.iret rfl rfl (by first | omega | (exact R.r _ _) | (simp only [jM.len_sI, jM.len_sL, jM.len_sR, jM.len_fI, jM.len_fL, jM.len_fR]; omega) | (simp [jM.len_nw, jM.len_sI, jM.len_sL, jM.len_sR, jM.len_fI, jM.len_fL, jM.len_fR, *]; omega)) (by first | omega | (exact R.r _ _) | (simp only [jM.len_sI, jM.len_sL, jM.len_sR, jM.len_fI, jM.len_fL, jM.len_fR]; omega) | (simp [jM.len_nw, jM.len_sI, jM.len_sL, jM.len_sR, jM.len_fI, jM.len_fL, jM.len_fR, *]; omega)) ?_
            unfold proveQ
            (repeat (first | rw [if_pos (by omega)] | rw [if_neg (by omega)]))
            exact ⟨rfl, rfl⟩)
       · first
         | (exfalso; omega)
         | (first | refine J.aload_n (pc' := 14) rfl rfl rfl ?_ | refine J.aload_nN (pc' := 14) rfl rfl rfl ?_
            refine J.iload_n (pc' := 15) rfl rfl rfl ?_
            refine J.iload_n (pc' := 16) rfl rfl rfl ?_
            refine J.iload (pc' := 18) rfl rfl rfl ?_
            refine J.callS (pc' := 21) rfl MX12_isSpan ml_X12_165 is_X12_isSpan (cm_isSpan hm' hl' hh') rfl rfl (Nat.le_of_ble_eq_true rfl) (by first | omega | (exact R.r _ _) | (simp only [jM.len_sI, jM.len_sL, jM.len_sR, jM.len_fI, jM.len_fL, jM.len_fR]; omega) | (simp [jM.len_nw, jM.len_sI, jM.len_sL, jM.len_sR, jM.len_fI, jM.len_fL, jM.len_fR, *]; omega)) (by first | omega | (exact R.r _ _) | (simp only [jM.len_sI, jM.len_sL, jM.len_sR, jM.len_fI, jM.len_fL, jM.len_fR]; omega) | (simp [jM.len_nw, jM.len_sI, jM.len_sL, jM.len_sR, jM.len_fI, jM.len_fL, jM.len_fR, *]; omega)) (by first | omega | (exact R.r _ _) | (simp only [jM.len_sI, jM.len_sL, jM.len_sR, jM.len_fI, jM.len_fL, jM.len_fR]; omega) | (simp [jM.len_nw, jM.len_sI, jM.len_sL, jM.len_sR, jM.len_fI, jM.len_fL, jM.len_fR, *]; omega)) rfl rfl ?_ ?_
            · exact fun _ _ h => h
            rintro _ _ ⟨b, hb1, rfl, rfl⟩
            rcases hb1 with ⟨rfl, hb1⟩ | ⟨rfl, hb1⟩
            · first
              | (exfalso; omega)
              | (refine J.iconst (pc' := 22) rfl rfl ?_
                 first | refine J.callV (pc' := 25) (t := 16) rfl MX12_may ml_X12_161 iv_X12_may (by decide) ⟨_, rfl, rfl⟩ B.1 (cm_may1 B h0) rfl rfl (Nat.le_of_ble_eq_true rfl) (by first | omega | (exact R.r _ _) | (simp only [jM.len_sI, jM.len_sL, jM.len_sR, jM.len_fI, jM.len_fL, jM.len_fR]; omega) | (simp [jM.len_nw, jM.len_sI, jM.len_sL, jM.len_sR, jM.len_fI, jM.len_fL, jM.len_fR, *]; omega)) (by first | omega | (exact R.r _ _) | (simp only [jM.len_sI, jM.len_sL, jM.len_sR, jM.len_fI, jM.len_fL, jM.len_fR]; omega) | (simp [jM.len_nw, jM.len_sI, jM.len_sL, jM.len_sR, jM.len_fI, jM.len_fL, jM.len_fR, *]; omega)) (by first | omega | (exact R.r _ _) | (simp only [jM.len_sI, jM.len_sL, jM.len_sR, jM.len_fI, jM.len_fL, jM.len_fR]; omega) | (simp [jM.len_nw, jM.len_sI, jM.len_sL, jM.len_sR, jM.len_fI, jM.len_fL, jM.len_fR, *]; omega)) rfl rfl ?_ ?_ | refine J.callV (pc' := 25) (t := 16) rfl MX12_may ml_X12_161 iv_X12_may (by decide) ⟨_, rfl, rfl⟩ B.1 (cm_may0 B h0 (by omega)) rfl rfl (Nat.le_of_ble_eq_true rfl) (by first | omega | (exact R.r _ _) | (simp only [jM.len_sI, jM.len_sL, jM.len_sR, jM.len_fI, jM.len_fL, jM.len_fR]; omega) | (simp [jM.len_nw, jM.len_sI, jM.len_sL, jM.len_sR, jM.len_fI, jM.len_fL, jM.len_fR, *]; omega)) (by first | omega | (exact R.r _ _) | (simp only [jM.len_sI, jM.len_sL, jM.len_sR, jM.len_fI, jM.len_fL, jM.len_fR]; omega) | (simp [jM.len_nw, jM.len_sI, jM.len_sL, jM.len_sR, jM.len_fI, jM.len_fL, jM.len_fR, *]; omega)) (by first | omega | (exact R.r _ _) | (simp only [jM.len_sI, jM.len_sL, jM.len_sR, jM.len_fI, jM.len_fL, jM.len_fR]; omega) | (simp [jM.len_nw, jM.len_sI, jM.len_sL, jM.len_sR, jM.len_fI, jM.len_fL, jM.len_fR, *]; omega)) rfl rfl ?_ ?_
                 · exact fun _ _ h => h
                 rintro _ _ ⟨rfl, rfl⟩
                 refine J.if_ne (tgt := 30) (pc' := 28) rfl rfl rfl (by first | omega | (exact R.r _ _) | (simp only [jM.len_sI, jM.len_sL, jM.len_sR, jM.len_fI, jM.len_fL, jM.len_fR]; omega) | (simp [jM.len_nw, jM.len_sI, jM.len_sL, jM.len_sR, jM.len_fI, jM.len_fL, jM.len_fR, *]; omega)) (fun c25 => ?_) (fun c25 => ?_)
                 · first
                   | (exfalso; omega)
                   | (exact rest (by omega) (by omega))
                 · first
                   | (exfalso; omega)
                   | (refine J.iconst (pc' := 29) rfl rfl ?_
                      refine J.iret rfl rfl (by first | omega | (exact R.r _ _) | (simp only [jM.len_sI, jM.len_sL, jM.len_sR, jM.len_fI, jM.len_fL, jM.len_fR]; omega) | (simp [jM.len_nw, jM.len_sI, jM.len_sL, jM.len_sR, jM.len_fI, jM.len_fL, jM.len_fR, *]; omega)) (by first | omega | (exact R.r _ _) | (simp only [jM.len_sI, jM.len_sL, jM.len_sR, jM.len_fI, jM.len_fL, jM.len_fR]; omega) | (simp [jM.len_nw, jM.len_sI, jM.len_sL, jM.len_sR, jM.len_fI, jM.len_fL, jM.len_fR, *]; omega)) ?_
                      unfold proveQ
                      (repeat (first | rw [if_pos (by omega)] | rw [if_neg (by omega)]))
                      exact ⟨rfl, rfl⟩))
            · first
              | (exfalso; omega)
              | (refine J.iconst (pc' := 22) rfl rfl ?_
                 first | refine J.callV (pc' := 25) (t := 16) rfl MX12_may ml_X12_161 iv_X12_may (by decide) ⟨_, rfl, rfl⟩ B.1 (cm_may1 B h0) rfl rfl (Nat.le_of_ble_eq_true rfl) (by first | omega | (exact R.r _ _) | (simp only [jM.len_sI, jM.len_sL, jM.len_sR, jM.len_fI, jM.len_fL, jM.len_fR]; omega) | (simp [jM.len_nw, jM.len_sI, jM.len_sL, jM.len_sR, jM.len_fI, jM.len_fL, jM.len_fR, *]; omega)) (by first | omega | (exact R.r _ _) | (simp only [jM.len_sI, jM.len_sL, jM.len_sR, jM.len_fI, jM.len_fL, jM.len_fR]; omega) | (simp [jM.len_nw, jM.len_sI, jM.len_sL, jM.len_sR, jM.len_fI, jM.len_fL, jM.len_fR, *]; omega)) (by first | omega | (exact R.r _ _) | (simp only [jM.len_sI, jM.len_sL, jM.len_sR, jM.len_fI, jM.len_fL, jM.len_fR]; omega) | (simp [jM.len_nw, jM.len_sI, jM.len_sL, jM.len_sR, jM.len_fI, jM.len_fL, jM.len_fR, *]; omega)) rfl rfl ?_ ?_ | refine J.callV (pc' := 25) (t := 16) rfl MX12_may ml_X12_161 iv_X12_may (by decide) ⟨_, rfl, rfl⟩ B.1 (cm_may0 B h0 (by omega)) rfl rfl (Nat.le_of_ble_eq_true rfl) (by first | omega | (exact R.r _ _) | (simp only [jM.len_sI, jM.len_sL, jM.len_sR, jM.len_fI, jM.len_fL, jM.len_fR]; omega) | (simp [jM.len_nw, jM.len_sI, jM.len_sL, jM.len_sR, jM.len_fI, jM.len_fL, jM.len_fR, *]; omega)) (by first | omega | (exact R.r _ _) | (simp only [jM.len_sI, jM.len_sL, jM.len_sR, jM.len_fI, jM.len_fL, jM.len_fR]; omega) | (simp [jM.len_nw, jM.len_sI, jM.len_sL, jM.len_sR, jM.len_fI, jM.len_fL, jM.len_fR, *]; omega)) (by first | omega | (exact R.r _ _) | (simp only [jM.len_sI, jM.len_sL, jM.len_sR, jM.len_fI, jM.len_fL, jM.len_fR]; omega) | (simp [jM.len_nw, jM.len_sI, jM.len_sL, jM.len_sR, jM.len_fI, jM.len_fL, jM.len_fR, *]; omega)) rfl rfl ?_ ?_
                 · exact fun _ _ h => h
                 rintro _ _ ⟨rfl, rfl⟩
                 refine J.if_ne (tgt := 30) (pc' := 28) rfl rfl rfl (by first | omega | (exact R.r _ _) | (simp only [jM.len_sI, jM.len_sL, jM.len_sR, jM.len_fI, jM.len_fL, jM.len_fR]; omega) | (simp [jM.len_nw, jM.len_sI, jM.len_sL, jM.len_sR, jM.len_fI, jM.len_fL, jM.len_fR, *]; omega)) (fun c25 => ?_) (fun c25 => ?_)
                 · first
                   | (exfalso; omega)
                   | (exact rest (by omega) (by omega))
                 · first
                   | (exfalso; omega)
                   | (refine J.iconst (pc' := 29) rfl rfl ?_
                      refine J.iret rfl rfl (by first | omega | (exact R.r _ _) | (simp only [jM.len_sI, jM.len_sL, jM.len_sR, jM.len_fI, jM.len_fL, jM.len_fR]; omega) | (simp [jM.len_nw, jM.len_sI, jM.len_sL, jM.len_sR, jM.len_fI, jM.len_fL, jM.len_fR, *]; omega)) (by first | omega | (exact R.r _ _) | (simp only [jM.len_sI, jM.len_sL, jM.len_sR, jM.len_fI, jM.len_fL, jM.len_fR]; omega) | (simp [jM.len_nw, jM.len_sI, jM.len_sL, jM.len_sR, jM.len_fI, jM.len_fL, jM.len_fR, *]; omega)) ?_
                      unfold proveQ
                      (repeat (first | rw [if_pos (by omega)] | rw [if_neg (by omega)]))
                      exact ⟨rfl, rfl⟩))))
  · first
    | (exfalso; omega)
    | (refine J.if_eq (tgt := 28) (pc' := 13) rfl rfl rfl (by first | omega | (exact R.r _ _) | (simp only [jM.len_sI, jM.len_sL, jM.len_sR, jM.len_fI, jM.len_fL, jM.len_fR]; omega) | (simp [jM.len_nw, jM.len_sI, jM.len_sL, jM.len_sR, jM.len_fI, jM.len_fL, jM.len_fR, *]; omega)) (fun c10 => ?_) (fun c10 => ?_)
       · first
         | (exfalso; omega)
         | (refine J.iconst (pc' := 29) rfl rfl ?_
            refine J.iret rfl rfl (by first | omega | (exact R.r _ _) | (simp only [jM.len_sI, jM.len_sL, jM.len_sR, jM.len_fI, jM.len_fL, jM.len_fR]; omega) | (simp [jM.len_nw, jM.len_sI, jM.len_sL, jM.len_sR, jM.len_fI, jM.len_fL, jM.len_fR, *]; omega)) (by first | omega | (exact R.r _ _) | (simp only [jM.len_sI, jM.len_sL, jM.len_sR, jM.len_fI, jM.len_fL, jM.len_fR]; omega) | (simp [jM.len_nw, jM.len_sI, jM.len_sL, jM.len_sR, jM.len_fI, jM.len_fL, jM.len_fR, *]; omega)) ?_
            unfold proveQ
            (repeat (first | rw [if_pos (by omega)] | rw [if_neg (by omega)]))
            exact ⟨rfl, rfl⟩)
       · first
         | (exfalso; omega)
         | (first | refine J.aload_n (pc' := 14) rfl rfl rfl ?_ | refine J.aload_nN (pc' := 14) rfl rfl rfl ?_
            refine J.iload_n (pc' := 15) rfl rfl rfl ?_
            refine J.iload_n (pc' := 16) rfl rfl rfl ?_
            refine J.iload (pc' := 18) rfl rfl rfl ?_
            refine J.callS (pc' := 21) rfl MX12_isSpan ml_X12_165 is_X12_isSpan (cm_isSpan hm' hl' hh') rfl rfl (Nat.le_of_ble_eq_true rfl) (by first | omega | (exact R.r _ _) | (simp only [jM.len_sI, jM.len_sL, jM.len_sR, jM.len_fI, jM.len_fL, jM.len_fR]; omega) | (simp [jM.len_nw, jM.len_sI, jM.len_sL, jM.len_sR, jM.len_fI, jM.len_fL, jM.len_fR, *]; omega)) (by first | omega | (exact R.r _ _) | (simp only [jM.len_sI, jM.len_sL, jM.len_sR, jM.len_fI, jM.len_fL, jM.len_fR]; omega) | (simp [jM.len_nw, jM.len_sI, jM.len_sL, jM.len_sR, jM.len_fI, jM.len_fL, jM.len_fR, *]; omega)) (by first | omega | (exact R.r _ _) | (simp only [jM.len_sI, jM.len_sL, jM.len_sR, jM.len_fI, jM.len_fL, jM.len_fR]; omega) | (simp [jM.len_nw, jM.len_sI, jM.len_sL, jM.len_sR, jM.len_fI, jM.len_fL, jM.len_fR, *]; omega)) rfl rfl ?_ ?_
            · exact fun _ _ h => h
            rintro _ _ ⟨b, hb1, rfl, rfl⟩
            rcases hb1 with ⟨rfl, hb1⟩ | ⟨rfl, hb1⟩
            · first
              | (exfalso; omega)
              | (refine J.iconst (pc' := 22) rfl rfl ?_
                 first | refine J.callV (pc' := 25) (t := 16) rfl MX12_may ml_X12_161 iv_X12_may (by decide) ⟨_, rfl, rfl⟩ B.1 (cm_may1 B h0) rfl rfl (Nat.le_of_ble_eq_true rfl) (by first | omega | (exact R.r _ _) | (simp only [jM.len_sI, jM.len_sL, jM.len_sR, jM.len_fI, jM.len_fL, jM.len_fR]; omega) | (simp [jM.len_nw, jM.len_sI, jM.len_sL, jM.len_sR, jM.len_fI, jM.len_fL, jM.len_fR, *]; omega)) (by first | omega | (exact R.r _ _) | (simp only [jM.len_sI, jM.len_sL, jM.len_sR, jM.len_fI, jM.len_fL, jM.len_fR]; omega) | (simp [jM.len_nw, jM.len_sI, jM.len_sL, jM.len_sR, jM.len_fI, jM.len_fL, jM.len_fR, *]; omega)) (by first | omega | (exact R.r _ _) | (simp only [jM.len_sI, jM.len_sL, jM.len_sR, jM.len_fI, jM.len_fL, jM.len_fR]; omega) | (simp [jM.len_nw, jM.len_sI, jM.len_sL, jM.len_sR, jM.len_fI, jM.len_fL, jM.len_fR, *]; omega)) rfl rfl ?_ ?_ | refine J.callV (pc' := 25) (t := 16) rfl MX12_may ml_X12_161 iv_X12_may (by decide) ⟨_, rfl, rfl⟩ B.1 (cm_may0 B h0 (by omega)) rfl rfl (Nat.le_of_ble_eq_true rfl) (by first | omega | (exact R.r _ _) | (simp only [jM.len_sI, jM.len_sL, jM.len_sR, jM.len_fI, jM.len_fL, jM.len_fR]; omega) | (simp [jM.len_nw, jM.len_sI, jM.len_sL, jM.len_sR, jM.len_fI, jM.len_fL, jM.len_fR, *]; omega)) (by first | omega | (exact R.r _ _) | (simp only [jM.len_sI, jM.len_sL, jM.len_sR, jM.len_fI, jM.len_fL, jM.len_fR]; omega) | (simp [jM.len_nw, jM.len_sI, jM.len_sL, jM.len_sR, jM.len_fI, jM.len_fL, jM.len_fR, *]; omega)) (by first | omega | (exact R.r _ _) | (simp only [jM.len_sI, jM.len_sL, jM.len_sR, jM.len_fI, jM.len_fL, jM.len_fR]; omega) | (simp [jM.len_nw, jM.len_sI, jM.len_sL, jM.len_sR, jM.len_fI, jM.len_fL, jM.len_fR, *]; omega)) rfl rfl ?_ ?_
                 · exact fun _ _ h => h
                 rintro _ _ ⟨rfl, rfl⟩
                 refine J.if_ne (tgt := 30) (pc' := 28) rfl rfl rfl (by first | omega | (exact R.r _ _) | (simp only [jM.len_sI, jM.len_sL, jM.len_sR, jM.len_fI, jM.len_fL, jM.len_fR]; omega) | (simp [jM.len_nw, jM.len_sI, jM.len_sL, jM.len_sR, jM.len_fI, jM.len_fL, jM.len_fR, *]; omega)) (fun c25 => ?_) (fun c25 => ?_)
                 · first
                   | (exfalso; omega)
                   | (exact rest (by omega) (by omega))
                 · first
                   | (exfalso; omega)
                   | (refine J.iconst (pc' := 29) rfl rfl ?_
                      refine J.iret rfl rfl (by first | omega | (exact R.r _ _) | (simp only [jM.len_sI, jM.len_sL, jM.len_sR, jM.len_fI, jM.len_fL, jM.len_fR]; omega) | (simp [jM.len_nw, jM.len_sI, jM.len_sL, jM.len_sR, jM.len_fI, jM.len_fL, jM.len_fR, *]; omega)) (by first | omega | (exact R.r _ _) | (simp only [jM.len_sI, jM.len_sL, jM.len_sR, jM.len_fI, jM.len_fL, jM.len_fR]; omega) | (simp [jM.len_nw, jM.len_sI, jM.len_sL, jM.len_sR, jM.len_fI, jM.len_fL, jM.len_fR, *]; omega)) ?_
                      unfold proveQ
                      (repeat (first | rw [if_pos (by omega)] | rw [if_neg (by omega)]))
                      exact ⟨rfl, rfl⟩))
            · first
              | (exfalso; omega)
              | (refine J.iconst (pc' := 22) rfl rfl ?_
                 first | refine J.callV (pc' := 25) (t := 16) rfl MX12_may ml_X12_161 iv_X12_may (by decide) ⟨_, rfl, rfl⟩ B.1 (cm_may1 B h0) rfl rfl (Nat.le_of_ble_eq_true rfl) (by first | omega | (exact R.r _ _) | (simp only [jM.len_sI, jM.len_sL, jM.len_sR, jM.len_fI, jM.len_fL, jM.len_fR]; omega) | (simp [jM.len_nw, jM.len_sI, jM.len_sL, jM.len_sR, jM.len_fI, jM.len_fL, jM.len_fR, *]; omega)) (by first | omega | (exact R.r _ _) | (simp only [jM.len_sI, jM.len_sL, jM.len_sR, jM.len_fI, jM.len_fL, jM.len_fR]; omega) | (simp [jM.len_nw, jM.len_sI, jM.len_sL, jM.len_sR, jM.len_fI, jM.len_fL, jM.len_fR, *]; omega)) (by first | omega | (exact R.r _ _) | (simp only [jM.len_sI, jM.len_sL, jM.len_sR, jM.len_fI, jM.len_fL, jM.len_fR]; omega) | (simp [jM.len_nw, jM.len_sI, jM.len_sL, jM.len_sR, jM.len_fI, jM.len_fL, jM.len_fR, *]; omega)) rfl rfl ?_ ?_ | refine J.callV (pc' := 25) (t := 16) rfl MX12_may ml_X12_161 iv_X12_may (by decide) ⟨_, rfl, rfl⟩ B.1 (cm_may0 B h0 (by omega)) rfl rfl (Nat.le_of_ble_eq_true rfl) (by first | omega | (exact R.r _ _) | (simp only [jM.len_sI, jM.len_sL, jM.len_sR, jM.len_fI, jM.len_fL, jM.len_fR]; omega) | (simp [jM.len_nw, jM.len_sI, jM.len_sL, jM.len_sR, jM.len_fI, jM.len_fL, jM.len_fR, *]; omega)) (by first | omega | (exact R.r _ _) | (simp only [jM.len_sI, jM.len_sL, jM.len_sR, jM.len_fI, jM.len_fL, jM.len_fR]; omega) | (simp [jM.len_nw, jM.len_sI, jM.len_sL, jM.len_sR, jM.len_fI, jM.len_fL, jM.len_fR, *]; omega)) (by first | omega | (exact R.r _ _) | (simp only [jM.len_sI, jM.len_sL, jM.len_sR, jM.len_fI, jM.len_fL, jM.len_fR]; omega) | (simp [jM.len_nw, jM.len_sI, jM.len_sL, jM.len_sR, jM.len_fI, jM.len_fL, jM.len_fR, *]; omega)) rfl rfl ?_ ?_
                 · exact fun _ _ h => h
                 rintro _ _ ⟨rfl, rfl⟩
                 refine J.if_ne (tgt := 30) (pc' := 28) rfl rfl rfl (by first | omega | (exact R.r _ _) | (simp only [jM.len_sI, jM.len_sL, jM.len_sR, jM.len_fI, jM.len_fL, jM.len_fR]; omega) | (simp [jM.len_nw, jM.len_sI, jM.len_sL, jM.len_sR, jM.len_fI, jM.len_fL, jM.len_fR, *]; omega)) (fun c25 => ?_) (fun c25 => ?_)
                 · first
                   | (exfalso; omega)
                   | (exact rest (by omega) (by omega))
                 · first
                   | (exfalso; omega)
                   | (refine J.iconst (pc' := 29) rfl rfl ?_
                      refine J.iret rfl rfl (by first | omega | (exact R.r _ _) | (simp only [jM.len_sI, jM.len_sL, jM.len_sR, jM.len_fI, jM.len_fL, jM.len_fR]; omega) | (simp [jM.len_nw, jM.len_sI, jM.len_sL, jM.len_sR, jM.len_fI, jM.len_fL, jM.len_fR, *]; omega)) (by first | omega | (exact R.r _ _) | (simp only [jM.len_sI, jM.len_sL, jM.len_sR, jM.len_fI, jM.len_fL, jM.len_fR]; omega) | (simp [jM.len_nw, jM.len_sI, jM.len_sL, jM.len_sR, jM.len_fI, jM.len_fL, jM.len_fR, *]; omega)) ?_
                      unfold proveQ
                      (repeat (first | rw [if_pos (by omega)] | rw [if_neg (by omega)]))
                      exact ⟨rfl, rfl⟩))))
end M17

