/-- what melting w whole layers and l tons of one more from heap g into melt M makes of the state -/
def mlOk (U U' : VV) (g M w l : Int) : Prop :=
  (∀ i, U' 138 i = if i = g then U 138 g - w else U 138 i) ∧
  (∀ i, (i < 41 * g + U 138 g - w ∨ 41 * g + 41 ≤ i) → U' 139 i = if 0 < l ∧ i = 41 * g + U 138 g - w - 1 then U 139 i - l else U 139 i) ∧
  (∀ i, U' 153 i = if i = M then U 153 M + w + (if 0 < l then 1 else 0) else U 153 i) ∧
  (∀ i, U' 154 i = if 20 * M + U 153 M ≤ i ∧ i < 20 * M + U 153 M + w then U 139 (41 * g + U 138 g - 1 - (i - (20 * M + U 153 M))) else if 0 < l ∧ i = 20 * M + U 153 M + w then l else U 154 i) ∧
  (∀ i, U' 155 i = if 20 * M + U 153 M ≤ i ∧ i < 20 * M + U 153 M + w + (if 0 < l then 1 else 0) then U 140 (41 * g + U 138 g - 1 - (i - (20 * M + U 153 M))) else U 155 i) ∧
  (∀ p j, 0 ≤ j → j < 5 → U' 156 (5 * p + j) = if 20 * M + U 153 M ≤ p ∧ p < 20 * M + U 153 M + w + (if 0 < l then 1 else 0) then lowL U (41 * g + U 138 g - 1 - (p - (20 * M + U 153 M))) j else U 156 (5 * p + j)) ∧
  (∀ p j, 0 ≤ j → j < 5 → U' 157 (5 * p + j) = if 20 * M + U 153 M ≤ p ∧ p < 20 * M + U 153 M + w + (if 0 < l then 1 else 0) then highL U (41 * g + U 138 g - 1 - (p - (20 * M + U 153 M))) j else U 157 (5 * p + j)) ∧
  (∀ r, r ≠ 138 → r ≠ 139 → r < 153 ∨ 157 < r → U' r = U r)
section ML
variable {U U1 U' V W : VV} {g M : Int}
theorem mlV_p {left : Int} (hM : U 16 52 = M) (i : Int) : mlV U g left 154 i = (if i = 20 * M + U 153 M then mlT U g left else U 154 i) ∧ mlV U g left 155 i = (if i = 20 * M + U 153 M then U 140 (mlY U g) else U 155 i) ∧ ∀ p j, 0 ≤ j → j < 5 → mlV U g left 156 (5 * p + j) = (if p = 20 * M + U 153 M then lowL U (mlY U g) j else U 156 (5 * p + j)) ∧ mlV U g left 157 (5 * p + j) = (if p = 20 * M + U 153 M then highL U (mlY U g) j else U 157 (5 * p + j)) := by
  have e : ∀ r q, r = 154 ∨ r = 155 ∨ r = 156 ∨ r = 157 → mlV U g left r q = mlA U (mlY U g) (20 * M + U 153 M) (mlT U g left) 5 r q := fun r q hr => by
    unfold mlV mlB mlP
    rw [hM]
    split
    · rw [jU_o _ (by omega), jU_o _ (by omega), jU_o _ (by omega)]
    · rw [jU_o _ (by omega), jU_o _ (by omega)]
  refine ⟨?_, ?_, fun p j h0 h1 => ⟨?_, ?_⟩⟩
  · rw [e 154 _ (by omega)]
    unfold mlA
    rw [if_neg (by omega), if_neg (by omega)]
    by_cases c : i = 20 * M + U 153 M
    · rw [if_pos ⟨rfl, c⟩, if_pos c]
    · rw [if_neg (fun q => c q.2), if_neg c]
  · rw [e 155 _ (by omega)]
    unfold mlA
    rw [if_neg (by omega)]
    by_cases c : i = 20 * M + U 153 M
    · rw [if_pos ⟨rfl, c⟩, if_pos c]
    · rw [if_neg (fun q => c q.2), if_neg (by omega), if_neg c]
  · rw [e 156 _ (by omega)]
    unfold mlA
    by_cases c : p = 20 * M + U 153 M
    · rw [if_pos ⟨Or.inl rfl, by omega, by omega⟩, if_pos rfl, if_pos c]
      congr 1
      omega
    · rw [if_neg (by omega), if_neg (by omega), if_neg (by omega), if_neg c]
  · rw [e 157 _ (by omega)]
    unfold mlA
    by_cases c : p = 20 * M + U 153 M
    · rw [if_pos ⟨Or.inr rfl, by omega, by omega⟩, if_neg (by decide), if_pos c]
      congr 1
      omega
    · rw [if_neg (by omega), if_neg (by omega), if_neg (by omega), if_neg c]
/-- one step -/
theorem ml_stepW {left : Int} (hM : U 16 52 = M) (hg : 0 ≤ U 138 g ∧ U 138 g ≤ 40) (hm : 1 ≤ U 138 g) (h : U 139 (41 * g + U 138 g - 1) ≤ left) : mlOk U (mlV U g left) g M 1 0 := by
  have eY : mlY U g = 41 * g + U 138 g - 1 := rfl
  have eT : mlT U g left = U 139 (41 * g + U 138 g - 1) := by unfold mlT; rw [eY, if_neg (by omega)]
  refine ⟨fun i => ?_, fun i hi => ?_, fun i => ?_, fun i => ?_, fun i => ?_, fun p j h0 h1 => ?_, fun p j h0 h1 => ?_, fun r h1 h2 h3 => funext fun i => mlV_o h1 h2 h3⟩
  · rw [mlV_138, eY, eT]
    by_cases c : i = g
    · rw [if_pos ⟨c, by omega⟩, if_pos c]
    · rw [if_neg (fun q => c q.1), if_neg c]
  · rw [mlV_139, eY, if_neg (by omega), if_neg (by omega)]
  · rw [mlV_153, hM, if_neg (show ¬ (0 : Int) < 0 by decide), Int.add_zero]
  · rw [(mlV_p hM i).1, eT]
    by_cases c : i = 20 * M + U 153 M
    · rw [if_pos c, if_pos (by omega)]
      congr 1
      omega
    · rw [if_neg c, if_neg (by omega), if_neg (by omega)]
  · rw [(mlV_p hM i).2.1, eY, if_neg (show ¬ (0 : Int) < 0 by decide)]
    by_cases c : i = 20 * M + U 153 M
    · rw [if_pos c, if_pos (by omega)]
      congr 1
      omega
    · rw [if_neg c, if_neg (by omega)]
  · rw [((mlV_p hM 0).2.2 p j h0 h1).1, eY, if_neg (show ¬ (0 : Int) < 0 by decide)]
    by_cases c : p = 20 * M + U 153 M
    · rw [if_pos c, if_pos (by omega)]
      congr 1
      omega
    · rw [if_neg c, if_neg (by omega)]
  · rw [((mlV_p hM 0).2.2 p j h0 h1).2, eY, if_neg (show ¬ (0 : Int) < 0 by decide)]
    by_cases c : p = 20 * M + U 153 M
    · rw [if_pos c, if_pos (by omega)]
      congr 1
      omega
    · rw [if_neg c, if_neg (by omega)]
theorem ml_stepS {left : Int} (hM : U 16 52 = M) (h0' : 0 < left) (h : left < U 139 (41 * g + U 138 g - 1)) : mlOk U (mlV U g left) g M 0 left := by
  have eY : mlY U g = 41 * g + U 138 g - 1 := rfl
  have eT : mlT U g left = left := by unfold mlT; rw [eY, if_pos h]
  refine ⟨fun i => ?_, fun i hi => ?_, fun i => ?_, fun i => ?_, fun i => ?_, fun p j h0 h1 => ?_, fun p j h0 h1 => ?_, fun r h1 h2 h3 => funext fun i => mlV_o h1 h2 h3⟩
  · rw [mlV_138, eY, eT, if_neg (by omega)]
    by_cases c : i = g
    · rw [if_pos c, c]; omega
    · rw [if_neg c]
  · rw [mlV_139, eY, eT]
    by_cases c : i = 41 * g + U 138 g - 1
    · rw [if_pos c, if_pos (by omega), c]
    · rw [if_neg c, if_neg (by omega)]
  · rw [mlV_153, hM, if_pos h0', Int.add_zero]
  · have n1 : ¬ (20 * M + U 153 M ≤ i ∧ i < 20 * M + U 153 M + 0) := by omega
    rw [(mlV_p hM i).1, eT, if_neg n1]
    by_cases c : i = 20 * M + U 153 M
    · rw [if_pos c, if_pos (by omega)]
    · rw [if_neg c, if_neg (by omega)]
  · rw [(mlV_p hM i).2.1, eY, if_pos h0']
    by_cases c : i = 20 * M + U 153 M
    · rw [if_pos c, if_pos (by omega)]
      congr 1
      omega
    · rw [if_neg c, if_neg (by omega)]
  · rw [((mlV_p hM 0).2.2 p j h0 h1).1, eY, if_pos h0']
    by_cases c : p = 20 * M + U 153 M
    · rw [if_pos c, if_pos (by omega)]
      congr 1
      omega
    · rw [if_neg c, if_neg (by omega)]
  · rw [((mlV_p hM 0).2.2 p j h0 h1).2, eY, if_pos h0']
    by_cases c : p = 20 * M + U 153 M
    · rw [if_pos c, if_pos (by omega)]
      congr 1
      omega
    · rw [if_neg c, if_neg (by omega)]
theorem ml_comp {w l : Int} (hg : 0 ≤ g) (hm : U 138 g ≤ 40) (hw : 0 ≤ w) (hw1 : w + 1 ≤ U 138 g) (hwl : 0 < l → w + 1 < U 138 g) (h1 : mlOk U U1 g M 1 0) (h2 : mlOk U1 U' g M w l) : mlOk U U' g M (w + 1) l := by
  obtain ⟨a1, a2, a3, a4, a5, a6, a7, a8⟩ := h1
  obtain ⟨b1, b2, b3, b4, b5, b6, b7, b8⟩ := h2
  have e38 : U1 138 g = U 138 g - 1 := by rw [a1, if_pos rfl]
  have e53 : U1 153 M = U 153 M + 1 := by rw [a3, if_pos rfl]; simp
  have n0 : ¬ (0 : Int) < 0 := by decide
  rw [e38] at b1 b2 b4 b5 b6 b7
  rw [e53] at b3 b4 b5 b6 b7
  simp only [if_neg n0, Int.add_zero] at a3 a5 a6 a7
  have lo : ∀ y j, lowL U1 y j = lowL U y j ∧ highL U1 y j = highL U y j := fun y j => by
    unfold lowL highL
    rw [a8 140 (by decide) (by decide) (by decide), a8 142 (by decide) (by decide) (by decide), a8 143 (by decide) (by decide) (by decide), a8 134 (by decide) (by decide) (by decide), a8 135 (by decide) (by decide) (by decide)]
    exact ⟨rfl, rfl⟩
  have i0 : 0 ≤ (if 0 < l then (1 : Int) else 0) := by split <;> omega
  refine ⟨fun i => ?_, fun i hi => ?_, fun i => ?_, fun i => ?_, fun i => ?_, fun p j h0 h1 => ?_, fun p j h0 h1 => ?_, fun r h1 h2 h3 => ?_⟩
  · rw [b1]
    by_cases c : i = g
    · rw [if_pos c, if_pos c]; omega
    · rw [if_neg c, if_neg c, a1, if_neg c]
  · rw [b2 i (by omega), a2 i (by omega), if_neg (show ¬ ((0 : Int) < 0 ∧ _) from fun q => n0 q.1)]
    by_cases c : 0 < l ∧ i = 41 * g + U 138 g - (w + 1) - 1
    · rw [if_pos (by omega), if_pos c]
    · rw [if_neg (by omega), if_neg c]
  · rw [b3]
    by_cases c : i = M
    · rw [if_pos c, if_pos c]; omega
    · rw [if_neg c, if_neg c, a3, if_neg c]
  · rw [b4]
    by_cases c1 : 20 * M + U 153 M ≤ i ∧ i < 20 * M + U 153 M + (w + 1)
    · rw [if_pos c1]
      by_cases c2 : i = 20 * M + U 153 M
      · rw [if_neg (by omega), if_neg (by omega), a4, if_pos (by omega)]
      · rw [if_pos (by omega), a2 _ (by omega), if_neg (fun q => n0 q.1)]
        congr 1
        omega
    · rw [if_neg c1, if_neg (by omega)]
      by_cases c3 : 0 < l ∧ i = 20 * M + U 153 M + (w + 1)
      · rw [if_pos (by omega), if_pos c3]
      · rw [if_neg (by omega), if_neg c3, a4, if_neg (by omega), if_neg (fun q => n0 q.1)]
  · rw [b5]
    by_cases c1 : 20 * M + U 153 M ≤ i ∧ i < 20 * M + U 153 M + (w + 1) + (if 0 < l then 1 else 0)
    · rw [if_pos c1]
      by_cases c2 : i = 20 * M + U 153 M
      · rw [if_neg (by omega), a5, if_pos (by omega)]
      · rw [if_pos (by omega), a8 140 (by decide) (by decide) (by decide)]
        congr 1
        omega
    · rw [if_neg c1, if_neg (by omega), a5, if_neg (by omega)]
  · rw [b6 p j h0 h1]
    by_cases c1 : 20 * M + U 153 M ≤ p ∧ p < 20 * M + U 153 M + (w + 1) + (if 0 < l then 1 else 0)
    · rw [if_pos c1]
      by_cases c2 : p = 20 * M + U 153 M
      · rw [if_neg (by omega), a6 p j h0 h1, if_pos (by omega)]
      · rw [if_pos (by omega), (lo _ _).1]
        congr 1
        omega
    · rw [if_neg c1, if_neg (by omega), a6 p j h0 h1, if_neg (by omega)]
  · rw [b7 p j h0 h1]
    by_cases c1 : 20 * M + U 153 M ≤ p ∧ p < 20 * M + U 153 M + (w + 1) + (if 0 < l then 1 else 0)
    · rw [if_pos c1]
      by_cases c2 : p = 20 * M + U 153 M
      · rw [if_neg (by omega), a7 p j h0 h1, if_pos (by omega)]
      · rw [if_pos (by omega), (lo _ _).2]
        congr 1
        omega
    · rw [if_neg c1, if_neg (by omega), a7 p j h0 h1, if_neg (by omega)]
  · rw [b8 r h1 h2 h3, a8 r h1 h2 h3]
theorem gvW_cg {N N' : Int → Int} : ∀ (k : Nat) (n : Int), (∀ j : Nat, j < k → N j = N' j) → gvW N k n = gvW N' k n := fun k => by
  induction k with
  | zero => exact fun _ _ => rfl
  | succ k ih => exact fun n h => by rw [gvW, gvW, h k (by omega), ih _ (fun j hj => h j (by omega))]
theorem gvW_0 {N : Int → Int} : ∀ (k : Nat), gvW N k 0 = (0, 0) := fun k => by
  cases k with
  | zero => rfl
  | succ k => rw [gvW, if_neg (by omega)]
theorem mlG_0 : ∀ k : Nat, mlG k U g 0 = U := fun k => by
  cases k with
  | zero => rfl
  | succ k => rw [mlG, if_neg (by omega)]
theorem mlOk_0 : mlOk U U g M 0 0 := by
  have n0 : ¬ (0 : Int) < 0 := by decide
  refine ⟨fun i => ?_, fun i hi => ?_, fun i => ?_, fun i => ?_, fun i => ?_, fun p j h0 h1 => ?_, fun p j h0 h1 => ?_, fun r h1 h2 h3 => rfl⟩
  · by_cases c : i = g
    · rw [if_pos c, c]; omega
    · rw [if_neg c]
  · rw [if_neg (fun q => n0 q.1)]
  · rw [if_neg n0]
    by_cases c : i = M
    · rw [if_pos c, c]; omega
    · rw [if_neg c]
  · rw [if_neg (by omega), if_neg (fun q => n0 q.1)]
  · rw [if_neg n0, if_neg (by omega)]
  · rw [if_neg n0, if_neg (by omega)]
  · rw [if_neg n0, if_neg (by omega)]
theorem ml_tonsP {left : Int} (hM : U 16 52 = M) (h0 : 0 ≤ U 153 M) : tonsP (mlV U g left) M = tonsP U M + mlT U g left := by
  unfold tonsP
  rw [mlV_153, hM, if_pos rfl, show (U 153 M + 1).toNat = (U 153 M).toNat + 1 by omega, Sm, (mlV_p hM _).1, if_pos (by omega)]
  congr 1
  exact Sm_cg (fun i hi => by rw [(mlV_p hM _).1, if_neg (by omega)])
theorem ml_ok (hg : 0 ≤ g ∧ g < 6) : ∀ (k : Nat) (U : VV) (left : Int), left ≤ k → 0 ≤ left → mlI U M → left ≤ tonsOf U g → U 153 M + left ≤ 20 → mlOk U (mlG k U g left) g M ((gvW (fun j => U 139 (41 * g + j)) (U 138 g).toNat left).1 : Int) (gvW (fun j => U 139 (41 * g + j)) (U 138 g).toNat left).2 ∧ tonsP (mlG k U g left) M = tonsP U M + left ∧ ((gvW (fun j => U 139 (41 * g + j)) (U 138 g).toNat left).1 : Int) ≤ U 138 g ∧ (0 < (gvW (fun j => U 139 (41 * g + j)) (U 138 g).toNat left).2 → ((gvW (fun j => U 139 (41 * g + j)) (U 138 g).toNat left).1 : Int) < U 138 g) := fun k => by
  induction k with
  | zero =>
    intro U left h1 h2 h3 h4 h5
    have e : left = 0 := by omega
    have r := h3.1 138 g rfl
    simp [jLo, jHi] at r
    subst e
    rw [mlG_0, gvW_0]
    exact ⟨mlOk_0, by omega, by (try dsimp only); omega, fun q => by (try dsimp only at q); omega⟩
  | succ k ih =>
    intro U left h1 h2 h3 h4 h5
    have r := h3.1 138 g rfl
    simp [jLo, jHi] at r
    by_cases z : 0 < left
    · obtain ⟨t1, t2, t3, t4, t5, t6, t7⟩ := mlT_b h3.1 h3.2.1 hg ⟨z, h4⟩
      have hM := h3.2.2
      have r3 := h3.1 153 M rfl
      simp [jLo, jHi] at r3
      have I' := mlV_I h3 hg ⟨z, h4, by omega⟩ (by omega)
      have T' := (mlV_tons h3.1 h3.2.1 hg ⟨z, h4⟩).1
      have P' := ml_tonsP (U := U) (g := g) (left := left) hM r3.1
      have e53 : mlV U g left 153 M = U 153 M + 1 := by rw [mlV_153, hM, if_pos rfl]
      have eY : mlY U g = 41 * g + U 138 g - 1 := rfl
      obtain ⟨m, em⟩ : ∃ m : Nat, (U 138 g).toNat = m + 1 := ⟨(U 138 g).toNat - 1, by omega⟩
      have eN : 41 * g + (m : Int) = 41 * g + U 138 g - 1 := by omega
      rw [mlG, if_pos z, em, gvW]
      rw [eN]
      by_cases c : U 139 (41 * g + U 138 g - 1) ≤ left
      · have eT : mlT U g left = U 139 (41 * g + U 138 g - 1) := by unfold mlT; rw [eY, if_neg (by omega)]
        rw [if_pos ⟨c, z⟩, eT]
        rw [eT] at T' P' t5 t6 t7
        rw [eY] at t3 t4 t7
        have s := ml_stepW hM r t1 c
        have e38 : mlV U g left 138 g = U 138 g - 1 := by rw [s.1, if_pos rfl]
        obtain ⟨i1, i2, i3, i4⟩ := ih (mlV U g left) (left - U 139 (41 * g + U 138 g - 1)) (by omega) (by omega) I' (by omega) (by omega)
        have em' : (mlV U g left 138 g).toNat = m := by omega
        have ec : gvW (fun j => mlV U g left 139 (41 * g + j)) m (left - U 139 (41 * g + U 138 g - 1)) = gvW (fun j => U 139 (41 * g + j)) m (left - U 139 (41 * g + U 138 g - 1)) := gvW_cg m _ (fun j hj => by rw [mlV_139, eY, if_neg (by omega)])
        rw [em', ec, e38] at i3 i4
        rw [em', ec] at i1
        dsimp only
        have := ml_comp (U := U) hg.1 r.2 (by omega) (by omega) (fun q => by have := i4 q; omega) s i1
        exact ⟨this, by omega, by omega, fun q => by have := i4 q; omega⟩
      · have eT : mlT U g left = left := by unfold mlT; rw [eY, if_pos (by omega)]
        rw [if_neg (fun q => c q.1), eT, show left - left = 0 by omega, mlG_0]
        rw [eT] at P'
        exact ⟨ml_stepS hM z (by omega), P', by (try dsimp only); omega, fun _ => by (try dsimp only); omega⟩
    · have e : left = 0 := by omega
      subst e
      rw [mlG_0, gvW_0]
      exact ⟨mlOk_0, by omega, by (try dsimp only); omega, fun q => by (try dsimp only at q); omega⟩
end ML

