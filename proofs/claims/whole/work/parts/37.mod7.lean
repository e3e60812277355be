section M7
variable {γ : jG} {β : jB} {V : VV}
theorem putV_many {g n l c like i : Int} : putV V g n l c like 138 i = if i = g then V 138 g + 1 else V 138 i := by
  unfold putV
  rw [jU_at]
  split
  · rfl
  · split
    · exact putA_o (by decide) (by decide) (by decide)
    · unfold putC
      rw [if_neg (by omega)]
      exact putA_o (by decide) (by decide) (by decide)
theorem putV_y {g n l c like i : Int} {t : Nat} (h1 : t ≠ 138) (h2 : t ≠ 142) (h3 : t ≠ 143) : putV V g n l c like t i = putA V g n l c t i := by
  unfold putV
  rw [jU_o _ h1]
  split
  · rfl
  · unfold putC
    rw [if_neg (by omega)]
theorem putV_139 {g n l c like i : Int} : putV V g n l c like 139 i = if i = 41 * g + V 138 g then n else V 139 i := by
  rw [putV_y (by decide) (by decide) (by decide)]
  unfold putA
  rw [jU_o _ (by decide), jU_o _ (by decide), jU_at]
theorem putV_140 {g n l c like i : Int} : putV V g n l c like 140 i = if i = 41 * g + V 138 g then l else V 140 i := by
  rw [putV_y (by decide) (by decide) (by decide)]
  unfold putA
  rw [jU_o _ (by decide), jU_at, jU_o _ (by decide)]
theorem putV_141 {g n l c like i : Int} : putV V g n l c like 141 i = if i = 41 * g + V 138 g then c else V 141 i := by
  rw [putV_y (by decide) (by decide) (by decide)]
  unfold putA
  rw [jU_at, jU_o _ (by decide), jU_o _ (by decide)]
theorem putV_sp {g n l c like i : Int} {t : Nat} (ht : t = 142 ∨ t = 143) (hl : like ≠ -1) : putV V g n l c like t i = if 5 * (41 * g + V 138 g) ≤ i ∧ i < 5 * (41 * g + V 138 g) + 5 then V t (i - 5 * (41 * g + V 138 g) + 5 * like) else V t i := by
  unfold putV
  rw [jU_o _ (by omega), if_neg hl]
  unfold putC
  by_cases h : 5 * (41 * g + V 138 g) ≤ i ∧ i < 5 * (41 * g + V 138 g) + 5
  · rw [if_pos ⟨ht, h⟩, if_pos h, putA_o (by omega) (by omega) (by omega)]
  · rw [if_neg (fun q => h q.2), if_neg h, putA_o (by omega) (by omega) (by omega)]
theorem putV_o {g n l c like i : Int} {t : Nat} (ht : t < 138 ∨ 143 < t) : putV V g n l c like t i = V t i := by
  rw [putV_y (by omega) (by omega) (by omega), putA_o (by omega) (by omega) (by omega)]
/-- whole layers that n tons of heap f take, of the first k, and what is left -/
def mvW (V : VV) (f : Int) : Nat → Int → Nat × Int
  | 0, n => (0, n)
  | k + 1, n => if V 139 (41 * f + k) ≤ n ∧ 0 < n then ((mvW V f k (n - V 139 (41 * f + k))).1 + 1, (mvW V f k (n - V 139 (41 * f + k))).2) else (0, n)
theorem mvW_b (V : VV) (f : Int) (hp : ∀ i, 0 ≤ V 139 i) : ∀ (k : Nat) (n : Int), 0 ≤ n → (mvW V f k n).1 ≤ k ∧ 0 ≤ (mvW V f k n).2 ∧ (mvW V f k n).2 ≤ n ∧ (n ≤ Sm (fun j => V 139 (41 * f + j)) k → 0 < (mvW V f k n).2 → (mvW V f k n).1 < k ∧ (mvW V f k n).2 < V 139 (41 * f + (k - (mvW V f k n).1 - 1)))
  | 0, n, h => by
    simp only [mvW, Sm]
    refine ⟨by omega, h, by omega, fun h1 h2 => by omega⟩
  | k + 1, n, h => by
    rw [mvW]
    split
    · rename_i q
      have ih := mvW_b V f hp k (n - V 139 (41 * f + k)) (by omega)
      have h0 := hp (41 * f + k)
      refine ⟨by show _ + 1 ≤ k + 1; omega, ih.2.1, ?_, fun h1 h2 => ?_⟩
      · have := ih.2.2.1; show (mvW V f k (n - V 139 (41 * f + k))).2 ≤ n; omega
      · rw [Sm] at h1
        have h3 := ih.2.2.2 (by omega) h2
        refine ⟨by show _ + 1 < k + 1; omega, ?_⟩
        show _ < V 139 (41 * f + (((k + 1 : Nat) : Int) - (((mvW V f k (n - V 139 (41 * f + k))).1 + 1 : Nat) : Int) - 1))
        rw [show (((k + 1 : Nat) : Int) - (((mvW V f k (n - V 139 (41 * f + k))).1 + 1 : Nat) : Int) - 1) = (k : Int) - ((mvW V f k (n - V 139 (41 * f + k))).1 : Int) - 1 by omega]
        exact h3.2
    · refine ⟨by simp, h, Int.le_refl _, fun h1 h2 => ⟨by simp, ?_⟩⟩
      rename_i q
      show n < V 139 (41 * f + (((k + 1 : Nat) : Int) - ((0 : Nat) : Int) - 1))
      rw [show ((k + 1 : Nat) : Int) - ((0 : Nat) : Int) - 1 = (k : Int) by omega]
      have h2 : 0 < n := h2
      omega
/-- n whole layers gone from heap f onto heap t -/
def mvX (V : VV) (f t n : Int) : VV := fun r i =>
  if r = 138 then (if i = f then V 138 f - n else if i = t then V 138 t + n else V 138 i)
  else if (r = 139 ∨ r = 140 ∨ r = 141) ∧ 41 * t + V 138 t ≤ i ∧ i < 41 * t + V 138 t + n then V r (41 * f + V 138 f - 1 - (i - (41 * t + V 138 t)))
  else if (r = 142 ∨ r = 143) ∧ 5 * (41 * t + V 138 t) ≤ i ∧ i < 5 * (41 * t + V 138 t + n) then V r (5 * (41 * f + V 138 f - 1 - (i / 5 - (41 * t + V 138 t))) + i % 5)
  else V r i
theorem mvX_f {f t n : Int} : mvX V f t n 138 f = V 138 f - n := by unfold mvX; rw [if_pos rfl, if_pos rfl]
theorem mvX_t {f t n : Int} (h : t ≠ f) : mvX V f t n 138 t = V 138 t + n := by unfold mvX; rw [if_pos rfl, if_neg h, if_pos rfl]
theorem mvX_yy {f t n i : Int} {r : Nat} (hr : r = 139 ∨ r = 140 ∨ r = 141) : mvX V f t n r i = if 41 * t + V 138 t ≤ i ∧ i < 41 * t + V 138 t + n then V r (41 * f + V 138 f - 1 - (i - (41 * t + V 138 t))) else V r i := by
  unfold mvX
  rw [if_neg (by omega)]
  by_cases h : 41 * t + V 138 t ≤ i ∧ i < 41 * t + V 138 t + n
  · rw [if_pos ⟨hr, h⟩, if_pos h]
  · rw [if_neg (fun q => h q.2), if_neg h, if_neg (by omega)]
theorem mvX_y {f t n i : Int} {r : Nat} (hr : r = 139 ∨ r = 140 ∨ r = 141) (hi : i < 41 * t + V 138 t ∨ 41 * t + V 138 t + n ≤ i) : mvX V f t n r i = V r i := by rw [mvX_yy hr, if_neg (by omega)]
theorem mvX_sp {f t n i : Int} {r : Nat} (hr : r = 142 ∨ r = 143) : mvX V f t n r i = if 5 * (41 * t + V 138 t) ≤ i ∧ i < 5 * (41 * t + V 138 t + n) then V r (5 * (41 * f + V 138 f - 1 - (i / 5 - (41 * t + V 138 t))) + i % 5) else V r i := by
  unfold mvX
  rw [if_neg (by omega), if_neg (by omega)]
  by_cases h : 5 * (41 * t + V 138 t) ≤ i ∧ i < 5 * (41 * t + V 138 t + n)
  · rw [if_pos ⟨hr, h⟩, if_pos h]
  · rw [if_neg (fun q => h q.2), if_neg h]
theorem mvX_o {f t n i : Int} {r : Nat} (hr : r < 138 ∨ 143 < r) : mvX V f t n r i = V r i := by
  unfold mvX
  rw [if_neg (by omega), if_neg (by omega), if_neg (by omega)]
theorem mvX_m {f t n i : Int} : mvX V f t n 138 i = if i = f then V 138 f - n else if i = t then V 138 t + n else V 138 i := by
  unfold mvX
  rw [if_pos rfl]
theorem mvX_0 {f t : Int} : mvX V f t 0 = V := by
  funext r i
  unfold mvX
  by_cases h : r = 138
  · subst h
    rw [if_pos rfl]
    split
    · rename_i q; rw [q]; omega
    · split
      · rename_i q; rw [q]; omega
      · rfl
  · rw [if_neg h, if_neg (by omega), if_neg (by omega)]
theorem mvX_s {f t n : Int} (hf : 0 ≤ f ∧ f < 6) (ht : 0 ≤ t ∧ t < 6) (hft : f ≠ t) (hn : 0 ≤ n ∧ n < V 138 f) (h1 : V 138 f ≤ 40) (h2 : 0 ≤ V 138 t ∧ V 138 t + n < 40) :
    jU (putV (mvX V f t n) t (mvX V f t n 139 (41 * f + (V 138 f - n) - 1)) (mvX V f t n 140 (41 * f + (V 138 f - n) - 1)) (mvX V f t n 141 (41 * f + (V 138 f - n) - 1)) (41 * f + (V 138 f - n) - 1)) 138 f (V 138 f - n - 1) = mvX V f t (n + 1) := by
  have et : mvX V f t n 138 t = V 138 t + n := mvX_t (fun q => hft q.symm)
  have e139 : mvX V f t n 139 (41 * f + (V 138 f - n) - 1) = V 139 (41 * f + (V 138 f - n) - 1) := mvX_y (Or.inl rfl) (by omega)
  have e140 : mvX V f t n 140 (41 * f + (V 138 f - n) - 1) = V 140 (41 * f + (V 138 f - n) - 1) := mvX_y (Or.inr (Or.inl rfl)) (by omega)
  have e141 : mvX V f t n 141 (41 * f + (V 138 f - n) - 1) = V 141 (41 * f + (V 138 f - n) - 1) := mvX_y (Or.inr (Or.inr rfl)) (by omega)
  rw [e139, e140, e141]
  funext r i
  by_cases r0 : r = 138
  · subst r0
    rw [jU_at, putV_many, et, mvX_m, mvX_m]
    ((repeat' split) <;> first | rfl | omega | (exfalso; omega))
  · rw [jU_o _ r0]
    by_cases r1 : r = 139
    · subst r1
      rw [putV_139, et, mvX_yy (Or.inl rfl), mvX_yy (Or.inl rfl)]
      ((repeat' split) <;> first | rfl | (exfalso; omega) | (congr 1; omega))
    · by_cases r2 : r = 140
      · subst r2
        rw [putV_140, et, mvX_yy (by decide), mvX_yy (by decide)]
        ((repeat' split) <;> first | rfl | (exfalso; omega) | (congr 1; omega))
      · by_cases r3 : r = 141
        · subst r3
          rw [putV_141, et, mvX_yy (by decide), mvX_yy (by decide)]
          ((repeat' split) <;> first | rfl | (exfalso; omega) | (congr 1; omega))
        · by_cases r4 : r = 142 ∨ r = 143
          · rw [putV_sp r4 (by omega), et, mvX_sp r4, mvX_sp r4, mvX_sp r4]
            ((repeat' split) <;> first | rfl | (exfalso; omega) | (congr 1; omega))
          · rw [putV_o (by omega), mvX_o (by omega), mvX_o (by omega)]
theorem isR.mvXR {f t n : Int} (R : isR V) (hn : 0 ≤ n ∧ n ≤ V 138 f) (h2 : V 138 t + n ≤ 40) : isR (mvX V f t n) := by
  have h1 := R 138 f rfl
  have h3 := R 138 t rfl
  simp [jLo, jHi] at h1 h3
  intro r i h
  unfold mvX
  split
  · rename_i q
    subst q
    have h4 := R 138 i rfl
    simp [jLo, jHi] at h4 ⊢
    split
    · omega
    · split <;> omega
  · split
    · rename_i q
      rcases q.1 with q | q | q <;> subst q <;> exact R _ _ rfl
    · split
      · rename_i q
        rcases q.1 with q | q <;> subst q <;> exact R _ _ rfl
      · exact R r i h
/-- two heaps have no more layers than all -/
theorem lay2 (R : isR V) {f t : Int} (hf : 0 ≤ f ∧ f < 6) (ht : 0 ≤ t ∧ t < 6) (hft : f ≠ t) : V 138 f + V 138 t ≤ layAll V := by
  have h0 := R 138 0 rfl
  have h1 := R 138 1 rfl
  have h2 := R 138 2 rfl
  have h3 := R 138 3 rfl
  have h4 := R 138 4 rfl
  have h5 := R 138 5 rfl
  simp [jLo, jHi] at h0 h1 h2 h3 h4 h5
  have e : layAll V = V 138 0 + V 138 1 + V 138 2 + V 138 3 + V 138 4 + V 138 5 := by
    simp [layAll, Sm]
  rw [e]
  have cf : f = 0 ∨ f = 1 ∨ f = 2 ∨ f = 3 ∨ f = 4 ∨ f = 5 := by omega
  have ct : t = 0 ∨ t = 1 ∨ t = 2 ∨ t = 3 ∨ t = 4 ∨ t = 5 := by omega
  rcases cf with rfl | rfl | rfl | rfl | rfl | rfl <;> rcases ct with rfl | rfl | rfl | rfl | rfl | rfl <;> omega
theorem lay1 (R : isR V) {f : Int} (hf : 0 ≤ f ∧ f < 6) : V 138 f ≤ layAll V := by
  by_cases h : f = 0
  · have h1 := lay2 R hf (t := 1) (by omega) (by omega)
    have h0 := R 138 1 rfl
    simp [jLo, jHi] at h0
    omega
  · have h1 := lay2 R hf (t := 0) (by omega) (by omega)
    have h0 := R 138 0 rfl
    simp [jLo, jHi] at h0
    omega
/-- a layer of heap f is split, left tons go onto heap t -/
def mvS (V : VV) (f t left : Int) : VV := jU (putV V t left (V 140 (41 * f + V 138 f - 1)) (V 141 (41 * f + V 138 f - 1)) (41 * f + V 138 f - 1)) 139 (41 * f + V 138 f - 1) (V 139 (41 * f + V 138 f - 1) - left)
def sp_move (V : VV) (f t n : Int) : RV := if 0 ≤ f ∧ f < 6 then (if 0 ≤ t ∧ t < 6 then (if f ≠ t ∧ 1 ≤ n then (if tonsOf V f < n then (0, V) else if 0 < (mvW V f (V 138 f).toNat n).2 ∧ layAll V = 40 then (-3, V) else (1, if 0 < (mvW V f (V 138 f).toNat n).2 then mvS (mvX V f t (mvW V f (V 138 f).toNat n).1) f t (mvW V f (V 138 f).toNat n).2 else mvX V f t (mvW V f (V 138 f).toNat n).1)) else (0, jU V 16 0 1)) else (0, jU V 16 0 1)) else (0, jU V 16 0 1)
theorem tons_b (R : isR V) {f : Int} : 0 ≤ tonsOf V f ∧ tonsOf V f ≤ 200000 := by
  have h1 := R 138 f rfl
  simp [jLo, jHi] at h1
  have h := Sm_le (f := fun k => V 139 (41 * f + k)) (n := (V 138 f).toNat) (a := 0) (b := 5000) (fun i _ => by
    have h1 := R 139 (41 * f + (i : Int)) rfl
    simp [jLo, jHi] at h1
    exact h1)
  unfold tonsOf
  omega
set_option maxHeartbeats 1000000 in
theorem cm_move {f t n : Int} (B : isB β) (R : isR V) (hla : layAll V ≤ 40) (hf : r32 f) (ht : r32 t) (hn : r32 n) : CT γ mX12_move 2 0 0 [.ref (β.2 16), .int (jI f), .int (jI t), .int (jI n)] (jP β V) (mQ β (sp_move (jU V 16 0 0) f t n)) X0 := by
  have hla : layAll (jU V 16 0 0) ≤ 40 := hla
  refine CT.of MX12_move (Nat.le_of_ble_eq_true rfl) ?_
  show J γ mX12_move 2 0 0 0 0 (jP β V) 0 [(0, .ref (β.2 16)), (1, .int (jI f)), (2, .int (jI t)), (3, .int (jI n))] [] _ _
  first | refine J.aload_n (pc' := 1) rfl rfl rfl ?_ | refine J.aload_nN (pc' := 1) rfl rfl rfl ?_
  refine J.iconst (pc' := 2) rfl rfl ?_
  refine J.mpI (pc' := 5) (j := 0) B rfl fl_X12_1 rfl rfl rfl rfl ?_
  have h0 := jU_same V 16 0 0
  replace R : isR (jU V 16 0 0) := R.up (fun _ => by decide)
  generalize jU V 16 0 0 = V at h0 R hla ⊢
  have hf' := R.f
  have rest : (0 ≤ f ∧ f < 6) → (0 ≤ t ∧ t < 6) → (f ≠ t ∧ 1 ≤ n) → ¬ tonsOf V f < n → J γ mX12_move 2 0 0 0 0 (jP β V) 57 [(0, .ref (β.2 16)), (1, .int (jI f)), (2, .int (jI t)), (3, .int (jI n))] [] (mQ β (sp_move V f t n)) X0 := by
    intro b1 b2 b3 b4
    have hmf := R 138 f rfl
    have hmt := R 138 t rfl
    simp [jLo, jHi] at hmf hmt
    have h2 := lay2 R b1 b2 b3.1
    have hp : ∀ i, 0 ≤ V 139 i ∧ V 139 i ≤ 5000 := fun i => by have := R 139 i rfl; simp [jLo, jHi] at this; exact this
    have hb := mvW_b V f (fun i => (hp i).1) (V 138 f).toNat n (by omega)
    have hb4 := hb.2.2.2 (by unfold tonsOf at b4; omega)
    have hpos : 1 ≤ V 138 f := by
      rcases (by omega : V 138 f < 1 ∨ 1 ≤ V 138 f) with q | q
      · exfalso
        unfold tonsOf at b4
        rw [show (V 138 f).toNat = 0 by omega] at b4
        simp only [Sm] at b4
        omega
      · exact q
    have spE : sp_move V f t n = if 0 < (mvW V f (V 138 f).toNat n).2 ∧ layAll V = 40 then (-3, V) else (1, if 0 < (mvW V f (V 138 f).toNat n).2 then mvS (mvX V f t (mvW V f (V 138 f).toNat n).1) f t (mvW V f (V 138 f).toNat n).2 else mvX V f t (mvW V f (V 138 f).toNat n).1) := by
      unfold sp_move
      rw [if_pos b1, if_pos b2, if_pos b3, if_neg b4]
    rw [spE]
    generalize hW : (mvW V f (V 138 f).toNat n).1 = W at hb hb4 ⊢
    generalize hL : (mvW V f (V 138 f).toNat n).2 = L at hb hb4 ⊢
    have mv : ¬ (0 < L ∧ layAll V = 40) → ∀ k : Int, J γ mX12_move 2 0 0 0 0 (jP β V) 143 [(0, .ref (β.2 16)), (1, .int (jI f)), (2, .int (jI t)), (3, .int (jI n)), (4, .int (jI L)), (5, .int (jI (W : Int))), (6, .int (jI k))] [] (mQ β (if 0 < L ∧ layAll V = 40 then (-3, V) else (1, if 0 < L then mvS (mvX V f t W) f t L else mvX V f t W))) X0 := by
      intro hn k
      rw [if_neg hn]
      have key : ∀ (m i : Nat), i + m = W → ∀ lv, (∀ q ∈ [(0, Value.ref (β.2 16)), (1, Value.int (jI f)), (2, Value.int (jI t)), (3, Value.int (jI n)), (4, Value.int (jI L)), (5, Value.int (jI (W : Int))), (6, Value.int (jI k)), (7, Value.int (jI (i : Int)))], jGet lv q.1 = some q.2) → J γ mX12_move 2 0 0 0 0 (jP β (mvX V f t i)) 146 lv [] (mQ β (1, if 0 < L then mvS (mvX V f t W) f t L else mvX V f t W)) X0 := by
        intro m
        induction m with
        | zero =>
          intro i hi lv hlv
          have ei : i = W := by omega
          subst ei
          refine J.locs hlv ?_
          have RX := R.mvXR (f := f) (t := t) (n := i) (by omega) (by omega)
          have xf := mvX_f (V := V) (f := f) (t := t) (n := i)
          have xt := mvX_t (V := V) (f := f) (t := t) (n := i) (fun q => b3.1 q.symm)
          have xy := mvX_y (V := V) (f := f) (t := t) (n := i) (i := 41 * f + (V 138 f - i) - 1) (r := 139) (by decide) (by omega)
          generalize mvX V f t i = X at RX xf xt xy ⊢
          refine J.iload (pc' := 148) rfl rfl rfl ?_
          refine J.iload (pc' := 150) rfl rfl rfl ?_
          refine J.icmp_ge (tgt := 212) (pc' := 153) rfl rfl rfl (by first | omega | (exact R.r _ _) | (simp only [jM.len_sI, jM.len_sL, jM.len_sR, jM.len_fI, jM.len_fL, jM.len_fR]; omega) | (simp [jM.len_nw, jM.len_sI, jM.len_sL, jM.len_sR, jM.len_fI, jM.len_fL, jM.len_fR, *]; omega)) (by first | omega | (exact R.r _ _) | (simp only [jM.len_sI, jM.len_sL, jM.len_sR, jM.len_fI, jM.len_fL, jM.len_fR]; omega) | (simp [jM.len_nw, jM.len_sI, jM.len_sL, jM.len_sR, jM.len_fI, jM.len_fL, jM.len_fR, *]; omega)) (fun c1 => ?_) (fun c1 => ?_)
          · refine J.iload (pc' := 214) rfl rfl rfl ?_
            refine J.if_le (tgt := 267) (pc' := 217) rfl rfl rfl (by first | omega | (exact R.r _ _) | (simp only [jM.len_sI, jM.len_sL, jM.len_sR, jM.len_fI, jM.len_fL, jM.len_fR]; omega) | (simp [jM.len_nw, jM.len_sI, jM.len_sL, jM.len_sR, jM.len_fI, jM.len_fL, jM.len_fR, *]; omega)) (fun c2 => ?_) (fun c2 => ?_)
            · refine J.iconst (pc' := 268) rfl rfl ?_
              refine J.iret rfl rfl (by first | omega | (exact R.r _ _) | (simp only [jM.len_sI, jM.len_sL, jM.len_sR, jM.len_fI, jM.len_fL, jM.len_fR]; omega) | (simp [jM.len_nw, jM.len_sI, jM.len_sL, jM.len_sR, jM.len_fI, jM.len_fL, jM.len_fR, *]; omega)) (by first | omega | (exact R.r _ _) | (simp only [jM.len_sI, jM.len_sL, jM.len_sR, jM.len_fI, jM.len_fL, jM.len_fR]; omega) | (simp [jM.len_nw, jM.len_sI, jM.len_sL, jM.len_sR, jM.len_fI, jM.len_fL, jM.len_fR, *]; omega)) ?_
              exact mQ.of (by rw [if_neg (by omega)])
            · have hL4 := hb4 (by omega)
              refine J.bipush (pc' := 219) rfl rfl (by decide) ?_
              refine J.iload_n (pc' := 220) rfl rfl rfl ?_
              refine J.imul (pc' := 221) rfl rfl ?_
              first | refine J.aload_n (pc' := 222) rfl rfl rfl ?_ | refine J.aload_nN (pc' := 222) rfl rfl rfl ?_
              refine J.mgR (pc' := 225) (t := 138) B rfl fl_X12_91 rfl rfl (by decide) rfl ?_
              refine J.iload_n (pc' := 226) rfl rfl rfl ?_
              refine J.mald (pc' := 227) B rfl rfl rfl (by omega) (by simp only [jLn]; omega) rfl ?_
              rw [xf]
              refine J.iadd (pc' := 228) rfl rfl ?_
              refine J.iconst (pc' := 229) rfl rfl ?_
              refine J.isub (pc' := 230) rfl rfl ?_
              refine J.istore (pc' := 232) rfl rfl (by decide) ?_
              first | refine J.aload_n (pc' := 233) rfl rfl rfl ?_ | refine J.aload_nN (pc' := 233) rfl rfl rfl ?_
              refine J.iload_n (pc' := 234) rfl rfl rfl ?_
              refine J.iload (pc' := 236) rfl rfl rfl ?_
              first | refine J.aload_n (pc' := 237) rfl rfl rfl ?_ | refine J.aload_nN (pc' := 237) rfl rfl rfl ?_
              refine J.mgR (pc' := 240) (t := 140) B rfl fl_X12_97 rfl rfl (by decide) rfl ?_
              refine J.iload (pc' := 242) rfl rfl rfl ?_
              refine J.mald (pc' := 243) B rfl rfl rfl (by omega) (by simp only [jLn]; omega) rfl ?_
              first | refine J.aload_n (pc' := 244) rfl rfl rfl ?_ | refine J.aload_nN (pc' := 244) rfl rfl rfl ?_
              refine J.mgR (pc' := 247) (t := 141) B rfl fl_X12_100 rfl rfl (by decide) rfl ?_
              refine J.iload (pc' := 249) rfl rfl rfl ?_
              refine J.mald (pc' := 250) B rfl rfl rfl (by omega) (by simp only [jLn]; omega) rfl ?_
              refine J.iload (pc' := 252) rfl rfl rfl ?_
              have hy5 := hp (41 * f + (V 138 f - i) - 1)
              refine J.callV (pc' := 255) (t := 16) rfl MX12_put ml_X12_290 iv_X12_put (by decide) ⟨_, rfl, rfl⟩ B.1 (cm_put (V := X) (g := t) (n := L) (l := X 140 (41 * f + (V 138 f - i) - 1)) (c := X 141 (41 * f + (V 138 f - i) - 1)) (like := 41 * f + (V 138 f - i) - 1) B RX b2 (Or.inr (by omega))) rfl rfl (Nat.le_of_ble_eq_true rfl) (by first | omega | (exact R.r _ _) | (simp only [jM.len_sI, jM.len_sL, jM.len_sR, jM.len_fI, jM.len_fL, jM.len_fR]; omega) | (simp [jM.len_nw, jM.len_sI, jM.len_sL, jM.len_sR, jM.len_fI, jM.len_fL, jM.len_fR, *]; omega)) (by first | omega | (exact R.r _ _) | (simp only [jM.len_sI, jM.len_sL, jM.len_sR, jM.len_fI, jM.len_fL, jM.len_fR]; omega) | (simp [jM.len_nw, jM.len_sI, jM.len_sL, jM.len_sR, jM.len_fI, jM.len_fL, jM.len_fR, *]; omega)) (by first | omega | (exact R.r _ _) | (simp only [jM.len_sI, jM.len_sL, jM.len_sR, jM.len_fI, jM.len_fL, jM.len_fR]; omega) | (simp [jM.len_nw, jM.len_sI, jM.len_sL, jM.len_sR, jM.len_fI, jM.len_fL, jM.len_fR, *]; omega)) rfl rfl ?_ ?_
              · exact fun _ _ h => h
              rintro _ _ ⟨rfl, rfl⟩
              first | refine J.aload_n (pc' := 256) rfl rfl rfl ?_ | refine J.aload_nN (pc' := 256) rfl rfl rfl ?_
              refine J.mgR (pc' := 259) (t := 139) B rfl fl_X12_94 rfl rfl (by decide) rfl ?_
              refine J.iload (pc' := 261) rfl rfl rfl ?_
              first | refine J.dup2 (pc' := 262) rfl rfl rfl rfl ?_ | refine J.dup2L (pc' := 262) rfl rfl rfl ?_
              refine J.mald (pc' := 263) B rfl rfl rfl (by omega) (by simp only [jLn]; omega) rfl ?_
              rw [putV_139, if_neg (by omega)]
              refine J.iload (pc' := 265) rfl rfl rfl ?_
              refine J.isub (pc' := 266) rfl rfl ?_
              refine J.mast (pc' := 267) B rfl rfl rfl rfl (by omega) (by simp only [jLn]; omega) rfl ?_
              refine J.iconst (pc' := 268) rfl rfl ?_
              refine J.iret rfl rfl (by first | omega | (exact R.r _ _) | (simp only [jM.len_sI, jM.len_sL, jM.len_sR, jM.len_fI, jM.len_fL, jM.len_fR]; omega) | (simp [jM.len_nw, jM.len_sI, jM.len_sL, jM.len_sR, jM.len_fI, jM.len_fL, jM.len_fR, *]; omega)) (by first | omega | (exact R.r _ _) | (simp only [jM.len_sI, jM.len_sL, jM.len_sR, jM.len_fI, jM.len_fL, jM.len_fR]; omega) | (simp [jM.len_nw, jM.len_sI, jM.len_sL, jM.len_sR, jM.len_fI, jM.len_fL, jM.len_fR, *]; omega)) ?_
              exact mQ.of (by rw [if_pos (by omega), mvS, xf])
          · omega
        | succ m ih =>
          intro i hi lv hlv
          have h9 := ih (i + 1) (by omega)
          rw [show ((i + 1 : Nat) : Int) = (i : Int) + 1 by omega] at h9
          refine J.locs hlv ?_
          have RX := R.mvXR (f := f) (t := t) (n := i) (by omega) (by omega)
          have xf := mvX_f (V := V) (f := f) (t := t) (n := i)
          have xt := mvX_t (V := V) (f := f) (t := t) (n := i) (fun q => b3.1 q.symm)
          have xs := mvX_s (V := V) (n := i) b1 b2 b3.1 (by omega) (by omega) (by omega)
          generalize mvX V f t i = X at RX xf xt xs ⊢
          refine J.iload (pc' := 148) rfl rfl rfl ?_
          refine J.iload (pc' := 150) rfl rfl rfl ?_
          refine J.icmp_ge (tgt := 212) (pc' := 153) rfl rfl rfl (by first | omega | (exact R.r _ _) | (simp only [jM.len_sI, jM.len_sL, jM.len_sR, jM.len_fI, jM.len_fL, jM.len_fR]; omega) | (simp [jM.len_nw, jM.len_sI, jM.len_sL, jM.len_sR, jM.len_fI, jM.len_fL, jM.len_fR, *]; omega)) (by first | omega | (exact R.r _ _) | (simp only [jM.len_sI, jM.len_sL, jM.len_sR, jM.len_fI, jM.len_fL, jM.len_fR]; omega) | (simp [jM.len_nw, jM.len_sI, jM.len_sL, jM.len_sR, jM.len_fI, jM.len_fL, jM.len_fR, *]; omega)) (fun c1 => ?_) (fun c1 => ?_)
          · omega
          · refine J.bipush (pc' := 155) rfl rfl (by decide) ?_
            refine J.iload_n (pc' := 156) rfl rfl rfl ?_
            refine J.imul (pc' := 157) rfl rfl ?_
            first | refine J.aload_n (pc' := 158) rfl rfl rfl ?_ | refine J.aload_nN (pc' := 158) rfl rfl rfl ?_
            refine J.mgR (pc' := 161) (t := 138) B rfl fl_X12_91 rfl rfl (by decide) rfl ?_
            refine J.iload_n (pc' := 162) rfl rfl rfl ?_
            refine J.mald (pc' := 163) B rfl rfl rfl (by omega) (by simp only [jLn]; omega) rfl ?_
            rw [xf]
            refine J.iadd (pc' := 164) rfl rfl ?_
            refine J.iconst (pc' := 165) rfl rfl ?_
            refine J.isub (pc' := 166) rfl rfl ?_
            refine J.istore (pc' := 168) rfl rfl (by decide) ?_
            first | refine J.aload_n (pc' := 169) rfl rfl rfl ?_ | refine J.aload_nN (pc' := 169) rfl rfl rfl ?_
            refine J.iload_n (pc' := 170) rfl rfl rfl ?_
            first | refine J.aload_n (pc' := 171) rfl rfl rfl ?_ | refine J.aload_nN (pc' := 171) rfl rfl rfl ?_
            refine J.mgR (pc' := 174) (t := 139) B rfl fl_X12_94 rfl rfl (by decide) rfl ?_
            refine J.iload (pc' := 176) rfl rfl rfl ?_
            refine J.mald (pc' := 177) B rfl rfl rfl (by omega) (by simp only [jLn]; omega) rfl ?_
            first | refine J.aload_n (pc' := 178) rfl rfl rfl ?_ | refine J.aload_nN (pc' := 178) rfl rfl rfl ?_
            refine J.mgR (pc' := 181) (t := 140) B rfl fl_X12_97 rfl rfl (by decide) rfl ?_
            refine J.iload (pc' := 183) rfl rfl rfl ?_
            refine J.mald (pc' := 184) B rfl rfl rfl (by omega) (by simp only [jLn]; omega) rfl ?_
            first | refine J.aload_n (pc' := 185) rfl rfl rfl ?_ | refine J.aload_nN (pc' := 185) rfl rfl rfl ?_
            refine J.mgR (pc' := 188) (t := 141) B rfl fl_X12_100 rfl rfl (by decide) rfl ?_
            refine J.iload (pc' := 190) rfl rfl rfl ?_
            refine J.mald (pc' := 191) B rfl rfl rfl (by omega) (by simp only [jLn]; omega) rfl ?_
            refine J.iload (pc' := 193) rfl rfl rfl ?_
            refine J.callV (pc' := 196) (t := 16) rfl MX12_put ml_X12_290 iv_X12_put (by decide) ⟨_, rfl, rfl⟩ B.1 (cm_put (V := X) (g := t) (n := X 139 (41 * f + (V 138 f - i) - 1)) (l := X 140 (41 * f + (V 138 f - i) - 1)) (c := X 141 (41 * f + (V 138 f - i) - 1)) (like := 41 * f + (V 138 f - i) - 1) B RX b2 (Or.inr (by omega))) rfl rfl (Nat.le_of_ble_eq_true rfl) (by first | omega | (exact R.r _ _) | (simp only [jM.len_sI, jM.len_sL, jM.len_sR, jM.len_fI, jM.len_fL, jM.len_fR]; omega) | (simp [jM.len_nw, jM.len_sI, jM.len_sL, jM.len_sR, jM.len_fI, jM.len_fL, jM.len_fR, *]; omega)) (by first | omega | (exact R.r _ _) | (simp only [jM.len_sI, jM.len_sL, jM.len_sR, jM.len_fI, jM.len_fL, jM.len_fR]; omega) | (simp [jM.len_nw, jM.len_sI, jM.len_sL, jM.len_sR, jM.len_fI, jM.len_fL, jM.len_fR, *]; omega)) (by first | omega | (exact R.r _ _) | (simp only [jM.len_sI, jM.len_sL, jM.len_sR, jM.len_fI, jM.len_fL, jM.len_fR]; omega) | (simp [jM.len_nw, jM.len_sI, jM.len_sL, jM.len_sR, jM.len_fI, jM.len_fL, jM.len_fR, *]; omega)) rfl rfl ?_ ?_
            · exact fun _ _ h => h
            rintro _ _ ⟨rfl, rfl⟩
            first | refine J.aload_n (pc' := 197) rfl rfl rfl ?_ | refine J.aload_nN (pc' := 197) rfl rfl rfl ?_
            refine J.mgR (pc' := 200) (t := 138) B rfl fl_X12_91 rfl rfl (by decide) rfl ?_
            refine J.iload_n (pc' := 201) rfl rfl rfl ?_
            first | refine J.dup2 (pc' := 202) rfl rfl rfl rfl ?_ | refine J.dup2L (pc' := 202) rfl rfl rfl ?_
            refine J.mald (pc' := 203) B rfl rfl rfl (by omega) (by simp only [jLn]; omega) rfl ?_
            rw [putV_many, if_neg b3.1, xf]
            refine J.iconst (pc' := 204) rfl rfl ?_
            refine J.isub (pc' := 205) rfl rfl ?_
            refine J.mast (pc' := 206) B rfl rfl rfl rfl (by omega) (by simp only [jLn]; omega) rfl ?_
            refine J.iinc (pc' := 209) rfl rfl rfl (by decide) ?_
            refine J.goto (tgt := 146) rfl rfl ?_
            rw [xs]
            refine h9 _ ?_
            intro q hq
            simp only [List.mem_cons, List.not_mem_nil, or_false] at hq
            rcases hq with rfl | rfl | rfl | rfl | rfl | rfl | rfl | rfl <;> rfl
      refine J.iconst (pc' := 144) rfl rfl ?_
      refine J.istore (pc' := 146) rfl rfl (by decide) ?_
      have h9 := key W 0 (by omega) [(0, .ref (β.2 16)), (1, .int (jI f)), (2, .int (jI t)), (3, .int (jI n)), (4, .int (jI L)), (5, .int (jI (W : Int))), (6, .int (jI k)), (7, .int (jI 0))] (fun q hq => by simp only [List.mem_cons, List.not_mem_nil, or_false] at hq; rcases hq with rfl | rfl | rfl | rfl | rfl | rfl | rfl | rfl <;> rfl)
      rw [show mvX V f t ((0 : Nat) : Int) = V from mvX_0] at h9
      exact h9
    have at126 : ∀ k : Int, J γ mX12_move 2 0 0 0 0 (jP β V) 126 [(0, .ref (β.2 16)), (1, .int (jI f)), (2, .int (jI t)), (3, .int (jI n)), (4, .int (jI L)), (5, .int (jI (W : Int))), (6, .int (jI k))] [] (mQ β (if 0 < L ∧ layAll V = 40 then (-3, V) else (1, if 0 < L then mvS (mvX V f t W) f t L else mvX V f t W))) X0 := by
      intro k
      have hl9 := layAll_b R
      refine J.iload (pc' := 128) rfl rfl rfl ?_
      refine J.if_le (tgt := 143) (pc' := 131) rfl rfl rfl (by first | omega | (exact R.r _ _) | (simp only [jM.len_sI, jM.len_sL, jM.len_sR, jM.len_fI, jM.len_fL, jM.len_fR]; omega) | (simp [jM.len_nw, jM.len_sI, jM.len_sL, jM.len_sR, jM.len_fI, jM.len_fL, jM.len_fR, *]; omega)) (fun c128 => ?_) (fun c128 => ?_)
      · exact mv (by omega) k
      · first | refine J.aload_n (pc' := 132) rfl rfl rfl ?_ | refine J.aload_nN (pc' := 132) rfl rfl rfl ?_
        refine J.callV (pc' := 135) (t := 16) rfl MX12_layersInAll ml_X12_280 iv_X12_layersInAll (by decide) ⟨_, rfl, rfl⟩ B.1 (cm_layersInAll B) rfl rfl (Nat.le_of_ble_eq_true rfl) (by first | omega | (exact R.r _ _) | (simp only [jM.len_sI, jM.len_sL, jM.len_sR, jM.len_fI, jM.len_fL, jM.len_fR]; omega) | (simp [jM.len_nw, jM.len_sI, jM.len_sL, jM.len_sR, jM.len_fI, jM.len_fL, jM.len_fR, *]; omega)) (by first | omega | (exact R.r _ _) | (simp only [jM.len_sI, jM.len_sL, jM.len_sR, jM.len_fI, jM.len_fL, jM.len_fR]; omega) | (simp [jM.len_nw, jM.len_sI, jM.len_sL, jM.len_sR, jM.len_fI, jM.len_fL, jM.len_fR, *]; omega)) (by first | omega | (exact R.r _ _) | (simp only [jM.len_sI, jM.len_sL, jM.len_sR, jM.len_fI, jM.len_fL, jM.len_fR]; omega) | (simp [jM.len_nw, jM.len_sI, jM.len_sL, jM.len_sR, jM.len_fI, jM.len_fL, jM.len_fR, *]; omega)) rfl rfl ?_ ?_
        · exact fun _ _ h => h
        rintro _ _ ⟨rfl, rfl⟩
        refine J.bipush (pc' := 137) rfl rfl (by decide) ?_
        refine J.icmp_ne (tgt := 143) (pc' := 140) rfl rfl rfl (by first | omega | (exact R.r _ _) | (simp only [jM.len_sI, jM.len_sL, jM.len_sR, jM.len_fI, jM.len_fL, jM.len_fR]; omega) | (simp [jM.len_nw, jM.len_sI, jM.len_sL, jM.len_sR, jM.len_fI, jM.len_fL, jM.len_fR, *]; omega)) (by first | omega | (exact R.r _ _) | (simp only [jM.len_sI, jM.len_sL, jM.len_sR, jM.len_fI, jM.len_fL, jM.len_fR]; omega) | (simp [jM.len_nw, jM.len_sI, jM.len_sL, jM.len_sR, jM.len_fI, jM.len_fL, jM.len_fR, *]; omega)) (fun c137 => ?_) (fun c137 => ?_)
        · exact mv (by omega) k
        · refine J.bipush (pc' := 142) rfl rfl (by decide) ?_
          refine J.iret rfl rfl (by first | omega | (exact R.r _ _) | (simp only [jM.len_sI, jM.len_sL, jM.len_sR, jM.len_fI, jM.len_fL, jM.len_fR]; omega) | (simp [jM.len_nw, jM.len_sI, jM.len_sL, jM.len_sR, jM.len_fI, jM.len_fL, jM.len_fR, *]; omega)) (by first | omega | (exact R.r _ _) | (simp only [jM.len_sI, jM.len_sL, jM.len_sR, jM.len_fI, jM.len_fL, jM.len_fR]; omega) | (simp [jM.len_nw, jM.len_sI, jM.len_sL, jM.len_sR, jM.len_fI, jM.len_fL, jM.len_fR, *]; omega)) ?_
          exact mQ.of (by rw [if_pos (by omega)])
    have loop : ∀ (k : Nat) (left : Int) (w : Nat), 0 ≤ left → left ≤ n → w + (mvW V f (k + 1) left).1 = W → (mvW V f (k + 1) left).2 = L → (k : Int) < V 138 f → J γ mX12_move 2 0 0 0 0 (jP β V) 73 [(0, .ref (β.2 16)), (1, .int (jI f)), (2, .int (jI t)), (3, .int (jI n)), (4, .int (jI left)), (5, .int (jI (w : Int))), (6, .int (jI (k : Int)))] [] (mQ β (if 0 < L ∧ layAll V = 40 then (-3, V) else (1, if 0 < L then mvS (mvX V f t W) f t L else mvX V f t W))) X0 := by
      intro k
      induction k with
      | zero =>
        intro left w q1 q2 q3 q4 q5
        have hpk := hp (41 * f + ((0 : Nat) : Int))
        rw [mvW] at q3 q4
        refine J.iload (pc' := 75) rfl rfl rfl ?_
        first | refine J.aload_n (pc' := 76) rfl rfl rfl ?_ | refine J.aload_nN (pc' := 76) rfl rfl rfl ?_
        refine J.mgR (pc' := 79) (t := 139) B rfl fl_X12_94 rfl rfl (by decide) rfl ?_
        refine J.bipush (pc' := 81) rfl rfl (by decide) ?_
        refine J.iload_n (pc' := 82) rfl rfl rfl ?_
        refine J.imul (pc' := 83) rfl rfl ?_
        refine J.iload (pc' := 85) rfl rfl rfl ?_
        refine J.iadd (pc' := 86) rfl rfl ?_
        refine J.mald (pc' := 87) B rfl rfl rfl (by omega) (by simp only [jLn]; omega) rfl ?_
        refine J.icmp_lt (tgt := 126) (pc' := 90) rfl rfl rfl (by first | omega | (exact R.r _ _) | (simp only [jM.len_sI, jM.len_sL, jM.len_sR, jM.len_fI, jM.len_fL, jM.len_fR]; omega) | (simp [jM.len_nw, jM.len_sI, jM.len_sL, jM.len_sR, jM.len_fI, jM.len_fL, jM.len_fR, *]; omega)) (by first | omega | (exact R.r _ _) | (simp only [jM.len_sI, jM.len_sL, jM.len_sR, jM.len_fI, jM.len_fL, jM.len_fR]; omega) | (simp [jM.len_nw, jM.len_sI, jM.len_sL, jM.len_sR, jM.len_fI, jM.len_fL, jM.len_fR, *]; omega)) (fun c1 => ?_) (fun c1 => ?_)
        · rw [if_neg (by omega)] at q3 q4
          simp only [Nat.add_zero] at q3
          subst q3 q4
          exact at126 _
        · refine J.iload (pc' := 92) rfl rfl rfl ?_
          refine J.if_le (tgt := 126) (pc' := 95) rfl rfl rfl (by first | omega | (exact R.r _ _) | (simp only [jM.len_sI, jM.len_sL, jM.len_sR, jM.len_fI, jM.len_fL, jM.len_fR]; omega) | (simp [jM.len_nw, jM.len_sI, jM.len_sL, jM.len_sR, jM.len_fI, jM.len_fL, jM.len_fR, *]; omega)) (fun c2 => ?_) (fun c2 => ?_)
          · rw [if_neg (by omega)] at q3 q4
            simp only [Nat.add_zero] at q3
            subst q3 q4
            exact at126 _
          · rw [if_pos (by omega)] at q3 q4
            simp only [mvW] at q3 q4
            refine J.iload (pc' := 97) rfl rfl rfl ?_
            first | refine J.aload_n (pc' := 98) rfl rfl rfl ?_ | refine J.aload_nN (pc' := 98) rfl rfl rfl ?_
            refine J.mgR (pc' := 101) (t := 139) B rfl fl_X12_94 rfl rfl (by decide) rfl ?_
            refine J.bipush (pc' := 103) rfl rfl (by decide) ?_
            refine J.iload_n (pc' := 104) rfl rfl rfl ?_
            refine J.imul (pc' := 105) rfl rfl ?_
            refine J.iload (pc' := 107) rfl rfl rfl ?_
            refine J.iadd (pc' := 108) rfl rfl ?_
            refine J.mald (pc' := 109) B rfl rfl rfl (by omega) (by simp only [jLn]; omega) rfl ?_
            refine J.isub (pc' := 110) rfl rfl ?_
            refine J.istore (pc' := 112) rfl rfl (by decide) ?_
            refine J.iinc (pc' := 115) rfl rfl rfl (by decide) ?_
            refine J.iinc (pc' := 118) rfl rfl rfl (by decide) ?_
            refine J.iload (pc' := 120) rfl rfl rfl ?_
            refine J.if_ge (tgt := 73) (pc' := 123) rfl rfl rfl (by first | omega | (exact R.r _ _) | (simp only [jM.len_sI, jM.len_sL, jM.len_sR, jM.len_fI, jM.len_fL, jM.len_fR]; omega) | (simp [jM.len_nw, jM.len_sI, jM.len_sL, jM.len_sR, jM.len_fI, jM.len_fL, jM.len_fR, *]; omega)) (fun c3 => ?_) (fun c3 => ?_)
            · omega
            · refine J.goto (tgt := 126) rfl rfl ?_
              rw [q4, show (w : Int) + 1 = (W : Int) by omega]
              exact at126 _
      | succ k ih =>
        intro left w q1 q2 q3 q4 q5
        have hpk := hp (41 * f + ((k + 1 : Nat) : Int))
        rw [mvW] at q3 q4
        refine J.iload (pc' := 75) rfl rfl rfl ?_
        first | refine J.aload_n (pc' := 76) rfl rfl rfl ?_ | refine J.aload_nN (pc' := 76) rfl rfl rfl ?_
        refine J.mgR (pc' := 79) (t := 139) B rfl fl_X12_94 rfl rfl (by decide) rfl ?_
        refine J.bipush (pc' := 81) rfl rfl (by decide) ?_
        refine J.iload_n (pc' := 82) rfl rfl rfl ?_
        refine J.imul (pc' := 83) rfl rfl ?_
        refine J.iload (pc' := 85) rfl rfl rfl ?_
        refine J.iadd (pc' := 86) rfl rfl ?_
        refine J.mald (pc' := 87) B rfl rfl rfl (by omega) (by simp only [jLn]; omega) rfl ?_
        refine J.icmp_lt (tgt := 126) (pc' := 90) rfl rfl rfl (by first | omega | (exact R.r _ _) | (simp only [jM.len_sI, jM.len_sL, jM.len_sR, jM.len_fI, jM.len_fL, jM.len_fR]; omega) | (simp [jM.len_nw, jM.len_sI, jM.len_sL, jM.len_sR, jM.len_fI, jM.len_fL, jM.len_fR, *]; omega)) (by first | omega | (exact R.r _ _) | (simp only [jM.len_sI, jM.len_sL, jM.len_sR, jM.len_fI, jM.len_fL, jM.len_fR]; omega) | (simp [jM.len_nw, jM.len_sI, jM.len_sL, jM.len_sR, jM.len_fI, jM.len_fL, jM.len_fR, *]; omega)) (fun c1 => ?_) (fun c1 => ?_)
        · rw [if_neg (by omega)] at q3 q4
          simp only [Nat.add_zero] at q3
          subst q3 q4
          exact at126 _
        · refine J.iload (pc' := 92) rfl rfl rfl ?_
          refine J.if_le (tgt := 126) (pc' := 95) rfl rfl rfl (by first | omega | (exact R.r _ _) | (simp only [jM.len_sI, jM.len_sL, jM.len_sR, jM.len_fI, jM.len_fL, jM.len_fR]; omega) | (simp [jM.len_nw, jM.len_sI, jM.len_sL, jM.len_sR, jM.len_fI, jM.len_fL, jM.len_fR, *]; omega)) (fun c2 => ?_) (fun c2 => ?_)
          · rw [if_neg (by omega)] at q3 q4
            simp only [Nat.add_zero] at q3
            subst q3 q4
            exact at126 _
          · rw [if_pos (by omega)] at q3 q4
            have h9 := ih (left - V 139 (41 * f + ((k + 1 : Nat) : Int))) (w + 1) (by omega) (by omega) (by simp only at q3; omega) q4 (by omega)
            rw [show ((w + 1 : Nat) : Int) = (w : Int) + 1 by omega, show (k : Int) = ((k + 1 : Nat) : Int) + -1 by omega] at h9
            refine J.iload (pc' := 97) rfl rfl rfl ?_
            first | refine J.aload_n (pc' := 98) rfl rfl rfl ?_ | refine J.aload_nN (pc' := 98) rfl rfl rfl ?_
            refine J.mgR (pc' := 101) (t := 139) B rfl fl_X12_94 rfl rfl (by decide) rfl ?_
            refine J.bipush (pc' := 103) rfl rfl (by decide) ?_
            refine J.iload_n (pc' := 104) rfl rfl rfl ?_
            refine J.imul (pc' := 105) rfl rfl ?_
            refine J.iload (pc' := 107) rfl rfl rfl ?_
            refine J.iadd (pc' := 108) rfl rfl ?_
            refine J.mald (pc' := 109) B rfl rfl rfl (by omega) (by simp only [jLn]; omega) rfl ?_
            refine J.isub (pc' := 110) rfl rfl ?_
            refine J.istore (pc' := 112) rfl rfl (by decide) ?_
            refine J.iinc (pc' := 115) rfl rfl rfl (by decide) ?_
            refine J.iinc (pc' := 118) rfl rfl rfl (by decide) ?_
            refine J.iload (pc' := 120) rfl rfl rfl ?_
            refine J.if_ge (tgt := 73) (pc' := 123) rfl rfl rfl (by first | omega | (exact R.r _ _) | (simp only [jM.len_sI, jM.len_sL, jM.len_sR, jM.len_fI, jM.len_fL, jM.len_fR]; omega) | (simp [jM.len_nw, jM.len_sI, jM.len_sL, jM.len_sR, jM.len_fI, jM.len_fL, jM.len_fR, *]; omega)) (fun c3 => ?_) (fun c3 => ?_)
            · exact h9
            · omega
    have h9 := loop ((V 138 f).toNat - 1) n 0 (by omega) (by omega) (by rw [show (V 138 f).toNat - 1 + 1 = (V 138 f).toNat by omega]; omega) (by rw [show (V 138 f).toNat - 1 + 1 = (V 138 f).toNat by omega]; exact hL) (by omega)
    rw [show (((V 138 f).toNat - 1 : Nat) : Int) = V 138 f - 1 by omega] at h9
    refine J.iload_n (pc' := 58) rfl rfl rfl ?_
    refine J.istore (pc' := 60) rfl rfl (by decide) ?_
    refine J.iconst (pc' := 61) rfl rfl ?_
    refine J.istore (pc' := 63) rfl rfl (by decide) ?_
    first | refine J.aload_n (pc' := 64) rfl rfl rfl ?_ | refine J.aload_nN (pc' := 64) rfl rfl rfl ?_
    refine J.mgR (pc' := 67) (t := 138) B rfl fl_X12_91 rfl rfl (by decide) rfl ?_
    refine J.iload_n (pc' := 68) rfl rfl rfl ?_
    refine J.mald (pc' := 69) B rfl rfl rfl (by omega) (by simp only [jLn]; omega) rfl ?_
    refine J.iconst (pc' := 70) rfl rfl ?_
    refine J.isub (pc' := 71) rfl rfl ?_
    refine J.istore (pc' := 73) rfl rfl (by decide) ?_
    exact h9
  have hto := tons_b R (f := f)
  first | refine J.aload_n (pc' := 6) rfl rfl rfl ?_ | refine J.aload_nN (pc' := 6) rfl rfl rfl ?_
  refine J.iload_n (pc' := 7) rfl rfl rfl ?_
  refine J.callV (pc' := 10) (t := 16) rfl MX12_isHeap ml_X12_297 iv_X12_isHeap (by decide) ⟨_, rfl, rfl⟩ B.1 (cm_isHeap B h0 hf) rfl rfl (Nat.le_of_ble_eq_true rfl) (by first | omega | (exact R.r _ _) | (simp only [jM.len_sI, jM.len_sL, jM.len_sR, jM.len_fI, jM.len_fL, jM.len_fR]; omega) | (simp [jM.len_nw, jM.len_sI, jM.len_sL, jM.len_sR, jM.len_fI, jM.len_fL, jM.len_fR, *]; omega)) (by first | omega | (exact R.r _ _) | (simp only [jM.len_sI, jM.len_sL, jM.len_sR, jM.len_fI, jM.len_fL, jM.len_fR]; omega) | (simp [jM.len_nw, jM.len_sI, jM.len_sL, jM.len_sR, jM.len_fI, jM.len_fL, jM.len_fR, *]; omega)) (by first | omega | (exact R.r _ _) | (simp only [jM.len_sI, jM.len_sL, jM.len_sR, jM.len_fI, jM.len_fL, jM.len_fR]; omega) | (simp [jM.len_nw, jM.len_sI, jM.len_sL, jM.len_sR, jM.len_fI, jM.len_fL, jM.len_fR, *]; omega)) rfl rfl ?_ ?_
  · exact fun _ _ h => h
  rintro _ _ ⟨b, hb, rfl⟩
  rcases hb with ⟨rfl, hb, rfl⟩ | ⟨rfl, hb, rfl⟩
  · first
    | (exfalso; omega)
    | (refine J.if_eq (tgt := 44) (pc' := 13) rfl rfl rfl (by first | omega | (exact R.r _ _) | (simp only [jM.len_sI, jM.len_sL, jM.len_sR, jM.len_fI, jM.len_fL, jM.len_fR]; omega) | (simp [jM.len_nw, jM.len_sI, jM.len_sL, jM.len_sR, jM.len_fI, jM.len_fL, jM.len_fR, *]; omega)) (fun c10 => ?_) (fun c10 => ?_)
       · first
         | (exfalso; omega)
         | (refine J.iconst (pc' := 45) rfl rfl ?_
            refine J.iret rfl rfl (by first | omega | (exact R.r _ _) | (simp only [jM.len_sI, jM.len_sL, jM.len_sR, jM.len_fI, jM.len_fL, jM.len_fR]; omega) | (simp [jM.len_nw, jM.len_sI, jM.len_sL, jM.len_sR, jM.len_fI, jM.len_fL, jM.len_fR, *]; omega)) (by first | omega | (exact R.r _ _) | (simp only [jM.len_sI, jM.len_sL, jM.len_sR, jM.len_fI, jM.len_fL, jM.len_fR]; omega) | (simp [jM.len_nw, jM.len_sI, jM.len_sL, jM.len_sR, jM.len_fI, jM.len_fL, jM.len_fR, *]; omega)) ?_
            exact mQ.of (by unfold sp_move; (repeat (first | rw [if_pos (by omega)] | rw [if_neg (by omega)]))))
       · first
         | (exfalso; omega)
         | (first | refine J.aload_n (pc' := 14) rfl rfl rfl ?_ | refine J.aload_nN (pc' := 14) rfl rfl rfl ?_
            refine J.iload_n (pc' := 15) rfl rfl rfl ?_
            refine J.callV (pc' := 18) (t := 16) rfl MX12_isHeap ml_X12_297 iv_X12_isHeap (by decide) ⟨_, rfl, rfl⟩ B.1 (cm_isHeap B h0 ht) rfl rfl (Nat.le_of_ble_eq_true rfl) (by first | omega | (exact R.r _ _) | (simp only [jM.len_sI, jM.len_sL, jM.len_sR, jM.len_fI, jM.len_fL, jM.len_fR]; omega) | (simp [jM.len_nw, jM.len_sI, jM.len_sL, jM.len_sR, jM.len_fI, jM.len_fL, jM.len_fR, *]; omega)) (by first | omega | (exact R.r _ _) | (simp only [jM.len_sI, jM.len_sL, jM.len_sR, jM.len_fI, jM.len_fL, jM.len_fR]; omega) | (simp [jM.len_nw, jM.len_sI, jM.len_sL, jM.len_sR, jM.len_fI, jM.len_fL, jM.len_fR, *]; omega)) (by first | omega | (exact R.r _ _) | (simp only [jM.len_sI, jM.len_sL, jM.len_sR, jM.len_fI, jM.len_fL, jM.len_fR]; omega) | (simp [jM.len_nw, jM.len_sI, jM.len_sL, jM.len_sR, jM.len_fI, jM.len_fL, jM.len_fR, *]; omega)) rfl rfl ?_ ?_
            · exact fun _ _ h => h
            rintro _ _ ⟨b, hb1, rfl⟩
            rcases hb1 with ⟨rfl, hb1, rfl⟩ | ⟨rfl, hb1, rfl⟩
            · first
              | (exfalso; omega)
              | (refine J.if_eq (tgt := 44) (pc' := 21) rfl rfl rfl (by first | omega | (exact R.r _ _) | (simp only [jM.len_sI, jM.len_sL, jM.len_sR, jM.len_fI, jM.len_fL, jM.len_fR]; omega) | (simp [jM.len_nw, jM.len_sI, jM.len_sL, jM.len_sR, jM.len_fI, jM.len_fL, jM.len_fR, *]; omega)) (fun c18 => ?_) (fun c18 => ?_)
                 · first
                   | (exfalso; omega)
                   | (refine J.iconst (pc' := 45) rfl rfl ?_
                      refine J.iret rfl rfl (by first | omega | (exact R.r _ _) | (simp only [jM.len_sI, jM.len_sL, jM.len_sR, jM.len_fI, jM.len_fL, jM.len_fR]; omega) | (simp [jM.len_nw, jM.len_sI, jM.len_sL, jM.len_sR, jM.len_fI, jM.len_fL, jM.len_fR, *]; omega)) (by first | omega | (exact R.r _ _) | (simp only [jM.len_sI, jM.len_sL, jM.len_sR, jM.len_fI, jM.len_fL, jM.len_fR]; omega) | (simp [jM.len_nw, jM.len_sI, jM.len_sL, jM.len_sR, jM.len_fI, jM.len_fL, jM.len_fR, *]; omega)) ?_
                      exact mQ.of (by unfold sp_move; (repeat (first | rw [if_pos (by omega)] | rw [if_neg (by omega)]))))
                 · first
                   | (exfalso; omega)
                   | (first | refine J.aload_n (pc' := 22) rfl rfl rfl ?_ | refine J.aload_nN (pc' := 22) rfl rfl rfl ?_
                      refine J.iload_n (pc' := 23) rfl rfl rfl ?_
                      refine J.iload_n (pc' := 24) rfl rfl rfl ?_
                      refine J.icmp_eq (tgt := 36) (pc' := 27) rfl rfl rfl (by first | omega | (exact R.r _ _) | (simp only [jM.len_sI, jM.len_sL, jM.len_sR, jM.len_fI, jM.len_fL, jM.len_fR]; omega) | (simp [jM.len_nw, jM.len_sI, jM.len_sL, jM.len_sR, jM.len_fI, jM.len_fL, jM.len_fR, *]; omega)) (by first | omega | (exact R.r _ _) | (simp only [jM.len_sI, jM.len_sL, jM.len_sR, jM.len_fI, jM.len_fL, jM.len_fR]; omega) | (simp [jM.len_nw, jM.len_sI, jM.len_sL, jM.len_sR, jM.len_fI, jM.len_fL, jM.len_fR, *]; omega)) (fun c24 => ?_) (fun c24 => ?_)
                      · first
                        | (exfalso; omega)
                        | (refine J.iconst (pc' := 37) rfl rfl ?_
                           refine J.iconst (pc' := 38) rfl rfl ?_
                           first | refine J.callV (pc' := 41) (t := 16) rfl MX12_may ml_X12_161 iv_X12_may (by decide) ⟨_, rfl, rfl⟩ B.1 (cm_may1 B h0) rfl rfl (Nat.le_of_ble_eq_true rfl) (by first | omega | (exact R.r _ _) | (simp only [jM.len_sI, jM.len_sL, jM.len_sR, jM.len_fI, jM.len_fL, jM.len_fR]; omega) | (simp [jM.len_nw, jM.len_sI, jM.len_sL, jM.len_sR, jM.len_fI, jM.len_fL, jM.len_fR, *]; omega)) (by first | omega | (exact R.r _ _) | (simp only [jM.len_sI, jM.len_sL, jM.len_sR, jM.len_fI, jM.len_fL, jM.len_fR]; omega) | (simp [jM.len_nw, jM.len_sI, jM.len_sL, jM.len_sR, jM.len_fI, jM.len_fL, jM.len_fR, *]; omega)) (by first | omega | (exact R.r _ _) | (simp only [jM.len_sI, jM.len_sL, jM.len_sR, jM.len_fI, jM.len_fL, jM.len_fR]; omega) | (simp [jM.len_nw, jM.len_sI, jM.len_sL, jM.len_sR, jM.len_fI, jM.len_fL, jM.len_fR, *]; omega)) rfl rfl ?_ ?_ | refine J.callV (pc' := 41) (t := 16) rfl MX12_may ml_X12_161 iv_X12_may (by decide) ⟨_, rfl, rfl⟩ B.1 (cm_may0 B h0 (by omega)) rfl rfl (Nat.le_of_ble_eq_true rfl) (by first | omega | (exact R.r _ _) | (simp only [jM.len_sI, jM.len_sL, jM.len_sR, jM.len_fI, jM.len_fL, jM.len_fR]; omega) | (simp [jM.len_nw, jM.len_sI, jM.len_sL, jM.len_sR, jM.len_fI, jM.len_fL, jM.len_fR, *]; omega)) (by first | omega | (exact R.r _ _) | (simp only [jM.len_sI, jM.len_sL, jM.len_sR, jM.len_fI, jM.len_fL, jM.len_fR]; omega) | (simp [jM.len_nw, jM.len_sI, jM.len_sL, jM.len_sR, jM.len_fI, jM.len_fL, jM.len_fR, *]; omega)) (by first | omega | (exact R.r _ _) | (simp only [jM.len_sI, jM.len_sL, jM.len_sR, jM.len_fI, jM.len_fL, jM.len_fR]; omega) | (simp [jM.len_nw, jM.len_sI, jM.len_sL, jM.len_sR, jM.len_fI, jM.len_fL, jM.len_fR, *]; omega)) rfl rfl ?_ ?_
                           · exact fun _ _ h => h
                           rintro _ _ ⟨rfl, rfl⟩
                           refine J.if_ne (tgt := 46) (pc' := 44) rfl rfl rfl (by first | omega | (exact R.r _ _) | (simp only [jM.len_sI, jM.len_sL, jM.len_sR, jM.len_fI, jM.len_fL, jM.len_fR]; omega) | (simp [jM.len_nw, jM.len_sI, jM.len_sL, jM.len_sR, jM.len_fI, jM.len_fL, jM.len_fR, *]; omega)) (fun c41 => ?_) (fun c41 => ?_)
                           · first
                             | (exfalso; omega)
                             | (first | refine J.aload_n (pc' := 47) rfl rfl rfl ?_ | refine J.aload_nN (pc' := 47) rfl rfl rfl ?_
                                refine J.iload_n (pc' := 48) rfl rfl rfl ?_
                                refine J.callV (pc' := 51) (t := 16) rfl MX12_tonsOf ml_X12_300 iv_X12_tonsOf (by decide) ⟨_, rfl, rfl⟩ B.1 (cm_tonsOf B R (by omega)) rfl rfl (Nat.le_of_ble_eq_true rfl) (by first | omega | (exact R.r _ _) | (simp only [jM.len_sI, jM.len_sL, jM.len_sR, jM.len_fI, jM.len_fL, jM.len_fR]; omega) | (simp [jM.len_nw, jM.len_sI, jM.len_sL, jM.len_sR, jM.len_fI, jM.len_fL, jM.len_fR, *]; omega)) (by first | omega | (exact R.r _ _) | (simp only [jM.len_sI, jM.len_sL, jM.len_sR, jM.len_fI, jM.len_fL, jM.len_fR]; omega) | (simp [jM.len_nw, jM.len_sI, jM.len_sL, jM.len_sR, jM.len_fI, jM.len_fL, jM.len_fR, *]; omega)) (by first | omega | (exact R.r _ _) | (simp only [jM.len_sI, jM.len_sL, jM.len_sR, jM.len_fI, jM.len_fL, jM.len_fR]; omega) | (simp [jM.len_nw, jM.len_sI, jM.len_sL, jM.len_sR, jM.len_fI, jM.len_fL, jM.len_fR, *]; omega)) rfl rfl ?_ ?_
                                · exact fun _ _ h => h
                                rintro _ _ ⟨rfl, rfl⟩
                                refine J.iload_n (pc' := 52) rfl rfl rfl ?_
                                refine J.icmp_ge (tgt := 57) (pc' := 55) rfl rfl rfl (by first | omega | (exact R.r _ _) | (simp only [jM.len_sI, jM.len_sL, jM.len_sR, jM.len_fI, jM.len_fL, jM.len_fR]; omega) | (simp [jM.len_nw, jM.len_sI, jM.len_sL, jM.len_sR, jM.len_fI, jM.len_fL, jM.len_fR, *]; omega)) (by first | omega | (exact R.r _ _) | (simp only [jM.len_sI, jM.len_sL, jM.len_sR, jM.len_fI, jM.len_fL, jM.len_fR]; omega) | (simp [jM.len_nw, jM.len_sI, jM.len_sL, jM.len_sR, jM.len_fI, jM.len_fL, jM.len_fR, *]; omega)) (fun c52 => ?_) (fun c52 => ?_)
                                · first
                                  | (exfalso; omega)
                                  | (exact rest (by omega) (by omega) (by omega) (by omega))
                                · first
                                  | (exfalso; omega)
                                  | (refine J.iconst (pc' := 56) rfl rfl ?_
                                     refine J.iret rfl rfl (by first | omega | (exact R.r _ _) | (simp only [jM.len_sI, jM.len_sL, jM.len_sR, jM.len_fI, jM.len_fL, jM.len_fR]; omega) | (simp [jM.len_nw, jM.len_sI, jM.len_sL, jM.len_sR, jM.len_fI, jM.len_fL, jM.len_fR, *]; omega)) (by first | omega | (exact R.r _ _) | (simp only [jM.len_sI, jM.len_sL, jM.len_sR, jM.len_fI, jM.len_fL, jM.len_fR]; omega) | (simp [jM.len_nw, jM.len_sI, jM.len_sL, jM.len_sR, jM.len_fI, jM.len_fL, jM.len_fR, *]; omega)) ?_
                                     exact mQ.of (by unfold sp_move; (repeat (first | rw [if_pos (by omega)] | rw [if_neg (by omega)])))))
                           · first
                             | (exfalso; omega)
                             | (refine J.iconst (pc' := 45) rfl rfl ?_
                                refine J.iret rfl rfl (by first | omega | (exact R.r _ _) | (simp only [jM.len_sI, jM.len_sL, jM.len_sR, jM.len_fI, jM.len_fL, jM.len_fR]; omega) | (simp [jM.len_nw, jM.len_sI, jM.len_sL, jM.len_sR, jM.len_fI, jM.len_fL, jM.len_fR, *]; omega)) (by first | omega | (exact R.r _ _) | (simp only [jM.len_sI, jM.len_sL, jM.len_sR, jM.len_fI, jM.len_fL, jM.len_fR]; omega) | (simp [jM.len_nw, jM.len_sI, jM.len_sL, jM.len_sR, jM.len_fI, jM.len_fL, jM.len_fR, *]; omega)) ?_
                                exact mQ.of (by unfold sp_move; (repeat (first | rw [if_pos (by omega)] | rw [if_neg (by omega)])))))
                      · first
                        | (exfalso; omega)
                        | (refine J.iload_n (pc' := 28) rfl rfl rfl ?_
                           refine J.iconst (pc' := 29) rfl rfl ?_
                           refine J.icmp_lt (tgt := 36) (pc' := 32) rfl rfl rfl (by first | omega | (exact R.r _ _) | (simp only [jM.len_sI, jM.len_sL, jM.len_sR, jM.len_fI, jM.len_fL, jM.len_fR]; omega) | (simp [jM.len_nw, jM.len_sI, jM.len_sL, jM.len_sR, jM.len_fI, jM.len_fL, jM.len_fR, *]; omega)) (by first | omega | (exact R.r _ _) | (simp only [jM.len_sI, jM.len_sL, jM.len_sR, jM.len_fI, jM.len_fL, jM.len_fR]; omega) | (simp [jM.len_nw, jM.len_sI, jM.len_sL, jM.len_sR, jM.len_fI, jM.len_fL, jM.len_fR, *]; omega)) (fun c29 => ?_) (fun c29 => ?_)
                           · first
                             | (exfalso; omega)
                             | (refine J.iconst (pc' := 37) rfl rfl ?_
                                refine J.iconst (pc' := 38) rfl rfl ?_
                                first | refine J.callV (pc' := 41) (t := 16) rfl MX12_may ml_X12_161 iv_X12_may (by decide) ⟨_, rfl, rfl⟩ B.1 (cm_may1 B h0) rfl rfl (Nat.le_of_ble_eq_true rfl) (by first | omega | (exact R.r _ _) | (simp only [jM.len_sI, jM.len_sL, jM.len_sR, jM.len_fI, jM.len_fL, jM.len_fR]; omega) | (simp [jM.len_nw, jM.len_sI, jM.len_sL, jM.len_sR, jM.len_fI, jM.len_fL, jM.len_fR, *]; omega)) (by first | omega | (exact R.r _ _) | (simp only [jM.len_sI, jM.len_sL, jM.len_sR, jM.len_fI, jM.len_fL, jM.len_fR]; omega) | (simp [jM.len_nw, jM.len_sI, jM.len_sL, jM.len_sR, jM.len_fI, jM.len_fL, jM.len_fR, *]; omega)) (by first | omega | (exact R.r _ _) | (simp only [jM.len_sI, jM.len_sL, jM.len_sR, jM.len_fI, jM.len_fL, jM.len_fR]; omega) | (simp [jM.len_nw, jM.len_sI, jM.len_sL, jM.len_sR, jM.len_fI, jM.len_fL, jM.len_fR, *]; omega)) rfl rfl ?_ ?_ | refine J.callV (pc' := 41) (t := 16) rfl MX12_may ml_X12_161 iv_X12_may (by decide) ⟨_, rfl, rfl⟩ B.1 (cm_may0 B h0 (by omega)) rfl rfl (Nat.le_of_ble_eq_true rfl) (by first | omega | (exact R.r _ _) | (simp only [jM.len_sI, jM.len_sL, jM.len_sR, jM.len_fI, jM.len_fL, jM.len_fR]; omega) | (simp [jM.len_nw, jM.len_sI, jM.len_sL, jM.len_sR, jM.len_fI, jM.len_fL, jM.len_fR, *]; omega)) (by first | omega | (exact R.r _ _) | (simp only [jM.len_sI, jM.len_sL, jM.len_sR, jM.len_fI, jM.len_fL, jM.len_fR]; omega) | (simp [jM.len_nw, jM.len_sI, jM.len_sL, jM.len_sR, jM.len_fI, jM.len_fL, jM.len_fR, *]; omega)) (by first | omega | (exact R.r _ _) | (simp only [jM.len_sI, jM.len_sL, jM.len_sR, jM.len_fI, jM.len_fL, jM.len_fR]; omega) | (simp [jM.len_nw, jM.len_sI, jM.len_sL, jM.len_sR, jM.len_fI, jM.len_fL, jM.len_fR, *]; omega)) rfl rfl ?_ ?_
                                · exact fun _ _ h => h
                                rintro _ _ ⟨rfl, rfl⟩
                                refine J.if_ne (tgt := 46) (pc' := 44) rfl rfl rfl (by first | omega | (exact R.r _ _) | (simp only [jM.len_sI, jM.len_sL, jM.len_sR, jM.len_fI, jM.len_fL, jM.len_fR]; omega) | (simp [jM.len_nw, jM.len_sI, jM.len_sL, jM.len_sR, jM.len_fI, jM.len_fL, jM.len_fR, *]; omega)) (fun c41 => ?_) (fun c41 => ?_)
                                · first
                                  | (exfalso; omega)
                                  | (first | refine J.aload_n (pc' := 47) rfl rfl rfl ?_ | refine J.aload_nN (pc' := 47) rfl rfl rfl ?_
                                     refine J.iload_n (pc' := 48) rfl rfl rfl ?_
                                     refine J.callV (pc' := 51) (t := 16) rfl MX12_tonsOf ml_X12_300 iv_X12_tonsOf (by decide) ⟨_, rfl, rfl⟩ B.1 (cm_tonsOf B R (by omega)) rfl rfl (Nat.le_of_ble_eq_true rfl) (by first | omega | (exact R.r _ _) | (simp only [jM.len_sI, jM.len_sL, jM.len_sR, jM.len_fI, jM.len_fL, jM.len_fR]; omega) | (simp [jM.len_nw, jM.len_sI, jM.len_sL, jM.len_sR, jM.len_fI, jM.len_fL, jM.len_fR, *]; omega)) (by first | omega | (exact R.r _ _) | (simp only [jM.len_sI, jM.len_sL, jM.len_sR, jM.len_fI, jM.len_fL, jM.len_fR]; omega) | (simp [jM.len_nw, jM.len_sI, jM.len_sL, jM.len_sR, jM.len_fI, jM.len_fL, jM.len_fR, *]; omega)) (by first | omega | (exact R.r _ _) | (simp only [jM.len_sI, jM.len_sL, jM.len_sR, jM.len_fI, jM.len_fL, jM.len_fR]; omega) | (simp [jM.len_nw, jM.len_sI, jM.len_sL, jM.len_sR, jM.len_fI, jM.len_fL, jM.len_fR, *]; omega)) rfl rfl ?_ ?_
                                     · exact fun _ _ h => h
                                     rintro _ _ ⟨rfl, rfl⟩
                                     refine J.iload_n (pc' := 52) rfl rfl rfl ?_
                                     refine J.icmp_ge (tgt := 57) (pc' := 55) rfl rfl rfl (by first | omega | (exact R.r _ _) | (simp only [jM.len_sI, jM.len_sL, jM.len_sR, jM.len_fI, jM.len_fL, jM.len_fR]; omega) | (simp [jM.len_nw, jM.len_sI, jM.len_sL, jM.len_sR, jM.len_fI, jM.len_fL, jM.len_fR, *]; omega)) (by first | omega | (exact R.r _ _) | (simp only [jM.len_sI, jM.len_sL, jM.len_sR, jM.len_fI, jM.len_fL, jM.len_fR]; omega) | (simp [jM.len_nw, jM.len_sI, jM.len_sL, jM.len_sR, jM.len_fI, jM.len_fL, jM.len_fR, *]; omega)) (fun c52 => ?_) (fun c52 => ?_)
                                     · first
                                       | (exfalso; omega)
                                       | (exact rest (by omega) (by omega) (by omega) (by omega))
                                     · first
                                       | (exfalso; omega)
                                       | (refine J.iconst (pc' := 56) rfl rfl ?_
                                          refine J.iret rfl rfl (by first | omega | (exact R.r _ _) | (simp only [jM.len_sI, jM.len_sL, jM.len_sR, jM.len_fI, jM.len_fL, jM.len_fR]; omega) | (simp [jM.len_nw, jM.len_sI, jM.len_sL, jM.len_sR, jM.len_fI, jM.len_fL, jM.len_fR, *]; omega)) (by first | omega | (exact R.r _ _) | (simp only [jM.len_sI, jM.len_sL, jM.len_sR, jM.len_fI, jM.len_fL, jM.len_fR]; omega) | (simp [jM.len_nw, jM.len_sI, jM.len_sL, jM.len_sR, jM.len_fI, jM.len_fL, jM.len_fR, *]; omega)) ?_
                                          exact mQ.of (by unfold sp_move; (repeat (first | rw [if_pos (by omega)] | rw [if_neg (by omega)])))))
                                · first
                                  | (exfalso; omega)
                                  | (refine J.iconst (pc' := 45) rfl rfl ?_
                                     refine J.iret rfl rfl (by first | omega | (exact R.r _ _) | (simp only [jM.len_sI, jM.len_sL, jM.len_sR, jM.len_fI, jM.len_fL, jM.len_fR]; omega) | (simp [jM.len_nw, jM.len_sI, jM.len_sL, jM.len_sR, jM.len_fI, jM.len_fL, jM.len_fR, *]; omega)) (by first | omega | (exact R.r _ _) | (simp only [jM.len_sI, jM.len_sL, jM.len_sR, jM.len_fI, jM.len_fL, jM.len_fR]; omega) | (simp [jM.len_nw, jM.len_sI, jM.len_sL, jM.len_sR, jM.len_fI, jM.len_fL, jM.len_fR, *]; omega)) ?_
                                     exact mQ.of (by unfold sp_move; (repeat (first | rw [if_pos (by omega)] | rw [if_neg (by omega)])))))
                           · first
                             | (exfalso; omega)
                             | (refine J.iconst (pc' := 33) rfl rfl ?_
                                refine J.goto (tgt := 37) rfl rfl ?_
                                refine J.iconst (pc' := 38) rfl rfl ?_
                                first | refine J.callV (pc' := 41) (t := 16) rfl MX12_may ml_X12_161 iv_X12_may (by decide) ⟨_, rfl, rfl⟩ B.1 (cm_may1 B h0) rfl rfl (Nat.le_of_ble_eq_true rfl) (by first | omega | (exact R.r _ _) | (simp only [jM.len_sI, jM.len_sL, jM.len_sR, jM.len_fI, jM.len_fL, jM.len_fR]; omega) | (simp [jM.len_nw, jM.len_sI, jM.len_sL, jM.len_sR, jM.len_fI, jM.len_fL, jM.len_fR, *]; omega)) (by first | omega | (exact R.r _ _) | (simp only [jM.len_sI, jM.len_sL, jM.len_sR, jM.len_fI, jM.len_fL, jM.len_fR]; omega) | (simp [jM.len_nw, jM.len_sI, jM.len_sL, jM.len_sR, jM.len_fI, jM.len_fL, jM.len_fR, *]; omega)) (by first | omega | (exact R.r _ _) | (simp only [jM.len_sI, jM.len_sL, jM.len_sR, jM.len_fI, jM.len_fL, jM.len_fR]; omega) | (simp [jM.len_nw, jM.len_sI, jM.len_sL, jM.len_sR, jM.len_fI, jM.len_fL, jM.len_fR, *]; omega)) rfl rfl ?_ ?_ | refine J.callV (pc' := 41) (t := 16) rfl MX12_may ml_X12_161 iv_X12_may (by decide) ⟨_, rfl, rfl⟩ B.1 (cm_may0 B h0 (by omega)) rfl rfl (Nat.le_of_ble_eq_true rfl) (by first | omega | (exact R.r _ _) | (simp only [jM.len_sI, jM.len_sL, jM.len_sR, jM.len_fI, jM.len_fL, jM.len_fR]; omega) | (simp [jM.len_nw, jM.len_sI, jM.len_sL, jM.len_sR, jM.len_fI, jM.len_fL, jM.len_fR, *]; omega)) (by first | omega | (exact R.r _ _) | (simp only [jM.len_sI, jM.len_sL, jM.len_sR, jM.len_fI, jM.len_fL, jM.len_fR]; omega) | (simp [jM.len_nw, jM.len_sI, jM.len_sL, jM.len_sR, jM.len_fI, jM.len_fL, jM.len_fR, *]; omega)) (by first | omega | (exact R.r _ _) | (simp only [jM.len_sI, jM.len_sL, jM.len_sR, jM.len_fI, jM.len_fL, jM.len_fR]; omega) | (simp [jM.len_nw, jM.len_sI, jM.len_sL, jM.len_sR, jM.len_fI, jM.len_fL, jM.len_fR, *]; omega)) rfl rfl ?_ ?_
                                · exact fun _ _ h => h
                                rintro _ _ ⟨rfl, rfl⟩
                                refine J.if_ne (tgt := 46) (pc' := 44) rfl rfl rfl (by first | omega | (exact R.r _ _) | (simp only [jM.len_sI, jM.len_sL, jM.len_sR, jM.len_fI, jM.len_fL, jM.len_fR]; omega) | (simp [jM.len_nw, jM.len_sI, jM.len_sL, jM.len_sR, jM.len_fI, jM.len_fL, jM.len_fR, *]; omega)) (fun c41 => ?_) (fun c41 => ?_)
                                · first
                                  | (exfalso; omega)
                                  | (first | refine J.aload_n (pc' := 47) rfl rfl rfl ?_ | refine J.aload_nN (pc' := 47) rfl rfl rfl ?_
                                     refine J.iload_n (pc' := 48) rfl rfl rfl ?_
                                     refine J.callV (pc' := 51) (t := 16) rfl MX12_tonsOf ml_X12_300 iv_X12_tonsOf (by decide) ⟨_, rfl, rfl⟩ B.1 (cm_tonsOf B R (by omega)) rfl rfl (Nat.le_of_ble_eq_true rfl) (by first | omega | (exact R.r _ _) | (simp only [jM.len_sI, jM.len_sL, jM.len_sR, jM.len_fI, jM.len_fL, jM.len_fR]; omega) | (simp [jM.len_nw, jM.len_sI, jM.len_sL, jM.len_sR, jM.len_fI, jM.len_fL, jM.len_fR, *]; omega)) (by first | omega | (exact R.r _ _) | (simp only [jM.len_sI, jM.len_sL, jM.len_sR, jM.len_fI, jM.len_fL, jM.len_fR]; omega) | (simp [jM.len_nw, jM.len_sI, jM.len_sL, jM.len_sR, jM.len_fI, jM.len_fL, jM.len_fR, *]; omega)) (by first | omega | (exact R.r _ _) | (simp only [jM.len_sI, jM.len_sL, jM.len_sR, jM.len_fI, jM.len_fL, jM.len_fR]; omega) | (simp [jM.len_nw, jM.len_sI, jM.len_sL, jM.len_sR, jM.len_fI, jM.len_fL, jM.len_fR, *]; omega)) rfl rfl ?_ ?_
                                     · exact fun _ _ h => h
                                     rintro _ _ ⟨rfl, rfl⟩
                                     refine J.iload_n (pc' := 52) rfl rfl rfl ?_
                                     refine J.icmp_ge (tgt := 57) (pc' := 55) rfl rfl rfl (by first | omega | (exact R.r _ _) | (simp only [jM.len_sI, jM.len_sL, jM.len_sR, jM.len_fI, jM.len_fL, jM.len_fR]; omega) | (simp [jM.len_nw, jM.len_sI, jM.len_sL, jM.len_sR, jM.len_fI, jM.len_fL, jM.len_fR, *]; omega)) (by first | omega | (exact R.r _ _) | (simp only [jM.len_sI, jM.len_sL, jM.len_sR, jM.len_fI, jM.len_fL, jM.len_fR]; omega) | (simp [jM.len_nw, jM.len_sI, jM.len_sL, jM.len_sR, jM.len_fI, jM.len_fL, jM.len_fR, *]; omega)) (fun c52 => ?_) (fun c52 => ?_)
                                     · first
                                       | (exfalso; omega)
                                       | (exact rest (by omega) (by omega) (by omega) (by omega))
                                     · first
                                       | (exfalso; omega)
                                       | (refine J.iconst (pc' := 56) rfl rfl ?_
                                          refine J.iret rfl rfl (by first | omega | (exact R.r _ _) | (simp only [jM.len_sI, jM.len_sL, jM.len_sR, jM.len_fI, jM.len_fL, jM.len_fR]; omega) | (simp [jM.len_nw, jM.len_sI, jM.len_sL, jM.len_sR, jM.len_fI, jM.len_fL, jM.len_fR, *]; omega)) (by first | omega | (exact R.r _ _) | (simp only [jM.len_sI, jM.len_sL, jM.len_sR, jM.len_fI, jM.len_fL, jM.len_fR]; omega) | (simp [jM.len_nw, jM.len_sI, jM.len_sL, jM.len_sR, jM.len_fI, jM.len_fL, jM.len_fR, *]; omega)) ?_
                                          exact mQ.of (by unfold sp_move; (repeat (first | rw [if_pos (by omega)] | rw [if_neg (by omega)])))))
                                · first
                                  | (exfalso; omega)
                                  | (refine J.iconst (pc' := 45) rfl rfl ?_
                                     refine J.iret rfl rfl (by first | omega | (exact R.r _ _) | (simp only [jM.len_sI, jM.len_sL, jM.len_sR, jM.len_fI, jM.len_fL, jM.len_fR]; omega) | (simp [jM.len_nw, jM.len_sI, jM.len_sL, jM.len_sR, jM.len_fI, jM.len_fL, jM.len_fR, *]; omega)) (by first | omega | (exact R.r _ _) | (simp only [jM.len_sI, jM.len_sL, jM.len_sR, jM.len_fI, jM.len_fL, jM.len_fR]; omega) | (simp [jM.len_nw, jM.len_sI, jM.len_sL, jM.len_sR, jM.len_fI, jM.len_fL, jM.len_fR, *]; omega)) ?_
                                     exact mQ.of (by unfold sp_move; (repeat (first | rw [if_pos (by omega)] | rw [if_neg (by omega)]))))))))
            · first
              | (exfalso; omega)
              | (refine J.if_eq (tgt := 44) (pc' := 21) rfl rfl rfl (by first | omega | (exact R.r _ _) | (simp only [jM.len_sI, jM.len_sL, jM.len_sR, jM.len_fI, jM.len_fL, jM.len_fR]; omega) | (simp [jM.len_nw, jM.len_sI, jM.len_sL, jM.len_sR, jM.len_fI, jM.len_fL, jM.len_fR, *]; omega)) (fun c18 => ?_) (fun c18 => ?_)
                 · first
                   | (exfalso; omega)
                   | (refine J.iconst (pc' := 45) rfl rfl ?_
                      refine J.iret rfl rfl (by first | omega | (exact R.r _ _) | (simp only [jM.len_sI, jM.len_sL, jM.len_sR, jM.len_fI, jM.len_fL, jM.len_fR]; omega) | (simp [jM.len_nw, jM.len_sI, jM.len_sL, jM.len_sR, jM.len_fI, jM.len_fL, jM.len_fR, *]; omega)) (by first | omega | (exact R.r _ _) | (simp only [jM.len_sI, jM.len_sL, jM.len_sR, jM.len_fI, jM.len_fL, jM.len_fR]; omega) | (simp [jM.len_nw, jM.len_sI, jM.len_sL, jM.len_sR, jM.len_fI, jM.len_fL, jM.len_fR, *]; omega)) ?_
                      exact mQ.of (by unfold sp_move; (repeat (first | rw [if_pos (by omega)] | rw [if_neg (by omega)]))))
                 · first
                   | (exfalso; omega)
                   | (first | refine J.aload_n (pc' := 22) rfl rfl rfl ?_ | refine J.aload_nN (pc' := 22) rfl rfl rfl ?_
                      refine J.iload_n (pc' := 23) rfl rfl rfl ?_
                      refine J.iload_n (pc' := 24) rfl rfl rfl ?_
                      refine J.icmp_eq (tgt := 36) (pc' := 27) rfl rfl rfl (by first | omega | (exact R.r _ _) | (simp only [jM.len_sI, jM.len_sL, jM.len_sR, jM.len_fI, jM.len_fL, jM.len_fR]; omega) | (simp [jM.len_nw, jM.len_sI, jM.len_sL, jM.len_sR, jM.len_fI, jM.len_fL, jM.len_fR, *]; omega)) (by first | omega | (exact R.r _ _) | (simp only [jM.len_sI, jM.len_sL, jM.len_sR, jM.len_fI, jM.len_fL, jM.len_fR]; omega) | (simp [jM.len_nw, jM.len_sI, jM.len_sL, jM.len_sR, jM.len_fI, jM.len_fL, jM.len_fR, *]; omega)) (fun c24 => ?_) (fun c24 => ?_)
                      · first
                        | (exfalso; omega)
                        | (refine J.iconst (pc' := 37) rfl rfl ?_
                           refine J.iconst (pc' := 38) rfl rfl ?_
                           first | refine J.callV (pc' := 41) (t := 16) rfl MX12_may ml_X12_161 iv_X12_may (by decide) ⟨_, rfl, rfl⟩ B.1 (cm_may1 B h0) rfl rfl (Nat.le_of_ble_eq_true rfl) (by first | omega | (exact R.r _ _) | (simp only [jM.len_sI, jM.len_sL, jM.len_sR, jM.len_fI, jM.len_fL, jM.len_fR]; omega) | (simp [jM.len_nw, jM.len_sI, jM.len_sL, jM.len_sR, jM.len_fI, jM.len_fL, jM.len_fR, *]; omega)) (by first | omega | (exact R.r _ _) | (simp only [jM.len_sI, jM.len_sL, jM.len_sR, jM.len_fI, jM.len_fL, jM.len_fR]; omega) | (simp [jM.len_nw, jM.len_sI, jM.len_sL, jM.len_sR, jM.len_fI, jM.len_fL, jM.len_fR, *]; omega)) (by first | omega | (exact R.r _ _) | (simp only [jM.len_sI, jM.len_sL, jM.len_sR, jM.len_fI, jM.len_fL, jM.len_fR]; omega) | (simp [jM.len_nw, jM.len_sI, jM.len_sL, jM.len_sR, jM.len_fI, jM.len_fL, jM.len_fR, *]; omega)) rfl rfl ?_ ?_ | refine J.callV (pc' := 41) (t := 16) rfl MX12_may ml_X12_161 iv_X12_may (by decide) ⟨_, rfl, rfl⟩ B.1 (cm_may0 B h0 (by omega)) rfl rfl (Nat.le_of_ble_eq_true rfl) (by first | omega | (exact R.r _ _) | (simp only [jM.len_sI, jM.len_sL, jM.len_sR, jM.len_fI, jM.len_fL, jM.len_fR]; omega) | (simp [jM.len_nw, jM.len_sI, jM.len_sL, jM.len_sR, jM.len_fI, jM.len_fL, jM.len_fR, *]; omega)) (by first | omega | (exact R.r _ _) | (simp only [jM.len_sI, jM.len_sL, jM.len_sR, jM.len_fI, jM.len_fL, jM.len_fR]; omega) | (simp [jM.len_nw, jM.len_sI, jM.len_sL, jM.len_sR, jM.len_fI, jM.len_fL, jM.len_fR, *]; omega)) (by first | omega | (exact R.r _ _) | (simp only [jM.len_sI, jM.len_sL, jM.len_sR, jM.len_fI, jM.len_fL, jM.len_fR]; omega) | (simp [jM.len_nw, jM.len_sI, jM.len_sL, jM.len_sR, jM.len_fI, jM.len_fL, jM.len_fR, *]; omega)) rfl rfl ?_ ?_
                           · exact fun _ _ h => h
                           rintro _ _ ⟨rfl, rfl⟩
                           refine J.if_ne (tgt := 46) (pc' := 44) rfl rfl rfl (by first | omega | (exact R.r _ _) | (simp only [jM.len_sI, jM.len_sL, jM.len_sR, jM.len_fI, jM.len_fL, jM.len_fR]; omega) | (simp [jM.len_nw, jM.len_sI, jM.len_sL, jM.len_sR, jM.len_fI, jM.len_fL, jM.len_fR, *]; omega)) (fun c41 => ?_) (fun c41 => ?_)
                           · first
                             | (exfalso; omega)
                             | (first | refine J.aload_n (pc' := 47) rfl rfl rfl ?_ | refine J.aload_nN (pc' := 47) rfl rfl rfl ?_
                                refine J.iload_n (pc' := 48) rfl rfl rfl ?_
                                refine J.callV (pc' := 51) (t := 16) rfl MX12_tonsOf ml_X12_300 iv_X12_tonsOf (by decide) ⟨_, rfl, rfl⟩ B.1 (cm_tonsOf B R (by omega)) rfl rfl (Nat.le_of_ble_eq_true rfl) (by first | omega | (exact R.r _ _) | (simp only [jM.len_sI, jM.len_sL, jM.len_sR, jM.len_fI, jM.len_fL, jM.len_fR]; omega) | (simp [jM.len_nw, jM.len_sI, jM.len_sL, jM.len_sR, jM.len_fI, jM.len_fL, jM.len_fR, *]; omega)) (by first | omega | (exact R.r _ _) | (simp only [jM.len_sI, jM.len_sL, jM.len_sR, jM.len_fI, jM.len_fL, jM.len_fR]; omega) | (simp [jM.len_nw, jM.len_sI, jM.len_sL, jM.len_sR, jM.len_fI, jM.len_fL, jM.len_fR, *]; omega)) (by first | omega | (exact R.r _ _) | (simp only [jM.len_sI, jM.len_sL, jM.len_sR, jM.len_fI, jM.len_fL, jM.len_fR]; omega) | (simp [jM.len_nw, jM.len_sI, jM.len_sL, jM.len_sR, jM.len_fI, jM.len_fL, jM.len_fR, *]; omega)) rfl rfl ?_ ?_
                                · exact fun _ _ h => h
                                rintro _ _ ⟨rfl, rfl⟩
                                refine J.iload_n (pc' := 52) rfl rfl rfl ?_
                                refine J.icmp_ge (tgt := 57) (pc' := 55) rfl rfl rfl (by first | omega | (exact R.r _ _) | (simp only [jM.len_sI, jM.len_sL, jM.len_sR, jM.len_fI, jM.len_fL, jM.len_fR]; omega) | (simp [jM.len_nw, jM.len_sI, jM.len_sL, jM.len_sR, jM.len_fI, jM.len_fL, jM.len_fR, *]; omega)) (by first | omega | (exact R.r _ _) | (simp only [jM.len_sI, jM.len_sL, jM.len_sR, jM.len_fI, jM.len_fL, jM.len_fR]; omega) | (simp [jM.len_nw, jM.len_sI, jM.len_sL, jM.len_sR, jM.len_fI, jM.len_fL, jM.len_fR, *]; omega)) (fun c52 => ?_) (fun c52 => ?_)
                                · first
                                  | (exfalso; omega)
                                  | (exact rest (by omega) (by omega) (by omega) (by omega))
                                · first
                                  | (exfalso; omega)
                                  | (refine J.iconst (pc' := 56) rfl rfl ?_
                                     refine J.iret rfl rfl (by first | omega | (exact R.r _ _) | (simp only [jM.len_sI, jM.len_sL, jM.len_sR, jM.len_fI, jM.len_fL, jM.len_fR]; omega) | (simp [jM.len_nw, jM.len_sI, jM.len_sL, jM.len_sR, jM.len_fI, jM.len_fL, jM.len_fR, *]; omega)) (by first | omega | (exact R.r _ _) | (simp only [jM.len_sI, jM.len_sL, jM.len_sR, jM.len_fI, jM.len_fL, jM.len_fR]; omega) | (simp [jM.len_nw, jM.len_sI, jM.len_sL, jM.len_sR, jM.len_fI, jM.len_fL, jM.len_fR, *]; omega)) ?_
                                     exact mQ.of (by unfold sp_move; (repeat (first | rw [if_pos (by omega)] | rw [if_neg (by omega)])))))
                           · first
                             | (exfalso; omega)
                             | (refine J.iconst (pc' := 45) rfl rfl ?_
                                refine J.iret rfl rfl (by first | omega | (exact R.r _ _) | (simp only [jM.len_sI, jM.len_sL, jM.len_sR, jM.len_fI, jM.len_fL, jM.len_fR]; omega) | (simp [jM.len_nw, jM.len_sI, jM.len_sL, jM.len_sR, jM.len_fI, jM.len_fL, jM.len_fR, *]; omega)) (by first | omega | (exact R.r _ _) | (simp only [jM.len_sI, jM.len_sL, jM.len_sR, jM.len_fI, jM.len_fL, jM.len_fR]; omega) | (simp [jM.len_nw, jM.len_sI, jM.len_sL, jM.len_sR, jM.len_fI, jM.len_fL, jM.len_fR, *]; omega)) ?_
                                exact mQ.of (by unfold sp_move; (repeat (first | rw [if_pos (by omega)] | rw [if_neg (by omega)])))))
                      · first
                        | (exfalso; omega)
                        | (refine J.iload_n (pc' := 28) rfl rfl rfl ?_
                           refine J.iconst (pc' := 29) rfl rfl ?_
                           refine J.icmp_lt (tgt := 36) (pc' := 32) rfl rfl rfl (by first | omega | (exact R.r _ _) | (simp only [jM.len_sI, jM.len_sL, jM.len_sR, jM.len_fI, jM.len_fL, jM.len_fR]; omega) | (simp [jM.len_nw, jM.len_sI, jM.len_sL, jM.len_sR, jM.len_fI, jM.len_fL, jM.len_fR, *]; omega)) (by first | omega | (exact R.r _ _) | (simp only [jM.len_sI, jM.len_sL, jM.len_sR, jM.len_fI, jM.len_fL, jM.len_fR]; omega) | (simp [jM.len_nw, jM.len_sI, jM.len_sL, jM.len_sR, jM.len_fI, jM.len_fL, jM.len_fR, *]; omega)) (fun c29 => ?_) (fun c29 => ?_)
                           · first
                             | (exfalso; omega)
                             | (refine J.iconst (pc' := 37) rfl rfl ?_
                                refine J.iconst (pc' := 38) rfl rfl ?_
                                first | refine J.callV (pc' := 41) (t := 16) rfl MX12_may ml_X12_161 iv_X12_may (by decide) ⟨_, rfl, rfl⟩ B.1 (cm_may1 B h0) rfl rfl (Nat.le_of_ble_eq_true rfl) (by first | omega | (exact R.r _ _) | (simp only [jM.len_sI, jM.len_sL, jM.len_sR, jM.len_fI, jM.len_fL, jM.len_fR]; omega) | (simp [jM.len_nw, jM.len_sI, jM.len_sL, jM.len_sR, jM.len_fI, jM.len_fL, jM.len_fR, *]; omega)) (by first | omega | (exact R.r _ _) | (simp only [jM.len_sI, jM.len_sL, jM.len_sR, jM.len_fI, jM.len_fL, jM.len_fR]; omega) | (simp [jM.len_nw, jM.len_sI, jM.len_sL, jM.len_sR, jM.len_fI, jM.len_fL, jM.len_fR, *]; omega)) (by first | omega | (exact R.r _ _) | (simp only [jM.len_sI, jM.len_sL, jM.len_sR, jM.len_fI, jM.len_fL, jM.len_fR]; omega) | (simp [jM.len_nw, jM.len_sI, jM.len_sL, jM.len_sR, jM.len_fI, jM.len_fL, jM.len_fR, *]; omega)) rfl rfl ?_ ?_ | refine J.callV (pc' := 41) (t := 16) rfl MX12_may ml_X12_161 iv_X12_may (by decide) ⟨_, rfl, rfl⟩ B.1 (cm_may0 B h0 (by omega)) rfl rfl (Nat.le_of_ble_eq_true rfl) (by first | omega | (exact R.r _ _) | (simp only [jM.len_sI, jM.len_sL, jM.len_sR, jM.len_fI, jM.len_fL, jM.len_fR]; omega) | (simp [jM.len_nw, jM.len_sI, jM.len_sL, jM.len_sR, jM.len_fI, jM.len_fL, jM.len_fR, *]; omega)) (by first | omega | (exact R.r _ _) | (simp only [jM.len_sI, jM.len_sL, jM.len_sR, jM.len_fI, jM.len_fL, jM.len_fR]; omega) | (simp [jM.len_nw, jM.len_sI, jM.len_sL, jM.len_sR, jM.len_fI, jM.len_fL, jM.len_fR, *]; omega)) (by first | omega | (exact R.r _ _) | (simp only [jM.len_sI, jM.len_sL, jM.len_sR, jM.len_fI, jM.len_fL, jM.len_fR]; omega) | (simp [jM.len_nw, jM.len_sI, jM.len_sL, jM.len_sR, jM.len_fI, jM.len_fL, jM.len_fR, *]; omega)) rfl rfl ?_ ?_
                                · exact fun _ _ h => h
                                rintro _ _ ⟨rfl, rfl⟩
                                refine J.if_ne (tgt := 46) (pc' := 44) rfl rfl rfl (by first | omega | (exact R.r _ _) | (simp only [jM.len_sI, jM.len_sL, jM.len_sR, jM.len_fI, jM.len_fL, jM.len_fR]; omega) | (simp [jM.len_nw, jM.len_sI, jM.len_sL, jM.len_sR, jM.len_fI, jM.len_fL, jM.len_fR, *]; omega)) (fun c41 => ?_) (fun c41 => ?_)
                                · first
                                  | (exfalso; omega)
                                  | (first | refine J.aload_n (pc' := 47) rfl rfl rfl ?_ | refine J.aload_nN (pc' := 47) rfl rfl rfl ?_
                                     refine J.iload_n (pc' := 48) rfl rfl rfl ?_
                                     refine J.callV (pc' := 51) (t := 16) rfl MX12_tonsOf ml_X12_300 iv_X12_tonsOf (by decide) ⟨_, rfl, rfl⟩ B.1 (cm_tonsOf B R (by omega)) rfl rfl (Nat.le_of_ble_eq_true rfl) (by first | omega | (exact R.r _ _) | (simp only [jM.len_sI, jM.len_sL, jM.len_sR, jM.len_fI, jM.len_fL, jM.len_fR]; omega) | (simp [jM.len_nw, jM.len_sI, jM.len_sL, jM.len_sR, jM.len_fI, jM.len_fL, jM.len_fR, *]; omega)) (by first | omega | (exact R.r _ _) | (simp only [jM.len_sI, jM.len_sL, jM.len_sR, jM.len_fI, jM.len_fL, jM.len_fR]; omega) | (simp [jM.len_nw, jM.len_sI, jM.len_sL, jM.len_sR, jM.len_fI, jM.len_fL, jM.len_fR, *]; omega)) (by first | omega | (exact R.r _ _) | (simp only [jM.len_sI, jM.len_sL, jM.len_sR, jM.len_fI, jM.len_fL, jM.len_fR]; omega) | (simp [jM.len_nw, jM.len_sI, jM.len_sL, jM.len_sR, jM.len_fI, jM.len_fL, jM.len_fR, *]; omega)) rfl rfl ?_ ?_
                                     · exact fun _ _ h => h
                                     rintro _ _ ⟨rfl, rfl⟩
                                     refine J.iload_n (pc' := 52) rfl rfl rfl ?_
                                     refine J.icmp_ge (tgt := 57) (pc' := 55) rfl rfl rfl (by first | omega | (exact R.r _ _) | (simp only [jM.len_sI, jM.len_sL, jM.len_sR, jM.len_fI, jM.len_fL, jM.len_fR]; omega) | (simp [jM.len_nw, jM.len_sI, jM.len_sL, jM.len_sR, jM.len_fI, jM.len_fL, jM.len_fR, *]; omega)) (by first | omega | (exact R.r _ _) | (simp only [jM.len_sI, jM.len_sL, jM.len_sR, jM.len_fI, jM.len_fL, jM.len_fR]; omega) | (simp [jM.len_nw, jM.len_sI, jM.len_sL, jM.len_sR, jM.len_fI, jM.len_fL, jM.len_fR, *]; omega)) (fun c52 => ?_) (fun c52 => ?_)
                                     · first
                                       | (exfalso; omega)
                                       | (exact rest (by omega) (by omega) (by omega) (by omega))
                                     · first
                                       | (exfalso; omega)
                                       | (refine J.iconst (pc' := 56) rfl rfl ?_
                                          refine J.iret rfl rfl (by first | omega | (exact R.r _ _) | (simp only [jM.len_sI, jM.len_sL, jM.len_sR, jM.len_fI, jM.len_fL, jM.len_fR]; omega) | (simp [jM.len_nw, jM.len_sI, jM.len_sL, jM.len_sR, jM.len_fI, jM.len_fL, jM.len_fR, *]; omega)) (by first | omega | (exact R.r _ _) | (simp only [jM.len_sI, jM.len_sL, jM.len_sR, jM.len_fI, jM.len_fL, jM.len_fR]; omega) | (simp [jM.len_nw, jM.len_sI, jM.len_sL, jM.len_sR, jM.len_fI, jM.len_fL, jM.len_fR, *]; omega)) ?_
                                          exact mQ.of (by unfold sp_move; (repeat (first | rw [if_pos (by omega)] | rw [if_neg (by omega)])))))
                                · first
                                  | (exfalso; omega)
                                  | (refine J.iconst (pc' := 45) rfl rfl ?_
                                     refine J.iret rfl rfl (by first | omega | (exact R.r _ _) | (simp only [jM.len_sI, jM.len_sL, jM.len_sR, jM.len_fI, jM.len_fL, jM.len_fR]; omega) | (simp [jM.len_nw, jM.len_sI, jM.len_sL, jM.len_sR, jM.len_fI, jM.len_fL, jM.len_fR, *]; omega)) (by first | omega | (exact R.r _ _) | (simp only [jM.len_sI, jM.len_sL, jM.len_sR, jM.len_fI, jM.len_fL, jM.len_fR]; omega) | (simp [jM.len_nw, jM.len_sI, jM.len_sL, jM.len_sR, jM.len_fI, jM.len_fL, jM.len_fR, *]; omega)) ?_
                                     exact mQ.of (by unfold sp_move; (repeat (first | rw [if_pos (by omega)] | rw [if_neg (by omega)])))))
                           · first
                             | (exfalso; omega)
                             | (refine J.iconst (pc' := 33) rfl rfl ?_
                                refine J.goto (tgt := 37) rfl rfl ?_
                                refine J.iconst (pc' := 38) rfl rfl ?_
                                first | refine J.callV (pc' := 41) (t := 16) rfl MX12_may ml_X12_161 iv_X12_may (by decide) ⟨_, rfl, rfl⟩ B.1 (cm_may1 B h0) rfl rfl (Nat.le_of_ble_eq_true rfl) (by first | omega | (exact R.r _ _) | (simp only [jM.len_sI, jM.len_sL, jM.len_sR, jM.len_fI, jM.len_fL, jM.len_fR]; omega) | (simp [jM.len_nw, jM.len_sI, jM.len_sL, jM.len_sR, jM.len_fI, jM.len_fL, jM.len_fR, *]; omega)) (by first | omega | (exact R.r _ _) | (simp only [jM.len_sI, jM.len_sL, jM.len_sR, jM.len_fI, jM.len_fL, jM.len_fR]; omega) | (simp [jM.len_nw, jM.len_sI, jM.len_sL, jM.len_sR, jM.len_fI, jM.len_fL, jM.len_fR, *]; omega)) (by first | omega | (exact R.r _ _) | (simp only [jM.len_sI, jM.len_sL, jM.len_sR, jM.len_fI, jM.len_fL, jM.len_fR]; omega) | (simp [jM.len_nw, jM.len_sI, jM.len_sL, jM.len_sR, jM.len_fI, jM.len_fL, jM.len_fR, *]; omega)) rfl rfl ?_ ?_ | refine J.callV (pc' := 41) (t := 16) rfl MX12_may ml_X12_161 iv_X12_may (by decide) ⟨_, rfl, rfl⟩ B.1 (cm_may0 B h0 (by omega)) rfl rfl (Nat.le_of_ble_eq_true rfl) (by first | omega | (exact R.r _ _) | (simp only [jM.len_sI, jM.len_sL, jM.len_sR, jM.len_fI, jM.len_fL, jM.len_fR]; omega) | (simp [jM.len_nw, jM.len_sI, jM.len_sL, jM.len_sR, jM.len_fI, jM.len_fL, jM.len_fR, *]; omega)) (by first | omega | (exact R.r _ _) | (simp only [jM.len_sI, jM.len_sL, jM.len_sR, jM.len_fI, jM.len_fL, jM.len_fR]; omega) | (simp [jM.len_nw, jM.len_sI, jM.len_sL, jM.len_sR, jM.len_fI, jM.len_fL, jM.len_fR, *]; omega)) (by first | omega | (exact R.r _ _) | (simp only [jM.len_sI, jM.len_sL, jM.len_sR, jM.len_fI, jM.len_fL, jM.len_fR]; omega) | (simp [jM.len_nw, jM.len_sI, jM.len_sL, jM.len_sR, jM.len_fI, jM.len_fL, jM.len_fR, *]; omega)) rfl rfl ?_ ?_
                                · exact fun _ _ h => h
                                rintro _ _ ⟨rfl, rfl⟩
                                refine J.if_ne (tgt := 46) (pc' := 44) rfl rfl rfl (by first | omega | (exact R.r _ _) | (simp only [jM.len_sI, jM.len_sL, jM.len_sR, jM.len_fI, jM.len_fL, jM.len_fR]; omega) | (simp [jM.len_nw, jM.len_sI, jM.len_sL, jM.len_sR, jM.len_fI, jM.len_fL, jM.len_fR, *]; omega)) (fun c41 => ?_) (fun c41 => ?_)
                                · first
                                  | (exfalso; omega)
                                  | (first | refine J.aload_n (pc' := 47) rfl rfl rfl ?_ | refine J.aload_nN (pc' := 47) rfl rfl rfl ?_
                                     refine J.iload_n (pc' := 48) rfl rfl rfl ?_
                                     refine J.callV (pc' := 51) (t := 16) rfl MX12_tonsOf ml_X12_300 iv_X12_tonsOf (by decide) ⟨_, rfl, rfl⟩ B.1 (cm_tonsOf B R (by omega)) rfl rfl (Nat.le_of_ble_eq_true rfl) (by first | omega | (exact R.r _ _) | (simp only [jM.len_sI, jM.len_sL, jM.len_sR, jM.len_fI, jM.len_fL, jM.len_fR]; omega) | (simp [jM.len_nw, jM.len_sI, jM.len_sL, jM.len_sR, jM.len_fI, jM.len_fL, jM.len_fR, *]; omega)) (by first | omega | (exact R.r _ _) | (simp only [jM.len_sI, jM.len_sL, jM.len_sR, jM.len_fI, jM.len_fL, jM.len_fR]; omega) | (simp [jM.len_nw, jM.len_sI, jM.len_sL, jM.len_sR, jM.len_fI, jM.len_fL, jM.len_fR, *]; omega)) (by first | omega | (exact R.r _ _) | (simp only [jM.len_sI, jM.len_sL, jM.len_sR, jM.len_fI, jM.len_fL, jM.len_fR]; omega) | (simp [jM.len_nw, jM.len_sI, jM.len_sL, jM.len_sR, jM.len_fI, jM.len_fL, jM.len_fR, *]; omega)) rfl rfl ?_ ?_
                                     · exact fun _ _ h => h
                                     rintro _ _ ⟨rfl, rfl⟩
                                     refine J.iload_n (pc' := 52) rfl rfl rfl ?_
                                     refine J.icmp_ge (tgt := 57) (pc' := 55) rfl rfl rfl (by first | omega | (exact R.r _ _) | (simp only [jM.len_sI, jM.len_sL, jM.len_sR, jM.len_fI, jM.len_fL, jM.len_fR]; omega) | (simp [jM.len_nw, jM.len_sI, jM.len_sL, jM.len_sR, jM.len_fI, jM.len_fL, jM.len_fR, *]; omega)) (by first | omega | (exact R.r _ _) | (simp only [jM.len_sI, jM.len_sL, jM.len_sR, jM.len_fI, jM.len_fL, jM.len_fR]; omega) | (simp [jM.len_nw, jM.len_sI, jM.len_sL, jM.len_sR, jM.len_fI, jM.len_fL, jM.len_fR, *]; omega)) (fun c52 => ?_) (fun c52 => ?_)
                                     · first
                                       | (exfalso; omega)
                                       | (exact rest (by omega) (by omega) (by omega) (by omega))
                                     · first
                                       | (exfalso; omega)
                                       | (refine J.iconst (pc' := 56) rfl rfl ?_
                                          refine J.iret rfl rfl (by first | omega | (exact R.r _ _) | (simp only [jM.len_sI, jM.len_sL, jM.len_sR, jM.len_fI, jM.len_fL, jM.len_fR]; omega) | (simp [jM.len_nw, jM.len_sI, jM.len_sL, jM.len_sR, jM.len_fI, jM.len_fL, jM.len_fR, *]; omega)) (by first | omega | (exact R.r _ _) | (simp only [jM.len_sI, jM.len_sL, jM.len_sR, jM.len_fI, jM.len_fL, jM.len_fR]; omega) | (simp [jM.len_nw, jM.len_sI, jM.len_sL, jM.len_sR, jM.len_fI, jM.len_fL, jM.len_fR, *]; omega)) ?_
                                          exact mQ.of (by unfold sp_move; (repeat (first | rw [if_pos (by omega)] | rw [if_neg (by omega)])))))
                                · first
                                  | (exfalso; omega)
                                  | (refine J.iconst (pc' := 45) rfl rfl ?_
                                     refine J.iret rfl rfl (by first | omega | (exact R.r _ _) | (simp only [jM.len_sI, jM.len_sL, jM.len_sR, jM.len_fI, jM.len_fL, jM.len_fR]; omega) | (simp [jM.len_nw, jM.len_sI, jM.len_sL, jM.len_sR, jM.len_fI, jM.len_fL, jM.len_fR, *]; omega)) (by first | omega | (exact R.r _ _) | (simp only [jM.len_sI, jM.len_sL, jM.len_sR, jM.len_fI, jM.len_fL, jM.len_fR]; omega) | (simp [jM.len_nw, jM.len_sI, jM.len_sL, jM.len_sR, jM.len_fI, jM.len_fL, jM.len_fR, *]; omega)) ?_
                                     exact mQ.of (by unfold sp_move; (repeat (first | rw [if_pos (by omega)] | rw [if_neg (by omega)]))))))))))
  · first
    | (exfalso; omega)
    | (refine J.if_eq (tgt := 44) (pc' := 13) rfl rfl rfl (by first | omega | (exact R.r _ _) | (simp only [jM.len_sI, jM.len_sL, jM.len_sR, jM.len_fI, jM.len_fL, jM.len_fR]; omega) | (simp [jM.len_nw, jM.len_sI, jM.len_sL, jM.len_sR, jM.len_fI, jM.len_fL, jM.len_fR, *]; omega)) (fun c10 => ?_) (fun c10 => ?_)
       · first
         | (exfalso; omega)
         | (refine J.iconst (pc' := 45) rfl rfl ?_
            refine J.iret rfl rfl (by first | omega | (exact R.r _ _) | (simp only [jM.len_sI, jM.len_sL, jM.len_sR, jM.len_fI, jM.len_fL, jM.len_fR]; omega) | (simp [jM.len_nw, jM.len_sI, jM.len_sL, jM.len_sR, jM.len_fI, jM.len_fL, jM.len_fR, *]; omega)) (by first | omega | (exact R.r _ _) | (simp only [jM.len_sI, jM.len_sL, jM.len_sR, jM.len_fI, jM.len_fL, jM.len_fR]; omega) | (simp [jM.len_nw, jM.len_sI, jM.len_sL, jM.len_sR, jM.len_fI, jM.len_fL, jM.len_fR, *]; omega)) ?_
            exact mQ.of (by unfold sp_move; (repeat (first | rw [if_pos (by omega)] | rw [if_neg (by omega)]))))
       · first
         | (exfalso; omega)
         | (first | refine J.aload_n (pc' := 14) rfl rfl rfl ?_ | refine J.aload_nN (pc' := 14) rfl rfl rfl ?_
            refine J.iload_n (pc' := 15) rfl rfl rfl ?_
            refine J.callV (pc' := 18) (t := 16) rfl MX12_isHeap ml_X12_297 iv_X12_isHeap (by decide) ⟨_, rfl, rfl⟩ B.1 (cm_isHeap B h0 ht) rfl rfl (Nat.le_of_ble_eq_true rfl) (by first | omega | (exact R.r _ _) | (simp only [jM.len_sI, jM.len_sL, jM.len_sR, jM.len_fI, jM.len_fL, jM.len_fR]; omega) | (simp [jM.len_nw, jM.len_sI, jM.len_sL, jM.len_sR, jM.len_fI, jM.len_fL, jM.len_fR, *]; omega)) (by first | omega | (exact R.r _ _) | (simp only [jM.len_sI, jM.len_sL, jM.len_sR, jM.len_fI, jM.len_fL, jM.len_fR]; omega) | (simp [jM.len_nw, jM.len_sI, jM.len_sL, jM.len_sR, jM.len_fI, jM.len_fL, jM.len_fR, *]; omega)) (by first | omega | (exact R.r _ _) | (simp only [jM.len_sI, jM.len_sL, jM.len_sR, jM.len_fI, jM.len_fL, jM.len_fR]; omega) | (simp [jM.len_nw, jM.len_sI, jM.len_sL, jM.len_sR, jM.len_fI, jM.len_fL, jM.len_fR, *]; omega)) rfl rfl ?_ ?_
            · exact fun _ _ h => h
            rintro _ _ ⟨b, hb1, rfl⟩
            rcases hb1 with ⟨rfl, hb1, rfl⟩ | ⟨rfl, hb1, rfl⟩
            · first
              | (exfalso; omega)
              | (refine J.if_eq (tgt := 44) (pc' := 21) rfl rfl rfl (by first | omega | (exact R.r _ _) | (simp only [jM.len_sI, jM.len_sL, jM.len_sR, jM.len_fI, jM.len_fL, jM.len_fR]; omega) | (simp [jM.len_nw, jM.len_sI, jM.len_sL, jM.len_sR, jM.len_fI, jM.len_fL, jM.len_fR, *]; omega)) (fun c18 => ?_) (fun c18 => ?_)
                 · first
                   | (exfalso; omega)
                   | (refine J.iconst (pc' := 45) rfl rfl ?_
                      refine J.iret rfl rfl (by first | omega | (exact R.r _ _) | (simp only [jM.len_sI, jM.len_sL, jM.len_sR, jM.len_fI, jM.len_fL, jM.len_fR]; omega) | (simp [jM.len_nw, jM.len_sI, jM.len_sL, jM.len_sR, jM.len_fI, jM.len_fL, jM.len_fR, *]; omega)) (by first | omega | (exact R.r _ _) | (simp only [jM.len_sI, jM.len_sL, jM.len_sR, jM.len_fI, jM.len_fL, jM.len_fR]; omega) | (simp [jM.len_nw, jM.len_sI, jM.len_sL, jM.len_sR, jM.len_fI, jM.len_fL, jM.len_fR, *]; omega)) ?_
                      exact mQ.of (by unfold sp_move; (repeat (first | rw [if_pos (by omega)] | rw [if_neg (by omega)]))))
                 · first
                   | (exfalso; omega)
                   | (first | refine J.aload_n (pc' := 22) rfl rfl rfl ?_ | refine J.aload_nN (pc' := 22) rfl rfl rfl ?_
                      refine J.iload_n (pc' := 23) rfl rfl rfl ?_
                      refine J.iload_n (pc' := 24) rfl rfl rfl ?_
                      refine J.icmp_eq (tgt := 36) (pc' := 27) rfl rfl rfl (by first | omega | (exact R.r _ _) | (simp only [jM.len_sI, jM.len_sL, jM.len_sR, jM.len_fI, jM.len_fL, jM.len_fR]; omega) | (simp [jM.len_nw, jM.len_sI, jM.len_sL, jM.len_sR, jM.len_fI, jM.len_fL, jM.len_fR, *]; omega)) (by first | omega | (exact R.r _ _) | (simp only [jM.len_sI, jM.len_sL, jM.len_sR, jM.len_fI, jM.len_fL, jM.len_fR]; omega) | (simp [jM.len_nw, jM.len_sI, jM.len_sL, jM.len_sR, jM.len_fI, jM.len_fL, jM.len_fR, *]; omega)) (fun c24 => ?_) (fun c24 => ?_)
                      · first
                        | (exfalso; omega)
                        | (refine J.iconst (pc' := 37) rfl rfl ?_
                           refine J.iconst (pc' := 38) rfl rfl ?_
                           first | refine J.callV (pc' := 41) (t := 16) rfl MX12_may ml_X12_161 iv_X12_may (by decide) ⟨_, rfl, rfl⟩ B.1 (cm_may1 B h0) rfl rfl (Nat.le_of_ble_eq_true rfl) (by first | omega | (exact R.r _ _) | (simp only [jM.len_sI, jM.len_sL, jM.len_sR, jM.len_fI, jM.len_fL, jM.len_fR]; omega) | (simp [jM.len_nw, jM.len_sI, jM.len_sL, jM.len_sR, jM.len_fI, jM.len_fL, jM.len_fR, *]; omega)) (by first | omega | (exact R.r _ _) | (simp only [jM.len_sI, jM.len_sL, jM.len_sR, jM.len_fI, jM.len_fL, jM.len_fR]; omega) | (simp [jM.len_nw, jM.len_sI, jM.len_sL, jM.len_sR, jM.len_fI, jM.len_fL, jM.len_fR, *]; omega)) (by first | omega | (exact R.r _ _) | (simp only [jM.len_sI, jM.len_sL, jM.len_sR, jM.len_fI, jM.len_fL, jM.len_fR]; omega) | (simp [jM.len_nw, jM.len_sI, jM.len_sL, jM.len_sR, jM.len_fI, jM.len_fL, jM.len_fR, *]; omega)) rfl rfl ?_ ?_ | refine J.callV (pc' := 41) (t := 16) rfl MX12_may ml_X12_161 iv_X12_may (by decide) ⟨_, rfl, rfl⟩ B.1 (cm_may0 B h0 (by omega)) rfl rfl (Nat.le_of_ble_eq_true rfl) (by first | omega | (exact R.r _ _) | (simp only [jM.len_sI, jM.len_sL, jM.len_sR, jM.len_fI, jM.len_fL, jM.len_fR]; omega) | (simp [jM.len_nw, jM.len_sI, jM.len_sL, jM.len_sR, jM.len_fI, jM.len_fL, jM.len_fR, *]; omega)) (by first | omega | (exact R.r _ _) | (simp only [jM.len_sI, jM.len_sL, jM.len_sR, jM.len_fI, jM.len_fL, jM.len_fR]; omega) | (simp [jM.len_nw, jM.len_sI, jM.len_sL, jM.len_sR, jM.len_fI, jM.len_fL, jM.len_fR, *]; omega)) (by first | omega | (exact R.r _ _) | (simp only [jM.len_sI, jM.len_sL, jM.len_sR, jM.len_fI, jM.len_fL, jM.len_fR]; omega) | (simp [jM.len_nw, jM.len_sI, jM.len_sL, jM.len_sR, jM.len_fI, jM.len_fL, jM.len_fR, *]; omega)) rfl rfl ?_ ?_
                           · exact fun _ _ h => h
                           rintro _ _ ⟨rfl, rfl⟩
                           refine J.if_ne (tgt := 46) (pc' := 44) rfl rfl rfl (by first | omega | (exact R.r _ _) | (simp only [jM.len_sI, jM.len_sL, jM.len_sR, jM.len_fI, jM.len_fL, jM.len_fR]; omega) | (simp [jM.len_nw, jM.len_sI, jM.len_sL, jM.len_sR, jM.len_fI, jM.len_fL, jM.len_fR, *]; omega)) (fun c41 => ?_) (fun c41 => ?_)
                           · first
                             | (exfalso; omega)
                             | (first | refine J.aload_n (pc' := 47) rfl rfl rfl ?_ | refine J.aload_nN (pc' := 47) rfl rfl rfl ?_
                                refine J.iload_n (pc' := 48) rfl rfl rfl ?_
                                refine J.callV (pc' := 51) (t := 16) rfl MX12_tonsOf ml_X12_300 iv_X12_tonsOf (by decide) ⟨_, rfl, rfl⟩ B.1 (cm_tonsOf B R (by omega)) rfl rfl (Nat.le_of_ble_eq_true rfl) (by first | omega | (exact R.r _ _) | (simp only [jM.len_sI, jM.len_sL, jM.len_sR, jM.len_fI, jM.len_fL, jM.len_fR]; omega) | (simp [jM.len_nw, jM.len_sI, jM.len_sL, jM.len_sR, jM.len_fI, jM.len_fL, jM.len_fR, *]; omega)) (by first | omega | (exact R.r _ _) | (simp only [jM.len_sI, jM.len_sL, jM.len_sR, jM.len_fI, jM.len_fL, jM.len_fR]; omega) | (simp [jM.len_nw, jM.len_sI, jM.len_sL, jM.len_sR, jM.len_fI, jM.len_fL, jM.len_fR, *]; omega)) (by first | omega | (exact R.r _ _) | (simp only [jM.len_sI, jM.len_sL, jM.len_sR, jM.len_fI, jM.len_fL, jM.len_fR]; omega) | (simp [jM.len_nw, jM.len_sI, jM.len_sL, jM.len_sR, jM.len_fI, jM.len_fL, jM.len_fR, *]; omega)) rfl rfl ?_ ?_
                                · exact fun _ _ h => h
                                rintro _ _ ⟨rfl, rfl⟩
                                refine J.iload_n (pc' := 52) rfl rfl rfl ?_
                                refine J.icmp_ge (tgt := 57) (pc' := 55) rfl rfl rfl (by first | omega | (exact R.r _ _) | (simp only [jM.len_sI, jM.len_sL, jM.len_sR, jM.len_fI, jM.len_fL, jM.len_fR]; omega) | (simp [jM.len_nw, jM.len_sI, jM.len_sL, jM.len_sR, jM.len_fI, jM.len_fL, jM.len_fR, *]; omega)) (by first | omega | (exact R.r _ _) | (simp only [jM.len_sI, jM.len_sL, jM.len_sR, jM.len_fI, jM.len_fL, jM.len_fR]; omega) | (simp [jM.len_nw, jM.len_sI, jM.len_sL, jM.len_sR, jM.len_fI, jM.len_fL, jM.len_fR, *]; omega)) (fun c52 => ?_) (fun c52 => ?_)
                                · first
                                  | (exfalso; omega)
                                  | (exact rest (by omega) (by omega) (by omega) (by omega))
                                · first
                                  | (exfalso; omega)
                                  | (refine J.iconst (pc' := 56) rfl rfl ?_
                                     refine J.iret rfl rfl (by first | omega | (exact R.r _ _) | (simp only [jM.len_sI, jM.len_sL, jM.len_sR, jM.len_fI, jM.len_fL, jM.len_fR]; omega) | (simp [jM.len_nw, jM.len_sI, jM.len_sL, jM.len_sR, jM.len_fI, jM.len_fL, jM.len_fR, *]; omega)) (by first | omega | (exact R.r _ _) | (simp only [jM.len_sI, jM.len_sL, jM.len_sR, jM.len_fI, jM.len_fL, jM.len_fR]; omega) | (simp [jM.len_nw, jM.len_sI, jM.len_sL, jM.len_sR, jM.len_fI, jM.len_fL, jM.len_fR, *]; omega)) ?_
                                     exact mQ.of (by unfold sp_move; (repeat (first | rw [if_pos (by omega)] | rw [if_neg (by omega)])))))
                           · first
                             | (exfalso; omega)
                             | (refine J.iconst (pc' := 45) rfl rfl ?_
                                refine J.iret rfl rfl (by first | omega | (exact R.r _ _) | (simp only [jM.len_sI, jM.len_sL, jM.len_sR, jM.len_fI, jM.len_fL, jM.len_fR]; omega) | (simp [jM.len_nw, jM.len_sI, jM.len_sL, jM.len_sR, jM.len_fI, jM.len_fL, jM.len_fR, *]; omega)) (by first | omega | (exact R.r _ _) | (simp only [jM.len_sI, jM.len_sL, jM.len_sR, jM.len_fI, jM.len_fL, jM.len_fR]; omega) | (simp [jM.len_nw, jM.len_sI, jM.len_sL, jM.len_sR, jM.len_fI, jM.len_fL, jM.len_fR, *]; omega)) ?_
                                exact mQ.of (by unfold sp_move; (repeat (first | rw [if_pos (by omega)] | rw [if_neg (by omega)])))))
                      · first
                        | (exfalso; omega)
                        | (refine J.iload_n (pc' := 28) rfl rfl rfl ?_
                           refine J.iconst (pc' := 29) rfl rfl ?_
                           refine J.icmp_lt (tgt := 36) (pc' := 32) rfl rfl rfl (by first | omega | (exact R.r _ _) | (simp only [jM.len_sI, jM.len_sL, jM.len_sR, jM.len_fI, jM.len_fL, jM.len_fR]; omega) | (simp [jM.len_nw, jM.len_sI, jM.len_sL, jM.len_sR, jM.len_fI, jM.len_fL, jM.len_fR, *]; omega)) (by first | omega | (exact R.r _ _) | (simp only [jM.len_sI, jM.len_sL, jM.len_sR, jM.len_fI, jM.len_fL, jM.len_fR]; omega) | (simp [jM.len_nw, jM.len_sI, jM.len_sL, jM.len_sR, jM.len_fI, jM.len_fL, jM.len_fR, *]; omega)) (fun c29 => ?_) (fun c29 => ?_)
                           · first
                             | (exfalso; omega)
                             | (refine J.iconst (pc' := 37) rfl rfl ?_
                                refine J.iconst (pc' := 38) rfl rfl ?_
                                first | refine J.callV (pc' := 41) (t := 16) rfl MX12_may ml_X12_161 iv_X12_may (by decide) ⟨_, rfl, rfl⟩ B.1 (cm_may1 B h0) rfl rfl (Nat.le_of_ble_eq_true rfl) (by first | omega | (exact R.r _ _) | (simp only [jM.len_sI, jM.len_sL, jM.len_sR, jM.len_fI, jM.len_fL, jM.len_fR]; omega) | (simp [jM.len_nw, jM.len_sI, jM.len_sL, jM.len_sR, jM.len_fI, jM.len_fL, jM.len_fR, *]; omega)) (by first | omega | (exact R.r _ _) | (simp only [jM.len_sI, jM.len_sL, jM.len_sR, jM.len_fI, jM.len_fL, jM.len_fR]; omega) | (simp [jM.len_nw, jM.len_sI, jM.len_sL, jM.len_sR, jM.len_fI, jM.len_fL, jM.len_fR, *]; omega)) (by first | omega | (exact R.r _ _) | (simp only [jM.len_sI, jM.len_sL, jM.len_sR, jM.len_fI, jM.len_fL, jM.len_fR]; omega) | (simp [jM.len_nw, jM.len_sI, jM.len_sL, jM.len_sR, jM.len_fI, jM.len_fL, jM.len_fR, *]; omega)) rfl rfl ?_ ?_ | refine J.callV (pc' := 41) (t := 16) rfl MX12_may ml_X12_161 iv_X12_may (by decide) ⟨_, rfl, rfl⟩ B.1 (cm_may0 B h0 (by omega)) rfl rfl (Nat.le_of_ble_eq_true rfl) (by first | omega | (exact R.r _ _) | (simp only [jM.len_sI, jM.len_sL, jM.len_sR, jM.len_fI, jM.len_fL, jM.len_fR]; omega) | (simp [jM.len_nw, jM.len_sI, jM.len_sL, jM.len_sR, jM.len_fI, jM.len_fL, jM.len_fR, *]; omega)) (by first | omega | (exact R.r _ _) | (simp only [jM.len_sI, jM.len_sL, jM.len_sR, jM.len_fI, jM.len_fL, jM.len_fR]; omega) | (simp [jM.len_nw, jM.len_sI, jM.len_sL, jM.len_sR, jM.len_fI, jM.len_fL, jM.len_fR, *]; omega)) (by first | omega | (exact R.r _ _) | (simp only [jM.len_sI, jM.len_sL, jM.len_sR, jM.len_fI, jM.len_fL, jM.len_fR]; omega) | (simp [jM.len_nw, jM.len_sI, jM.len_sL, jM.len_sR, jM.len_fI, jM.len_fL, jM.len_fR, *]; omega)) rfl rfl ?_ ?_
                                · exact fun _ _ h => h
                                rintro _ _ ⟨rfl, rfl⟩
                                refine J.if_ne (tgt := 46) (pc' := 44) rfl rfl rfl (by first | omega | (exact R.r _ _) | (simp only [jM.len_sI, jM.len_sL, jM.len_sR, jM.len_fI, jM.len_fL, jM.len_fR]; omega) | (simp [jM.len_nw, jM.len_sI, jM.len_sL, jM.len_sR, jM.len_fI, jM.len_fL, jM.len_fR, *]; omega)) (fun c41 => ?_) (fun c41 => ?_)
                                · first
                                  | (exfalso; omega)
                                  | (first | refine J.aload_n (pc' := 47) rfl rfl rfl ?_ | refine J.aload_nN (pc' := 47) rfl rfl rfl ?_
                                     refine J.iload_n (pc' := 48) rfl rfl rfl ?_
                                     refine J.callV (pc' := 51) (t := 16) rfl MX12_tonsOf ml_X12_300 iv_X12_tonsOf (by decide) ⟨_, rfl, rfl⟩ B.1 (cm_tonsOf B R (by omega)) rfl rfl (Nat.le_of_ble_eq_true rfl) (by first | omega | (exact R.r _ _) | (simp only [jM.len_sI, jM.len_sL, jM.len_sR, jM.len_fI, jM.len_fL, jM.len_fR]; omega) | (simp [jM.len_nw, jM.len_sI, jM.len_sL, jM.len_sR, jM.len_fI, jM.len_fL, jM.len_fR, *]; omega)) (by first | omega | (exact R.r _ _) | (simp only [jM.len_sI, jM.len_sL, jM.len_sR, jM.len_fI, jM.len_fL, jM.len_fR]; omega) | (simp [jM.len_nw, jM.len_sI, jM.len_sL, jM.len_sR, jM.len_fI, jM.len_fL, jM.len_fR, *]; omega)) (by first | omega | (exact R.r _ _) | (simp only [jM.len_sI, jM.len_sL, jM.len_sR, jM.len_fI, jM.len_fL, jM.len_fR]; omega) | (simp [jM.len_nw, jM.len_sI, jM.len_sL, jM.len_sR, jM.len_fI, jM.len_fL, jM.len_fR, *]; omega)) rfl rfl ?_ ?_
                                     · exact fun _ _ h => h
                                     rintro _ _ ⟨rfl, rfl⟩
                                     refine J.iload_n (pc' := 52) rfl rfl rfl ?_
                                     refine J.icmp_ge (tgt := 57) (pc' := 55) rfl rfl rfl (by first | omega | (exact R.r _ _) | (simp only [jM.len_sI, jM.len_sL, jM.len_sR, jM.len_fI, jM.len_fL, jM.len_fR]; omega) | (simp [jM.len_nw, jM.len_sI, jM.len_sL, jM.len_sR, jM.len_fI, jM.len_fL, jM.len_fR, *]; omega)) (by first | omega | (exact R.r _ _) | (simp only [jM.len_sI, jM.len_sL, jM.len_sR, jM.len_fI, jM.len_fL, jM.len_fR]; omega) | (simp [jM.len_nw, jM.len_sI, jM.len_sL, jM.len_sR, jM.len_fI, jM.len_fL, jM.len_fR, *]; omega)) (fun c52 => ?_) (fun c52 => ?_)
                                     · first
                                       | (exfalso; omega)
                                       | (exact rest (by omega) (by omega) (by omega) (by omega))
                                     · first
                                       | (exfalso; omega)
                                       | (refine J.iconst (pc' := 56) rfl rfl ?_
                                          refine J.iret rfl rfl (by first | omega | (exact R.r _ _) | (simp only [jM.len_sI, jM.len_sL, jM.len_sR, jM.len_fI, jM.len_fL, jM.len_fR]; omega) | (simp [jM.len_nw, jM.len_sI, jM.len_sL, jM.len_sR, jM.len_fI, jM.len_fL, jM.len_fR, *]; omega)) (by first | omega | (exact R.r _ _) | (simp only [jM.len_sI, jM.len_sL, jM.len_sR, jM.len_fI, jM.len_fL, jM.len_fR]; omega) | (simp [jM.len_nw, jM.len_sI, jM.len_sL, jM.len_sR, jM.len_fI, jM.len_fL, jM.len_fR, *]; omega)) ?_
                                          exact mQ.of (by unfold sp_move; (repeat (first | rw [if_pos (by omega)] | rw [if_neg (by omega)])))))
                                · first
                                  | (exfalso; omega)
                                  | (refine J.iconst (pc' := 45) rfl rfl ?_
                                     refine J.iret rfl rfl (by first | omega | (exact R.r _ _) | (simp only [jM.len_sI, jM.len_sL, jM.len_sR, jM.len_fI, jM.len_fL, jM.len_fR]; omega) | (simp [jM.len_nw, jM.len_sI, jM.len_sL, jM.len_sR, jM.len_fI, jM.len_fL, jM.len_fR, *]; omega)) (by first | omega | (exact R.r _ _) | (simp only [jM.len_sI, jM.len_sL, jM.len_sR, jM.len_fI, jM.len_fL, jM.len_fR]; omega) | (simp [jM.len_nw, jM.len_sI, jM.len_sL, jM.len_sR, jM.len_fI, jM.len_fL, jM.len_fR, *]; omega)) ?_
                                     exact mQ.of (by unfold sp_move; (repeat (first | rw [if_pos (by omega)] | rw [if_neg (by omega)])))))
                           · first
                             | (exfalso; omega)
                             | (refine J.iconst (pc' := 33) rfl rfl ?_
                                refine J.goto (tgt := 37) rfl rfl ?_
                                refine J.iconst (pc' := 38) rfl rfl ?_
                                first | refine J.callV (pc' := 41) (t := 16) rfl MX12_may ml_X12_161 iv_X12_may (by decide) ⟨_, rfl, rfl⟩ B.1 (cm_may1 B h0) rfl rfl (Nat.le_of_ble_eq_true rfl) (by first | omega | (exact R.r _ _) | (simp only [jM.len_sI, jM.len_sL, jM.len_sR, jM.len_fI, jM.len_fL, jM.len_fR]; omega) | (simp [jM.len_nw, jM.len_sI, jM.len_sL, jM.len_sR, jM.len_fI, jM.len_fL, jM.len_fR, *]; omega)) (by first | omega | (exact R.r _ _) | (simp only [jM.len_sI, jM.len_sL, jM.len_sR, jM.len_fI, jM.len_fL, jM.len_fR]; omega) | (simp [jM.len_nw, jM.len_sI, jM.len_sL, jM.len_sR, jM.len_fI, jM.len_fL, jM.len_fR, *]; omega)) (by first | omega | (exact R.r _ _) | (simp only [jM.len_sI, jM.len_sL, jM.len_sR, jM.len_fI, jM.len_fL, jM.len_fR]; omega) | (simp [jM.len_nw, jM.len_sI, jM.len_sL, jM.len_sR, jM.len_fI, jM.len_fL, jM.len_fR, *]; omega)) rfl rfl ?_ ?_ | refine J.callV (pc' := 41) (t := 16) rfl MX12_may ml_X12_161 iv_X12_may (by decide) ⟨_, rfl, rfl⟩ B.1 (cm_may0 B h0 (by omega)) rfl rfl (Nat.le_of_ble_eq_true rfl) (by first | omega | (exact R.r _ _) | (simp only [jM.len_sI, jM.len_sL, jM.len_sR, jM.len_fI, jM.len_fL, jM.len_fR]; omega) | (simp [jM.len_nw, jM.len_sI, jM.len_sL, jM.len_sR, jM.len_fI, jM.len_fL, jM.len_fR, *]; omega)) (by first | omega | (exact R.r _ _) | (simp only [jM.len_sI, jM.len_sL, jM.len_sR, jM.len_fI, jM.len_fL, jM.len_fR]; omega) | (simp [jM.len_nw, jM.len_sI, jM.len_sL, jM.len_sR, jM.len_fI, jM.len_fL, jM.len_fR, *]; omega)) (by first | omega | (exact R.r _ _) | (simp only [jM.len_sI, jM.len_sL, jM.len_sR, jM.len_fI, jM.len_fL, jM.len_fR]; omega) | (simp [jM.len_nw, jM.len_sI, jM.len_sL, jM.len_sR, jM.len_fI, jM.len_fL, jM.len_fR, *]; omega)) rfl rfl ?_ ?_
                                · exact fun _ _ h => h
                                rintro _ _ ⟨rfl, rfl⟩
                                refine J.if_ne (tgt := 46) (pc' := 44) rfl rfl rfl (by first | omega | (exact R.r _ _) | (simp only [jM.len_sI, jM.len_sL, jM.len_sR, jM.len_fI, jM.len_fL, jM.len_fR]; omega) | (simp [jM.len_nw, jM.len_sI, jM.len_sL, jM.len_sR, jM.len_fI, jM.len_fL, jM.len_fR, *]; omega)) (fun c41 => ?_) (fun c41 => ?_)
                                · first
                                  | (exfalso; omega)
                                  | (first | refine J.aload_n (pc' := 47) rfl rfl rfl ?_ | refine J.aload_nN (pc' := 47) rfl rfl rfl ?_
                                     refine J.iload_n (pc' := 48) rfl rfl rfl ?_
                                     refine J.callV (pc' := 51) (t := 16) rfl MX12_tonsOf ml_X12_300 iv_X12_tonsOf (by decide) ⟨_, rfl, rfl⟩ B.1 (cm_tonsOf B R (by omega)) rfl rfl (Nat.le_of_ble_eq_true rfl) (by first | omega | (exact R.r _ _) | (simp only [jM.len_sI, jM.len_sL, jM.len_sR, jM.len_fI, jM.len_fL, jM.len_fR]; omega) | (simp [jM.len_nw, jM.len_sI, jM.len_sL, jM.len_sR, jM.len_fI, jM.len_fL, jM.len_fR, *]; omega)) (by first | omega | (exact R.r _ _) | (simp only [jM.len_sI, jM.len_sL, jM.len_sR, jM.len_fI, jM.len_fL, jM.len_fR]; omega) | (simp [jM.len_nw, jM.len_sI, jM.len_sL, jM.len_sR, jM.len_fI, jM.len_fL, jM.len_fR, *]; omega)) (by first | omega | (exact R.r _ _) | (simp only [jM.len_sI, jM.len_sL, jM.len_sR, jM.len_fI, jM.len_fL, jM.len_fR]; omega) | (simp [jM.len_nw, jM.len_sI, jM.len_sL, jM.len_sR, jM.len_fI, jM.len_fL, jM.len_fR, *]; omega)) rfl rfl ?_ ?_
                                     · exact fun _ _ h => h
                                     rintro _ _ ⟨rfl, rfl⟩
                                     refine J.iload_n (pc' := 52) rfl rfl rfl ?_
                                     refine J.icmp_ge (tgt := 57) (pc' := 55) rfl rfl rfl (by first | omega | (exact R.r _ _) | (simp only [jM.len_sI, jM.len_sL, jM.len_sR, jM.len_fI, jM.len_fL, jM.len_fR]; omega) | (simp [jM.len_nw, jM.len_sI, jM.len_sL, jM.len_sR, jM.len_fI, jM.len_fL, jM.len_fR, *]; omega)) (by first | omega | (exact R.r _ _) | (simp only [jM.len_sI, jM.len_sL, jM.len_sR, jM.len_fI, jM.len_fL, jM.len_fR]; omega) | (simp [jM.len_nw, jM.len_sI, jM.len_sL, jM.len_sR, jM.len_fI, jM.len_fL, jM.len_fR, *]; omega)) (fun c52 => ?_) (fun c52 => ?_)
                                     · first
                                       | (exfalso; omega)
                                       | (exact rest (by omega) (by omega) (by omega) (by omega))
                                     · first
                                       | (exfalso; omega)
                                       | (refine J.iconst (pc' := 56) rfl rfl ?_
                                          refine J.iret rfl rfl (by first | omega | (exact R.r _ _) | (simp only [jM.len_sI, jM.len_sL, jM.len_sR, jM.len_fI, jM.len_fL, jM.len_fR]; omega) | (simp [jM.len_nw, jM.len_sI, jM.len_sL, jM.len_sR, jM.len_fI, jM.len_fL, jM.len_fR, *]; omega)) (by first | omega | (exact R.r _ _) | (simp only [jM.len_sI, jM.len_sL, jM.len_sR, jM.len_fI, jM.len_fL, jM.len_fR]; omega) | (simp [jM.len_nw, jM.len_sI, jM.len_sL, jM.len_sR, jM.len_fI, jM.len_fL, jM.len_fR, *]; omega)) ?_
                                          exact mQ.of (by unfold sp_move; (repeat (first | rw [if_pos (by omega)] | rw [if_neg (by omega)])))))
                                · first
                                  | (exfalso; omega)
                                  | (refine J.iconst (pc' := 45) rfl rfl ?_
                                     refine J.iret rfl rfl (by first | omega | (exact R.r _ _) | (simp only [jM.len_sI, jM.len_sL, jM.len_sR, jM.len_fI, jM.len_fL, jM.len_fR]; omega) | (simp [jM.len_nw, jM.len_sI, jM.len_sL, jM.len_sR, jM.len_fI, jM.len_fL, jM.len_fR, *]; omega)) (by first | omega | (exact R.r _ _) | (simp only [jM.len_sI, jM.len_sL, jM.len_sR, jM.len_fI, jM.len_fL, jM.len_fR]; omega) | (simp [jM.len_nw, jM.len_sI, jM.len_sL, jM.len_sR, jM.len_fI, jM.len_fL, jM.len_fR, *]; omega)) ?_
                                     exact mQ.of (by unfold sp_move; (repeat (first | rw [if_pos (by omega)] | rw [if_neg (by omega)]))))))))
            · first
              | (exfalso; omega)
              | (refine J.if_eq (tgt := 44) (pc' := 21) rfl rfl rfl (by first | omega | (exact R.r _ _) | (simp only [jM.len_sI, jM.len_sL, jM.len_sR, jM.len_fI, jM.len_fL, jM.len_fR]; omega) | (simp [jM.len_nw, jM.len_sI, jM.len_sL, jM.len_sR, jM.len_fI, jM.len_fL, jM.len_fR, *]; omega)) (fun c18 => ?_) (fun c18 => ?_)
                 · first
                   | (exfalso; omega)
                   | (refine J.iconst (pc' := 45) rfl rfl ?_
                      refine J.iret rfl rfl (by first | omega | (exact R.r _ _) | (simp only [jM.len_sI, jM.len_sL, jM.len_sR, jM.len_fI, jM.len_fL, jM.len_fR]; omega) | (simp [jM.len_nw, jM.len_sI, jM.len_sL, jM.len_sR, jM.len_fI, jM.len_fL, jM.len_fR, *]; omega)) (by first | omega | (exact R.r _ _) | (simp only [jM.len_sI, jM.len_sL, jM.len_sR, jM.len_fI, jM.len_fL, jM.len_fR]; omega) | (simp [jM.len_nw, jM.len_sI, jM.len_sL, jM.len_sR, jM.len_fI, jM.len_fL, jM.len_fR, *]; omega)) ?_
                      exact mQ.of (by unfold sp_move; (repeat (first | rw [if_pos (by omega)] | rw [if_neg (by omega)]))))
                 · first
                   | (exfalso; omega)
                   | (first | refine J.aload_n (pc' := 22) rfl rfl rfl ?_ | refine J.aload_nN (pc' := 22) rfl rfl rfl ?_
                      refine J.iload_n (pc' := 23) rfl rfl rfl ?_
                      refine J.iload_n (pc' := 24) rfl rfl rfl ?_
                      refine J.icmp_eq (tgt := 36) (pc' := 27) rfl rfl rfl (by first | omega | (exact R.r _ _) | (simp only [jM.len_sI, jM.len_sL, jM.len_sR, jM.len_fI, jM.len_fL, jM.len_fR]; omega) | (simp [jM.len_nw, jM.len_sI, jM.len_sL, jM.len_sR, jM.len_fI, jM.len_fL, jM.len_fR, *]; omega)) (by first | omega | (exact R.r _ _) | (simp only [jM.len_sI, jM.len_sL, jM.len_sR, jM.len_fI, jM.len_fL, jM.len_fR]; omega) | (simp [jM.len_nw, jM.len_sI, jM.len_sL, jM.len_sR, jM.len_fI, jM.len_fL, jM.len_fR, *]; omega)) (fun c24 => ?_) (fun c24 => ?_)
                      · first
                        | (exfalso; omega)
                        | (refine J.iconst (pc' := 37) rfl rfl ?_
                           refine J.iconst (pc' := 38) rfl rfl ?_
                           first | refine J.callV (pc' := 41) (t := 16) rfl MX12_may ml_X12_161 iv_X12_may (by decide) ⟨_, rfl, rfl⟩ B.1 (cm_may1 B h0) rfl rfl (Nat.le_of_ble_eq_true rfl) (by first | omega | (exact R.r _ _) | (simp only [jM.len_sI, jM.len_sL, jM.len_sR, jM.len_fI, jM.len_fL, jM.len_fR]; omega) | (simp [jM.len_nw, jM.len_sI, jM.len_sL, jM.len_sR, jM.len_fI, jM.len_fL, jM.len_fR, *]; omega)) (by first | omega | (exact R.r _ _) | (simp only [jM.len_sI, jM.len_sL, jM.len_sR, jM.len_fI, jM.len_fL, jM.len_fR]; omega) | (simp [jM.len_nw, jM.len_sI, jM.len_sL, jM.len_sR, jM.len_fI, jM.len_fL, jM.len_fR, *]; omega)) (by first | omega | (exact R.r _ _) | (simp only [jM.len_sI, jM.len_sL, jM.len_sR, jM.len_fI, jM.len_fL, jM.len_fR]; omega) | (simp [jM.len_nw, jM.len_sI, jM.len_sL, jM.len_sR, jM.len_fI, jM.len_fL, jM.len_fR, *]; omega)) rfl rfl ?_ ?_ | refine J.callV (pc' := 41) (t := 16) rfl MX12_may ml_X12_161 iv_X12_may (by decide) ⟨_, rfl, rfl⟩ B.1 (cm_may0 B h0 (by omega)) rfl rfl (Nat.le_of_ble_eq_true rfl) (by first | omega | (exact R.r _ _) | (simp only [jM.len_sI, jM.len_sL, jM.len_sR, jM.len_fI, jM.len_fL, jM.len_fR]; omega) | (simp [jM.len_nw, jM.len_sI, jM.len_sL, jM.len_sR, jM.len_fI, jM.len_fL, jM.len_fR, *]; omega)) (by first | omega | (exact R.r _ _) | (simp only [jM.len_sI, jM.len_sL, jM.len_sR, jM.len_fI, jM.len_fL, jM.len_fR]; omega) | (simp [jM.len_nw, jM.len_sI, jM.len_sL, jM.len_sR, jM.len_fI, jM.len_fL, jM.len_fR, *]; omega)) (by first | omega | (exact R.r _ _) | (simp only [jM.len_sI, jM.len_sL, jM.len_sR, jM.len_fI, jM.len_fL, jM.len_fR]; omega) | (simp [jM.len_nw, jM.len_sI, jM.len_sL, jM.len_sR, jM.len_fI, jM.len_fL, jM.len_fR, *]; omega)) rfl rfl ?_ ?_
                           · exact fun _ _ h => h
                           rintro _ _ ⟨rfl, rfl⟩
                           refine J.if_ne (tgt := 46) (pc' := 44) rfl rfl rfl (by first | omega | (exact R.r _ _) | (simp only [jM.len_sI, jM.len_sL, jM.len_sR, jM.len_fI, jM.len_fL, jM.len_fR]; omega) | (simp [jM.len_nw, jM.len_sI, jM.len_sL, jM.len_sR, jM.len_fI, jM.len_fL, jM.len_fR, *]; omega)) (fun c41 => ?_) (fun c41 => ?_)
                           · first
                             | (exfalso; omega)
                             | (first | refine J.aload_n (pc' := 47) rfl rfl rfl ?_ | refine J.aload_nN (pc' := 47) rfl rfl rfl ?_
                                refine J.iload_n (pc' := 48) rfl rfl rfl ?_
                                refine J.callV (pc' := 51) (t := 16) rfl MX12_tonsOf ml_X12_300 iv_X12_tonsOf (by decide) ⟨_, rfl, rfl⟩ B.1 (cm_tonsOf B R (by omega)) rfl rfl (Nat.le_of_ble_eq_true rfl) (by first | omega | (exact R.r _ _) | (simp only [jM.len_sI, jM.len_sL, jM.len_sR, jM.len_fI, jM.len_fL, jM.len_fR]; omega) | (simp [jM.len_nw, jM.len_sI, jM.len_sL, jM.len_sR, jM.len_fI, jM.len_fL, jM.len_fR, *]; omega)) (by first | omega | (exact R.r _ _) | (simp only [jM.len_sI, jM.len_sL, jM.len_sR, jM.len_fI, jM.len_fL, jM.len_fR]; omega) | (simp [jM.len_nw, jM.len_sI, jM.len_sL, jM.len_sR, jM.len_fI, jM.len_fL, jM.len_fR, *]; omega)) (by first | omega | (exact R.r _ _) | (simp only [jM.len_sI, jM.len_sL, jM.len_sR, jM.len_fI, jM.len_fL, jM.len_fR]; omega) | (simp [jM.len_nw, jM.len_sI, jM.len_sL, jM.len_sR, jM.len_fI, jM.len_fL, jM.len_fR, *]; omega)) rfl rfl ?_ ?_
                                · exact fun _ _ h => h
                                rintro _ _ ⟨rfl, rfl⟩
                                refine J.iload_n (pc' := 52) rfl rfl rfl ?_
                                refine J.icmp_ge (tgt := 57) (pc' := 55) rfl rfl rfl (by first | omega | (exact R.r _ _) | (simp only [jM.len_sI, jM.len_sL, jM.len_sR, jM.len_fI, jM.len_fL, jM.len_fR]; omega) | (simp [jM.len_nw, jM.len_sI, jM.len_sL, jM.len_sR, jM.len_fI, jM.len_fL, jM.len_fR, *]; omega)) (by first | omega | (exact R.r _ _) | (simp only [jM.len_sI, jM.len_sL, jM.len_sR, jM.len_fI, jM.len_fL, jM.len_fR]; omega) | (simp [jM.len_nw, jM.len_sI, jM.len_sL, jM.len_sR, jM.len_fI, jM.len_fL, jM.len_fR, *]; omega)) (fun c52 => ?_) (fun c52 => ?_)
                                · first
                                  | (exfalso; omega)
                                  | (exact rest (by omega) (by omega) (by omega) (by omega))
                                · first
                                  | (exfalso; omega)
                                  | (refine J.iconst (pc' := 56) rfl rfl ?_
                                     refine J.iret rfl rfl (by first | omega | (exact R.r _ _) | (simp only [jM.len_sI, jM.len_sL, jM.len_sR, jM.len_fI, jM.len_fL, jM.len_fR]; omega) | (simp [jM.len_nw, jM.len_sI, jM.len_sL, jM.len_sR, jM.len_fI, jM.len_fL, jM.len_fR, *]; omega)) (by first | omega | (exact R.r _ _) | (simp only [jM.len_sI, jM.len_sL, jM.len_sR, jM.len_fI, jM.len_fL, jM.len_fR]; omega) | (simp [jM.len_nw, jM.len_sI, jM.len_sL, jM.len_sR, jM.len_fI, jM.len_fL, jM.len_fR, *]; omega)) ?_
                                     exact mQ.of (by unfold sp_move; (repeat (first | rw [if_pos (by omega)] | rw [if_neg (by omega)])))))
                           · first
                             | (exfalso; omega)
                             | (refine J.iconst (pc' := 45) rfl rfl ?_
                                refine J.iret rfl rfl (by first | omega | (exact R.r _ _) | (simp only [jM.len_sI, jM.len_sL, jM.len_sR, jM.len_fI, jM.len_fL, jM.len_fR]; omega) | (simp [jM.len_nw, jM.len_sI, jM.len_sL, jM.len_sR, jM.len_fI, jM.len_fL, jM.len_fR, *]; omega)) (by first | omega | (exact R.r _ _) | (simp only [jM.len_sI, jM.len_sL, jM.len_sR, jM.len_fI, jM.len_fL, jM.len_fR]; omega) | (simp [jM.len_nw, jM.len_sI, jM.len_sL, jM.len_sR, jM.len_fI, jM.len_fL, jM.len_fR, *]; omega)) ?_
                                exact mQ.of (by unfold sp_move; (repeat (first | rw [if_pos (by omega)] | rw [if_neg (by omega)])))))
                      · first
                        | (exfalso; omega)
                        | (refine J.iload_n (pc' := 28) rfl rfl rfl ?_
                           refine J.iconst (pc' := 29) rfl rfl ?_
                           refine J.icmp_lt (tgt := 36) (pc' := 32) rfl rfl rfl (by first | omega | (exact R.r _ _) | (simp only [jM.len_sI, jM.len_sL, jM.len_sR, jM.len_fI, jM.len_fL, jM.len_fR]; omega) | (simp [jM.len_nw, jM.len_sI, jM.len_sL, jM.len_sR, jM.len_fI, jM.len_fL, jM.len_fR, *]; omega)) (by first | omega | (exact R.r _ _) | (simp only [jM.len_sI, jM.len_sL, jM.len_sR, jM.len_fI, jM.len_fL, jM.len_fR]; omega) | (simp [jM.len_nw, jM.len_sI, jM.len_sL, jM.len_sR, jM.len_fI, jM.len_fL, jM.len_fR, *]; omega)) (fun c29 => ?_) (fun c29 => ?_)
                           · first
                             | (exfalso; omega)
                             | (refine J.iconst (pc' := 37) rfl rfl ?_
                                refine J.iconst (pc' := 38) rfl rfl ?_
                                first | refine J.callV (pc' := 41) (t := 16) rfl MX12_may ml_X12_161 iv_X12_may (by decide) ⟨_, rfl, rfl⟩ B.1 (cm_may1 B h0) rfl rfl (Nat.le_of_ble_eq_true rfl) (by first | omega | (exact R.r _ _) | (simp only [jM.len_sI, jM.len_sL, jM.len_sR, jM.len_fI, jM.len_fL, jM.len_fR]; omega) | (simp [jM.len_nw, jM.len_sI, jM.len_sL, jM.len_sR, jM.len_fI, jM.len_fL, jM.len_fR, *]; omega)) (by first | omega | (exact R.r _ _) | (simp only [jM.len_sI, jM.len_sL, jM.len_sR, jM.len_fI, jM.len_fL, jM.len_fR]; omega) | (simp [jM.len_nw, jM.len_sI, jM.len_sL, jM.len_sR, jM.len_fI, jM.len_fL, jM.len_fR, *]; omega)) (by first | omega | (exact R.r _ _) | (simp only [jM.len_sI, jM.len_sL, jM.len_sR, jM.len_fI, jM.len_fL, jM.len_fR]; omega) | (simp [jM.len_nw, jM.len_sI, jM.len_sL, jM.len_sR, jM.len_fI, jM.len_fL, jM.len_fR, *]; omega)) rfl rfl ?_ ?_ | refine J.callV (pc' := 41) (t := 16) rfl MX12_may ml_X12_161 iv_X12_may (by decide) ⟨_, rfl, rfl⟩ B.1 (cm_may0 B h0 (by omega)) rfl rfl (Nat.le_of_ble_eq_true rfl) (by first | omega | (exact R.r _ _) | (simp only [jM.len_sI, jM.len_sL, jM.len_sR, jM.len_fI, jM.len_fL, jM.len_fR]; omega) | (simp [jM.len_nw, jM.len_sI, jM.len_sL, jM.len_sR, jM.len_fI, jM.len_fL, jM.len_fR, *]; omega)) (by first | omega | (exact R.r _ _) | (simp only [jM.len_sI, jM.len_sL, jM.len_sR, jM.len_fI, jM.len_fL, jM.len_fR]; omega) | (simp [jM.len_nw, jM.len_sI, jM.len_sL, jM.len_sR, jM.len_fI, jM.len_fL, jM.len_fR, *]; omega)) (by first | omega | (exact R.r _ _) | (simp only [jM.len_sI, jM.len_sL, jM.len_sR, jM.len_fI, jM.len_fL, jM.len_fR]; omega) | (simp [jM.len_nw, jM.len_sI, jM.len_sL, jM.len_sR, jM.len_fI, jM.len_fL, jM.len_fR, *]; omega)) rfl rfl ?_ ?_
                                · exact fun _ _ h => h
                                rintro _ _ ⟨rfl, rfl⟩
                                refine J.if_ne (tgt := 46) (pc' := 44) rfl rfl rfl (by first | omega | (exact R.r _ _) | (simp only [jM.len_sI, jM.len_sL, jM.len_sR, jM.len_fI, jM.len_fL, jM.len_fR]; omega) | (simp [jM.len_nw, jM.len_sI, jM.len_sL, jM.len_sR, jM.len_fI, jM.len_fL, jM.len_fR, *]; omega)) (fun c41 => ?_) (fun c41 => ?_)
                                · first
                                  | (exfalso; omega)
                                  | (first | refine J.aload_n (pc' := 47) rfl rfl rfl ?_ | refine J.aload_nN (pc' := 47) rfl rfl rfl ?_
                                     refine J.iload_n (pc' := 48) rfl rfl rfl ?_
                                     refine J.callV (pc' := 51) (t := 16) rfl MX12_tonsOf ml_X12_300 iv_X12_tonsOf (by decide) ⟨_, rfl, rfl⟩ B.1 (cm_tonsOf B R (by omega)) rfl rfl (Nat.le_of_ble_eq_true rfl) (by first | omega | (exact R.r _ _) | (simp only [jM.len_sI, jM.len_sL, jM.len_sR, jM.len_fI, jM.len_fL, jM.len_fR]; omega) | (simp [jM.len_nw, jM.len_sI, jM.len_sL, jM.len_sR, jM.len_fI, jM.len_fL, jM.len_fR, *]; omega)) (by first | omega | (exact R.r _ _) | (simp only [jM.len_sI, jM.len_sL, jM.len_sR, jM.len_fI, jM.len_fL, jM.len_fR]; omega) | (simp [jM.len_nw, jM.len_sI, jM.len_sL, jM.len_sR, jM.len_fI, jM.len_fL, jM.len_fR, *]; omega)) (by first | omega | (exact R.r _ _) | (simp only [jM.len_sI, jM.len_sL, jM.len_sR, jM.len_fI, jM.len_fL, jM.len_fR]; omega) | (simp [jM.len_nw, jM.len_sI, jM.len_sL, jM.len_sR, jM.len_fI, jM.len_fL, jM.len_fR, *]; omega)) rfl rfl ?_ ?_
                                     · exact fun _ _ h => h
                                     rintro _ _ ⟨rfl, rfl⟩
                                     refine J.iload_n (pc' := 52) rfl rfl rfl ?_
                                     refine J.icmp_ge (tgt := 57) (pc' := 55) rfl rfl rfl (by first | omega | (exact R.r _ _) | (simp only [jM.len_sI, jM.len_sL, jM.len_sR, jM.len_fI, jM.len_fL, jM.len_fR]; omega) | (simp [jM.len_nw, jM.len_sI, jM.len_sL, jM.len_sR, jM.len_fI, jM.len_fL, jM.len_fR, *]; omega)) (by first | omega | (exact R.r _ _) | (simp only [jM.len_sI, jM.len_sL, jM.len_sR, jM.len_fI, jM.len_fL, jM.len_fR]; omega) | (simp [jM.len_nw, jM.len_sI, jM.len_sL, jM.len_sR, jM.len_fI, jM.len_fL, jM.len_fR, *]; omega)) (fun c52 => ?_) (fun c52 => ?_)
                                     · first
                                       | (exfalso; omega)
                                       | (exact rest (by omega) (by omega) (by omega) (by omega))
                                     · first
                                       | (exfalso; omega)
                                       | (refine J.iconst (pc' := 56) rfl rfl ?_
                                          refine J.iret rfl rfl (by first | omega | (exact R.r _ _) | (simp only [jM.len_sI, jM.len_sL, jM.len_sR, jM.len_fI, jM.len_fL, jM.len_fR]; omega) | (simp [jM.len_nw, jM.len_sI, jM.len_sL, jM.len_sR, jM.len_fI, jM.len_fL, jM.len_fR, *]; omega)) (by first | omega | (exact R.r _ _) | (simp only [jM.len_sI, jM.len_sL, jM.len_sR, jM.len_fI, jM.len_fL, jM.len_fR]; omega) | (simp [jM.len_nw, jM.len_sI, jM.len_sL, jM.len_sR, jM.len_fI, jM.len_fL, jM.len_fR, *]; omega)) ?_
                                          exact mQ.of (by unfold sp_move; (repeat (first | rw [if_pos (by omega)] | rw [if_neg (by omega)])))))
                                · first
                                  | (exfalso; omega)
                                  | (refine J.iconst (pc' := 45) rfl rfl ?_
                                     refine J.iret rfl rfl (by first | omega | (exact R.r _ _) | (simp only [jM.len_sI, jM.len_sL, jM.len_sR, jM.len_fI, jM.len_fL, jM.len_fR]; omega) | (simp [jM.len_nw, jM.len_sI, jM.len_sL, jM.len_sR, jM.len_fI, jM.len_fL, jM.len_fR, *]; omega)) (by first | omega | (exact R.r _ _) | (simp only [jM.len_sI, jM.len_sL, jM.len_sR, jM.len_fI, jM.len_fL, jM.len_fR]; omega) | (simp [jM.len_nw, jM.len_sI, jM.len_sL, jM.len_sR, jM.len_fI, jM.len_fL, jM.len_fR, *]; omega)) ?_
                                     exact mQ.of (by unfold sp_move; (repeat (first | rw [if_pos (by omega)] | rw [if_neg (by omega)])))))
                           · first
                             | (exfalso; omega)
                             | (refine J.iconst (pc' := 33) rfl rfl ?_
                                refine J.goto (tgt := 37) rfl rfl ?_
                                refine J.iconst (pc' := 38) rfl rfl ?_
                                first | refine J.callV (pc' := 41) (t := 16) rfl MX12_may ml_X12_161 iv_X12_may (by decide) ⟨_, rfl, rfl⟩ B.1 (cm_may1 B h0) rfl rfl (Nat.le_of_ble_eq_true rfl) (by first | omega | (exact R.r _ _) | (simp only [jM.len_sI, jM.len_sL, jM.len_sR, jM.len_fI, jM.len_fL, jM.len_fR]; omega) | (simp [jM.len_nw, jM.len_sI, jM.len_sL, jM.len_sR, jM.len_fI, jM.len_fL, jM.len_fR, *]; omega)) (by first | omega | (exact R.r _ _) | (simp only [jM.len_sI, jM.len_sL, jM.len_sR, jM.len_fI, jM.len_fL, jM.len_fR]; omega) | (simp [jM.len_nw, jM.len_sI, jM.len_sL, jM.len_sR, jM.len_fI, jM.len_fL, jM.len_fR, *]; omega)) (by first | omega | (exact R.r _ _) | (simp only [jM.len_sI, jM.len_sL, jM.len_sR, jM.len_fI, jM.len_fL, jM.len_fR]; omega) | (simp [jM.len_nw, jM.len_sI, jM.len_sL, jM.len_sR, jM.len_fI, jM.len_fL, jM.len_fR, *]; omega)) rfl rfl ?_ ?_ | refine J.callV (pc' := 41) (t := 16) rfl MX12_may ml_X12_161 iv_X12_may (by decide) ⟨_, rfl, rfl⟩ B.1 (cm_may0 B h0 (by omega)) rfl rfl (Nat.le_of_ble_eq_true rfl) (by first | omega | (exact R.r _ _) | (simp only [jM.len_sI, jM.len_sL, jM.len_sR, jM.len_fI, jM.len_fL, jM.len_fR]; omega) | (simp [jM.len_nw, jM.len_sI, jM.len_sL, jM.len_sR, jM.len_fI, jM.len_fL, jM.len_fR, *]; omega)) (by first | omega | (exact R.r _ _) | (simp only [jM.len_sI, jM.len_sL, jM.len_sR, jM.len_fI, jM.len_fL, jM.len_fR]; omega) | (simp [jM.len_nw, jM.len_sI, jM.len_sL, jM.len_sR, jM.len_fI, jM.len_fL, jM.len_fR, *]; omega)) (by first | omega | (exact R.r _ _) | (simp only [jM.len_sI, jM.len_sL, jM.len_sR, jM.len_fI, jM.len_fL, jM.len_fR]; omega) | (simp [jM.len_nw, jM.len_sI, jM.len_sL, jM.len_sR, jM.len_fI, jM.len_fL, jM.len_fR, *]; omega)) rfl rfl ?_ ?_
                                · exact fun _ _ h => h
                                rintro _ _ ⟨rfl, rfl⟩
                                refine J.if_ne (tgt := 46) (pc' := 44) rfl rfl rfl (by first | omega | (exact R.r _ _) | (simp only [jM.len_sI, jM.len_sL, jM.len_sR, jM.len_fI, jM.len_fL, jM.len_fR]; omega) | (simp [jM.len_nw, jM.len_sI, jM.len_sL, jM.len_sR, jM.len_fI, jM.len_fL, jM.len_fR, *]; omega)) (fun c41 => ?_) (fun c41 => ?_)
                                · first
                                  | (exfalso; omega)
                                  | (first | refine J.aload_n (pc' := 47) rfl rfl rfl ?_ | refine J.aload_nN (pc' := 47) rfl rfl rfl ?_
                                     refine J.iload_n (pc' := 48) rfl rfl rfl ?_
                                     refine J.callV (pc' := 51) (t := 16) rfl MX12_tonsOf ml_X12_300 iv_X12_tonsOf (by decide) ⟨_, rfl, rfl⟩ B.1 (cm_tonsOf B R (by omega)) rfl rfl (Nat.le_of_ble_eq_true rfl) (by first | omega | (exact R.r _ _) | (simp only [jM.len_sI, jM.len_sL, jM.len_sR, jM.len_fI, jM.len_fL, jM.len_fR]; omega) | (simp [jM.len_nw, jM.len_sI, jM.len_sL, jM.len_sR, jM.len_fI, jM.len_fL, jM.len_fR, *]; omega)) (by first | omega | (exact R.r _ _) | (simp only [jM.len_sI, jM.len_sL, jM.len_sR, jM.len_fI, jM.len_fL, jM.len_fR]; omega) | (simp [jM.len_nw, jM.len_sI, jM.len_sL, jM.len_sR, jM.len_fI, jM.len_fL, jM.len_fR, *]; omega)) (by first | omega | (exact R.r _ _) | (simp only [jM.len_sI, jM.len_sL, jM.len_sR, jM.len_fI, jM.len_fL, jM.len_fR]; omega) | (simp [jM.len_nw, jM.len_sI, jM.len_sL, jM.len_sR, jM.len_fI, jM.len_fL, jM.len_fR, *]; omega)) rfl rfl ?_ ?_
                                     · exact fun _ _ h => h
                                     rintro _ _ ⟨rfl, rfl⟩
                                     refine J.iload_n (pc' := 52) rfl rfl rfl ?_
                                     refine J.icmp_ge (tgt := 57) (pc' := 55) rfl rfl rfl (by first | omega | (exact R.r _ _) | (simp only [jM.len_sI, jM.len_sL, jM.len_sR, jM.len_fI, jM.len_fL, jM.len_fR]; omega) | (simp [jM.len_nw, jM.len_sI, jM.len_sL, jM.len_sR, jM.len_fI, jM.len_fL, jM.len_fR, *]; omega)) (by first | omega | (exact R.r _ _) | (simp only [jM.len_sI, jM.len_sL, jM.len_sR, jM.len_fI, jM.len_fL, jM.len_fR]; omega) | (simp [jM.len_nw, jM.len_sI, jM.len_sL, jM.len_sR, jM.len_fI, jM.len_fL, jM.len_fR, *]; omega)) (fun c52 => ?_) (fun c52 => ?_)
                                     · first
                                       | (exfalso; omega)
                                       | (exact rest (by omega) (by omega) (by omega) (by omega))
                                     · first
                                       | (exfalso; omega)
                                       | (refine J.iconst (pc' := 56) rfl rfl ?_
                                          refine J.iret rfl rfl (by first | omega | (exact R.r _ _) | (simp only [jM.len_sI, jM.len_sL, jM.len_sR, jM.len_fI, jM.len_fL, jM.len_fR]; omega) | (simp [jM.len_nw, jM.len_sI, jM.len_sL, jM.len_sR, jM.len_fI, jM.len_fL, jM.len_fR, *]; omega)) (by first | omega | (exact R.r _ _) | (simp only [jM.len_sI, jM.len_sL, jM.len_sR, jM.len_fI, jM.len_fL, jM.len_fR]; omega) | (simp [jM.len_nw, jM.len_sI, jM.len_sL, jM.len_sR, jM.len_fI, jM.len_fL, jM.len_fR, *]; omega)) ?_
                                          exact mQ.of (by unfold sp_move; (repeat (first | rw [if_pos (by omega)] | rw [if_neg (by omega)])))))
                                · first
                                  | (exfalso; omega)
                                  | (refine J.iconst (pc' := 45) rfl rfl ?_
                                     refine J.iret rfl rfl (by first | omega | (exact R.r _ _) | (simp only [jM.len_sI, jM.len_sL, jM.len_sR, jM.len_fI, jM.len_fL, jM.len_fR]; omega) | (simp [jM.len_nw, jM.len_sI, jM.len_sL, jM.len_sR, jM.len_fI, jM.len_fL, jM.len_fR, *]; omega)) (by first | omega | (exact R.r _ _) | (simp only [jM.len_sI, jM.len_sL, jM.len_sR, jM.len_fI, jM.len_fL, jM.len_fR]; omega) | (simp [jM.len_nw, jM.len_sI, jM.len_sL, jM.len_sR, jM.len_fI, jM.len_fL, jM.len_fR, *]; omega)) ?_
                                     exact mQ.of (by unfold sp_move; (repeat (first | rw [if_pos (by omega)] | rw [if_neg (by omega)]))))))))))
end M7

