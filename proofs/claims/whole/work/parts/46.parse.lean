/-- on from p as long as f holds, to n at most -/
def scN (f : Int → Bool) (n : Int) : Nat → Int → Int
  | 0, p => p
  | k + 1, p => if p < n ∧ f p = true then scN f n k (p + 1) else p
def sc (f : Int → Bool) (n p : Int) : Int := scN f n (n - p).toNat p
theorem sc_go {f : Int → Bool} {n p : Int} (h1 : p < n) (h2 : f p = true) : sc f n p = sc f n (p + 1) := by
  unfold sc
  rw [show (n - p).toNat = (n - (p + 1)).toNat + 1 by omega, scN, if_pos ⟨h1, h2⟩]
theorem sc_st {f : Int → Bool} {n p : Int} (h : n ≤ p ∨ f p = false) : sc f n p = p := by
  unfold sc
  cases (n - p).toNat with
  | zero => rfl
  | succ k =>
    rw [scN, if_neg]
    rintro ⟨q1, q2⟩
    rcases h with h | h
    · omega
    · rw [h] at q2; cases q2
theorem sc_b {f : Int → Bool} {n : Int} : ∀ (m : Nat) (p : Int), p + m = n → p ≤ sc f n p ∧ sc f n p ≤ n ∧ (∀ i, p ≤ i → i < sc f n p → f i = true) ∧ (sc f n p < n → f (sc f n p) = false) := by
  intro m
  induction m with
  | zero =>
    intro p hp
    rw [sc_st (Or.inl (by omega))]
    exact ⟨by omega, by omega, fun i h1 h2 => by omega, fun h => by omega⟩
  | succ m ih =>
    intro p hp
    cases q : f p with
    | true =>
      rw [sc_go (by omega) q]
      obtain ⟨a, b, c, d⟩ := ih (p + 1) (by omega)
      refine ⟨by omega, b, fun i h1 h2 => ?_, d⟩
      rcases (by omega : i = p ∨ p + 1 ≤ i) with z | z
      · rw [z]; exact q
      · exact c i z h2
    | false =>
      rw [sc_st (Or.inr q)]
      exact ⟨by omega, by omega, fun i h1 h2 => by omega, fun _ => q⟩
def isBl (c : Int) : Bool := decide (c = 32)
def isSm (c : Int) : Bool := decide (97 ≤ c ∧ c ≤ 122)
def isDg (c : Int) : Bool := decide (48 ≤ c ∧ c ≤ 57)
/-- past blanks; past a word -/
def sk (T : Int → Int) (n p : Int) : Int := sc (fun i => isBl (T i)) n p
def we (T : Int → Int) (n p : Int) : Int := sc (fun i => isSm (T i)) n p
theorem sk_go {T : Int → Int} {n p : Int} (h1 : p < n) (h2 : T p = 32) : sk T n p = sk T n (p + 1) := sc_go h1 (decide_eq_true h2)
theorem sk_st {T : Int → Int} {n p : Int} (h : n ≤ p ∨ T p ≠ 32) : sk T n p = p := sc_st (by rcases h with h | h; exact Or.inl h; exact Or.inr (decide_eq_false h))
theorem sk_b {T : Int → Int} {n p : Int} (h : p ≤ n) : p ≤ sk T n p ∧ sk T n p ≤ n ∧ (sk T n p < n → T (sk T n p) ≠ 32) := by
  obtain ⟨a, b, -, d⟩ := sc_b (f := fun i => isBl (T i)) (n := n) (n - p).toNat p (by omega)
  exact ⟨a, b, fun q => of_decide_eq_false (d q)⟩
theorem sk_sk {T : Int → Int} {n p : Int} (h : p ≤ n) : sk T n (sk T n p) = sk T n p := by
  obtain ⟨a, b, d⟩ := sk_b (T := T) h
  refine sk_st ?_
  rcases (by omega : n ≤ sk T n p ∨ sk T n p < n) with q | q
  · exact Or.inl q
  · exact Or.inr (d q)
theorem we_go {T : Int → Int} {n p : Int} (h1 : p < n) (h2 : 97 ≤ T p ∧ T p ≤ 122) : we T n p = we T n (p + 1) := sc_go h1 (decide_eq_true h2)
theorem we_st {T : Int → Int} {n p : Int} (h : n ≤ p ∨ ¬ (97 ≤ T p ∧ T p ≤ 122)) : we T n p = p := sc_st (by rcases h with h | h; exact Or.inl h; exact Or.inr (decide_eq_false h))
theorem we_b {T : Int → Int} {n p : Int} (h : p ≤ n) : p ≤ we T n p ∧ we T n p ≤ n ∧ (∀ i, p ≤ i → i < we T n p → 97 ≤ T i ∧ T i ≤ 122) ∧ (we T n p < n → ¬ (97 ≤ T (we T n p) ∧ T (we T n p) ≤ 122)) := by
  obtain ⟨a, b, c, d⟩ := sc_b (f := fun i => isSm (T i)) (n := n) (n - p).toNat p (by omega)
  exact ⟨a, b, fun i h1 h2 => of_decide_eq_true (c i h1 h2), fun q => of_decide_eq_false (d q)⟩
/-- a word as a number -/
def wc (T : Int → Int) (p : Int) : Nat → Int
  | 0 => 0
  | k + 1 => wc T p k * 256 + T (p + k)
def wcode (T : Int → Int) (n s : Int) : Int := if we T n s - s ≤ 5 then wc T s (we T n s - s).toNat else 0
/-- a number of at most k digits -/
def numN (T : Int → Int) (n : Int) : Nat → Int → Int → Int × Int
  | 0, p, v => (p, v)
  | k + 1, p, v => if p < n ∧ (48 ≤ T p ∧ T p ≤ 57) then numN T n k (p + 1) (10 * v + T p - 48) else (p, v)
theorem numN_b {T : Int → Int} {n : Int} : ∀ (k : Nat) (p v : Int), p ≤ n → 0 ≤ v → p ≤ (numN T n k p v).1 ∧ (numN T n k p v).1 ≤ p + k ∧ (numN T n k p v).1 ≤ n ∧ 0 ≤ (numN T n k p v).2 ∧ (numN T n k p v).2 + 1 ≤ (v + 1) * 10 ^ k := by
  intro k
  induction k with
  | zero =>
    intro p v h1 h2
    simp only [numN]
    refine ⟨by omega, by omega, h1, h2, by simp⟩
  | succ k ih =>
    intro p v h1 h2
    rw [numN]
    split
    · rename_i q
      obtain ⟨a, b, c, d, e⟩ := ih (p + 1) (10 * v + T p - 48) (by omega) (by omega)
      refine ⟨by omega, by omega, c, d, ?_⟩
      have e1 : (10 * v + T p - 48 + 1) * 10 ^ k ≤ (10 * (v + 1)) * 10 ^ k := Int.mul_le_mul_of_nonneg_right (by omega) (Int.pow_nonneg (by decide))
      rw [Int.pow_succ]
      have e2 : (v + 1) * (10 ^ k * 10) = 10 * (v + 1) * 10 ^ k := by rw [Int.mul_comm (10 ^ k) 10, ← Int.mul_assoc, Int.mul_comm (v + 1) 10]
      omega
    · refine ⟨by simp, by simp; omega, h1, h2, ?_⟩
      have hp10 : (0 : Int) < 10 ^ (k + 1) := Int.pow_pos (by decide)
      have e1 : (v + 1) * 1 ≤ (v + 1) * 10 ^ (k + 1) := Int.mul_le_mul_of_nonneg_left hp10 (by omega)
      simp only
      omega
def hv (T : Int → Int) (n s : Int) : Int := if s < n then T s else 0
theorem jL_shl {v : Int} (hv : 0 ≤ v ∧ v < 1099511627776) : jL v <<< ((jI 8).toInt64 &&& 63) = jL (v * 256) := by
  rw [show (jI 8).toInt64 &&& 63 = 8 by decide]
  apply Int64.toBitVec_inj.mp
  rw [Int64.toBitVec_shiftLeft]
  apply BitVec.eq_of_toNat_eq
  show ((BitVec.ofInt 64 v) <<< ((8 : Int64).toBitVec.smod 64)).toNat = (BitVec.ofInt 64 (v * 256)).toNat
  rw [BitVec.shiftLeft_eq', BitVec.toNat_shiftLeft, BitVec.toNat_ofInt, BitVec.toNat_ofInt, show ((8 : Int64).toBitVec.smod 64).toNat = 8 by decide, Nat.shiftLeft_eq]
  show (v % 18446744073709551616).toNat * 256 % 18446744073709551616 = (v * 256 % 18446744073709551616).toNat
  omega
theorem jL_or {v t : Int} (hv : 0 ≤ v ∧ v < 1099511627776) (ht : 0 ≤ t ∧ t < 256) : jL (v * 256) ||| jL t = jL (v * 256 + t) := by
  apply Int64.toBitVec_inj.mp
  rw [Int64.toBitVec_or]
  apply BitVec.eq_of_toNat_eq
  show ((BitVec.ofInt 64 (v * 256)) ||| (BitVec.ofInt 64 t)).toNat = (BitVec.ofInt 64 (v * 256 + t)).toNat
  rw [BitVec.toNat_or, BitVec.toNat_ofInt, BitVec.toNat_ofInt, BitVec.toNat_ofInt]
  show (v * 256 % 18446744073709551616).toNat ||| (t % 18446744073709551616).toNat = ((v * 256 + t) % 18446744073709551616).toNat
  have e1 : (v * 256 % 18446744073709551616).toNat = v.toNat <<< 8 := by rw [Nat.shiftLeft_eq]; omega
  have e2 : (t % 18446744073709551616).toNat = t.toNat := by omega
  rw [e1, e2, ← Nat.shiftLeft_add_eq_or_of_lt (show t.toNat < 2 ^ 8 by omega), Nat.shiftLeft_eq]
  omega
section M18
variable {γ : jG} {β : jB} {V : VV}
theorem cm_fine (B : isB β) (R : isR V) : CT γ mX12_fine 0 0 0 [.ref (β.2 16)] (jP β V) (fun r h' => r = some (.int (jI (if V 16 14 = -1 then 1 else 0))) ∧ h' = jP β V) X0 := by
  have hf := R.f
  refine CT.of MX12_fine (Nat.le_of_ble_eq_true rfl) ?_
  show J γ mX12_fine 0 0 0 0 0 (jP β V) 0 [(0, .ref (β.2 16))] [] _ _
  first | refine J.aload_n (pc' := 1) rfl rfl rfl ?_ | refine J.aload_nN (pc' := 1) rfl rfl rfl ?_
  refine J.mgI (pc' := 4) (j := 14) B rfl fl_X12_188 rfl rfl rfl ?_
  refine J.iconst (pc' := 5) rfl rfl ?_
  refine J.icmp_ne (tgt := 12) (pc' := 8) rfl rfl rfl (by first | omega | (exact R.r _ _) | (simp only [jM.len_sI, jM.len_sL, jM.len_sR, jM.len_fI, jM.len_fL, jM.len_fR]; omega) | (simp [jM.len_nw, jM.len_sI, jM.len_sL, jM.len_sR, jM.len_fI, jM.len_fL, jM.len_fR, *]; omega)) (by first | omega | (exact R.r _ _) | (simp only [jM.len_sI, jM.len_sL, jM.len_sR, jM.len_fI, jM.len_fL, jM.len_fR]; omega) | (simp [jM.len_nw, jM.len_sI, jM.len_sL, jM.len_sR, jM.len_fI, jM.len_fL, jM.len_fR, *]; omega)) (fun c5 => ?_) (fun c5 => ?_)
  · refine J.iconst (pc' := 13) rfl rfl ?_
    refine J.zret rfl rfl (by rfl) (by first | omega | (exact R.r _ _) | (simp only [jM.len_sI, jM.len_sL, jM.len_sR, jM.len_fI, jM.len_fL, jM.len_fR]; omega) | (simp [jM.len_nw, jM.len_sI, jM.len_sL, jM.len_sR, jM.len_fI, jM.len_fL, jM.len_fR, *]; omega)) (by first | omega | (exact R.r _ _) | (simp only [jM.len_sI, jM.len_sL, jM.len_sR, jM.len_fI, jM.len_fL, jM.len_fR]; omega) | (simp [jM.len_nw, jM.len_sI, jM.len_sL, jM.len_sR, jM.len_fI, jM.len_fL, jM.len_fR, *]; omega)) ?_
    exact ⟨by (repeat (first | rw [if_pos (by omega)] | rw [if_neg (by omega)])), rfl⟩
  · refine J.iconst (pc' := 9) rfl rfl ?_
    refine J.goto (tgt := 13) rfl rfl ?_
    refine J.zret rfl rfl (by rfl) (by first | omega | (exact R.r _ _) | (simp only [jM.len_sI, jM.len_sL, jM.len_sR, jM.len_fI, jM.len_fL, jM.len_fR]; omega) | (simp [jM.len_nw, jM.len_sI, jM.len_sL, jM.len_sR, jM.len_fI, jM.len_fL, jM.len_fR, *]; omega)) (by first | omega | (exact R.r _ _) | (simp only [jM.len_sI, jM.len_sL, jM.len_sR, jM.len_fI, jM.len_fL, jM.len_fR]; omega) | (simp [jM.len_nw, jM.len_sI, jM.len_sL, jM.len_sR, jM.len_fI, jM.len_fL, jM.len_fR, *]; omega)) ?_
    exact ⟨by (repeat (first | rw [if_pos (by omega)] | rw [if_neg (by omega)])), rfl⟩
theorem cm_wrong {p : Int} (B : isB β) (R : isR V) : CT γ mX12_wrong 0 0 0 [.ref (β.2 16), .int (jI p)] (jP β V) (fun r h' => r = none ∧ h' = jP β (if V 16 14 = -1 then jU V 16 14 p else V)) X0 := by
  have hf := R.f
  refine CT.of MX12_wrong (Nat.le_of_ble_eq_true rfl) ?_
  show J γ mX12_wrong 0 0 0 0 0 (jP β V) 0 [(0, .ref (β.2 16)), (1, .int (jI p))] [] _ _
  first | refine J.aload_n (pc' := 1) rfl rfl rfl ?_ | refine J.aload_nN (pc' := 1) rfl rfl rfl ?_
  refine J.mgI (pc' := 4) (j := 14) B rfl fl_X12_188 rfl rfl rfl ?_
  refine J.iconst (pc' := 5) rfl rfl ?_
  refine J.icmp_ne (tgt := 13) (pc' := 8) rfl rfl rfl (by first | omega | (exact R.r _ _) | (simp only [jM.len_sI, jM.len_sL, jM.len_sR, jM.len_fI, jM.len_fL, jM.len_fR]; omega) | (simp [jM.len_nw, jM.len_sI, jM.len_sL, jM.len_sR, jM.len_fI, jM.len_fL, jM.len_fR, *]; omega)) (by first | omega | (exact R.r _ _) | (simp only [jM.len_sI, jM.len_sL, jM.len_sR, jM.len_fI, jM.len_fL, jM.len_fR]; omega) | (simp [jM.len_nw, jM.len_sI, jM.len_sL, jM.len_sR, jM.len_fI, jM.len_fL, jM.len_fR, *]; omega)) (fun c5 => ?_) (fun c5 => ?_)
  · refine J.vret rfl rfl (by first | omega | (exact R.r _ _) | (simp only [jM.len_sI, jM.len_sL, jM.len_sR, jM.len_fI, jM.len_fL, jM.len_fR]; omega) | (simp [jM.len_nw, jM.len_sI, jM.len_sL, jM.len_sR, jM.len_fI, jM.len_fL, jM.len_fR, *]; omega)) (by first | omega | (exact R.r _ _) | (simp only [jM.len_sI, jM.len_sL, jM.len_sR, jM.len_fI, jM.len_fL, jM.len_fR]; omega) | (simp [jM.len_nw, jM.len_sI, jM.len_sL, jM.len_sR, jM.len_fI, jM.len_fL, jM.len_fR, *]; omega)) ?_
    exact ⟨rfl, by (repeat (first | rw [if_pos (by omega)] | rw [if_neg (by omega)]))⟩
  · first | refine J.aload_n (pc' := 9) rfl rfl rfl ?_ | refine J.aload_nN (pc' := 9) rfl rfl rfl ?_
    refine J.iload_n (pc' := 10) rfl rfl rfl ?_
    refine J.mpI (pc' := 13) (j := 14) B rfl fl_X12_188 rfl rfl rfl rfl ?_
    refine J.vret rfl rfl (by first | omega | (exact R.r _ _) | (simp only [jM.len_sI, jM.len_sL, jM.len_sR, jM.len_fI, jM.len_fL, jM.len_fR]; omega) | (simp [jM.len_nw, jM.len_sI, jM.len_sL, jM.len_sR, jM.len_fI, jM.len_fL, jM.len_fR, *]; omega)) (by first | omega | (exact R.r _ _) | (simp only [jM.len_sI, jM.len_sL, jM.len_sR, jM.len_fI, jM.len_fL, jM.len_fR]; omega) | (simp [jM.len_nw, jM.len_sI, jM.len_sL, jM.len_sR, jM.len_fI, jM.len_fL, jM.len_fR, *]; omega)) ?_
    exact ⟨rfl, by (repeat (first | rw [if_pos (by omega)] | rw [if_neg (by omega)]))⟩
theorem cm_isSmall {c : Int} {h : jM} (hc : r32 c) : CT γ mX12_isSmall 0 0 0 [.int (jI c)] h (fun r h' => r = some (.int (jI (if 97 ≤ c ∧ c ≤ 122 then 1 else 0))) ∧ h' = h) X0 := by
  refine CT.of MX12_isSmall (Nat.le_of_ble_eq_true rfl) ?_
  show J γ mX12_isSmall 0 0 0 0 0 h 0 [(0, .int (jI c))] [] _ _
  refine J.iload_n (pc' := 1) rfl rfl rfl ?_
  refine J.bipush (pc' := 3) rfl rfl (by decide) ?_
  refine J.icmp_lt (tgt := 16) (pc' := 6) rfl rfl rfl (by first | omega | (exact R.r _ _) | (simp only [jM.len_sI, jM.len_sL, jM.len_sR, jM.len_fI, jM.len_fL, jM.len_fR]; omega) | (simp [jM.len_nw, jM.len_sI, jM.len_sL, jM.len_sR, jM.len_fI, jM.len_fL, jM.len_fR, *]; omega)) (by first | omega | (exact R.r _ _) | (simp only [jM.len_sI, jM.len_sL, jM.len_sR, jM.len_fI, jM.len_fL, jM.len_fR]; omega) | (simp [jM.len_nw, jM.len_sI, jM.len_sL, jM.len_sR, jM.len_fI, jM.len_fL, jM.len_fR, *]; omega)) (fun c3 => ?_) (fun c3 => ?_)
  · refine J.iconst (pc' := 17) rfl rfl ?_
    refine J.zret rfl rfl (by rfl) (by first | omega | (exact R.r _ _) | (simp only [jM.len_sI, jM.len_sL, jM.len_sR, jM.len_fI, jM.len_fL, jM.len_fR]; omega) | (simp [jM.len_nw, jM.len_sI, jM.len_sL, jM.len_sR, jM.len_fI, jM.len_fL, jM.len_fR, *]; omega)) (by first | omega | (exact R.r _ _) | (simp only [jM.len_sI, jM.len_sL, jM.len_sR, jM.len_fI, jM.len_fL, jM.len_fR]; omega) | (simp [jM.len_nw, jM.len_sI, jM.len_sL, jM.len_sR, jM.len_fI, jM.len_fL, jM.len_fR, *]; omega)) ?_
    exact ⟨by (repeat (first | rw [if_pos (by omega)] | rw [if_neg (by omega)])), rfl⟩
  · refine J.iload_n (pc' := 7) rfl rfl rfl ?_
    refine J.bipush (pc' := 9) rfl rfl (by decide) ?_
    refine J.icmp_gt (tgt := 16) (pc' := 12) rfl rfl rfl (by first | omega | (exact R.r _ _) | (simp only [jM.len_sI, jM.len_sL, jM.len_sR, jM.len_fI, jM.len_fL, jM.len_fR]; omega) | (simp [jM.len_nw, jM.len_sI, jM.len_sL, jM.len_sR, jM.len_fI, jM.len_fL, jM.len_fR, *]; omega)) (by first | omega | (exact R.r _ _) | (simp only [jM.len_sI, jM.len_sL, jM.len_sR, jM.len_fI, jM.len_fL, jM.len_fR]; omega) | (simp [jM.len_nw, jM.len_sI, jM.len_sL, jM.len_sR, jM.len_fI, jM.len_fL, jM.len_fR, *]; omega)) (fun c9 => ?_) (fun c9 => ?_)
    · refine J.iconst (pc' := 17) rfl rfl ?_
      refine J.zret rfl rfl (by rfl) (by first | omega | (exact R.r _ _) | (simp only [jM.len_sI, jM.len_sL, jM.len_sR, jM.len_fI, jM.len_fL, jM.len_fR]; omega) | (simp [jM.len_nw, jM.len_sI, jM.len_sL, jM.len_sR, jM.len_fI, jM.len_fL, jM.len_fR, *]; omega)) (by first | omega | (exact R.r _ _) | (simp only [jM.len_sI, jM.len_sL, jM.len_sR, jM.len_fI, jM.len_fL, jM.len_fR]; omega) | (simp [jM.len_nw, jM.len_sI, jM.len_sL, jM.len_sR, jM.len_fI, jM.len_fL, jM.len_fR, *]; omega)) ?_
      exact ⟨by (repeat (first | rw [if_pos (by omega)] | rw [if_neg (by omega)])), rfl⟩
    · refine J.iconst (pc' := 13) rfl rfl ?_
      refine J.goto (tgt := 17) rfl rfl ?_
      refine J.zret rfl rfl (by rfl) (by first | omega | (exact R.r _ _) | (simp only [jM.len_sI, jM.len_sL, jM.len_sR, jM.len_fI, jM.len_fL, jM.len_fR]; omega) | (simp [jM.len_nw, jM.len_sI, jM.len_sL, jM.len_sR, jM.len_fI, jM.len_fL, jM.len_fR, *]; omega)) (by first | omega | (exact R.r _ _) | (simp only [jM.len_sI, jM.len_sL, jM.len_sR, jM.len_fI, jM.len_fL, jM.len_fR]; omega) | (simp [jM.len_nw, jM.len_sI, jM.len_sL, jM.len_sR, jM.len_fI, jM.len_fL, jM.len_fR, *]; omega)) ?_
      exact ⟨by (repeat (first | rw [if_pos (by omega)] | rw [if_neg (by omega)])), rfl⟩
theorem cm_isDigit {c : Int} {h : jM} (hc : r32 c) : CT γ mX12_isDigit 0 0 0 [.int (jI c)] h (fun r h' => r = some (.int (jI (if 48 ≤ c ∧ c ≤ 57 then 1 else 0))) ∧ h' = h) X0 := by
  refine CT.of MX12_isDigit (Nat.le_of_ble_eq_true rfl) ?_
  show J γ mX12_isDigit 0 0 0 0 0 h 0 [(0, .int (jI c))] [] _ _
  refine J.iload_n (pc' := 1) rfl rfl rfl ?_
  refine J.bipush (pc' := 3) rfl rfl (by decide) ?_
  refine J.icmp_lt (tgt := 16) (pc' := 6) rfl rfl rfl (by first | omega | (exact R.r _ _) | (simp only [jM.len_sI, jM.len_sL, jM.len_sR, jM.len_fI, jM.len_fL, jM.len_fR]; omega) | (simp [jM.len_nw, jM.len_sI, jM.len_sL, jM.len_sR, jM.len_fI, jM.len_fL, jM.len_fR, *]; omega)) (by first | omega | (exact R.r _ _) | (simp only [jM.len_sI, jM.len_sL, jM.len_sR, jM.len_fI, jM.len_fL, jM.len_fR]; omega) | (simp [jM.len_nw, jM.len_sI, jM.len_sL, jM.len_sR, jM.len_fI, jM.len_fL, jM.len_fR, *]; omega)) (fun c3 => ?_) (fun c3 => ?_)
  · refine J.iconst (pc' := 17) rfl rfl ?_
    refine J.zret rfl rfl (by rfl) (by first | omega | (exact R.r _ _) | (simp only [jM.len_sI, jM.len_sL, jM.len_sR, jM.len_fI, jM.len_fL, jM.len_fR]; omega) | (simp [jM.len_nw, jM.len_sI, jM.len_sL, jM.len_sR, jM.len_fI, jM.len_fL, jM.len_fR, *]; omega)) (by first | omega | (exact R.r _ _) | (simp only [jM.len_sI, jM.len_sL, jM.len_sR, jM.len_fI, jM.len_fL, jM.len_fR]; omega) | (simp [jM.len_nw, jM.len_sI, jM.len_sL, jM.len_sR, jM.len_fI, jM.len_fL, jM.len_fR, *]; omega)) ?_
    exact ⟨by (repeat (first | rw [if_pos (by omega)] | rw [if_neg (by omega)])), rfl⟩
  · refine J.iload_n (pc' := 7) rfl rfl rfl ?_
    refine J.bipush (pc' := 9) rfl rfl (by decide) ?_
    refine J.icmp_gt (tgt := 16) (pc' := 12) rfl rfl rfl (by first | omega | (exact R.r _ _) | (simp only [jM.len_sI, jM.len_sL, jM.len_sR, jM.len_fI, jM.len_fL, jM.len_fR]; omega) | (simp [jM.len_nw, jM.len_sI, jM.len_sL, jM.len_sR, jM.len_fI, jM.len_fL, jM.len_fR, *]; omega)) (by first | omega | (exact R.r _ _) | (simp only [jM.len_sI, jM.len_sL, jM.len_sR, jM.len_fI, jM.len_fL, jM.len_fR]; omega) | (simp [jM.len_nw, jM.len_sI, jM.len_sL, jM.len_sR, jM.len_fI, jM.len_fL, jM.len_fR, *]; omega)) (fun c9 => ?_) (fun c9 => ?_)
    · refine J.iconst (pc' := 17) rfl rfl ?_
      refine J.zret rfl rfl (by rfl) (by first | omega | (exact R.r _ _) | (simp only [jM.len_sI, jM.len_sL, jM.len_sR, jM.len_fI, jM.len_fL, jM.len_fR]; omega) | (simp [jM.len_nw, jM.len_sI, jM.len_sL, jM.len_sR, jM.len_fI, jM.len_fL, jM.len_fR, *]; omega)) (by first | omega | (exact R.r _ _) | (simp only [jM.len_sI, jM.len_sL, jM.len_sR, jM.len_fI, jM.len_fL, jM.len_fR]; omega) | (simp [jM.len_nw, jM.len_sI, jM.len_sL, jM.len_sR, jM.len_fI, jM.len_fL, jM.len_fR, *]; omega)) ?_
      exact ⟨by (repeat (first | rw [if_pos (by omega)] | rw [if_neg (by omega)])), rfl⟩
    · refine J.iconst (pc' := 13) rfl rfl ?_
      refine J.goto (tgt := 17) rfl rfl ?_
      refine J.zret rfl rfl (by rfl) (by first | omega | (exact R.r _ _) | (simp only [jM.len_sI, jM.len_sL, jM.len_sR, jM.len_fI, jM.len_fL, jM.len_fR]; omega) | (simp [jM.len_nw, jM.len_sI, jM.len_sL, jM.len_sR, jM.len_fI, jM.len_fL, jM.len_fR, *]; omega)) (by first | omega | (exact R.r _ _) | (simp only [jM.len_sI, jM.len_sL, jM.len_sR, jM.len_fI, jM.len_fL, jM.len_fR]; omega) | (simp [jM.len_nw, jM.len_sI, jM.len_sL, jM.len_sR, jM.len_fI, jM.len_fL, jM.len_fR, *]; omega)) ?_
      exact ⟨by (repeat (first | rw [if_pos (by omega)] | rw [if_neg (by omega)])), rfl⟩
theorem cm_here (B : isB β) (R : isR V) (hp : V 16 13 ≤ V 16 12) : CT γ mX12_here 0 0 0 [.ref (β.2 16)] (jP β V) (fun r h' => r = some (.int (jI (hv (V 116) (V 16 12) (sk (V 116) (V 16 12) (V 16 13))))) ∧ h' = jP β (jU V 16 13 (sk (V 116) (V 16 12) (V 16 13)))) X0 := by
  have hf := R.f
  refine CT.of MX12_here (Nat.le_of_ble_eq_true rfl) ?_
  show J γ mX12_here 0 0 0 0 0 (jP β V) 0 [(0, .ref (β.2 16))] [] _ _
  have key : ∀ (m : Nat) (p : Int), 0 ≤ p → p + m = V 16 12 → J γ mX12_here 0 0 0 0 0 (jP β (jU V 16 13 p)) 0 [(0, .ref (β.2 16))] [] (fun r h' => r = some (.int (jI (hv (V 116) (V 16 12) (sk (V 116) (V 16 12) p)))) ∧ h' = jP β (jU V 16 13 (sk (V 116) (V 16 12) p))) X0 := by
    intro m
    induction m with
    | zero =>
      intro p h0 h1
      rw [sk_st (Or.inl (by omega))]
      first | refine J.aload_n (pc' := 1) rfl rfl rfl ?_ | refine J.aload_nN (pc' := 1) rfl rfl rfl ?_
      refine J.mgI (pc' := 4) (j := 13) B rfl fl_X12_191 rfl rfl rfl ?_
      try simp (disch := omega) only [jU_o, jU_i, jU_same]
      first | refine J.aload_n (pc' := 5) rfl rfl rfl ?_ | refine J.aload_nN (pc' := 5) rfl rfl rfl ?_
      refine J.mgI (pc' := 8) (j := 12) B rfl fl_X12_194 rfl rfl rfl ?_
      try simp (disch := omega) only [jU_o, jU_i, jU_same]
      refine J.icmp_ge (tgt := 38) (pc' := 11) rfl rfl rfl (by first | omega | (exact R.r _ _) | (simp only [jM.len_sI, jM.len_sL, jM.len_sR, jM.len_fI, jM.len_fL, jM.len_fR]; omega) | (simp [jM.len_nw, jM.len_sI, jM.len_sL, jM.len_sR, jM.len_fI, jM.len_fL, jM.len_fR, *]; omega)) (by first | omega | (exact R.r _ _) | (simp only [jM.len_sI, jM.len_sL, jM.len_sR, jM.len_fI, jM.len_fL, jM.len_fR]; omega) | (simp [jM.len_nw, jM.len_sI, jM.len_sL, jM.len_sR, jM.len_fI, jM.len_fL, jM.len_fR, *]; omega)) (fun c8 => ?_) (fun c8 => ?_)
      · first
        | (exfalso; omega)
        | (first | refine J.aload_n (pc' := 39) rfl rfl rfl ?_ | refine J.aload_nN (pc' := 39) rfl rfl rfl ?_
           refine J.mgI (pc' := 42) (j := 13) B rfl fl_X12_191 rfl rfl rfl ?_
           try simp (disch := omega) only [jU_o, jU_i, jU_same]
           first | refine J.aload_n (pc' := 43) rfl rfl rfl ?_ | refine J.aload_nN (pc' := 43) rfl rfl rfl ?_
           refine J.mgI (pc' := 46) (j := 12) B rfl fl_X12_194 rfl rfl rfl ?_
           try simp (disch := omega) only [jU_o, jU_i, jU_same]
           refine J.icmp_ge (tgt := 61) (pc' := 49) rfl rfl rfl (by first | omega | (exact R.r _ _) | (simp only [jM.len_sI, jM.len_sL, jM.len_sR, jM.len_fI, jM.len_fL, jM.len_fR]; omega) | (simp [jM.len_nw, jM.len_sI, jM.len_sL, jM.len_sR, jM.len_fI, jM.len_fL, jM.len_fR, *]; omega)) (by first | omega | (exact R.r _ _) | (simp only [jM.len_sI, jM.len_sL, jM.len_sR, jM.len_fI, jM.len_fL, jM.len_fR]; omega) | (simp [jM.len_nw, jM.len_sI, jM.len_sL, jM.len_sR, jM.len_fI, jM.len_fL, jM.len_fR, *]; omega)) (fun c46 => ?_) (fun c46 => ?_)
           · first
             | (exfalso; omega)
             | (refine J.iconst (pc' := 62) rfl rfl ?_
                refine J.iret rfl rfl (by first | omega | (exact R.r _ _) | (simp only [jM.len_sI, jM.len_sL, jM.len_sR, jM.len_fI, jM.len_fL, jM.len_fR]; omega) | (simp [jM.len_nw, jM.len_sI, jM.len_sL, jM.len_sR, jM.len_fI, jM.len_fL, jM.len_fR, *]; omega)) (by first | omega | (exact R.r _ _) | (simp only [jM.len_sI, jM.len_sL, jM.len_sR, jM.len_fI, jM.len_fL, jM.len_fR]; omega) | (simp [jM.len_nw, jM.len_sI, jM.len_sL, jM.len_sR, jM.len_fI, jM.len_fL, jM.len_fR, *]; omega)) ?_
                exact ⟨by unfold hv; (repeat (first | rw [if_pos (by omega)] | rw [if_neg (by omega)])), rfl⟩)
           · first
             | (exfalso; omega)
             | (first | refine J.aload_n (pc' := 50) rfl rfl rfl ?_ | refine J.aload_nN (pc' := 50) rfl rfl rfl ?_
                refine J.mgR (pc' := 53) (t := 116) B rfl fl_X12_34 rfl rfl (by decide) rfl ?_
                first | refine J.aload_n (pc' := 54) rfl rfl rfl ?_ | refine J.aload_nN (pc' := 54) rfl rfl rfl ?_
                refine J.mgI (pc' := 57) (j := 13) B rfl fl_X12_191 rfl rfl rfl ?_
                try simp (disch := omega) only [jU_o, jU_i, jU_same]
                refine J.mald (pc' := 58) B rfl rfl rfl (by omega) (by simp only [jLn]; omega) rfl ?_
                try simp (disch := omega) only [jU_o, jU_i, jU_same]
                refine J.goto (tgt := 62) rfl rfl ?_
                refine J.iret rfl rfl (by first | omega | (exact R.r _ _) | (simp only [jM.len_sI, jM.len_sL, jM.len_sR, jM.len_fI, jM.len_fL, jM.len_fR]; omega) | (simp [jM.len_nw, jM.len_sI, jM.len_sL, jM.len_sR, jM.len_fI, jM.len_fL, jM.len_fR, *]; omega)) (by first | omega | (exact R.r _ _) | (simp only [jM.len_sI, jM.len_sL, jM.len_sR, jM.len_fI, jM.len_fL, jM.len_fR]; omega) | (simp [jM.len_nw, jM.len_sI, jM.len_sL, jM.len_sR, jM.len_fI, jM.len_fL, jM.len_fR, *]; omega)) ?_
                exact ⟨by unfold hv; (repeat (first | rw [if_pos (by omega)] | rw [if_neg (by omega)])), rfl⟩))
      · first
        | (exfalso; omega)
        | (first | refine J.aload_n (pc' := 12) rfl rfl rfl ?_ | refine J.aload_nN (pc' := 12) rfl rfl rfl ?_
           refine J.mgR (pc' := 15) (t := 116) B rfl fl_X12_34 rfl rfl (by decide) rfl ?_
           first | refine J.aload_n (pc' := 16) rfl rfl rfl ?_ | refine J.aload_nN (pc' := 16) rfl rfl rfl ?_
           refine J.mgI (pc' := 19) (j := 13) B rfl fl_X12_191 rfl rfl rfl ?_
           try simp (disch := omega) only [jU_o, jU_i, jU_same]
           refine J.mald (pc' := 20) B rfl rfl rfl (by omega) (by simp only [jLn]; omega) rfl ?_
           try simp (disch := omega) only [jU_o, jU_i, jU_same]
           refine J.bipush (pc' := 22) rfl rfl (by decide) ?_
           refine J.icmp_ne (tgt := 38) (pc' := 25) rfl rfl rfl (by first | omega | (exact R.r _ _) | (simp only [jM.len_sI, jM.len_sL, jM.len_sR, jM.len_fI, jM.len_fL, jM.len_fR]; omega) | (simp [jM.len_nw, jM.len_sI, jM.len_sL, jM.len_sR, jM.len_fI, jM.len_fL, jM.len_fR, *]; omega)) (by first | omega | (exact R.r _ _) | (simp only [jM.len_sI, jM.len_sL, jM.len_sR, jM.len_fI, jM.len_fL, jM.len_fR]; omega) | (simp [jM.len_nw, jM.len_sI, jM.len_sL, jM.len_sR, jM.len_fI, jM.len_fL, jM.len_fR, *]; omega)) (fun c22 => ?_) (fun c22 => ?_)
           · first
             | (exfalso; omega)
             | (first | refine J.aload_n (pc' := 39) rfl rfl rfl ?_ | refine J.aload_nN (pc' := 39) rfl rfl rfl ?_
                refine J.mgI (pc' := 42) (j := 13) B rfl fl_X12_191 rfl rfl rfl ?_
                try simp (disch := omega) only [jU_o, jU_i, jU_same]
                first | refine J.aload_n (pc' := 43) rfl rfl rfl ?_ | refine J.aload_nN (pc' := 43) rfl rfl rfl ?_
                refine J.mgI (pc' := 46) (j := 12) B rfl fl_X12_194 rfl rfl rfl ?_
                try simp (disch := omega) only [jU_o, jU_i, jU_same]
                refine J.icmp_ge (tgt := 61) (pc' := 49) rfl rfl rfl (by first | omega | (exact R.r _ _) | (simp only [jM.len_sI, jM.len_sL, jM.len_sR, jM.len_fI, jM.len_fL, jM.len_fR]; omega) | (simp [jM.len_nw, jM.len_sI, jM.len_sL, jM.len_sR, jM.len_fI, jM.len_fL, jM.len_fR, *]; omega)) (by first | omega | (exact R.r _ _) | (simp only [jM.len_sI, jM.len_sL, jM.len_sR, jM.len_fI, jM.len_fL, jM.len_fR]; omega) | (simp [jM.len_nw, jM.len_sI, jM.len_sL, jM.len_sR, jM.len_fI, jM.len_fL, jM.len_fR, *]; omega)) (fun c46 => ?_) (fun c46 => ?_)
                · first
                  | (exfalso; omega)
                  | (refine J.iconst (pc' := 62) rfl rfl ?_
                     refine J.iret rfl rfl (by first | omega | (exact R.r _ _) | (simp only [jM.len_sI, jM.len_sL, jM.len_sR, jM.len_fI, jM.len_fL, jM.len_fR]; omega) | (simp [jM.len_nw, jM.len_sI, jM.len_sL, jM.len_sR, jM.len_fI, jM.len_fL, jM.len_fR, *]; omega)) (by first | omega | (exact R.r _ _) | (simp only [jM.len_sI, jM.len_sL, jM.len_sR, jM.len_fI, jM.len_fL, jM.len_fR]; omega) | (simp [jM.len_nw, jM.len_sI, jM.len_sL, jM.len_sR, jM.len_fI, jM.len_fL, jM.len_fR, *]; omega)) ?_
                     exact ⟨by unfold hv; (repeat (first | rw [if_pos (by omega)] | rw [if_neg (by omega)])), rfl⟩)
                · first
                  | (exfalso; omega)
                  | (first | refine J.aload_n (pc' := 50) rfl rfl rfl ?_ | refine J.aload_nN (pc' := 50) rfl rfl rfl ?_
                     refine J.mgR (pc' := 53) (t := 116) B rfl fl_X12_34 rfl rfl (by decide) rfl ?_
                     first | refine J.aload_n (pc' := 54) rfl rfl rfl ?_ | refine J.aload_nN (pc' := 54) rfl rfl rfl ?_
                     refine J.mgI (pc' := 57) (j := 13) B rfl fl_X12_191 rfl rfl rfl ?_
                     try simp (disch := omega) only [jU_o, jU_i, jU_same]
                     refine J.mald (pc' := 58) B rfl rfl rfl (by omega) (by simp only [jLn]; omega) rfl ?_
                     try simp (disch := omega) only [jU_o, jU_i, jU_same]
                     refine J.goto (tgt := 62) rfl rfl ?_
                     refine J.iret rfl rfl (by first | omega | (exact R.r _ _) | (simp only [jM.len_sI, jM.len_sL, jM.len_sR, jM.len_fI, jM.len_fL, jM.len_fR]; omega) | (simp [jM.len_nw, jM.len_sI, jM.len_sL, jM.len_sR, jM.len_fI, jM.len_fL, jM.len_fR, *]; omega)) (by first | omega | (exact R.r _ _) | (simp only [jM.len_sI, jM.len_sL, jM.len_sR, jM.len_fI, jM.len_fL, jM.len_fR]; omega) | (simp [jM.len_nw, jM.len_sI, jM.len_sL, jM.len_sR, jM.len_fI, jM.len_fL, jM.len_fR, *]; omega)) ?_
                     exact ⟨by unfold hv; (repeat (first | rw [if_pos (by omega)] | rw [if_neg (by omega)])), rfl⟩))
           · first
             | (exfalso; omega)
             | (first | refine J.aload_n (pc' := 26) rfl rfl rfl ?_ | refine J.aload_nN (pc' := 26) rfl rfl rfl ?_
                refine J.dup (pc' := 27) rfl rfl rfl ?_
                refine J.mgI (pc' := 30) (j := 13) B rfl fl_X12_191 rfl rfl rfl ?_
                try simp (disch := omega) only [jU_o, jU_i, jU_same]
                refine J.iconst (pc' := 31) rfl rfl ?_
                refine J.iadd (pc' := 32) rfl rfl ?_
                refine J.mpI (pc' := 35) (j := 13) B rfl fl_X12_191 rfl rfl rfl rfl ?_
                refine J.goto (tgt := 0) rfl rfl ?_
                exfalso
                omega))
    | succ m ih =>
      intro p h0 h1
      by_cases q : V 116 p = 32
      · have h9 := ih (p + 1) (by omega) (by omega)
        rw [← sk_go (by omega) q] at h9
        first | refine J.aload_n (pc' := 1) rfl rfl rfl ?_ | refine J.aload_nN (pc' := 1) rfl rfl rfl ?_
        refine J.mgI (pc' := 4) (j := 13) B rfl fl_X12_191 rfl rfl rfl ?_
        try simp (disch := omega) only [jU_o, jU_i, jU_same]
        first | refine J.aload_n (pc' := 5) rfl rfl rfl ?_ | refine J.aload_nN (pc' := 5) rfl rfl rfl ?_
        refine J.mgI (pc' := 8) (j := 12) B rfl fl_X12_194 rfl rfl rfl ?_
        try simp (disch := omega) only [jU_o, jU_i, jU_same]
        refine J.icmp_ge (tgt := 38) (pc' := 11) rfl rfl rfl (by first | omega | (exact R.r _ _) | (simp only [jM.len_sI, jM.len_sL, jM.len_sR, jM.len_fI, jM.len_fL, jM.len_fR]; omega) | (simp [jM.len_nw, jM.len_sI, jM.len_sL, jM.len_sR, jM.len_fI, jM.len_fL, jM.len_fR, *]; omega)) (by first | omega | (exact R.r _ _) | (simp only [jM.len_sI, jM.len_sL, jM.len_sR, jM.len_fI, jM.len_fL, jM.len_fR]; omega) | (simp [jM.len_nw, jM.len_sI, jM.len_sL, jM.len_sR, jM.len_fI, jM.len_fL, jM.len_fR, *]; omega)) (fun c8 => ?_) (fun c8 => ?_)
        · first
          | (exfalso; omega)
          | (first | refine J.aload_n (pc' := 39) rfl rfl rfl ?_ | refine J.aload_nN (pc' := 39) rfl rfl rfl ?_
             refine J.mgI (pc' := 42) (j := 13) B rfl fl_X12_191 rfl rfl rfl ?_
             try simp (disch := omega) only [jU_o, jU_i, jU_same]
             first | refine J.aload_n (pc' := 43) rfl rfl rfl ?_ | refine J.aload_nN (pc' := 43) rfl rfl rfl ?_
             refine J.mgI (pc' := 46) (j := 12) B rfl fl_X12_194 rfl rfl rfl ?_
             try simp (disch := omega) only [jU_o, jU_i, jU_same]
             refine J.icmp_ge (tgt := 61) (pc' := 49) rfl rfl rfl (by first | omega | (exact R.r _ _) | (simp only [jM.len_sI, jM.len_sL, jM.len_sR, jM.len_fI, jM.len_fL, jM.len_fR]; omega) | (simp [jM.len_nw, jM.len_sI, jM.len_sL, jM.len_sR, jM.len_fI, jM.len_fL, jM.len_fR, *]; omega)) (by first | omega | (exact R.r _ _) | (simp only [jM.len_sI, jM.len_sL, jM.len_sR, jM.len_fI, jM.len_fL, jM.len_fR]; omega) | (simp [jM.len_nw, jM.len_sI, jM.len_sL, jM.len_sR, jM.len_fI, jM.len_fL, jM.len_fR, *]; omega)) (fun c46 => ?_) (fun c46 => ?_)
             · first
               | (exfalso; omega)
               | (refine J.iconst (pc' := 62) rfl rfl ?_
                  refine J.iret rfl rfl (by first | omega | (exact R.r _ _) | (simp only [jM.len_sI, jM.len_sL, jM.len_sR, jM.len_fI, jM.len_fL, jM.len_fR]; omega) | (simp [jM.len_nw, jM.len_sI, jM.len_sL, jM.len_sR, jM.len_fI, jM.len_fL, jM.len_fR, *]; omega)) (by first | omega | (exact R.r _ _) | (simp only [jM.len_sI, jM.len_sL, jM.len_sR, jM.len_fI, jM.len_fL, jM.len_fR]; omega) | (simp [jM.len_nw, jM.len_sI, jM.len_sL, jM.len_sR, jM.len_fI, jM.len_fL, jM.len_fR, *]; omega)) ?_
                  exact ⟨by unfold hv; (repeat (first | rw [if_pos (by omega)] | rw [if_neg (by omega)])), rfl⟩)
             · first
               | (exfalso; omega)
               | (first | refine J.aload_n (pc' := 50) rfl rfl rfl ?_ | refine J.aload_nN (pc' := 50) rfl rfl rfl ?_
                  refine J.mgR (pc' := 53) (t := 116) B rfl fl_X12_34 rfl rfl (by decide) rfl ?_
                  first | refine J.aload_n (pc' := 54) rfl rfl rfl ?_ | refine J.aload_nN (pc' := 54) rfl rfl rfl ?_
                  refine J.mgI (pc' := 57) (j := 13) B rfl fl_X12_191 rfl rfl rfl ?_
                  try simp (disch := omega) only [jU_o, jU_i, jU_same]
                  refine J.mald (pc' := 58) B rfl rfl rfl (by omega) (by simp only [jLn]; omega) rfl ?_
                  try simp (disch := omega) only [jU_o, jU_i, jU_same]
                  refine J.goto (tgt := 62) rfl rfl ?_
                  refine J.iret rfl rfl (by first | omega | (exact R.r _ _) | (simp only [jM.len_sI, jM.len_sL, jM.len_sR, jM.len_fI, jM.len_fL, jM.len_fR]; omega) | (simp [jM.len_nw, jM.len_sI, jM.len_sL, jM.len_sR, jM.len_fI, jM.len_fL, jM.len_fR, *]; omega)) (by first | omega | (exact R.r _ _) | (simp only [jM.len_sI, jM.len_sL, jM.len_sR, jM.len_fI, jM.len_fL, jM.len_fR]; omega) | (simp [jM.len_nw, jM.len_sI, jM.len_sL, jM.len_sR, jM.len_fI, jM.len_fL, jM.len_fR, *]; omega)) ?_
                  exact ⟨by unfold hv; (repeat (first | rw [if_pos (by omega)] | rw [if_neg (by omega)])), rfl⟩))
        · first
          | (exfalso; omega)
          | (first | refine J.aload_n (pc' := 12) rfl rfl rfl ?_ | refine J.aload_nN (pc' := 12) rfl rfl rfl ?_
             refine J.mgR (pc' := 15) (t := 116) B rfl fl_X12_34 rfl rfl (by decide) rfl ?_
             first | refine J.aload_n (pc' := 16) rfl rfl rfl ?_ | refine J.aload_nN (pc' := 16) rfl rfl rfl ?_
             refine J.mgI (pc' := 19) (j := 13) B rfl fl_X12_191 rfl rfl rfl ?_
             try simp (disch := omega) only [jU_o, jU_i, jU_same]
             refine J.mald (pc' := 20) B rfl rfl rfl (by omega) (by simp only [jLn]; omega) rfl ?_
             try simp (disch := omega) only [jU_o, jU_i, jU_same]
             refine J.bipush (pc' := 22) rfl rfl (by decide) ?_
             refine J.icmp_ne (tgt := 38) (pc' := 25) rfl rfl rfl (by first | omega | (exact R.r _ _) | (simp only [jM.len_sI, jM.len_sL, jM.len_sR, jM.len_fI, jM.len_fL, jM.len_fR]; omega) | (simp [jM.len_nw, jM.len_sI, jM.len_sL, jM.len_sR, jM.len_fI, jM.len_fL, jM.len_fR, *]; omega)) (by first | omega | (exact R.r _ _) | (simp only [jM.len_sI, jM.len_sL, jM.len_sR, jM.len_fI, jM.len_fL, jM.len_fR]; omega) | (simp [jM.len_nw, jM.len_sI, jM.len_sL, jM.len_sR, jM.len_fI, jM.len_fL, jM.len_fR, *]; omega)) (fun c22 => ?_) (fun c22 => ?_)
             · first
               | (exfalso; omega)
               | (first | refine J.aload_n (pc' := 39) rfl rfl rfl ?_ | refine J.aload_nN (pc' := 39) rfl rfl rfl ?_
                  refine J.mgI (pc' := 42) (j := 13) B rfl fl_X12_191 rfl rfl rfl ?_
                  try simp (disch := omega) only [jU_o, jU_i, jU_same]
                  first | refine J.aload_n (pc' := 43) rfl rfl rfl ?_ | refine J.aload_nN (pc' := 43) rfl rfl rfl ?_
                  refine J.mgI (pc' := 46) (j := 12) B rfl fl_X12_194 rfl rfl rfl ?_
                  try simp (disch := omega) only [jU_o, jU_i, jU_same]
                  refine J.icmp_ge (tgt := 61) (pc' := 49) rfl rfl rfl (by first | omega | (exact R.r _ _) | (simp only [jM.len_sI, jM.len_sL, jM.len_sR, jM.len_fI, jM.len_fL, jM.len_fR]; omega) | (simp [jM.len_nw, jM.len_sI, jM.len_sL, jM.len_sR, jM.len_fI, jM.len_fL, jM.len_fR, *]; omega)) (by first | omega | (exact R.r _ _) | (simp only [jM.len_sI, jM.len_sL, jM.len_sR, jM.len_fI, jM.len_fL, jM.len_fR]; omega) | (simp [jM.len_nw, jM.len_sI, jM.len_sL, jM.len_sR, jM.len_fI, jM.len_fL, jM.len_fR, *]; omega)) (fun c46 => ?_) (fun c46 => ?_)
                  · first
                    | (exfalso; omega)
                    | (refine J.iconst (pc' := 62) rfl rfl ?_
                       refine J.iret rfl rfl (by first | omega | (exact R.r _ _) | (simp only [jM.len_sI, jM.len_sL, jM.len_sR, jM.len_fI, jM.len_fL, jM.len_fR]; omega) | (simp [jM.len_nw, jM.len_sI, jM.len_sL, jM.len_sR, jM.len_fI, jM.len_fL, jM.len_fR, *]; omega)) (by first | omega | (exact R.r _ _) | (simp only [jM.len_sI, jM.len_sL, jM.len_sR, jM.len_fI, jM.len_fL, jM.len_fR]; omega) | (simp [jM.len_nw, jM.len_sI, jM.len_sL, jM.len_sR, jM.len_fI, jM.len_fL, jM.len_fR, *]; omega)) ?_
                       exact ⟨by unfold hv; (repeat (first | rw [if_pos (by omega)] | rw [if_neg (by omega)])), rfl⟩)
                  · first
                    | (exfalso; omega)
                    | (first | refine J.aload_n (pc' := 50) rfl rfl rfl ?_ | refine J.aload_nN (pc' := 50) rfl rfl rfl ?_
                       refine J.mgR (pc' := 53) (t := 116) B rfl fl_X12_34 rfl rfl (by decide) rfl ?_
                       first | refine J.aload_n (pc' := 54) rfl rfl rfl ?_ | refine J.aload_nN (pc' := 54) rfl rfl rfl ?_
                       refine J.mgI (pc' := 57) (j := 13) B rfl fl_X12_191 rfl rfl rfl ?_
                       try simp (disch := omega) only [jU_o, jU_i, jU_same]
                       refine J.mald (pc' := 58) B rfl rfl rfl (by omega) (by simp only [jLn]; omega) rfl ?_
                       try simp (disch := omega) only [jU_o, jU_i, jU_same]
                       refine J.goto (tgt := 62) rfl rfl ?_
                       refine J.iret rfl rfl (by first | omega | (exact R.r _ _) | (simp only [jM.len_sI, jM.len_sL, jM.len_sR, jM.len_fI, jM.len_fL, jM.len_fR]; omega) | (simp [jM.len_nw, jM.len_sI, jM.len_sL, jM.len_sR, jM.len_fI, jM.len_fL, jM.len_fR, *]; omega)) (by first | omega | (exact R.r _ _) | (simp only [jM.len_sI, jM.len_sL, jM.len_sR, jM.len_fI, jM.len_fL, jM.len_fR]; omega) | (simp [jM.len_nw, jM.len_sI, jM.len_sL, jM.len_sR, jM.len_fI, jM.len_fL, jM.len_fR, *]; omega)) ?_
                       exact ⟨by unfold hv; (repeat (first | rw [if_pos (by omega)] | rw [if_neg (by omega)])), rfl⟩))
             · first
               | (exfalso; omega)
               | (first | refine J.aload_n (pc' := 26) rfl rfl rfl ?_ | refine J.aload_nN (pc' := 26) rfl rfl rfl ?_
                  refine J.dup (pc' := 27) rfl rfl rfl ?_
                  refine J.mgI (pc' := 30) (j := 13) B rfl fl_X12_191 rfl rfl rfl ?_
                  try simp (disch := omega) only [jU_o, jU_i, jU_same]
                  refine J.iconst (pc' := 31) rfl rfl ?_
                  refine J.iadd (pc' := 32) rfl rfl ?_
                  refine J.mpI (pc' := 35) (j := 13) B rfl fl_X12_191 rfl rfl rfl rfl ?_
                  refine J.goto (tgt := 0) rfl rfl ?_
                  rw [jU_jU]
                  exact h9))
      · rw [sk_st (Or.inr q)]
        first | refine J.aload_n (pc' := 1) rfl rfl rfl ?_ | refine J.aload_nN (pc' := 1) rfl rfl rfl ?_
        refine J.mgI (pc' := 4) (j := 13) B rfl fl_X12_191 rfl rfl rfl ?_
        try simp (disch := omega) only [jU_o, jU_i, jU_same]
        first | refine J.aload_n (pc' := 5) rfl rfl rfl ?_ | refine J.aload_nN (pc' := 5) rfl rfl rfl ?_
        refine J.mgI (pc' := 8) (j := 12) B rfl fl_X12_194 rfl rfl rfl ?_
        try simp (disch := omega) only [jU_o, jU_i, jU_same]
        refine J.icmp_ge (tgt := 38) (pc' := 11) rfl rfl rfl (by first | omega | (exact R.r _ _) | (simp only [jM.len_sI, jM.len_sL, jM.len_sR, jM.len_fI, jM.len_fL, jM.len_fR]; omega) | (simp [jM.len_nw, jM.len_sI, jM.len_sL, jM.len_sR, jM.len_fI, jM.len_fL, jM.len_fR, *]; omega)) (by first | omega | (exact R.r _ _) | (simp only [jM.len_sI, jM.len_sL, jM.len_sR, jM.len_fI, jM.len_fL, jM.len_fR]; omega) | (simp [jM.len_nw, jM.len_sI, jM.len_sL, jM.len_sR, jM.len_fI, jM.len_fL, jM.len_fR, *]; omega)) (fun c8 => ?_) (fun c8 => ?_)
        · first
          | (exfalso; omega)
          | (first | refine J.aload_n (pc' := 39) rfl rfl rfl ?_ | refine J.aload_nN (pc' := 39) rfl rfl rfl ?_
             refine J.mgI (pc' := 42) (j := 13) B rfl fl_X12_191 rfl rfl rfl ?_
             try simp (disch := omega) only [jU_o, jU_i, jU_same]
             first | refine J.aload_n (pc' := 43) rfl rfl rfl ?_ | refine J.aload_nN (pc' := 43) rfl rfl rfl ?_
             refine J.mgI (pc' := 46) (j := 12) B rfl fl_X12_194 rfl rfl rfl ?_
             try simp (disch := omega) only [jU_o, jU_i, jU_same]
             refine J.icmp_ge (tgt := 61) (pc' := 49) rfl rfl rfl (by first | omega | (exact R.r _ _) | (simp only [jM.len_sI, jM.len_sL, jM.len_sR, jM.len_fI, jM.len_fL, jM.len_fR]; omega) | (simp [jM.len_nw, jM.len_sI, jM.len_sL, jM.len_sR, jM.len_fI, jM.len_fL, jM.len_fR, *]; omega)) (by first | omega | (exact R.r _ _) | (simp only [jM.len_sI, jM.len_sL, jM.len_sR, jM.len_fI, jM.len_fL, jM.len_fR]; omega) | (simp [jM.len_nw, jM.len_sI, jM.len_sL, jM.len_sR, jM.len_fI, jM.len_fL, jM.len_fR, *]; omega)) (fun c46 => ?_) (fun c46 => ?_)
             · first
               | (exfalso; omega)
               | (refine J.iconst (pc' := 62) rfl rfl ?_
                  refine J.iret rfl rfl (by first | omega | (exact R.r _ _) | (simp only [jM.len_sI, jM.len_sL, jM.len_sR, jM.len_fI, jM.len_fL, jM.len_fR]; omega) | (simp [jM.len_nw, jM.len_sI, jM.len_sL, jM.len_sR, jM.len_fI, jM.len_fL, jM.len_fR, *]; omega)) (by first | omega | (exact R.r _ _) | (simp only [jM.len_sI, jM.len_sL, jM.len_sR, jM.len_fI, jM.len_fL, jM.len_fR]; omega) | (simp [jM.len_nw, jM.len_sI, jM.len_sL, jM.len_sR, jM.len_fI, jM.len_fL, jM.len_fR, *]; omega)) ?_
                  exact ⟨by unfold hv; (repeat (first | rw [if_pos (by omega)] | rw [if_neg (by omega)])), rfl⟩)
             · first
               | (exfalso; omega)
               | (first | refine J.aload_n (pc' := 50) rfl rfl rfl ?_ | refine J.aload_nN (pc' := 50) rfl rfl rfl ?_
                  refine J.mgR (pc' := 53) (t := 116) B rfl fl_X12_34 rfl rfl (by decide) rfl ?_
                  first | refine J.aload_n (pc' := 54) rfl rfl rfl ?_ | refine J.aload_nN (pc' := 54) rfl rfl rfl ?_
                  refine J.mgI (pc' := 57) (j := 13) B rfl fl_X12_191 rfl rfl rfl ?_
                  try simp (disch := omega) only [jU_o, jU_i, jU_same]
                  refine J.mald (pc' := 58) B rfl rfl rfl (by omega) (by simp only [jLn]; omega) rfl ?_
                  try simp (disch := omega) only [jU_o, jU_i, jU_same]
                  refine J.goto (tgt := 62) rfl rfl ?_
                  refine J.iret rfl rfl (by first | omega | (exact R.r _ _) | (simp only [jM.len_sI, jM.len_sL, jM.len_sR, jM.len_fI, jM.len_fL, jM.len_fR]; omega) | (simp [jM.len_nw, jM.len_sI, jM.len_sL, jM.len_sR, jM.len_fI, jM.len_fL, jM.len_fR, *]; omega)) (by first | omega | (exact R.r _ _) | (simp only [jM.len_sI, jM.len_sL, jM.len_sR, jM.len_fI, jM.len_fL, jM.len_fR]; omega) | (simp [jM.len_nw, jM.len_sI, jM.len_sL, jM.len_sR, jM.len_fI, jM.len_fL, jM.len_fR, *]; omega)) ?_
                  exact ⟨by unfold hv; (repeat (first | rw [if_pos (by omega)] | rw [if_neg (by omega)])), rfl⟩))
        · first
          | (exfalso; omega)
          | (first | refine J.aload_n (pc' := 12) rfl rfl rfl ?_ | refine J.aload_nN (pc' := 12) rfl rfl rfl ?_
             refine J.mgR (pc' := 15) (t := 116) B rfl fl_X12_34 rfl rfl (by decide) rfl ?_
             first | refine J.aload_n (pc' := 16) rfl rfl rfl ?_ | refine J.aload_nN (pc' := 16) rfl rfl rfl ?_
             refine J.mgI (pc' := 19) (j := 13) B rfl fl_X12_191 rfl rfl rfl ?_
             try simp (disch := omega) only [jU_o, jU_i, jU_same]
             refine J.mald (pc' := 20) B rfl rfl rfl (by omega) (by simp only [jLn]; omega) rfl ?_
             try simp (disch := omega) only [jU_o, jU_i, jU_same]
             refine J.bipush (pc' := 22) rfl rfl (by decide) ?_
             refine J.icmp_ne (tgt := 38) (pc' := 25) rfl rfl rfl (by first | omega | (exact R.r _ _) | (simp only [jM.len_sI, jM.len_sL, jM.len_sR, jM.len_fI, jM.len_fL, jM.len_fR]; omega) | (simp [jM.len_nw, jM.len_sI, jM.len_sL, jM.len_sR, jM.len_fI, jM.len_fL, jM.len_fR, *]; omega)) (by first | omega | (exact R.r _ _) | (simp only [jM.len_sI, jM.len_sL, jM.len_sR, jM.len_fI, jM.len_fL, jM.len_fR]; omega) | (simp [jM.len_nw, jM.len_sI, jM.len_sL, jM.len_sR, jM.len_fI, jM.len_fL, jM.len_fR, *]; omega)) (fun c22 => ?_) (fun c22 => ?_)
             · first
               | (exfalso; omega)
               | (first | refine J.aload_n (pc' := 39) rfl rfl rfl ?_ | refine J.aload_nN (pc' := 39) rfl rfl rfl ?_
                  refine J.mgI (pc' := 42) (j := 13) B rfl fl_X12_191 rfl rfl rfl ?_
                  try simp (disch := omega) only [jU_o, jU_i, jU_same]
                  first | refine J.aload_n (pc' := 43) rfl rfl rfl ?_ | refine J.aload_nN (pc' := 43) rfl rfl rfl ?_
                  refine J.mgI (pc' := 46) (j := 12) B rfl fl_X12_194 rfl rfl rfl ?_
                  try simp (disch := omega) only [jU_o, jU_i, jU_same]
                  refine J.icmp_ge (tgt := 61) (pc' := 49) rfl rfl rfl (by first | omega | (exact R.r _ _) | (simp only [jM.len_sI, jM.len_sL, jM.len_sR, jM.len_fI, jM.len_fL, jM.len_fR]; omega) | (simp [jM.len_nw, jM.len_sI, jM.len_sL, jM.len_sR, jM.len_fI, jM.len_fL, jM.len_fR, *]; omega)) (by first | omega | (exact R.r _ _) | (simp only [jM.len_sI, jM.len_sL, jM.len_sR, jM.len_fI, jM.len_fL, jM.len_fR]; omega) | (simp [jM.len_nw, jM.len_sI, jM.len_sL, jM.len_sR, jM.len_fI, jM.len_fL, jM.len_fR, *]; omega)) (fun c46 => ?_) (fun c46 => ?_)
                  · first
                    | (exfalso; omega)
                    | (refine J.iconst (pc' := 62) rfl rfl ?_
                       refine J.iret rfl rfl (by first | omega | (exact R.r _ _) | (simp only [jM.len_sI, jM.len_sL, jM.len_sR, jM.len_fI, jM.len_fL, jM.len_fR]; omega) | (simp [jM.len_nw, jM.len_sI, jM.len_sL, jM.len_sR, jM.len_fI, jM.len_fL, jM.len_fR, *]; omega)) (by first | omega | (exact R.r _ _) | (simp only [jM.len_sI, jM.len_sL, jM.len_sR, jM.len_fI, jM.len_fL, jM.len_fR]; omega) | (simp [jM.len_nw, jM.len_sI, jM.len_sL, jM.len_sR, jM.len_fI, jM.len_fL, jM.len_fR, *]; omega)) ?_
                       exact ⟨by unfold hv; (repeat (first | rw [if_pos (by omega)] | rw [if_neg (by omega)])), rfl⟩)
                  · first
                    | (exfalso; omega)
                    | (first | refine J.aload_n (pc' := 50) rfl rfl rfl ?_ | refine J.aload_nN (pc' := 50) rfl rfl rfl ?_
                       refine J.mgR (pc' := 53) (t := 116) B rfl fl_X12_34 rfl rfl (by decide) rfl ?_
                       first | refine J.aload_n (pc' := 54) rfl rfl rfl ?_ | refine J.aload_nN (pc' := 54) rfl rfl rfl ?_
                       refine J.mgI (pc' := 57) (j := 13) B rfl fl_X12_191 rfl rfl rfl ?_
                       try simp (disch := omega) only [jU_o, jU_i, jU_same]
                       refine J.mald (pc' := 58) B rfl rfl rfl (by omega) (by simp only [jLn]; omega) rfl ?_
                       try simp (disch := omega) only [jU_o, jU_i, jU_same]
                       refine J.goto (tgt := 62) rfl rfl ?_
                       refine J.iret rfl rfl (by first | omega | (exact R.r _ _) | (simp only [jM.len_sI, jM.len_sL, jM.len_sR, jM.len_fI, jM.len_fL, jM.len_fR]; omega) | (simp [jM.len_nw, jM.len_sI, jM.len_sL, jM.len_sR, jM.len_fI, jM.len_fL, jM.len_fR, *]; omega)) (by first | omega | (exact R.r _ _) | (simp only [jM.len_sI, jM.len_sL, jM.len_sR, jM.len_fI, jM.len_fL, jM.len_fR]; omega) | (simp [jM.len_nw, jM.len_sI, jM.len_sL, jM.len_sR, jM.len_fI, jM.len_fL, jM.len_fR, *]; omega)) ?_
                       exact ⟨by unfold hv; (repeat (first | rw [if_pos (by omega)] | rw [if_neg (by omega)])), rfl⟩))
             · first
               | (exfalso; omega)
               | (first | refine J.aload_n (pc' := 26) rfl rfl rfl ?_ | refine J.aload_nN (pc' := 26) rfl rfl rfl ?_
                  refine J.dup (pc' := 27) rfl rfl rfl ?_
                  refine J.mgI (pc' := 30) (j := 13) B rfl fl_X12_191 rfl rfl rfl ?_
                  try simp (disch := omega) only [jU_o, jU_i, jU_same]
                  refine J.iconst (pc' := 31) rfl rfl ?_
                  refine J.iadd (pc' := 32) rfl rfl ?_
                  refine J.mpI (pc' := 35) (j := 13) B rfl fl_X12_191 rfl rfl rfl rfl ?_
                  refine J.goto (tgt := 0) rfl rfl ?_
                  exfalso
                  omega))
  have h9 := key (V 16 12 - V 16 13).toNat (V 16 13) (by omega) (by omega)
  rw [jU_id V rfl] at h9
  exact h9
theorem cm_pass (B : isB β) (R : isR V) (hp : V 16 13 ≤ V 16 12) : CT γ mX12_pass 1 0 0 [.ref (β.2 16)] (jP β V) (fun r h' => r = none ∧ h' = jP β (jU V 16 13 (we (V 116) (V 16 12) (V 16 13)))) X0 := by
  have hf := R.f
  refine CT.of MX12_pass (Nat.le_of_ble_eq_true rfl) ?_
  show J γ mX12_pass 1 0 0 0 0 (jP β V) 0 [(0, .ref (β.2 16))] [] _ _
  have key : ∀ (m : Nat) (p : Int), 0 ≤ p → p + m = V 16 12 → J γ mX12_pass 1 0 0 0 0 (jP β (jU V 16 13 p)) 0 [(0, .ref (β.2 16))] [] (fun r h' => r = none ∧ h' = jP β (jU V 16 13 (we (V 116) (V 16 12) p))) X0 := by
    intro m
    induction m with
    | zero =>
      intro p h0 h1
      rw [we_st (Or.inl (by omega))]
      first | refine J.aload_n (pc' := 1) rfl rfl rfl ?_ | refine J.aload_nN (pc' := 1) rfl rfl rfl ?_
      refine J.mgI (pc' := 4) (j := 13) B rfl fl_X12_191 rfl rfl rfl ?_
      try simp (disch := omega) only [jU_o, jU_i, jU_same]
      first | refine J.aload_n (pc' := 5) rfl rfl rfl ?_ | refine J.aload_nN (pc' := 5) rfl rfl rfl ?_
      refine J.mgI (pc' := 8) (j := 12) B rfl fl_X12_194 rfl rfl rfl ?_
      try simp (disch := omega) only [jU_o, jU_i, jU_same]
      refine J.icmp_ge (tgt := 39) (pc' := 11) rfl rfl rfl (by first | omega | (exact R.r _ _) | (simp only [jM.len_sI, jM.len_sL, jM.len_sR, jM.len_fI, jM.len_fL, jM.len_fR]; omega) | (simp [jM.len_nw, jM.len_sI, jM.len_sL, jM.len_sR, jM.len_fI, jM.len_fL, jM.len_fR, *]; omega)) (by first | omega | (exact R.r _ _) | (simp only [jM.len_sI, jM.len_sL, jM.len_sR, jM.len_fI, jM.len_fL, jM.len_fR]; omega) | (simp [jM.len_nw, jM.len_sI, jM.len_sL, jM.len_sR, jM.len_fI, jM.len_fL, jM.len_fR, *]; omega)) (fun c8 => ?_) (fun c8 => ?_)
      · first
        | (exfalso; omega)
        | (refine J.vret rfl rfl (by first | omega | (exact R.r _ _) | (simp only [jM.len_sI, jM.len_sL, jM.len_sR, jM.len_fI, jM.len_fL, jM.len_fR]; omega) | (simp [jM.len_nw, jM.len_sI, jM.len_sL, jM.len_sR, jM.len_fI, jM.len_fL, jM.len_fR, *]; omega)) (by first | omega | (exact R.r _ _) | (simp only [jM.len_sI, jM.len_sL, jM.len_sR, jM.len_fI, jM.len_fL, jM.len_fR]; omega) | (simp [jM.len_nw, jM.len_sI, jM.len_sL, jM.len_sR, jM.len_fI, jM.len_fL, jM.len_fR, *]; omega)) ?_
           exact ⟨rfl, rfl⟩)
      · first
        | (exfalso; omega)
        | (first | refine J.aload_n (pc' := 12) rfl rfl rfl ?_ | refine J.aload_nN (pc' := 12) rfl rfl rfl ?_
           refine J.mgR (pc' := 15) (t := 116) B rfl fl_X12_34 rfl rfl (by decide) rfl ?_
           first | refine J.aload_n (pc' := 16) rfl rfl rfl ?_ | refine J.aload_nN (pc' := 16) rfl rfl rfl ?_
           refine J.mgI (pc' := 19) (j := 13) B rfl fl_X12_191 rfl rfl rfl ?_
           try simp (disch := omega) only [jU_o, jU_i, jU_same]
           refine J.mald (pc' := 20) B rfl rfl rfl (by omega) (by simp only [jLn]; omega) rfl ?_
           try simp (disch := omega) only [jU_o, jU_i, jU_same]
           refine J.callS (pc' := 23) rfl MX12_isSmall ml_X12_201 is_X12_isSmall (cm_isSmall (R.r _ _)) rfl rfl (Nat.le_of_ble_eq_true rfl) (by first | omega | (exact R.r _ _) | (simp only [jM.len_sI, jM.len_sL, jM.len_sR, jM.len_fI, jM.len_fL, jM.len_fR]; omega) | (simp [jM.len_nw, jM.len_sI, jM.len_sL, jM.len_sR, jM.len_fI, jM.len_fL, jM.len_fR, *]; omega)) (by first | omega | (exact R.r _ _) | (simp only [jM.len_sI, jM.len_sL, jM.len_sR, jM.len_fI, jM.len_fL, jM.len_fR]; omega) | (simp [jM.len_nw, jM.len_sI, jM.len_sL, jM.len_sR, jM.len_fI, jM.len_fL, jM.len_fR, *]; omega)) (by first | omega | (exact R.r _ _) | (simp only [jM.len_sI, jM.len_sL, jM.len_sR, jM.len_fI, jM.len_fL, jM.len_fR]; omega) | (simp [jM.len_nw, jM.len_sI, jM.len_sL, jM.len_sR, jM.len_fI, jM.len_fL, jM.len_fR, *]; omega)) rfl rfl ?_ ?_
           · exact fun _ _ h => h
           rintro _ _ ⟨rfl, rfl⟩
           refine J.if_eq (tgt := 39) (pc' := 26) rfl rfl rfl (by first | omega | (exact R.r _ _) | (simp only [jM.len_sI, jM.len_sL, jM.len_sR, jM.len_fI, jM.len_fL, jM.len_fR]; omega) | (simp [jM.len_nw, jM.len_sI, jM.len_sL, jM.len_sR, jM.len_fI, jM.len_fL, jM.len_fR, *]; omega)) (fun c23 => ?_) (fun c23 => ?_)
           · first
             | (exfalso; omega)
             | (refine J.vret rfl rfl (by first | omega | (exact R.r _ _) | (simp only [jM.len_sI, jM.len_sL, jM.len_sR, jM.len_fI, jM.len_fL, jM.len_fR]; omega) | (simp [jM.len_nw, jM.len_sI, jM.len_sL, jM.len_sR, jM.len_fI, jM.len_fL, jM.len_fR, *]; omega)) (by first | omega | (exact R.r _ _) | (simp only [jM.len_sI, jM.len_sL, jM.len_sR, jM.len_fI, jM.len_fL, jM.len_fR]; omega) | (simp [jM.len_nw, jM.len_sI, jM.len_sL, jM.len_sR, jM.len_fI, jM.len_fL, jM.len_fR, *]; omega)) ?_
                exact ⟨rfl, rfl⟩)
           · first
             | (exfalso; omega)
             | (first | refine J.aload_n (pc' := 27) rfl rfl rfl ?_ | refine J.aload_nN (pc' := 27) rfl rfl rfl ?_
                refine J.dup (pc' := 28) rfl rfl rfl ?_
                refine J.mgI (pc' := 31) (j := 13) B rfl fl_X12_191 rfl rfl rfl ?_
                try simp (disch := omega) only [jU_o, jU_i, jU_same]
                refine J.iconst (pc' := 32) rfl rfl ?_
                refine J.iadd (pc' := 33) rfl rfl ?_
                refine J.mpI (pc' := 36) (j := 13) B rfl fl_X12_191 rfl rfl rfl rfl ?_
                refine J.goto (tgt := 0) rfl rfl ?_
                exfalso
                omega))
    | succ m ih =>
      intro p h0 h1
      by_cases q : 97 ≤ V 116 p ∧ V 116 p ≤ 122
      · have h9 := ih (p + 1) (by omega) (by omega)
        rw [← we_go (by omega) q] at h9
        first | refine J.aload_n (pc' := 1) rfl rfl rfl ?_ | refine J.aload_nN (pc' := 1) rfl rfl rfl ?_
        refine J.mgI (pc' := 4) (j := 13) B rfl fl_X12_191 rfl rfl rfl ?_
        try simp (disch := omega) only [jU_o, jU_i, jU_same]
        first | refine J.aload_n (pc' := 5) rfl rfl rfl ?_ | refine J.aload_nN (pc' := 5) rfl rfl rfl ?_
        refine J.mgI (pc' := 8) (j := 12) B rfl fl_X12_194 rfl rfl rfl ?_
        try simp (disch := omega) only [jU_o, jU_i, jU_same]
        refine J.icmp_ge (tgt := 39) (pc' := 11) rfl rfl rfl (by first | omega | (exact R.r _ _) | (simp only [jM.len_sI, jM.len_sL, jM.len_sR, jM.len_fI, jM.len_fL, jM.len_fR]; omega) | (simp [jM.len_nw, jM.len_sI, jM.len_sL, jM.len_sR, jM.len_fI, jM.len_fL, jM.len_fR, *]; omega)) (by first | omega | (exact R.r _ _) | (simp only [jM.len_sI, jM.len_sL, jM.len_sR, jM.len_fI, jM.len_fL, jM.len_fR]; omega) | (simp [jM.len_nw, jM.len_sI, jM.len_sL, jM.len_sR, jM.len_fI, jM.len_fL, jM.len_fR, *]; omega)) (fun c8 => ?_) (fun c8 => ?_)
        · first
          | (exfalso; omega)
          | (refine J.vret rfl rfl (by first | omega | (exact R.r _ _) | (simp only [jM.len_sI, jM.len_sL, jM.len_sR, jM.len_fI, jM.len_fL, jM.len_fR]; omega) | (simp [jM.len_nw, jM.len_sI, jM.len_sL, jM.len_sR, jM.len_fI, jM.len_fL, jM.len_fR, *]; omega)) (by first | omega | (exact R.r _ _) | (simp only [jM.len_sI, jM.len_sL, jM.len_sR, jM.len_fI, jM.len_fL, jM.len_fR]; omega) | (simp [jM.len_nw, jM.len_sI, jM.len_sL, jM.len_sR, jM.len_fI, jM.len_fL, jM.len_fR, *]; omega)) ?_
             exact ⟨rfl, rfl⟩)
        · first
          | (exfalso; omega)
          | (first | refine J.aload_n (pc' := 12) rfl rfl rfl ?_ | refine J.aload_nN (pc' := 12) rfl rfl rfl ?_
             refine J.mgR (pc' := 15) (t := 116) B rfl fl_X12_34 rfl rfl (by decide) rfl ?_
             first | refine J.aload_n (pc' := 16) rfl rfl rfl ?_ | refine J.aload_nN (pc' := 16) rfl rfl rfl ?_
             refine J.mgI (pc' := 19) (j := 13) B rfl fl_X12_191 rfl rfl rfl ?_
             try simp (disch := omega) only [jU_o, jU_i, jU_same]
             refine J.mald (pc' := 20) B rfl rfl rfl (by omega) (by simp only [jLn]; omega) rfl ?_
             try simp (disch := omega) only [jU_o, jU_i, jU_same]
             refine J.callS (pc' := 23) rfl MX12_isSmall ml_X12_201 is_X12_isSmall (cm_isSmall (R.r _ _)) rfl rfl (Nat.le_of_ble_eq_true rfl) (by first | omega | (exact R.r _ _) | (simp only [jM.len_sI, jM.len_sL, jM.len_sR, jM.len_fI, jM.len_fL, jM.len_fR]; omega) | (simp [jM.len_nw, jM.len_sI, jM.len_sL, jM.len_sR, jM.len_fI, jM.len_fL, jM.len_fR, *]; omega)) (by first | omega | (exact R.r _ _) | (simp only [jM.len_sI, jM.len_sL, jM.len_sR, jM.len_fI, jM.len_fL, jM.len_fR]; omega) | (simp [jM.len_nw, jM.len_sI, jM.len_sL, jM.len_sR, jM.len_fI, jM.len_fL, jM.len_fR, *]; omega)) (by first | omega | (exact R.r _ _) | (simp only [jM.len_sI, jM.len_sL, jM.len_sR, jM.len_fI, jM.len_fL, jM.len_fR]; omega) | (simp [jM.len_nw, jM.len_sI, jM.len_sL, jM.len_sR, jM.len_fI, jM.len_fL, jM.len_fR, *]; omega)) rfl rfl ?_ ?_
             · exact fun _ _ h => h
             rintro _ _ ⟨rfl, rfl⟩
             rw [if_pos q]
             refine J.if_eq (tgt := 39) (pc' := 26) rfl rfl rfl (by first | omega | (exact R.r _ _) | (simp only [jM.len_sI, jM.len_sL, jM.len_sR, jM.len_fI, jM.len_fL, jM.len_fR]; omega) | (simp [jM.len_nw, jM.len_sI, jM.len_sL, jM.len_sR, jM.len_fI, jM.len_fL, jM.len_fR, *]; omega)) (fun c23 => ?_) (fun c23 => ?_)
             · first
               | (exfalso; omega)
               | (refine J.vret rfl rfl (by first | omega | (exact R.r _ _) | (simp only [jM.len_sI, jM.len_sL, jM.len_sR, jM.len_fI, jM.len_fL, jM.len_fR]; omega) | (simp [jM.len_nw, jM.len_sI, jM.len_sL, jM.len_sR, jM.len_fI, jM.len_fL, jM.len_fR, *]; omega)) (by first | omega | (exact R.r _ _) | (simp only [jM.len_sI, jM.len_sL, jM.len_sR, jM.len_fI, jM.len_fL, jM.len_fR]; omega) | (simp [jM.len_nw, jM.len_sI, jM.len_sL, jM.len_sR, jM.len_fI, jM.len_fL, jM.len_fR, *]; omega)) ?_
                  exact ⟨rfl, rfl⟩)
             · first
               | (exfalso; omega)
               | (first | refine J.aload_n (pc' := 27) rfl rfl rfl ?_ | refine J.aload_nN (pc' := 27) rfl rfl rfl ?_
                  refine J.dup (pc' := 28) rfl rfl rfl ?_
                  refine J.mgI (pc' := 31) (j := 13) B rfl fl_X12_191 rfl rfl rfl ?_
                  try simp (disch := omega) only [jU_o, jU_i, jU_same]
                  refine J.iconst (pc' := 32) rfl rfl ?_
                  refine J.iadd (pc' := 33) rfl rfl ?_
                  refine J.mpI (pc' := 36) (j := 13) B rfl fl_X12_191 rfl rfl rfl rfl ?_
                  refine J.goto (tgt := 0) rfl rfl ?_
                  rw [jU_jU]
                  exact h9))
      · rw [we_st (Or.inr q)]
        first | refine J.aload_n (pc' := 1) rfl rfl rfl ?_ | refine J.aload_nN (pc' := 1) rfl rfl rfl ?_
        refine J.mgI (pc' := 4) (j := 13) B rfl fl_X12_191 rfl rfl rfl ?_
        try simp (disch := omega) only [jU_o, jU_i, jU_same]
        first | refine J.aload_n (pc' := 5) rfl rfl rfl ?_ | refine J.aload_nN (pc' := 5) rfl rfl rfl ?_
        refine J.mgI (pc' := 8) (j := 12) B rfl fl_X12_194 rfl rfl rfl ?_
        try simp (disch := omega) only [jU_o, jU_i, jU_same]
        refine J.icmp_ge (tgt := 39) (pc' := 11) rfl rfl rfl (by first | omega | (exact R.r _ _) | (simp only [jM.len_sI, jM.len_sL, jM.len_sR, jM.len_fI, jM.len_fL, jM.len_fR]; omega) | (simp [jM.len_nw, jM.len_sI, jM.len_sL, jM.len_sR, jM.len_fI, jM.len_fL, jM.len_fR, *]; omega)) (by first | omega | (exact R.r _ _) | (simp only [jM.len_sI, jM.len_sL, jM.len_sR, jM.len_fI, jM.len_fL, jM.len_fR]; omega) | (simp [jM.len_nw, jM.len_sI, jM.len_sL, jM.len_sR, jM.len_fI, jM.len_fL, jM.len_fR, *]; omega)) (fun c8 => ?_) (fun c8 => ?_)
        · first
          | (exfalso; omega)
          | (refine J.vret rfl rfl (by first | omega | (exact R.r _ _) | (simp only [jM.len_sI, jM.len_sL, jM.len_sR, jM.len_fI, jM.len_fL, jM.len_fR]; omega) | (simp [jM.len_nw, jM.len_sI, jM.len_sL, jM.len_sR, jM.len_fI, jM.len_fL, jM.len_fR, *]; omega)) (by first | omega | (exact R.r _ _) | (simp only [jM.len_sI, jM.len_sL, jM.len_sR, jM.len_fI, jM.len_fL, jM.len_fR]; omega) | (simp [jM.len_nw, jM.len_sI, jM.len_sL, jM.len_sR, jM.len_fI, jM.len_fL, jM.len_fR, *]; omega)) ?_
             exact ⟨rfl, rfl⟩)
        · first
          | (exfalso; omega)
          | (first | refine J.aload_n (pc' := 12) rfl rfl rfl ?_ | refine J.aload_nN (pc' := 12) rfl rfl rfl ?_
             refine J.mgR (pc' := 15) (t := 116) B rfl fl_X12_34 rfl rfl (by decide) rfl ?_
             first | refine J.aload_n (pc' := 16) rfl rfl rfl ?_ | refine J.aload_nN (pc' := 16) rfl rfl rfl ?_
             refine J.mgI (pc' := 19) (j := 13) B rfl fl_X12_191 rfl rfl rfl ?_
             try simp (disch := omega) only [jU_o, jU_i, jU_same]
             refine J.mald (pc' := 20) B rfl rfl rfl (by omega) (by simp only [jLn]; omega) rfl ?_
             try simp (disch := omega) only [jU_o, jU_i, jU_same]
             refine J.callS (pc' := 23) rfl MX12_isSmall ml_X12_201 is_X12_isSmall (cm_isSmall (R.r _ _)) rfl rfl (Nat.le_of_ble_eq_true rfl) (by first | omega | (exact R.r _ _) | (simp only [jM.len_sI, jM.len_sL, jM.len_sR, jM.len_fI, jM.len_fL, jM.len_fR]; omega) | (simp [jM.len_nw, jM.len_sI, jM.len_sL, jM.len_sR, jM.len_fI, jM.len_fL, jM.len_fR, *]; omega)) (by first | omega | (exact R.r _ _) | (simp only [jM.len_sI, jM.len_sL, jM.len_sR, jM.len_fI, jM.len_fL, jM.len_fR]; omega) | (simp [jM.len_nw, jM.len_sI, jM.len_sL, jM.len_sR, jM.len_fI, jM.len_fL, jM.len_fR, *]; omega)) (by first | omega | (exact R.r _ _) | (simp only [jM.len_sI, jM.len_sL, jM.len_sR, jM.len_fI, jM.len_fL, jM.len_fR]; omega) | (simp [jM.len_nw, jM.len_sI, jM.len_sL, jM.len_sR, jM.len_fI, jM.len_fL, jM.len_fR, *]; omega)) rfl rfl ?_ ?_
             · exact fun _ _ h => h
             rintro _ _ ⟨rfl, rfl⟩
             rw [if_neg q]
             refine J.if_eq (tgt := 39) (pc' := 26) rfl rfl rfl (by first | omega | (exact R.r _ _) | (simp only [jM.len_sI, jM.len_sL, jM.len_sR, jM.len_fI, jM.len_fL, jM.len_fR]; omega) | (simp [jM.len_nw, jM.len_sI, jM.len_sL, jM.len_sR, jM.len_fI, jM.len_fL, jM.len_fR, *]; omega)) (fun c23 => ?_) (fun c23 => ?_)
             · first
               | (exfalso; omega)
               | (refine J.vret rfl rfl (by first | omega | (exact R.r _ _) | (simp only [jM.len_sI, jM.len_sL, jM.len_sR, jM.len_fI, jM.len_fL, jM.len_fR]; omega) | (simp [jM.len_nw, jM.len_sI, jM.len_sL, jM.len_sR, jM.len_fI, jM.len_fL, jM.len_fR, *]; omega)) (by first | omega | (exact R.r _ _) | (simp only [jM.len_sI, jM.len_sL, jM.len_sR, jM.len_fI, jM.len_fL, jM.len_fR]; omega) | (simp [jM.len_nw, jM.len_sI, jM.len_sL, jM.len_sR, jM.len_fI, jM.len_fL, jM.len_fR, *]; omega)) ?_
                  exact ⟨rfl, rfl⟩)
             · first
               | (exfalso; omega)
               | (first | refine J.aload_n (pc' := 27) rfl rfl rfl ?_ | refine J.aload_nN (pc' := 27) rfl rfl rfl ?_
                  refine J.dup (pc' := 28) rfl rfl rfl ?_
                  refine J.mgI (pc' := 31) (j := 13) B rfl fl_X12_191 rfl rfl rfl ?_
                  try simp (disch := omega) only [jU_o, jU_i, jU_same]
                  refine J.iconst (pc' := 32) rfl rfl ?_
                  refine J.iadd (pc' := 33) rfl rfl ?_
                  refine J.mpI (pc' := 36) (j := 13) B rfl fl_X12_191 rfl rfl rfl rfl ?_
                  refine J.goto (tgt := 0) rfl rfl ?_
                  exfalso
                  omega))
  have h9 := key (V 16 12 - V 16 13).toNat (V 16 13) (by omega) (by omega)
  rw [jU_id V rfl] at h9
  exact h9
theorem wc_b {T : Int → Int} {p : Int} : ∀ k : Nat, k ≤ 5 → (∀ i : Nat, i < k → 97 ≤ T (p + i) ∧ T (p + i) ≤ 122) → 0 ≤ wc T p k ∧ wc T p k < 256 ^ k := by
  intro k
  induction k with
  | zero => intro _ _; simp [wc]
  | succ k ih =>
    intro h1 h2
    obtain ⟨a, b⟩ := ih (by omega) (fun i hi => h2 i (by omega))
    have c := h2 k (by omega)
    rw [wc, Int.pow_succ]
    omega
theorem cm_word (B : isB β) (R : isR V) (hp : V 16 13 ≤ V 16 12) : CT γ mX12_word 1 0 0 [.ref (β.2 16)] (jP β V) (fun r h' => r = some (.long (jL (wcode (V 116) (V 16 12) (sk (V 116) (V 16 12) (V 16 13))))) ∧ h' = jP β (jU V 16 13 (sk (V 116) (V 16 12) (V 16 13)))) X0 := by
  have hf := R.f
  refine CT.of MX12_word (Nat.le_of_ble_eq_true rfl) ?_
  show J γ mX12_word 1 0 0 0 0 (jP β V) 0 [(0, .ref (β.2 16))] [] _ _
  first | refine J.aload_n (pc' := 1) rfl rfl rfl ?_ | refine J.aload_nN (pc' := 1) rfl rfl rfl ?_
  refine J.callV (pc' := 4) (t := 16) rfl MX12_here ml_X12_197 iv_X12_here (by decide) ⟨_, rfl, rfl⟩ B.1 (cm_here B R hp) rfl rfl (Nat.le_of_ble_eq_true rfl) (by first | omega | (exact R.r _ _) | (simp only [jM.len_sI, jM.len_sL, jM.len_sR, jM.len_fI, jM.len_fL, jM.len_fR]; omega) | (simp [jM.len_nw, jM.len_sI, jM.len_sL, jM.len_sR, jM.len_fI, jM.len_fL, jM.len_fR, *]; omega)) (by first | omega | (exact R.r _ _) | (simp only [jM.len_sI, jM.len_sL, jM.len_sR, jM.len_fI, jM.len_fL, jM.len_fR]; omega) | (simp [jM.len_nw, jM.len_sI, jM.len_sL, jM.len_sR, jM.len_fI, jM.len_fL, jM.len_fR, *]; omega)) (by first | omega | (exact R.r _ _) | (simp only [jM.len_sI, jM.len_sL, jM.len_sR, jM.len_fI, jM.len_fL, jM.len_fR]; omega) | (simp [jM.len_nw, jM.len_sI, jM.len_sL, jM.len_sR, jM.len_fI, jM.len_fL, jM.len_fR, *]; omega)) rfl rfl ?_ ?_
  · exact fun _ _ h => h
  rintro _ _ ⟨rfl, rfl⟩
  have sb := sk_b (T := V 116) hp
  generalize sk (V 116) (V 16 12) (V 16 13) = s at sb ⊢
  refine J.pop (pc' := 5) rfl rfl rfl ?_
  refine J.lconst (pc' := 6) rfl rfl ?_
  refine J.lstore_n (pc' := 7) rfl rfl (by decide) ?_
  refine J.iconst (pc' := 8) rfl rfl ?_
  refine J.istore_n (pc' := 9) rfl rfl (by decide) ?_
  first | refine J.aload_n (pc' := 10) rfl rfl rfl ?_ | refine J.aload_nN (pc' := 10) rfl rfl rfl ?_
  refine J.mgI (pc' := 13) (j := 13) B rfl fl_X12_191 rfl rfl rfl ?_
  rw [jU_same]
  refine J.istore (pc' := 15) rfl rfl (by decide) ?_
  have wb := we_b (T := V 116) (n := V 16 12) (p := s) sb.2.1
  obtain ⟨v, hv⟩ : ∃ v : Nat → Int, v = fun j => if j ≤ 5 then wc (V 116) s j else 0 := ⟨_, rfl⟩
  have fin : ∀ j : Nat, s + j = we (V 116) (V 16 12) s → ∀ k, J γ mX12_word 1 0 0 0 0 (jP β (jU V 16 13 s)) 69 [(0, .ref (β.2 16)), (1, .long (jL (v j))), (3, .int (jI (j : Int))), (4, .int (jI k))] [] (fun r h' => r = some (.long (jL (wcode (V 116) (V 16 12) s))) ∧ h' = jP β (jU V 16 13 s)) X0 := by
    intro j hj k
    have e : wcode (V 116) (V 16 12) s = v j := by
      unfold wcode
      rw [hv, ← hj, show (s + (j : Int) - s) = (j : Int) by omega]
      show (if (j : Int) ≤ 5 then _ else _) = if j ≤ 5 then _ else _
      by_cases q : j ≤ 5
      · rw [if_pos (by omega), if_pos q, Int.toNat_natCast]
      · rw [if_neg (by omega), if_neg q]
    rw [e]
    refine J.iload_n (pc' := 70) rfl rfl rfl ?_
    refine J.iconst (pc' := 71) rfl rfl ?_
    refine J.icmp_le (tgt := 78) (pc' := 74) rfl rfl rfl (by first | omega | (exact R.r _ _) | (simp only [jM.len_sI, jM.len_sL, jM.len_sR, jM.len_fI, jM.len_fL, jM.len_fR]; omega) | (simp [jM.len_nw, jM.len_sI, jM.len_sL, jM.len_sR, jM.len_fI, jM.len_fL, jM.len_fR, *]; omega)) (by first | omega | (exact R.r _ _) | (simp only [jM.len_sI, jM.len_sL, jM.len_sR, jM.len_fI, jM.len_fL, jM.len_fR]; omega) | (simp [jM.len_nw, jM.len_sI, jM.len_sL, jM.len_sR, jM.len_fI, jM.len_fL, jM.len_fR, *]; omega)) (fun c71 => ?_) (fun c71 => ?_)
    · first
      | (exfalso; omega)
      | (refine J.lload_n (pc' := 79) rfl rfl rfl ?_
         refine J.lret rfl rfl (by first | omega | (exact R.r _ _) | (simp only [jM.len_sI, jM.len_sL, jM.len_sR, jM.len_fI, jM.len_fL, jM.len_fR]; omega) | (simp [jM.len_nw, jM.len_sI, jM.len_sL, jM.len_sR, jM.len_fI, jM.len_fL, jM.len_fR, *]; omega)) (by first | omega | (exact R.r _ _) | (simp only [jM.len_sI, jM.len_sL, jM.len_sR, jM.len_fI, jM.len_fL, jM.len_fR]; omega) | (simp [jM.len_nw, jM.len_sI, jM.len_sL, jM.len_sR, jM.len_fI, jM.len_fL, jM.len_fR, *]; omega)) ?_
         exact ⟨by first | rfl | (rw [hv]; simp only; rw [if_neg (by omega)]; rfl), rfl⟩)
    · first
      | (exfalso; omega)
      | (refine J.lconst (pc' := 75) rfl rfl ?_
         refine J.goto (tgt := 79) rfl rfl ?_
         refine J.lret rfl rfl (by first | omega | (exact R.r _ _) | (simp only [jM.len_sI, jM.len_sL, jM.len_sR, jM.len_fI, jM.len_fL, jM.len_fR]; omega) | (simp [jM.len_nw, jM.len_sI, jM.len_sL, jM.len_sR, jM.len_fI, jM.len_fL, jM.len_fR, *]; omega)) (by first | omega | (exact R.r _ _) | (simp only [jM.len_sI, jM.len_sL, jM.len_sR, jM.len_fI, jM.len_fL, jM.len_fR]; omega) | (simp [jM.len_nw, jM.len_sI, jM.len_sL, jM.len_sR, jM.len_fI, jM.len_fL, jM.len_fR, *]; omega)) ?_
         exact ⟨by first | rfl | (rw [hv]; simp only; rw [if_neg (by omega)]; rfl), rfl⟩)
  have key : ∀ (m j : Nat), s + j + m = we (V 116) (V 16 12) s → J γ mX12_word 1 0 0 0 0 (jP β (jU V 16 13 s)) 15 [(0, .ref (β.2 16)), (1, .long (jL (v j))), (3, .int (jI (j : Int))), (4, .int (jI (s + j)))] [] (fun r h' => r = some (.long (jL (wcode (V 116) (V 16 12) s))) ∧ h' = jP β (jU V 16 13 s)) X0 := by
    intro m
    induction m with
    | zero =>
      intro j hj
      refine J.iload (pc' := 17) rfl rfl rfl ?_
      first | refine J.aload_n (pc' := 18) rfl rfl rfl ?_ | refine J.aload_nN (pc' := 18) rfl rfl rfl ?_
      refine J.mgI (pc' := 21) (j := 12) B rfl fl_X12_194 rfl rfl rfl ?_
      rw [jU_i _ (by decide)]
      refine J.icmp_ge (tgt := 69) (pc' := 24) rfl rfl rfl (by first | omega | (exact R.r _ _) | (simp only [jM.len_sI, jM.len_sL, jM.len_sR, jM.len_fI, jM.len_fL, jM.len_fR]; omega) | (simp [jM.len_nw, jM.len_sI, jM.len_sL, jM.len_sR, jM.len_fI, jM.len_fL, jM.len_fR, *]; omega)) (by first | omega | (exact R.r _ _) | (simp only [jM.len_sI, jM.len_sL, jM.len_sR, jM.len_fI, jM.len_fL, jM.len_fR]; omega) | (simp [jM.len_nw, jM.len_sI, jM.len_sL, jM.len_sR, jM.len_fI, jM.len_fL, jM.len_fR, *]; omega)) (fun c1 => ?_) (fun c1 => ?_)
      · exact fin j (by omega) _
      · first | refine J.aload_n (pc' := 25) rfl rfl rfl ?_ | refine J.aload_nN (pc' := 25) rfl rfl rfl ?_
        refine J.mgR (pc' := 28) (t := 116) B rfl fl_X12_34 rfl rfl (by decide) rfl ?_
        refine J.iload (pc' := 30) rfl rfl rfl ?_
        refine J.mald (pc' := 31) B rfl rfl rfl (by omega) (by simp only [jLn]; omega) rfl ?_
        rw [jU_o _ (by decide)]
        refine J.callS (pc' := 34) rfl MX12_isSmall ml_X12_201 is_X12_isSmall (cm_isSmall (R.r _ _)) rfl rfl (Nat.le_of_ble_eq_true rfl) (by first | omega | (exact R.r _ _) | (simp only [jM.len_sI, jM.len_sL, jM.len_sR, jM.len_fI, jM.len_fL, jM.len_fR]; omega) | (simp [jM.len_nw, jM.len_sI, jM.len_sL, jM.len_sR, jM.len_fI, jM.len_fL, jM.len_fR, *]; omega)) (by first | omega | (exact R.r _ _) | (simp only [jM.len_sI, jM.len_sL, jM.len_sR, jM.len_fI, jM.len_fL, jM.len_fR]; omega) | (simp [jM.len_nw, jM.len_sI, jM.len_sL, jM.len_sR, jM.len_fI, jM.len_fL, jM.len_fR, *]; omega)) (by first | omega | (exact R.r _ _) | (simp only [jM.len_sI, jM.len_sL, jM.len_sR, jM.len_fI, jM.len_fL, jM.len_fR]; omega) | (simp [jM.len_nw, jM.len_sI, jM.len_sL, jM.len_sR, jM.len_fI, jM.len_fL, jM.len_fR, *]; omega)) rfl rfl ?_ ?_
        · exact fun _ _ h => h
        rintro _ _ ⟨rfl, rfl⟩
        have hn := wb.2.2.2 (by omega)
        rw [show we (V 116) (V 16 12) s = s + (j : Int) by omega] at hn
        rw [if_neg hn]
        refine J.if_eq (tgt := 69) (pc' := 37) rfl rfl rfl (by first | omega | (exact R.r _ _) | (simp only [jM.len_sI, jM.len_sL, jM.len_sR, jM.len_fI, jM.len_fL, jM.len_fR]; omega) | (simp [jM.len_nw, jM.len_sI, jM.len_sL, jM.len_sR, jM.len_fI, jM.len_fL, jM.len_fR, *]; omega)) (fun c2 => ?_) (fun c2 => ?_)
        · exact fin j (by omega) _
        · omega
    | succ m ih =>
      intro j hj
      have h9 := ih (j + 1) (by omega)
      have hs := wb.2.2.1 (s + j) (by omega) (by omega)
      rw [show ((j + 1 : Nat) : Int) = (j : Int) + 1 by omega, show s + ((j : Int) + 1) = s + j + 1 by omega] at h9
      refine J.iload (pc' := 17) rfl rfl rfl ?_
      first | refine J.aload_n (pc' := 18) rfl rfl rfl ?_ | refine J.aload_nN (pc' := 18) rfl rfl rfl ?_
      refine J.mgI (pc' := 21) (j := 12) B rfl fl_X12_194 rfl rfl rfl ?_
      rw [jU_i _ (by decide)]
      refine J.icmp_ge (tgt := 69) (pc' := 24) rfl rfl rfl (by first | omega | (exact R.r _ _) | (simp only [jM.len_sI, jM.len_sL, jM.len_sR, jM.len_fI, jM.len_fL, jM.len_fR]; omega) | (simp [jM.len_nw, jM.len_sI, jM.len_sL, jM.len_sR, jM.len_fI, jM.len_fL, jM.len_fR, *]; omega)) (by first | omega | (exact R.r _ _) | (simp only [jM.len_sI, jM.len_sL, jM.len_sR, jM.len_fI, jM.len_fL, jM.len_fR]; omega) | (simp [jM.len_nw, jM.len_sI, jM.len_sL, jM.len_sR, jM.len_fI, jM.len_fL, jM.len_fR, *]; omega)) (fun c1 => ?_) (fun c1 => ?_)
      · omega
      · first | refine J.aload_n (pc' := 25) rfl rfl rfl ?_ | refine J.aload_nN (pc' := 25) rfl rfl rfl ?_
        refine J.mgR (pc' := 28) (t := 116) B rfl fl_X12_34 rfl rfl (by decide) rfl ?_
        refine J.iload (pc' := 30) rfl rfl rfl ?_
        refine J.mald (pc' := 31) B rfl rfl rfl (by omega) (by simp only [jLn]; omega) rfl ?_
        rw [jU_o _ (by decide)]
        refine J.callS (pc' := 34) rfl MX12_isSmall ml_X12_201 is_X12_isSmall (cm_isSmall (R.r _ _)) rfl rfl (Nat.le_of_ble_eq_true rfl) (by first | omega | (exact R.r _ _) | (simp only [jM.len_sI, jM.len_sL, jM.len_sR, jM.len_fI, jM.len_fL, jM.len_fR]; omega) | (simp [jM.len_nw, jM.len_sI, jM.len_sL, jM.len_sR, jM.len_fI, jM.len_fL, jM.len_fR, *]; omega)) (by first | omega | (exact R.r _ _) | (simp only [jM.len_sI, jM.len_sL, jM.len_sR, jM.len_fI, jM.len_fL, jM.len_fR]; omega) | (simp [jM.len_nw, jM.len_sI, jM.len_sL, jM.len_sR, jM.len_fI, jM.len_fL, jM.len_fR, *]; omega)) (by first | omega | (exact R.r _ _) | (simp only [jM.len_sI, jM.len_sL, jM.len_sR, jM.len_fI, jM.len_fL, jM.len_fR]; omega) | (simp [jM.len_nw, jM.len_sI, jM.len_sL, jM.len_sR, jM.len_fI, jM.len_fL, jM.len_fR, *]; omega)) rfl rfl ?_ ?_
        · exact fun _ _ h => h
        rintro _ _ ⟨rfl, rfl⟩
        rw [if_pos hs]
        refine J.if_eq (tgt := 69) (pc' := 37) rfl rfl rfl (by first | omega | (exact R.r _ _) | (simp only [jM.len_sI, jM.len_sL, jM.len_sR, jM.len_fI, jM.len_fL, jM.len_fR]; omega) | (simp [jM.len_nw, jM.len_sI, jM.len_sL, jM.len_sR, jM.len_fI, jM.len_fL, jM.len_fR, *]; omega)) (fun c2 => ?_) (fun c2 => ?_)
        · omega
        · refine J.iload_n (pc' := 38) rfl rfl rfl ?_
          refine J.iconst (pc' := 39) rfl rfl ?_
          refine J.icmp_ge (tgt := 58) (pc' := 42) rfl rfl rfl (by first | omega | (exact R.r _ _) | (simp only [jM.len_sI, jM.len_sL, jM.len_sR, jM.len_fI, jM.len_fL, jM.len_fR]; omega) | (simp [jM.len_nw, jM.len_sI, jM.len_sL, jM.len_sR, jM.len_fI, jM.len_fL, jM.len_fR, *]; omega)) (by first | omega | (exact R.r _ _) | (simp only [jM.len_sI, jM.len_sL, jM.len_sR, jM.len_fI, jM.len_fL, jM.len_fR]; omega) | (simp [jM.len_nw, jM.len_sI, jM.len_sL, jM.len_sR, jM.len_fI, jM.len_fL, jM.len_fR, *]; omega)) (fun c3 => ?_) (fun c3 => ?_)
          · refine J.lconst (pc' := 59) rfl rfl ?_
            refine J.lstore_n (pc' := 60) rfl rfl (by decide) ?_
            refine J.iinc (pc' := 63) rfl rfl rfl (by decide) ?_
            refine J.iinc (pc' := 66) rfl rfl rfl (by decide) ?_
            refine J.goto (tgt := 15) rfl rfl ?_
            rw [show v (j + 1) = 0 by rw [hv]; show (if j + 1 ≤ 5 then _ else _) = _; rw [if_neg (by omega)]] at h9
            exact h9
          · have vb := wc_b (T := V 116) (p := s) j (by omega) (fun i hi => wb.2.2.1 (s + i) (by omega) (by omega))
            have vj : v j = wc (V 116) s j := by rw [hv]; show (if j ≤ 5 then _ else _) = _; rw [if_pos (by omega)]
            have vj1 : v (j + 1) = wc (V 116) s j * 256 + V 116 (s + j) := by rw [hv]; show (if j + 1 ≤ 5 then _ else _) = _; rw [if_pos (by omega), wc]
            have p4 : (256 : Int) ^ j ≤ 256 ^ 4 := by
              rcases (by omega : j = 0 ∨ j = 1 ∨ j = 2 ∨ j = 3 ∨ j = 4) with z | z | z | z | z <;> subst z <;> decide
            have p5 : (256 : Int) ^ 4 = 4294967296 := by decide
            rw [vj1] at h9
            rw [vj]
            refine J.lload_n (pc' := 43) rfl rfl rfl ?_
            refine J.bipush (pc' := 45) rfl rfl (by decide) ?_
            refine J.lshl (wc (V 116) s j * 256) (pc' := 46) rfl rfl (jL_shl (by omega)) ?_
            first | refine J.aload_n (pc' := 47) rfl rfl rfl ?_ | refine J.aload_nN (pc' := 47) rfl rfl rfl ?_
            refine J.mgR (pc' := 50) (t := 116) B rfl fl_X12_34 rfl rfl (by decide) rfl ?_
            refine J.iload (pc' := 52) rfl rfl rfl ?_
            refine J.mald (pc' := 53) B rfl rfl rfl (by omega) (by simp only [jLn]; omega) rfl ?_
            rw [jU_o _ (by decide)]
            refine J.i2l (pc' := 54) rfl rfl (by first | omega | (exact R.r _ _) | (simp only [jM.len_sI, jM.len_sL, jM.len_sR, jM.len_fI, jM.len_fL, jM.len_fR]; omega) | (simp [jM.len_nw, jM.len_sI, jM.len_sL, jM.len_sR, jM.len_fI, jM.len_fL, jM.len_fR, *]; omega)) ?_
            refine J.lor (wc (V 116) s j * 256 + V 116 (s + j)) (pc' := 55) rfl rfl (jL_or (by omega) (by omega)) ?_
            refine J.goto (tgt := 59) rfl rfl ?_
            refine J.lstore_n (pc' := 60) rfl rfl (by decide) ?_
            refine J.iinc (pc' := 63) rfl rfl rfl (by decide) ?_
            refine J.iinc (pc' := 66) rfl rfl rfl (by decide) ?_
            refine J.goto (tgt := 15) rfl rfl ?_
            exact h9
  have h9 := key (we (V 116) (V 16 12) s - s).toNat 0 (by omega)
  rw [show v 0 = 0 by rw [hv]; rfl, show s + ((0 : Nat) : Int) = s by omega] at h9
  exact h9
end M18

