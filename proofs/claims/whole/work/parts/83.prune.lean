/-- the class's sums: cost; of each metal low (turned) and high -/
def sgn (s : Int) : Int := if s = 0 then 1 else if s % 2 = 1 then -1 else 1
def ixs (s : Int) : Int := if s = 0 then 0 else if s % 2 = 1 then 1 + (s - 1) / 2 else 6 + (s - 2) / 2
def cg (V : VV) (s g t : Int) : Int := sgn s * gs V g (ixs s) t.toNat
def liP (V : VV) (n s : Int) : Int := if s % 2 = 1 then -V 146 ((s - 1) / 2) * n else V 147 ((s - 2) / 2) * n
def limA (a : Acc) : Int := if a.1 = -1 then 999999999 else a.1 - 1
theorem Sm_c {c : Int} {f : Int → Int} : ∀ n : Nat, Sm (fun j => c * f j) n = c * Sm f n := fun n => by
  induction n with
  | zero => simp [Sm]
  | succ n ih => rw [Sm, Sm, ih, Int.mul_add]
def tS (V : VV) (tr : Int → Int) (s : Int) (k : Nat) : Int := Sm (fun j => cg V s j (tr j)) k
theorem tS_eq (V : VV) (tr : Int → Int) (s : Int) : tS V tr s 6 = sgn s * totP V tr (ixs s) := by
  unfold tS totP cg
  exact Sm_c 6
theorem sgn_b (s : Int) : sgn s = 1 ∨ sgn s = -1 := by
  unfold sgn
  split
  · exact Or.inl rfl
  · split
    · exact Or.inr rfl
    · exact Or.inl rfl
theorem cg_b {V : VV} (R : isR V) {s g t : Int} (ht : t ≤ 20) : -2000000 ≤ cg V s g t ∧ cg V s g t ≤ 2000000 := by
  have b := gs_b R g (ixs s) t.toNat
  unfold cg
  rcases sgn_b s with e | e <;> rw [e] <;> omega
theorem cg_0 {V : VV} (R : isR V) {g t : Int} : 0 ≤ cg V 0 g t := by
  have b := gs_b R g (ixs 0) t.toNat
  unfold cg
  rw [show sgn 0 = 1 from rfl]
  omega
theorem tS_b {V : VV} (R : isR V) {tr : Int → Int} {s : Int} {k : Nat} (hk : k ≤ 6) (ht : ∀ j : Nat, j < k → tr j ≤ 20) : -12000000 ≤ tS V tr s k ∧ tS V tr s k ≤ 12000000 := by
  have := Sm_le (f := fun j => cg V s j (tr j)) (n := k) (a := -2000000) (b := 2000000) (fun i hi => cg_b R (ht i hi))
  unfold tS
  omega
theorem tS_0 {V : VV} (R : isR V) {tr : Int → Int} {k : Nat} (hk : k ≤ 6) (ht : ∀ j : Nat, j < k → tr j ≤ 20) : 0 ≤ tS V tr 0 k := by
  have := Sm_le (f := fun j => cg V 0 j (tr j)) (n := k) (a := 0) (b := 2000000) (fun i hi => ⟨cg_0 R, (cg_b R (ht i hi)).2⟩)
  unfold tS
  omega
theorem good_iff {V : VV} {n : Int} {tr : Int → Int} : goodP V n tr = true ↔ ∀ s : Nat, 1 ≤ s → s < 11 → tS V tr s 6 ≤ liP V n s := by
  have e1 : ∀ m : Int, 0 ≤ m → m < 5 → tS V tr (1 + 2 * m) 6 = -totP V tr (1 + m) := fun m h0 h1 => by
    rw [tS_eq]
    unfold sgn ixs
    rw [if_neg (by omega), if_pos (by omega), if_neg (by omega), if_pos (by omega), show 1 + (1 + 2 * m - 1) / 2 = 1 + m by omega]
    omega
  have e2 : ∀ m : Int, 0 ≤ m → m < 5 → tS V tr (2 + 2 * m) 6 = totP V tr (6 + m) := fun m h0 h1 => by
    rw [tS_eq]
    unfold sgn ixs
    rw [if_neg (by omega), if_neg (by omega), if_neg (by omega), if_neg (by omega), show 6 + (2 + 2 * m - 2) / 2 = 6 + m by omega]
    omega
  have l1 : ∀ m : Int, 0 ≤ m → m < 5 → liP V n (1 + 2 * m) = -(V 146 m * n) := fun m h0 h1 => by
    unfold liP
    rw [if_pos (by omega), show (1 + 2 * m - 1) / 2 = m by omega, Int.neg_mul]
  have l2 : ∀ m : Int, 0 ≤ m → m < 5 → liP V n (2 + 2 * m) = V 147 m * n := fun m h0 h1 => by
    unfold liP
    rw [if_neg (by omega), show (2 + 2 * m - 2) / 2 = m by omega]
  have hg : ∀ m : Int, 0 ≤ m → m < 5 → (gdP V n tr m = true ↔ tS V tr (1 + 2 * m) 6 ≤ liP V n (1 + 2 * m) ∧ tS V tr (2 + 2 * m) 6 ≤ liP V n (2 + 2 * m)) := fun m h0 h1 => by
    rw [e1 m h0 h1, e2 m h0 h1, l1 m h0 h1, l2 m h0 h1]
    unfold gdP
    rw [Bool.and_eq_true, decide_eq_true_eq, decide_eq_true_eq]
    generalize V 146 m * n = x
    generalize V 147 m * n = y
    omega
  have ha : goodP V n tr = true ↔ ∀ m : Nat, m < 5 → gdP V n tr m = true := by
    unfold goodP
    constructor
    · intro h m hm
      cases hb : gdP V n tr m with
      | true => rfl
      | false =>
        have z1 : allB (gdP V n tr) 0 (m + 1) = false := by rw [allB, Int.zero_add, hb, Bool.and_false]
        have z2 := allB_st z1 (5 - (m + 1))
        rw [show m + 1 + (5 - (m + 1)) = 5 by omega, h] at z2
        cases z2
    · intro h
      have : ∀ k : Nat, k ≤ 5 → allB (gdP V n tr) 0 k = true := fun k => by
        induction k with
        | zero => exact fun _ => rfl
        | succ k ih => exact fun hk => by rw [allB, ih (by omega), Int.zero_add, h k (by omega)]; rfl
      exact this 5 (by omega)
  rw [ha]
  constructor
  · intro h s h1 h2
    by_cases c : s % 2 = 1
    · have := ((hg (((s - 1) / 2 : Nat) : Int) (by omega) (by omega)).mp (h ((s - 1) / 2) (by omega))).1
      rw [show (1 + 2 * (((s - 1) / 2 : Nat) : Int)) = (s : Int) by omega] at this
      exact this
    · have := ((hg (((s - 2) / 2 : Nat) : Int) (by omega) (by omega)).mp (h ((s - 2) / 2) (by omega))).2
      rw [show (2 + 2 * (((s - 2) / 2 : Nat) : Int)) = (s : Int) by omega] at this
      exact this
  · intro h m hm
    refine (hg m (by omega) (by omega)).mpr ⟨?_, ?_⟩
    · have := h (1 + 2 * m) (by omega) (by omega)
      rw [show ((1 + 2 * m : Nat) : Int) = 1 + 2 * (m : Int) by omega] at this
      exact this
    · have := h (2 + 2 * m) (by omega) (by omega)
      rw [show ((2 + 2 * m : Nat) : Int) = 2 + 2 * (m : Int) by omega] at this
      exact this
def lims (V : VV) (n : Int) (a : Acc) (s : Int) : Int := if s = 0 then limA a else liP V n s
theorem leaf_no {V : VV} (R : isR V) {n : Int} {tr : Int → Int} {a : Acc} {s : Nat} (hs : s < 11) (ht : ∀ j : Nat, j < 6 → tr j ≤ 20) (h : lims V n a s < tS V tr s 6) : leafP V n tr a = a := by
  unfold leafP
  rw [if_neg]
  rintro ⟨h1, h2⟩
  by_cases c : s = 0
  · subst c
    have b := tS_b R (s := 0) (Nat.le_refl 6) ht
    have e : tS V tr ((0 : Nat) : Int) 6 = totP V tr 0 := by rw [tS_eq]; show 1 * totP V tr 0 = _; omega
    rw [e] at h
    have e' : tS V tr 0 6 = totP V tr 0 := e
    rw [e'] at b
    unfold lims limA at h
    rw [if_pos (show ((0 : Nat) : Int) = 0 from rfl)] at h
    split at h <;> omega
  · have := good_iff.mp h2 s (by omega) hs
    unfold lims at h
    rw [if_neg (by omega)] at h
    omega
theorem leaf_yes {V : VV} {n : Int} {tr : Int → Int} {a : Acc} (ha : a.1 ≠ -1 → 0 ≤ a.1) (h : ∀ s : Nat, s < 11 → tS V tr s 6 ≤ lims V n a s) : leafP V n tr a = (totP V tr 0, tr) := by
  unfold leafP
  rw [if_pos]
  constructor
  · have := h 0 (by omega)
    have e : tS V tr ((0 : Nat) : Int) 6 = totP V tr 0 := by rw [tS_eq]; show 1 * totP V tr 0 = _; omega
    rw [e] at this
    unfold lims limA at this
    rw [if_pos (show ((0 : Nat) : Int) = 0 from rfl)] at this
    split at this
    · rename_i z; exact Or.inl z
    · exact Or.inr (by omega)
  · refine good_iff.mpr (fun s h1 h2 => ?_)
    have := h s h2
    unfold lims at this
    rw [if_neg (by omega)] at this
    exact this
theorem itF_id {f : Int → Acc → Acc} {a : Acc} : ∀ (m : Nat) (t : Int), (∀ s : Int, t ≤ s → s < t + m → f s a = a) → itF f t m a = a := fun m => by
  induction m with
  | zero => exact fun _ _ => rfl
  | succ m ih => exact fun t h => by rw [itF, h t (by omega) (by omega)]; exact ih (t + 1) (fun s h1 h2 => h s (by omega) (by omega))
theorem dfs_no {V : VV} {n : Int} {a : Acc} : ∀ (d : Nat), d ≤ 6 → ∀ (L : Int) (tr : Int → Int), 0 ≤ L → Sm tr (6 - d) + L = n → (∀ tr' : Int → Int, (∀ j : Nat, j < 6 - d → tr' j = tr j) → (∀ j : Nat, 6 - d ≤ j → j < 6 → 0 ≤ tr' j ∧ tr' j ≤ mostP V n j) → Sm tr' 6 = n → leafP V n tr' a = a) → dfs V n d L tr a = a := fun d => by
  induction d with
  | zero =>
    intro hd L tr hL hs h
    rw [dfs]
    split
    · rename_i z
      exact h tr (fun _ _ => rfl) (fun j h1 h2 => by omega) (by show Sm tr (6 - 0) = n; omega)
    · rfl
  | succ d ih =>
    intro hd L tr hL hs h
    rw [dfs]
    refine itF_id _ _ (fun t h1 h2 => ?_)
    have e1 : Sm (updT tr (5 - (d : Int)) t) (6 - d) = Sm tr (6 - (d + 1)) + t := by
      rw [show 6 - d = (6 - (d + 1)) + 1 by omega, Sm, Sm_upd (by omega)]
      show _ + (if ((6 - (d + 1) : Nat) : Int) = 5 - (d : Int) then t else _) = _
      rw [if_pos (by omega)]
    refine ih (by omega) (L - t) (updT tr (5 - (d : Int)) t) (by omega) (by omega) (fun tr' g1 g2 g3 => h tr' (fun j hj => ?_) (fun j hj1 hj2 => ?_) g3)
    · rw [g1 j (by omega)]
      unfold updT
      rw [if_neg (by omega)]
    · by_cases c : j = 5 - d
      · have := g1 j (by omega)
        unfold updT at this
        rw [if_pos (by omega)] at this
        rw [this]
        rw [show (j : Int) = 5 - (d : Int) by omega]
        omega
      · exact g2 j (by omega) hj2
/-- a bound from below of what t tons from heap g on may sum to -/
def LB (V : VV) (n x : Int) (s : Int) (g : Nat) (l : Int) : Prop := (-12000000 ≤ x ∧ x ≤ 1000000000) ∧ ∀ tr' : Int → Int, (∀ j : Nat, g ≤ j → j < 6 → 0 ≤ tr' j ∧ tr' j ≤ mostP V n j) → Sm tr' 6 - Sm tr' g = l → x ≤ tS V tr' s 6 - tS V tr' s g
theorem dfs_prune {V : VV} (R : isR V) {n : Int} {a : Acc} {d : Nat} {L : Int} {tr : Int → Int} {s : Nat} {x : Int} (hd : d ≤ 6) (hn : n ≤ 20) (hL : 0 ≤ L) (hs : Sm tr (6 - d) + L = n) (hs2 : s < 11) (ht : ∀ j : Nat, j < 6 - d → tr j ≤ 20) (hx : LB V n x s (6 - d) L) (hc : lims V n a s < tS V tr s (6 - d) + x) : dfs V n d L tr a = a := by
  refine dfs_no d hd L tr hL hs (fun tr' g1 g2 g3 => leaf_no R hs2 (fun j hj => ?_) ?_)
  · by_cases c : j < 6 - d
    · rw [g1 j c]; exact ht j c
    · have := (g2 j (by omega) hj).2
      unfold mostP at this
      omega
  · have e1 : tS V tr' s (6 - d) = tS V tr s (6 - d) := Sm_cg (fun i hi => by rw [g1 i hi])
    have e2 : Sm tr' (6 - d) = Sm tr (6 - d) := Sm_cg (fun i hi => g1 i hi)
    have := hx.2 tr' g2 (by omega)
    omega

