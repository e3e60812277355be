section PV
variable {V W : VV} {i m : Int} {nl nh : Int → Int}
theorem pvF_6 (hm : 0 ≤ m ∧ m < 5) : ∀ (k : Nat) (y j : Int), 0 ≤ j → j < 5 → (pvF V i m nl nh k 156 (5 * y + j) = if 20 * i ≤ y ∧ y < 20 * i + k ∧ j = m then nl (y - 20 * i) else V 156 (5 * y + j)) ∧ (pvF V i m nl nh k 157 (5 * y + j) = if 20 * i ≤ y ∧ y < 20 * i + k ∧ j = m then nh (y - 20 * i) else V 157 (5 * y + j)) := fun k => by
  induction k with
  | zero => exact fun y j _ _ => ⟨by rw [if_neg (by omega)]; rfl, by rw [if_neg (by omega)]; rfl⟩
  | succ k ih =>
    intro y j h0 h1
    have e : ∀ t, t = 156 ∨ t = 157 → ∀ q, pvF V i m nl nh (k + 1) t q = jU (jU (pvF V i m nl nh k) 156 (5 * (20 * i + k) + m) (nl k)) 157 (5 * (20 * i + k) + m) (nh k) t q := fun t ht q => by
      rw [pvF]
      split
      · rfl
      · unfold prV
        rw [jU_o _ (by omega), jU_o _ (by omega), jU_o _ (by omega)]
    rw [e 156 (Or.inl rfl), e 157 (Or.inr rfl), jU_o _ (by decide), jU_at, jU_at, jU_o _ (by decide)]
    obtain ⟨i1, i2⟩ := ih y j h0 h1
    rw [i1, i2]
    by_cases c : y = 20 * i + k ∧ j = m
    · have c1 : 5 * y + j = 5 * (20 * i + k) + m := by omega
      rw [if_pos c1, if_pos c1, if_pos (by omega), if_pos (by omega), show y - 20 * i = (k : Int) by omega]
      exact ⟨rfl, rfl⟩
    · have c1 : ¬ 5 * y + j = 5 * (20 * i + k) + m := by omega
      rw [if_neg c1, if_neg c1]
      by_cases d : 20 * i ≤ y ∧ y < 20 * i + k ∧ j = m
      · rw [if_pos d, if_pos d, if_pos (by omega), if_pos (by omega)]
        exact ⟨rfl, rfl⟩
      · rw [if_neg d, if_neg d, if_neg (by omega), if_neg (by omega)]
        exact ⟨rfl, rfl⟩
theorem oV_pr {s k lo hi : Int} (R : isR V) (hm : 0 ≤ m ∧ m < 5) (hk : 0 ≤ k ∧ k < 10) {Rr : Nat → Int} (e1 : Rr (2 * m).toNat = lo) (e2 : Rr (2 * m + 1).toNat = hi) (hb1 : 0 ≤ lo) (hb2 : 0 ≤ hi) : ∀ s' j : Int, 0 ≤ j → j < 100 → oV (prV V s k m lo hi) s' j = if s' = s then puO (oV V s) (kP V k) Rr k m j else oV V s' j := fun s' j h0 h1 => by
  have u1 := usP_eq R (s := s) (k := k) (m := m) (d := 0) hm (Or.inl rfl)
  have u2 := usP_eq R (s := s) (k := k) (m := m) (d := 1) hm (Or.inr rfl)
  rw [if_pos rfl, Int.add_zero] at u1
  rw [if_neg (by decide)] at u2
  have v106 : ∀ q, prV V s k m lo hi 106 q = if q = ua s k m then (3 * lowOf V s k m + lo) / 4 else V 106 q := fun q => by
    unfold prV
    rw [jU_o _ (by decide), jU_o _ (by decide), jU_at]
  have v107 : ∀ q, prV V s k m lo hi 107 q = if q = ua s k m then (3 * highOf V s k m + hi + 3) / 4 else V 107 q := fun q => by
    unfold prV
    rw [jU_o _ (by decide), jU_at, jU_o _ (by decide)]
  have v108 : ∀ q, prV V s k m lo hi 108 q = if q = ua s k m then 1 else V 108 q := fun q => by
    unfold prV
    rw [jU_at, jU_o _ (by decide), jU_o _ (by decide)]
  unfold puO
  rw [u1, u2, e1, e2]
  by_cases c : ua s' (j / 10) (j % 10 / 2) = ua s k m
  · have c' := c
    unfold ua at c'
    have es : s' = s := by omega
    have ek : j / 10 = k := by omega
    have em : j % 10 / 2 = m := by omega
    unfold oV
    rw [v106, v107, v108, if_pos c, if_pos c, if_pos c, if_neg (by decide), if_pos es]
    by_cases d : j % 2 = 0
    · rw [if_pos d, if_neg (by omega), if_pos (by omega)]
    · rw [if_neg d, if_pos (by omega), up_eq (by decide)]
      congr 1
      omega
  · unfold oV
    rw [v106, v107, v108, if_neg c, if_neg c, if_neg c]
    by_cases es : s' = s
    · rw [if_pos es]
      have n1 : ¬ j = k * 10 + (2 * m + 1) := fun q => c (by unfold ua; omega)
      have n2 : ¬ j = k * 10 + 2 * m := fun q => c (by unfold ua; omega)
      rw [if_neg n1, if_neg n2, es]
    · rw [if_neg es]
theorem pvF_k : ∀ k : Nat, pvF V i m nl nh k 104 = V 104 ∧ pvF V i m nl nh k 105 = V 105 := fun k => ⟨funext fun j => pvF_o (by decide) k, funext fun j => pvF_o (by decide) k⟩
theorem oV_o {U : VV} (h6 : U 106 = V 106) (h7 : U 107 = V 107) (h8 : U 108 = V 108) : oV U = oV V := by
  unfold oV
  rw [h6, h7, h8]
theorem kP_o {U : VV} (h6 : U 104 = V 104) (h7 : U 105 = V 105) : kP U = kP V := by
  unfold kP
  rw [h6, h7]
/-- the sellers after n portions are put right -/
theorem oV_pv {K : Int → Option (Int × Int)} {P : Int → Nat → Int} (R : isR V) (hm : 0 ≤ m ∧ m < 5) : ∀ n : Nat, (∀ k : Nat, k < n → (0 ≤ nl k ∧ nl k ≤ 10000) ∧ (0 ≤ nh k ∧ nh k ≤ 10000) ∧ P k (2 * m).toNat = nl k ∧ P k (2 * m + 1).toNat = nh k ∧ ((V 155 (20 * i + k) = -1 ∧ K k = none) ∨ (V 155 (20 * i + k) ≠ -1 ∧ K k = some (V 127 (V 155 (20 * i + k)), V 128 (V 155 (20 * i + k)))))) → ∀ s j : Int, 0 ≤ j → j < 100 → oV (pvF V i m nl nh n) s j = puS K (kP V) P m (oV V) n s j := fun n => by
  induction n with
  | zero => exact fun _ s j _ _ => rfl
  | succ n ih =>
    intro H s j h0 h1
    obtain ⟨b1, b2, p1, p2, hK⟩ := H n (by omega)
    have ih' := ih (fun k hk => H k (by omega))
    have Rn : isR (pvF V i m nl nh n) := R.pvFR n (fun k hk => ⟨(H k (by omega)).1, (H k (by omega)).2.1⟩)
    have Ru : isR (jU (jU (pvF V i m nl nh n) 156 (5 * (20 * i + n) + m) (nl n)) 157 (5 * (20 * i + n) + m) (nh n)) := (Rn.up (fun _ => b1)).up (fun _ => b2)
    have eo : oV (jU (jU (pvF V i m nl nh n) 156 (5 * (20 * i + n) + m) (nl n)) 157 (5 * (20 * i + n) + m) (nh n)) = oV (pvF V i m nl nh n) := oV_o (by rw [jU_f _ (by decide), jU_f _ (by decide)]) (by rw [jU_f _ (by decide), jU_f _ (by decide)]) (by rw [jU_f _ (by decide), jU_f _ (by decide)])
    have ek : kP (jU (jU (pvF V i m nl nh n) 156 (5 * (20 * i + n) + m) (nl n)) 157 (5 * (20 * i + n) + m) (nh n)) = kP V := (kP_o (by rw [jU_f _ (by decide), jU_f _ (by decide)]) (by rw [jU_f _ (by decide), jU_f _ (by decide)])).trans (kP_o (pvF_k n).1 (pvF_k n).2)
    rcases hK with ⟨z, hK⟩ | ⟨z, hK⟩
    · rw [pvF, if_pos z, puS, hK, eo]
      exact ih' s j h0 h1
    · have r8 : 0 ≤ V 128 (V 155 (20 * i + n)) ∧ V 128 (V 155 (20 * i + n)) ≤ 9 := R 128 _ rfl
      rw [pvF, if_neg z, puS, hK, oV_pr Ru hm ⟨r8.1, by omega⟩ p1 p2 b1.1 b2.1 s j h0 h1, eo, ek]
      dsimp only
      by_cases c : s = V 127 (V 155 (20 * i + n))
      · rw [if_pos c, if_pos c]
        unfold puO usP
        rw [ih' (V 127 (V 155 (20 * i + n))) (V 128 (V 155 (20 * i + n)) * 10 + (2 * m + 1)) (by omega) (by omega), ih' (V 127 (V 155 (20 * i + n))) (V 128 (V 155 (20 * i + n)) * 10 + 2 * m) (by omega) (by omega), ih' (V 127 (V 155 (20 * i + n))) j h0 h1]
      · rw [if_neg c, if_neg c]
        exact ih' s j h0 h1
/-- scratch makes no difference -/
theorem pvF_scp (hs : scp W V) : ∀ (n : Nat) (t : Nat), t ≠ 158 → t ≠ 159 → pvF W i m nl nh n t = pvF V i m nl nh n t := fun n => by
  have hs' : ∀ t, t ≠ 158 → t ≠ 159 → W t = V t := fun t h1 h2 => funext fun j => hs t j h1 h2
  induction n with
  | zero => exact hs'
  | succ n ih =>
    intro t h1 h2
    have e : ∀ t, t ≠ 158 → t ≠ 159 → jU (jU (pvF W i m nl nh n) 156 (5 * (20 * i + n) + m) (nl n)) 157 (5 * (20 * i + n) + m) (nh n) t = jU (jU (pvF V i m nl nh n) 156 (5 * (20 * i + n) + m) (nl n)) 157 (5 * (20 * i + n) + m) (nh n) t := fun t h1 h2 => funext fun j => by
      unfold jU
      rw [ih t h1 h2]
    rw [pvF, pvF, hs' 155 (by decide) (by decide), hs' 127 (by decide) (by decide), hs' 128 (by decide) (by decide)]
    split
    · exact e t h1 h2
    · generalize jU (jU (pvF W i m nl nh n) 156 (5 * (20 * i + n) + m) (nl n)) 157 (5 * (20 * i + n) + m) (nh n) = A at e
      generalize jU (jU (pvF V i m nl nh n) 156 (5 * (20 * i + n) + m) (nl n)) 157 (5 * (20 * i + n) + m) (nh n) = B at e
      funext j
      unfold prV lowOf highOf
      rw [e 104 (by decide) (by decide), e 105 (by decide) (by decide), e 106 (by decide) (by decide), e 107 (by decide) (by decide), e 108 (by decide) (by decide)]
      unfold jU
      rw [e t h1 h2]
end PV

