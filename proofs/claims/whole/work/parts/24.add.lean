/-- the list at a, its array e, holds xs -/
def isL (γ : jG) (h : jM) (a e : Nat) (xs : List Nat) : Prop := h.tag a = 3 ∧ h.R 3 a 1 = some e ∧ h.tag e = 34 ∧ h.I 3 a 2 = (xs.length : Int) ∧ xs.length ≤ h.len e ∧ h.len e ≤ 150 ∧ (h.len e = 0 ↔ e = γ.K 0) ∧ (∀ i, i < xs.length → h.R 34 e i = xs[i]?) ∧ (h.len e ≠ 0 → h.I 34 e 0 = (a : Int))
/-- from h to h' only the list at a has moved, its array e, and what was free -/
def frA (h h' : jM) (a e : Nat) : Prop := (∀ b, h'.tag b = h.tag b ∨ (h.tag b = 0 ∧ h'.tag b = 34)) ∧ (∀ b, h.tag b ≠ 0 → h'.len b = h.len b) ∧ (∀ t b k, ¬ (t = 3 ∧ b = a) → ¬ (t = 34 ∧ (b = e ∨ h.tag b = 0)) → h'.I t b k = h.I t b k) ∧ (∀ t b k, t ≠ 34 → h'.L t b k = h.L t b k) ∧ (∀ t b k, ¬ (t = 3 ∧ b = a) → ¬ (t = 34 ∧ (b = e ∨ h.tag b = 0)) → h'.R t b k = h.R t b k)
theorem frA.tag {h h' : jM} {a e b : Nat} (F : frA h h' a e) (hb : h.tag b ≠ 0) : h'.tag b = h.tag b := by
  rcases F.1 b with q | q
  · exact q
  · exact absurd q.1 hb
theorem isL.kept {γ : jG} {h h' : jM} {a e b d : Nat} {ys : List Nat} (F : frA h h' a e) (hL : isL γ h b d ys) (hba : b ≠ a) (hde : d ≠ e ∨ h.len d = 0) : isL γ h' b d ys := by
  obtain ⟨h1, h2, h3, h4, h5, h6, h7, h8, h9⟩ := hL
  have t1 := F.tag (b := b) (by omega)
  have t2 := F.tag (b := d) (by omega)
  have l2 := F.2.1 d (by omega)
  refine ⟨by rw [t1, h1], ?_, by rw [t2, h3], ?_, by rw [l2]; exact h5, by rw [l2]; exact h6, by rw [l2]; exact h7, fun i hi => ?_, fun hn => ?_⟩
  · rw [F.2.2.2.2 3 b 1 (fun q => hba q.2) (fun q => by omega)]
    exact h2
  · rw [F.2.2.1 3 b 2 (fun q => hba q.2) (fun q => by omega)]
    exact h4
  · have hde : d ≠ e := by
      rcases hde with q | q
      · exact q
      · omega
    rw [F.2.2.2.2 34 d i (fun q => by omega) (fun q => by rcases q.2 with q | q; exact hde q; omega)]
    exact h8 i hi
  · rw [l2] at hn
    have hde : d ≠ e := by
      rcases hde with q | q
      · exact q
      · exact absurd q hn
    rw [F.2.2.1 34 d 0 (fun q => by omega) (fun q => by rcases q.2 with q | q; exact hde q; omega)]
    exact h9 hn
/-- two lists share no array, but the empty one -/
theorem isL.ne {γ : jG} {h : jM} {a e b d : Nat} {xs ys : List Nat} (h1 : isL γ h a e xs) (h2 : isL γ h b d ys) (hn : b ≠ a) : d ≠ e ∨ h.len d = 0 := by
  by_cases h0 : h.len d = 0
  · exact Or.inr h0
  · refine Or.inl (fun q => ?_)
    have a1 := h2.2.2.2.2.2.2.2.2 h0
    subst q
    have a2 := h1.2.2.2.2.2.2.2.2 h0
    omega
theorem jGhI_ok {γ : jG} {h : jM} {t a k : Nat} {v : Int} {H : Heap} (hk : jKi (jTy t k) = false) (hR : jRH γ h H) : jRH γ (h.sI t a k v) H := by
  refine ⟨hR.1, hR.2.1, fun b hb => (hR.2.2 b hb).kept rfl rfl rfl ?_⟩
  funext j
  unfold jV
  rw [jM.I_sI, jM.L_sI, jM.R_sI]
  by_cases e : h.tag b = t ∧ b = a ∧ j = k
  · rw [if_pos e, e.1, e.2.2]
    revert hk
    cases jTy t k <;> simp [jKi, jVal]
  · rw [if_neg e]
theorem J.ghI {γ : jG} {μ : jMth} {f mc ms cells slots : Nat} {h : jM} {pc : Nat} {lv : List (Nat × Value)} {st : List Value} {Q : Option Value → jM → Prop} {X : String → jM → Prop} {t a k : Nat} {v : Int} (hk : jKi (jTy t k) = false) (kk : J γ μ f mc ms cells slots (h.sI t a k v) pc lv st Q X) : J γ μ f mc ms cells slots h pc lv st Q X := by
  intro p e s m args below meth c C H locs ls hH hz hlo hl
  exact kk p e s m args below meth c C H locs ls (jGhI_ok hk hH) hz hlo hl
section AD
variable {γ : jG} {h : jM} {a e x : Nat} {xs : List Nat}
theorem jObT {t : Nat} (ht : jOb t = true) : ∃ q : vw_C, vwCl[t - 1]? = some q ∧ ("java/lang/Object" = q.1 ∨ Cond.castable q.1 "java/lang/Object" ∈ lw_tbl) := by
  obtain ⟨-, -, q, h1, h2⟩ := jOb_cast ht
  exact ⟨q, h1, Or.inr h2⟩
theorem ct_add3 (hL : isL γ h a e xs) (hel : ∀ y ∈ xs, jOb (h.tag y) = true) (hn : xs.length < 100) (hx : jOb (h.tag x) = true) (hK : γ.K 0 < γ.base) : CT γ mJx4a65c_add_72be8 5 1 150 [.ref a, .ref x, .ref e, .int (jI (xs.length : Int))] h (fun r h' => r = none ∧ ∃ e', isL γ h' a e' (xs ++ [x]) ∧ (e' = e ∨ (h.tag e' = 0 ∧ γ.base ≤ e')) ∧ frA h h' a e ∧ h'.I 3 a 0 = h.I 3 a 0) X0 := by
  obtain ⟨h1', h2, h3, h4, h5, h6, h7, h8, h9⟩ := hL
  have hx3 := (jOb_cast hx)
  refine CT.of MJx4a65c_add_72be8 (Nat.le_of_ble_eq_true rfl) ?_
  show J γ mJx4a65c_add_72be8 5 1 150 0 0 h 0 [(0, .ref a), (1, .ref x), (2, .ref e), (3, .int (jI (xs.length : Int)))] [] _ _
  refine J.iload_n (pc' := 1) rfl rfl rfl ?_
  first | refine J.aload_n (pc' := 2) rfl rfl rfl ?_ | refine J.aload_nN (pc' := 2) rfl rfl rfl ?_
  refine J.alenT (pc' := 3) rfl (by first | assumption | (simp only [jM.tag_sI, jM.tag_sL, jM.tag_sR, jM.tag_fI, jM.tag_fL, jM.tag_fR]; assumption) | (simp [jM.tag_nw, jM.tag_sI, jM.tag_sL, jM.tag_sR, jM.tag_fI, jM.tag_fL, jM.tag_fR, *]; done)) (by decide) (by decide) rfl ?_
  refine J.icmp_ne (tgt := 11) (pc' := 6) rfl rfl rfl (by first | omega | (simp only [jM.len_sI, jM.len_sL, jM.len_sR, jM.len_fI, jM.len_fL, jM.len_fR]; omega) | (simp [jM.len_nw, jM.len_sI, jM.len_sL, jM.len_sR, jM.len_fI, jM.len_fL, jM.len_fR, *]; omega)) (by first | omega | (simp only [jM.len_sI, jM.len_sL, jM.len_sR, jM.len_fI, jM.len_fL, jM.len_fR]; omega) | (simp [jM.len_nw, jM.len_sI, jM.len_sL, jM.len_sR, jM.len_fI, jM.len_fL, jM.len_fR, *]; omega)) (fun hc => ?_) (fun hc => ?_)
  · first | refine J.aload_n (pc' := 12) rfl rfl rfl ?_ | refine J.aload_nN (pc' := 12) rfl rfl rfl ?_
    refine J.iload_n (pc' := 13) rfl rfl rfl ?_
    first | refine J.aload_n (pc' := 14) rfl rfl rfl ?_ | refine J.aload_nN (pc' := 14) rfl rfl rfl ?_
    refine J.aast (pc' := 15) (cn := "java/lang/Object") rfl h3 (by decide) rfl (by decide) rfl ⟨hx3.1, hx3.2.1⟩ (jObT hx) (by omega) (by omega) (by omega) rfl rfl ?_
    first | refine J.aload_n (pc' := 16) rfl rfl rfl ?_ | refine J.aload_nN (pc' := 16) rfl rfl rfl ?_
    refine J.iload_n (pc' := 17) rfl rfl rfl ?_
    refine J.iconst (pc' := 18) rfl rfl ?_
    refine J.iadd (pc' := 19) rfl rfl ?_
    refine J.putI (pc' := 22) rfl fl_Jx4a65c_48 rfl (Or.inl rfl) (by first | assumption | (simp only [jM.tag_sI, jM.tag_sL, jM.tag_sR, jM.tag_fI, jM.tag_fL, jM.tag_fR]; assumption) | (simp [jM.tag_nw, jM.tag_sI, jM.tag_sL, jM.tag_sR, jM.tag_fI, jM.tag_fL, jM.tag_fR, *]; done)) (Or.inl rfl) rfl ?_
    refine J.vret rfl rfl (by first | omega | (simp only [jM.len_sI, jM.len_sL, jM.len_sR, jM.len_fI, jM.len_fL, jM.len_fR]; omega) | (simp [jM.len_nw, jM.len_sI, jM.len_sL, jM.len_sR, jM.len_fI, jM.len_fL, jM.len_fR, *]; omega)) (by first | omega | (simp only [jM.len_sI, jM.len_sL, jM.len_sR, jM.len_fI, jM.len_fL, jM.len_fR]; omega) | (simp [jM.len_nw, jM.len_sI, jM.len_sL, jM.len_sR, jM.len_fI, jM.len_fL, jM.len_fR, *]; omega)) ?_
    have hne : ¬ a = e := fun q => by rw [q] at h1'; omega
    refine ⟨rfl, e, ⟨?_, ?_, ?_, ?_, ?_, ?_, ?_, fun i hi => ?_, fun hn => ?_⟩, Or.inl rfl, ⟨fun b => Or.inl rfl, fun b _ => rfl, fun t b k q1 q2 => ?_, fun t b k q1 => rfl, fun t b k q1 q2 => ?_⟩, ?_⟩
    · exact h1'
    · rw [jM.R_sI, jM.R_sR, if_neg (by omega)]; exact h2
    · exact h3
    · simp [jM.I_sI]
    · simp only [List.length_append, List.length_singleton, jM.len_sI, jM.len_sR]; omega
    · exact h6
    · exact h7
    · rw [jM.R_sI, jM.R_sR]
      by_cases hi2 : i = xs.length
      · subst hi2
        rw [if_pos ⟨rfl, rfl, by omega⟩]
        simp
      · have hi3 : i < xs.length := by simp at hi; omega
        rw [if_neg (by omega), List.getElem?_append_left hi3]
        exact h8 i hi3
    · rw [jM.I_sI, if_neg (by omega)]; exact h9 hn
    · rw [jM.I_sI, if_neg (fun q => q1 ⟨q.1, q.2.1⟩)]; rfl
    · rw [jM.R_sI, jM.R_sR, if_neg (fun q => q2 ⟨q.1, Or.inl q.2.1⟩)]
    · rw [jM.I_sI, if_neg (by omega)]; rfl
  · have hfull : h.len e = xs.length := by omega
    have hel2 : ∀ i, i < h.len e → ∀ y, h.R 34 e i = some y → jOb (h.tag y) = true := fun i hi y hy => by
      rw [h8 i (by omega)] at hy
      exact hel y (List.mem_of_getElem? hy)
    first | refine J.aload_n (pc' := 7) rfl rfl rfl ?_ | refine J.aload_nN (pc' := 7) rfl rfl rfl ?_
    refine J.callV (pc' := 10) (t := 3) rfl MJx4a65c_grow_d5877 ml_Jx4a65c_129 iv_Jx4a65c_grow_d5877 (by decide) ⟨_, rfl, rfl⟩ (by first | assumption | (simp only [jM.tag_sI, jM.tag_sL, jM.tag_sR, jM.tag_fI, jM.tag_fL, jM.tag_fR]; assumption) | (simp [jM.tag_nw, jM.tag_sI, jM.tag_sL, jM.tag_sR, jM.tag_fI, jM.tag_fL, jM.tag_fR, *]; done)) (ct_grow0 h1' h2 h3 (by omega) (by omega) h7 hel2) rfl rfl (Nat.le_of_ble_eq_true rfl) (by first | omega | (simp only [jM.len_sI, jM.len_sL, jM.len_sR, jM.len_fI, jM.len_fL, jM.len_fR]; omega) | (simp [jM.len_nw, jM.len_sI, jM.len_sL, jM.len_sR, jM.len_fI, jM.len_fL, jM.len_fR, *]; omega)) (by first | omega | (simp only [jM.len_sI, jM.len_sL, jM.len_sR, jM.len_fI, jM.len_fL, jM.len_fR]; omega) | (simp [jM.len_nw, jM.len_sI, jM.len_sL, jM.len_sR, jM.len_fI, jM.len_fL, jM.len_fR, *]; omega)) (by first | omega | (simp only [jM.len_sI, jM.len_sL, jM.len_sR, jM.len_fI, jM.len_fL, jM.len_fR]; omega) | (simp [jM.len_nw, jM.len_sI, jM.len_sL, jM.len_sR, jM.len_fI, jM.len_fL, jM.len_fR, *]; omega)) rfl rfl ?_ ?_
    · exact fun _ _ h => h
    rintro _ h0 ⟨q, qf, qb, rfl, hh0⟩
    refine J.ghI (t := 34) (a := q) (k := 0) (v := (a : Int)) rfl ?_
    obtain ⟨h1, hh1⟩ : ∃ z, z = h0.sI 34 q 0 (a : Int) := ⟨_, rfl⟩
    rw [← hh1]
    rw [hh0] at hh1
    have n1 : ¬ a = q := fun e1 => by rw [e1] at h1'; omega
    have n2 : ¬ x = q := fun e1 => by rw [e1] at hx3; omega
    have cap : xs.length < jCap (h.len e) ∧ jCap (h.len e) ≤ 150 := by unfold jCap; split <;> omega
    have T1 : ∀ b, h1.tag b = if b = q then 34 else h.tag b := fun b => by rw [hh1]; rfl
    have L1 : ∀ b, h1.len b = if b = q then jCap (h.len e) else h.len b := fun b => by rw [hh1]; rfl
    have I1 : ∀ t b k, ¬ (t = 34 ∧ b = q) → h1.I t b k = h.I t b k := fun t b k ht => by
      rw [hh1, jM.I_sI, if_neg (fun q9 => ht ⟨q9.1, q9.2.1⟩), jM.I_sR, jM.I_fR, jM.I_nw, if_neg ht]
    have I2 : h1.I 34 q 0 = (a : Int) := by rw [hh1, jM.I_sI, if_pos ⟨rfl, rfl, rfl⟩]
    have G1 : ∀ t b k, t ≠ 34 → h1.L t b k = h.L t b k := fun t b k ht => by
      rw [hh1, jM.L_sI, jM.L_sR, jM.L_fR, jM.L_nw, if_neg (fun q9 => ht q9.1)]
    have R1 : ∀ k, h1.R 34 q k = if k < h.len e then h.R 34 e k else none := fun k => by
      rw [hh1, jM.R_sI, jM.R_sR, if_neg (by omega), jM.R_fR, if_pos ⟨rfl, rfl⟩]
    have R2 : h1.R 3 a 1 = some q := by rw [hh1, jM.R_sI, jM.R_sR, if_pos ⟨rfl, rfl, rfl⟩]
    have R3 : ∀ t b k, ¬ (t = 34 ∧ b = q) → ¬ (t = 3 ∧ b = a) → h1.R t b k = h.R t b k := fun t b k hb2 hb3 => by
      rw [hh1, jM.R_sI, jM.R_sR, if_neg (fun q9 => hb3 ⟨q9.1, q9.2.1⟩), jM.R_fR, if_neg hb2, jM.R_nw, if_neg hb2]
    clear hh1
    have tq : h1.tag q = 34 := by rw [T1, if_pos rfl]
    have lq : h1.len q = jCap (h.len e) := by rw [L1, if_pos rfl]
    have tx : h1.tag x = h.tag x := by rw [T1, if_neg n2]
    have ta : h1.tag a = 3 := by rw [T1, if_neg n1, h1']
    first | refine J.astore_n (pc' := 11) rfl rfl (by decide) ?_ | refine J.astore_nN (pc' := 11) rfl rfl (by decide) ?_
    first | refine J.aload_n (pc' := 12) rfl rfl rfl ?_ | refine J.aload_nN (pc' := 12) rfl rfl rfl ?_
    refine J.iload_n (pc' := 13) rfl rfl rfl ?_
    first | refine J.aload_n (pc' := 14) rfl rfl rfl ?_ | refine J.aload_nN (pc' := 14) rfl rfl rfl ?_
    refine J.aast (pc' := 15) (cn := "java/lang/Object") rfl tq (by decide) rfl (by decide) tx ⟨hx3.1, hx3.2.1⟩ (jObT hx) (by omega) (by omega) (by omega) rfl rfl ?_
    first | refine J.aload_n (pc' := 16) rfl rfl rfl ?_ | refine J.aload_nN (pc' := 16) rfl rfl rfl ?_
    refine J.iload_n (pc' := 17) rfl rfl rfl ?_
    refine J.iconst (pc' := 18) rfl rfl ?_
    refine J.iadd (pc' := 19) rfl rfl ?_
    refine J.putI (pc' := 22) rfl fl_Jx4a65c_48 rfl (Or.inl rfl) (by first | assumption | (simp only [jM.tag_sI, jM.tag_sL, jM.tag_sR, jM.tag_fI, jM.tag_fL, jM.tag_fR]; assumption) | (simp [jM.tag_nw, jM.tag_sI, jM.tag_sL, jM.tag_sR, jM.tag_fI, jM.tag_fL, jM.tag_fR, *]; done)) (Or.inl rfl) rfl ?_
    refine J.vret rfl rfl (by first | omega | (simp only [jM.len_sI, jM.len_sL, jM.len_sR, jM.len_fI, jM.len_fL, jM.len_fR]; omega) | (simp [jM.len_nw, jM.len_sI, jM.len_sL, jM.len_sR, jM.len_fI, jM.len_fL, jM.len_fR, *]; omega)) (by first | omega | (simp only [jM.len_sI, jM.len_sL, jM.len_sR, jM.len_fI, jM.len_fL, jM.len_fR]; omega) | (simp [jM.len_nw, jM.len_sI, jM.len_sL, jM.len_sR, jM.len_fI, jM.len_fL, jM.len_fR, *]; omega)) ?_
    refine ⟨rfl, q, ⟨ta, ?_, tq, ?_, ?_, ?_, ?_, fun i hi => ?_, fun _ => ?_⟩, Or.inr ⟨qf, qb⟩, ⟨fun b => ?_, fun b hb => ?_, fun t b k q1 q2 => ?_, fun t b k q1 => G1 t b k q1, fun t b k q1 q2 => ?_⟩, ?_⟩
    · rw [jM.R_sI, jM.R_sR, if_neg (by omega)]; exact R2
    · simp [jM.I_sI]
    · simp only [List.length_append, List.length_singleton, jM.len_sI, jM.len_sR]; omega
    · simp only [jM.len_sI, jM.len_sR]; omega
    · simp only [jM.len_sI, jM.len_sR]
      constructor
      · omega
      · intro q9
        rw [q9] at qb
        omega
    · rw [jM.R_sI, jM.R_sR]
      by_cases hi2 : i = xs.length
      · subst hi2
        rw [if_pos ⟨rfl, rfl, by omega⟩]
        simp
      · have hi3 : i < xs.length := by simp at hi; omega
        rw [if_neg (by omega), List.getElem?_append_left hi3, ← h8 i hi3, R1, if_pos (by omega)]
    · rw [jM.I_sI, if_neg (by omega), jM.I_sR]
      exact I2
    · show h1.tag b = h.tag b ∨ (h.tag b = 0 ∧ h1.tag b = 34)
      rw [T1]
      by_cases hb : b = q
      · rw [if_pos hb, hb]
        exact Or.inr ⟨qf, rfl⟩
      · rw [if_neg hb]
        exact Or.inl rfl
    · show h1.len b = h.len b
      rw [L1, if_neg (fun e1 => by rw [e1] at hb; omega)]
    · rw [jM.I_sI, if_neg (fun q9 => q1 ⟨q9.1, q9.2.1⟩), jM.I_sR]
      exact I1 t b k (fun q9 => q2 ⟨q9.1, Or.inr (by rw [q9.2]; exact qf)⟩)
    · have hb2 : ¬ (t = 34 ∧ b = q) := fun q9 => q2 ⟨q9.1, Or.inr (by rw [q9.2]; exact qf)⟩
      rw [jM.R_sI, jM.R_sR, if_neg (fun q9 => hb2 ⟨q9.1, q9.2.1⟩)]
      exact R3 t b k hb2 q1
    · rw [jM.I_sI, if_neg (by omega), jM.I_sR]
      exact I1 3 a 0 (fun q9 => by omega)
end AD

