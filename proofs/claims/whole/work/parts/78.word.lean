/-- a text by its signs -/
def tx (l : List Int) : Int → Int := fun i => (l[i.toNat]?).getD 0
theorem wc_p {T : Int → Int} {p : Int} : ∀ k : Nat, (∀ i : Nat, i < k → 1 ≤ T (p + i) ∧ T (p + i) < 256) → 0 ≤ wc T p k ∧ (0 < k → 1 ≤ wc T p k) := fun k => by
  induction k with
  | zero => exact fun _ => ⟨Int.le_refl _, fun z => absurd z (Nat.lt_irrefl _)⟩
  | succ k ih =>
    intro hT
    have a := (ih (fun i hi => hT i (by omega))).1
    have b := hT k (by omega)
    rw [wc]
    exact ⟨by omega, fun _ => by omega⟩
theorem wc_inj {T S : Int → Int} {p q : Int} : ∀ (k j : Nat), (∀ i : Nat, i < k → 1 ≤ T (p + i) ∧ T (p + i) < 256) → (∀ i : Nat, i < j → 1 ≤ S (q + i) ∧ S (q + i) < 256) → wc T p k = wc S q j → k = j ∧ ∀ i : Nat, i < k → T (p + i) = S (q + i) := fun k => by
  induction k with
  | zero =>
    intro j hT hS he
    cases j with
    | zero => exact ⟨rfl, fun i hi => absurd hi (Nat.not_lt_zero _)⟩
    | succ j =>
      have := (wc_p (j + 1) hS).2 (by omega)
      have e0 : wc T p 0 = 0 := rfl
      omega
  | succ k ih =>
    intro j hT hS he
    cases j with
    | zero =>
      have := (wc_p (k + 1) hT).2 (by omega)
      have e0 : wc S q 0 = 0 := rfl
      omega
    | succ j =>
      rw [wc, wc] at he
      have t := hT k (by omega)
      have s := hS j (by omega)
      obtain ⟨e1, e2⟩ := ih j (fun i hi => hT i (by omega)) (fun i hi => hS i (by omega)) (by omega)
      subst e1
      refine ⟨rfl, fun i hi => ?_⟩
      by_cases z : i = k
      · subst z; omega
      · exact e2 i (by omega)
theorem wc_cg {T S : Int → Int} {p q : Int} : ∀ k : Nat, (∀ i : Nat, i < k → T (p + i) = S (q + i)) → wc T p k = wc S q k := fun k => by
  induction k with
  | zero => exact fun _ => rfl
  | succ k ih => exact fun h => by rw [wc, wc, ih (fun i hi => h i (by omega)), h k (by omega)]
theorem word_iff {T : Int → Int} {n x : Int} {l : List Int} (hx : x ≤ n) (hl : 1 ≤ l.length ∧ l.length ≤ 5) (hd : ∀ i : Nat, i < l.length → 97 ≤ tx l i ∧ tx l i ≤ 122) : sameT (we T n x - x) l.length (fun i => T (x + i)) (tx l) ↔ wcode T n x = wc (tx l) 0 l.length := by
  have w := we_b (T := T) hx
  have hd0 : ∀ i : Nat, i < l.length → 1 ≤ tx l (0 + i) ∧ tx l (0 + i) < 256 := fun i hi => by
    have := hd i hi
    rw [Int.zero_add]
    omega
  have p1 := (wc_p l.length hd0).2 (by omega)
  have hT : ∀ k : Nat, (k : Int) ≤ we T n x - x → ∀ i : Nat, i < k → 1 ≤ T (x + i) ∧ T (x + i) < 256 := fun k hk i hi => by
    have := w.2.2.1 (x + i) (by omega) (by omega)
    omega
  constructor
  · rintro ⟨e1, e2⟩
    unfold wcode
    rw [if_pos (by omega), show (we T n x - x).toNat = l.length by omega]
    exact wc_cg _ (fun i hi => by rw [Int.zero_add]; exact e2 i (by omega) (by omega))
  · intro he
    unfold wcode at he
    by_cases z : we T n x - x ≤ 5
    · rw [if_pos z] at he
      obtain ⟨g1, g2⟩ := wc_inj _ _ (hT _ (by omega)) hd0 he
      refine ⟨by omega, fun i h1 h2 => ?_⟩
      have := g2 i.toNat (by omega)
      rw [Int.zero_add, show ((i.toNat : Nat) : Int) = i by omega] at this
      exact this
    · rw [if_neg z] at he
      omega
def txs : List (Nat × List Int) := [(1, [103, 114, 97, 100, 101]), (2, [101, 108, 115, 101]), (3, [112, 97, 121]), (4, [99, 117]), (5, [110, 105]), (6, [99, 114]), (7, [115, 110]), (8, [112, 104])]
def isK (γ : jG) (h : jM) : Prop := (∃ e0, isSt h (γ.K 9) e0 0 (fun _ => 0) ∧ e0 < γ.base ∧ γ.K 9 < γ.base) ∧ (∀ q ∈ txs, ∃ e0, isSt h (γ.K q.1) e0 q.2.length (tx q.2) ∧ e0 < γ.base ∧ γ.K q.1 < γ.base) ∧ γ.K 0 < γ.base ∧ h.tag (γ.K 0) = 34 ∧ h.len (γ.K 0) = 0
theorem isK.kept {γ : jG} {h h' : jM} {W : Nat → Prop} (F : Fr h h' W) (hK : isK γ h) (hw : ∀ b, b < γ.base → (h.tag b = 1 ∨ h.tag b = 35) → ¬ W b) : isK γ h' := by
  obtain ⟨⟨e0, a1, a2, a3⟩, b, c1, c2, c3⟩ := hK
  refine ⟨⟨e0, a1.kept F (hw _ a3 (Or.inl a1.1)) (hw _ a2 (Or.inr a1.2.2.1)), a2, a3⟩, fun q hq => ?_, c1, F.tag c2 (by omega), by rw [F.len (by omega)]; exact c3⟩
  obtain ⟨e1, d1, d2, d3⟩ := b q hq
  exact ⟨e1, d1.kept F (hw _ d3 (Or.inl d1.1)) (hw _ d2 (Or.inr d1.2.2.1)), d2, d3⟩
theorem isK.k9 {γ : jG} {h : jM} (hK : isK γ h) : ∃ e0, isSt h (γ.K 9) e0 0 (fun _ => 0) := hK.1.imp (fun _ z => z.1)
theorem txs_ok : ∀ q ∈ txs, (1 ≤ q.2.length ∧ q.2.length ≤ 5) ∧ ∀ i : Nat, i < q.2.length → 97 ≤ tx q.2 i ∧ tx q.2 i ≤ 122 := by decide
theorem txs_1 : wc (tx [103, 114, 97, 100, 101]) 0 5 = 444300616805 := by decide
theorem txs_2 : wc (tx [101, 108, 115, 101]) 0 4 = 1701606245 := by decide
theorem txs_3 : wc (tx [112, 97, 121]) 0 3 = 7364985 := by decide
theorem txs_4 : wc (tx [99, 117]) 0 2 = 25461 := by decide
theorem txs_5 : wc (tx [110, 105]) 0 2 = 28265 := by decide
theorem txs_6 : wc (tx [99, 114]) 0 2 = 25458 := by decide
theorem txs_7 : wc (tx [115, 110]) 0 2 = 29550 := by decide
theorem txs_8 : wc (tx [112, 104]) 0 2 = 28776 := by decide
section WD
variable {γ : jG} {h : jM} {rd s e c : Nat} {n p pl nm : Int} {T : Int → Int}
def wdQ (h : jM) (rd s e : Nat) (n : Int) (T : Int → Int) (c : Nat) (p nm w : Int) : Option Value → jM → Prop := fun r h' => (wcode T n (sk T n p) = w ∧ r = some (.int (jI 1)) ∧ rdE h h' rd s e n T c (we T n (sk T n p)) (sk T n p) nm) ∨ (wcode T n (sk T n p) ≠ w ∧ r = some (.int (jI 0)) ∧ rdE h h' rd s e n T c (sk T n p) (sk T n p) nm)
theorem cr_word {q : Nat × List Int} (hq : q ∈ txs) (hR : isRd h rd s e n T c p pl nm) (hK : isK γ h) : CT γ mX2_takesWord 6 2 ((we T n (sk T n p) - sk T n p).toNat + 4) [.ref rd, .ref (γ.K q.1)] h (wdQ h rd s e n T c p nm (wc (tx q.2) 0 q.2.length)) X0 := by
  have hp := hR.2.2.2.2.2.2.2
  have skb := sk_b (T := T) hp.2
  have web := we_b (T := T) skb.2.1
  have hb := hR.bnd
  have tr := hR.1
  obtain ⟨ok1, ok2⟩ := txs_ok q hq
  have wi := word_iff (T := T) skb.2.1 ok1 ok2
  refine CT.of MX2_takesWord (Nat.le_of_ble_eq_true rfl) ?_
  show J γ mX2_takesWord 6 2 ((we T n (sk T n p) - sk T n p).toNat+4) 0 0 h 0 [(0, .ref rd), (1, .ref (γ.K q.1))] [] _ _
  first | refine J.aload_n (pc' := 1) rfl rfl rfl ?_ | refine J.aload_nN (pc' := 1) rfl rfl rfl ?_
  refine J.callV (pc' := 4) (t := 6) rfl MX2_nextWord ml_X2_105 iv_X2_nextWord (by decide) ⟨_, rfl, rfl⟩ (by first | assumption | (simp only [jM.tag_sI, jM.tag_sL, jM.tag_sR, jM.tag_fI, jM.tag_fL, jM.tag_fR]; assumption) | (simp [jM.tag_nw, jM.tag_sI, jM.tag_sL, jM.tag_sR, jM.tag_fI, jM.tag_fL, jM.tag_fR, *]; done)) (cr_next hR hK.k9) rfl rfl (Nat.le_of_ble_eq_true rfl) (by first | omega | (exact R.r _ _) | (simp only [jM.len_sI, jM.len_sL, jM.len_sR, jM.len_fI, jM.len_fL, jM.len_fR]; omega) | (simp [jM.len_nw, jM.len_sI, jM.len_sL, jM.len_sR, jM.len_fI, jM.len_fL, jM.len_fR, *]; omega)) (by first | omega | (exact R.r _ _) | (simp only [jM.len_sI, jM.len_sL, jM.len_sR, jM.len_fI, jM.len_fL, jM.len_fR]; omega) | (simp [jM.len_nw, jM.len_sI, jM.len_sL, jM.len_sR, jM.len_fI, jM.len_fL, jM.len_fR, *]; omega)) (by first | omega | (exact R.r _ _) | (simp only [jM.len_sI, jM.len_sL, jM.len_sR, jM.len_fI, jM.len_fL, jM.len_fR]; omega) | (simp [jM.len_nw, jM.len_sI, jM.len_sL, jM.len_sR, jM.len_fI, jM.len_fL, jM.len_fR, *]; omega)) rfl rfl ?_ ?_
  · exact fun _ _ h => h
  rintro _ k ⟨w, qq, rfl, g1, g2, g3, g4⟩
  have hK2 := hK.kept g3 (fun b _ hb z => by rw [z] at hb; omega)
  obtain ⟨e1, d1, d2, d3⟩ := hK2.2.1 q hq
  have tw := g1.1
  first | refine J.aload_n (pc' := 5) rfl rfl rfl ?_ | refine J.aload_nN (pc' := 5) rfl rfl rfl ?_
  refine J.callV (pc' := 8) (t := 1) rfl MJ0_equals_9ea2d ml_X2_109 iv_J0_equals_9ea2d (by decide) ⟨_, rfl, rfl⟩ (by first | assumption | (simp only [jM.tag_sI, jM.tag_sL, jM.tag_sR, jM.tag_fI, jM.tag_fL, jM.tag_fR]; assumption) | (simp [jM.tag_nw, jM.tag_sI, jM.tag_sL, jM.tag_sR, jM.tag_fI, jM.tag_fL, jM.tag_fR, *]; done)) (cj_equals g1 d1) rfl rfl (Nat.le_of_ble_eq_true rfl) (by first | omega | (exact R.r _ _) | (simp only [jM.len_sI, jM.len_sL, jM.len_sR, jM.len_fI, jM.len_fL, jM.len_fR]; omega) | (simp [jM.len_nw, jM.len_sI, jM.len_sL, jM.len_sR, jM.len_fI, jM.len_fL, jM.len_fR, *]; omega)) (by first | omega | (exact R.r _ _) | (simp only [jM.len_sI, jM.len_sL, jM.len_sR, jM.len_fI, jM.len_fL, jM.len_fR]; omega) | (simp [jM.len_nw, jM.len_sI, jM.len_sL, jM.len_sR, jM.len_fI, jM.len_fL, jM.len_fR, *]; omega)) (by first | omega | (exact R.r _ _) | (simp only [jM.len_sI, jM.len_sL, jM.len_sR, jM.len_fI, jM.len_fL, jM.len_fR]; omega) | (simp [jM.len_nw, jM.len_sI, jM.len_sL, jM.len_sR, jM.len_fI, jM.len_fL, jM.len_fR, *]; omega)) rfl rfl ?_ ?_
  · exact fun _ _ h => h
  rintro _ k ⟨rfl, hc⟩
  have g20 := g2
  obtain ⟨c1, c2, c3, c4, c5, c6, c7, c8⟩ := g20
  rcases hc with ⟨rfl, hc⟩ | ⟨rfl, hc⟩
  · refine J.if_ne (tgt := 13) (pc' := 11) rfl rfl rfl (by first | omega | (exact R.r _ _) | (simp only [jM.len_sI, jM.len_sL, jM.len_sR, jM.len_fI, jM.len_fL, jM.len_fR]; omega) | (simp [jM.len_nw, jM.len_sI, jM.len_sL, jM.len_sR, jM.len_fI, jM.len_fL, jM.len_fR, *]; omega)) (fun z1 => ?_) (fun z1 => ?_)
    · first | refine J.aload_n (pc' := 14) rfl rfl rfl ?_ | refine J.aload_nN (pc' := 14) rfl rfl rfl ?_
      refine J.dup (pc' := 15) rfl rfl rfl ?_
      refine J.getI (pc' := 18) rfl fl_X2_9 rfl (by first | assumption | (simp only [jM.tag_sI, jM.tag_sL, jM.tag_sR, jM.tag_fI, jM.tag_fL, jM.tag_fR]; assumption) | (simp [jM.tag_nw, jM.tag_sI, jM.tag_sL, jM.tag_sR, jM.tag_fI, jM.tag_fL, jM.tag_fR, *]; done)) rfl ?_
      rw [c5]
      have tk := d1.1
      first | refine J.aload_n (pc' := 19) rfl rfl rfl ?_ | refine J.aload_nN (pc' := 19) rfl rfl rfl ?_
      refine J.callV (pc' := 22) (t := 1) rfl MJ0_length_8abf5 ml_X2_52 iv_J0_length_8abf5 (by decide) ⟨_, rfl, rfl⟩ (by first | assumption | (simp only [jM.tag_sI, jM.tag_sL, jM.tag_sR, jM.tag_fI, jM.tag_fL, jM.tag_fR]; assumption) | (simp [jM.tag_nw, jM.tag_sI, jM.tag_sL, jM.tag_sR, jM.tag_fI, jM.tag_fL, jM.tag_fR, *]; done)) (cj_strLen d1) rfl rfl (Nat.le_of_ble_eq_true rfl) (by first | omega | (exact R.r _ _) | (simp only [jM.len_sI, jM.len_sL, jM.len_sR, jM.len_fI, jM.len_fL, jM.len_fR]; omega) | (simp [jM.len_nw, jM.len_sI, jM.len_sL, jM.len_sR, jM.len_fI, jM.len_fL, jM.len_fR, *]; omega)) (by first | omega | (exact R.r _ _) | (simp only [jM.len_sI, jM.len_sL, jM.len_sR, jM.len_fI, jM.len_fL, jM.len_fR]; omega) | (simp [jM.len_nw, jM.len_sI, jM.len_sL, jM.len_sR, jM.len_fI, jM.len_fL, jM.len_fR, *]; omega)) (by first | omega | (exact R.r _ _) | (simp only [jM.len_sI, jM.len_sL, jM.len_sR, jM.len_fI, jM.len_fL, jM.len_fR]; omega) | (simp [jM.len_nw, jM.len_sI, jM.len_sL, jM.len_sR, jM.len_fI, jM.len_fL, jM.len_fR, *]; omega)) rfl rfl ?_ ?_
      · exact fun _ _ h => h
      rintro _ k ⟨rfl, rfl⟩
      refine J.iadd (pc' := 23) rfl rfl ?_
      refine J.putI (pc' := 26) rfl fl_X2_9 rfl (Or.inl rfl) (by first | assumption | (simp only [jM.tag_sI, jM.tag_sL, jM.tag_sR, jM.tag_fI, jM.tag_fL, jM.tag_fR]; assumption) | (simp [jM.tag_nw, jM.tag_sI, jM.tag_sL, jM.tag_sR, jM.tag_fI, jM.tag_fL, jM.tag_fR, *]; done)) (Or.inl rfl) rfl ?_
      refine J.iconst (pc' := 27) rfl rfl ?_
      refine J.zret rfl rfl (by rfl) (by first | omega | (exact R.r _ _) | (simp only [jM.len_sI, jM.len_sL, jM.len_sR, jM.len_fI, jM.len_fL, jM.len_fR]; omega) | (simp [jM.len_nw, jM.len_sI, jM.len_sL, jM.len_sR, jM.len_fI, jM.len_fL, jM.len_fR, *]; omega)) (by first | omega | (exact R.r _ _) | (simp only [jM.len_sI, jM.len_sL, jM.len_sR, jM.len_fI, jM.len_fL, jM.len_fR]; omega) | (simp [jM.len_nw, jM.len_sI, jM.len_sL, jM.len_sR, jM.len_fI, jM.len_fL, jM.len_fR, *]; omega)) ?_
      refine Or.inl ⟨wi.mp hc, rfl, ?_, g3.stI (Or.inl rfl), g4.st rfl⟩
      have e9 : sk T n p + (q.2.length : Int) = we T n (sk T n p) := by have := hc.1; omega
      rw [e9]
      exact g2.setA (by omega) (by omega)
    · omega
  · refine J.if_ne (tgt := 13) (pc' := 11) rfl rfl rfl (by first | omega | (exact R.r _ _) | (simp only [jM.len_sI, jM.len_sL, jM.len_sR, jM.len_fI, jM.len_fL, jM.len_fR]; omega) | (simp [jM.len_nw, jM.len_sI, jM.len_sL, jM.len_sR, jM.len_fI, jM.len_fL, jM.len_fR, *]; omega)) (fun z1 => ?_) (fun z1 => ?_)
    · omega
    · refine J.iconst (pc' := 12) rfl rfl ?_
      refine J.zret rfl rfl (by rfl) (by first | omega | (exact R.r _ _) | (simp only [jM.len_sI, jM.len_sL, jM.len_sR, jM.len_fI, jM.len_fL, jM.len_fR]; omega) | (simp [jM.len_nw, jM.len_sI, jM.len_sL, jM.len_sR, jM.len_fI, jM.len_fL, jM.len_fR, *]; omega)) (by first | omega | (exact R.r _ _) | (simp only [jM.len_sI, jM.len_sL, jM.len_sR, jM.len_fI, jM.len_fL, jM.len_fR]; omega) | (simp [jM.len_nw, jM.len_sI, jM.len_sL, jM.len_sR, jM.len_fI, jM.len_fL, jM.len_fR, *]; omega)) ?_
      exact Or.inr ⟨fun z => hc (wi.mpr z), rfl, g2, g3, g4⟩
theorem cr_metalOf {w qq : Nat} {x : Int} (hx : x ≤ n) (hW : isSt h w qq (we T n x - x) (fun i => T (x + i))) (hK : isK γ h) : CT γ mX2_metalOf 2 0 0 [.ref w] h (fun r h' => r = some (.int (jI (mof (wcode T n x)))) ∧ h' = h) X0 := by
  have tw := hW.1
  have ck : ∀ q ∈ txs, ∃ e0, isSt h (γ.K q.1) e0 q.2.length (tx q.2) ∧ (sameT (we T n x - x) q.2.length (fun i => T (x + i)) (tx q.2) ↔ wcode T n x = wc (tx q.2) 0 q.2.length) := fun q hq => by
    obtain ⟨e1, d1, d2, d3⟩ := hK.2.1 q hq
    obtain ⟨ok1, ok2⟩ := txs_ok q hq
    exact ⟨e1, d1, word_iff hx ok1 ok2⟩
  obtain ⟨e4, k4, w4⟩ := ck (4, [99, 117]) (by simp [txs])
  obtain ⟨e5, k5, w5⟩ := ck (5, [110, 105]) (by simp [txs])
  obtain ⟨e6, k6, w6⟩ := ck (6, [99, 114]) (by simp [txs])
  obtain ⟨e7, k7, w7⟩ := ck (7, [115, 110]) (by simp [txs])
  obtain ⟨e8, k8, w8⟩ := ck (8, [112, 104]) (by simp [txs])
  have v4 : sameT (we T n x - x) (([99, 117] : List Int).length : Int) (fun i => T (x + i)) (tx [99, 117]) ↔ wcode T n x = 25461 := by rw [← txs_4]; exact w4
  have v5 : sameT (we T n x - x) (([110, 105] : List Int).length : Int) (fun i => T (x + i)) (tx [110, 105]) ↔ wcode T n x = 28265 := by rw [← txs_5]; exact w5
  have v6 : sameT (we T n x - x) (([99, 114] : List Int).length : Int) (fun i => T (x + i)) (tx [99, 114]) ↔ wcode T n x = 25458 := by rw [← txs_6]; exact w6
  have v7 : sameT (we T n x - x) (([115, 110] : List Int).length : Int) (fun i => T (x + i)) (tx [115, 110]) ↔ wcode T n x = 29550 := by rw [← txs_7]; exact w7
  have v8 : sameT (we T n x - x) (([112, 104] : List Int).length : Int) (fun i => T (x + i)) (tx [112, 104]) ↔ wcode T n x = 28776 := by rw [← txs_8]; exact w8
  refine CT.of MX2_metalOf (Nat.le_of_ble_eq_true rfl) ?_
  show J γ mX2_metalOf 2 0 0 0 0 h 0 [(0, .ref w)] [] _ _
  first | refine J.aload_n (pc' := 1) rfl rfl rfl ?_ | refine J.aload_nN (pc' := 1) rfl rfl rfl ?_
  refine J.ldcS (pc' := 3) (i := 4) (text := "cu") rfl (List.mem_of_getElem? (i := 945) (by decide +kernel)) (show (4, Term.string "ScrapYard$ContractReader" 116) ∈ jKs by simp [jKs]) rfl ?_
  refine J.callV (pc' := 6) (t := 1) rfl MJ0_equals_9ea2d ml_X2_109 iv_J0_equals_9ea2d (by decide) ⟨_, rfl, rfl⟩ (by first | assumption | (simp only [jM.tag_sI, jM.tag_sL, jM.tag_sR, jM.tag_fI, jM.tag_fL, jM.tag_fR]; assumption) | (simp [jM.tag_nw, jM.tag_sI, jM.tag_sL, jM.tag_sR, jM.tag_fI, jM.tag_fL, jM.tag_fR, *]; done)) (cj_equals hW k4) rfl rfl (Nat.le_of_ble_eq_true rfl) (by first | omega | (exact R.r _ _) | (simp only [jM.len_sI, jM.len_sL, jM.len_sR, jM.len_fI, jM.len_fL, jM.len_fR]; omega) | (simp [jM.len_nw, jM.len_sI, jM.len_sL, jM.len_sR, jM.len_fI, jM.len_fL, jM.len_fR, *]; omega)) (by first | omega | (exact R.r _ _) | (simp only [jM.len_sI, jM.len_sL, jM.len_sR, jM.len_fI, jM.len_fL, jM.len_fR]; omega) | (simp [jM.len_nw, jM.len_sI, jM.len_sL, jM.len_sR, jM.len_fI, jM.len_fL, jM.len_fR, *]; omega)) (by first | omega | (exact R.r _ _) | (simp only [jM.len_sI, jM.len_sL, jM.len_sR, jM.len_fI, jM.len_fL, jM.len_fR]; omega) | (simp [jM.len_nw, jM.len_sI, jM.len_sL, jM.len_sR, jM.len_fI, jM.len_fL, jM.len_fR, *]; omega)) rfl rfl ?_ ?_
  · exact fun _ _ h => h
  rintro _ h ⟨rfl, hc⟩
  rcases hc with ⟨rfl, hc⟩ | ⟨rfl, hc⟩
  · refine J.if_eq (tgt := 11) (pc' := 9) rfl rfl rfl (by first | omega | (exact R.r _ _) | (simp only [jM.len_sI, jM.len_sL, jM.len_sR, jM.len_fI, jM.len_fL, jM.len_fR]; omega) | (simp [jM.len_nw, jM.len_sI, jM.len_sL, jM.len_sR, jM.len_fI, jM.len_fL, jM.len_fR, *]; omega)) (fun z1 => ?_) (fun z1 => ?_)
    · omega
    · refine J.iconst (pc' := 10) rfl rfl ?_
      refine J.iret rfl rfl (by first | omega | (exact R.r _ _) | (simp only [jM.len_sI, jM.len_sL, jM.len_sR, jM.len_fI, jM.len_fL, jM.len_fR]; omega) | (simp [jM.len_nw, jM.len_sI, jM.len_sL, jM.len_sR, jM.len_fI, jM.len_fL, jM.len_fR, *]; omega)) (by first | omega | (exact R.r _ _) | (simp only [jM.len_sI, jM.len_sL, jM.len_sR, jM.len_fI, jM.len_fL, jM.len_fR]; omega) | (simp [jM.len_nw, jM.len_sI, jM.len_sL, jM.len_sR, jM.len_fI, jM.len_fL, jM.len_fR, *]; omega)) ?_
      exact ⟨by rw [v4.mp hc]; rfl, rfl⟩
  · have n4 : wcode T n x ≠ 25461 := fun z => hc (v4.mpr z)
    refine J.if_eq (tgt := 11) (pc' := 9) rfl rfl rfl (by first | omega | (exact R.r _ _) | (simp only [jM.len_sI, jM.len_sL, jM.len_sR, jM.len_fI, jM.len_fL, jM.len_fR]; omega) | (simp [jM.len_nw, jM.len_sI, jM.len_sL, jM.len_sR, jM.len_fI, jM.len_fL, jM.len_fR, *]; omega)) (fun z1 => ?_) (fun z1 => ?_)
    · first | refine J.aload_n (pc' := 12) rfl rfl rfl ?_ | refine J.aload_nN (pc' := 12) rfl rfl rfl ?_
      refine J.ldcS (pc' := 14) (i := 5) (text := "ni") rfl (List.mem_of_getElem? (i := 946) (by decide +kernel)) (show (5, Term.string "ScrapYard$ContractReader" 118) ∈ jKs by simp [jKs]) rfl ?_
      refine J.callV (pc' := 17) (t := 1) rfl MJ0_equals_9ea2d ml_X2_109 iv_J0_equals_9ea2d (by decide) ⟨_, rfl, rfl⟩ (by first | assumption | (simp only [jM.tag_sI, jM.tag_sL, jM.tag_sR, jM.tag_fI, jM.tag_fL, jM.tag_fR]; assumption) | (simp [jM.tag_nw, jM.tag_sI, jM.tag_sL, jM.tag_sR, jM.tag_fI, jM.tag_fL, jM.tag_fR, *]; done)) (cj_equals hW k5) rfl rfl (Nat.le_of_ble_eq_true rfl) (by first | omega | (exact R.r _ _) | (simp only [jM.len_sI, jM.len_sL, jM.len_sR, jM.len_fI, jM.len_fL, jM.len_fR]; omega) | (simp [jM.len_nw, jM.len_sI, jM.len_sL, jM.len_sR, jM.len_fI, jM.len_fL, jM.len_fR, *]; omega)) (by first | omega | (exact R.r _ _) | (simp only [jM.len_sI, jM.len_sL, jM.len_sR, jM.len_fI, jM.len_fL, jM.len_fR]; omega) | (simp [jM.len_nw, jM.len_sI, jM.len_sL, jM.len_sR, jM.len_fI, jM.len_fL, jM.len_fR, *]; omega)) (by first | omega | (exact R.r _ _) | (simp only [jM.len_sI, jM.len_sL, jM.len_sR, jM.len_fI, jM.len_fL, jM.len_fR]; omega) | (simp [jM.len_nw, jM.len_sI, jM.len_sL, jM.len_sR, jM.len_fI, jM.len_fL, jM.len_fR, *]; omega)) rfl rfl ?_ ?_
      · exact fun _ _ h => h
      rintro _ h ⟨rfl, hc⟩
      rcases hc with ⟨rfl, hc⟩ | ⟨rfl, hc⟩
      · refine J.if_eq (tgt := 22) (pc' := 20) rfl rfl rfl (by first | omega | (exact R.r _ _) | (simp only [jM.len_sI, jM.len_sL, jM.len_sR, jM.len_fI, jM.len_fL, jM.len_fR]; omega) | (simp [jM.len_nw, jM.len_sI, jM.len_sL, jM.len_sR, jM.len_fI, jM.len_fL, jM.len_fR, *]; omega)) (fun z2 => ?_) (fun z2 => ?_)
        · omega
        · refine J.iconst (pc' := 21) rfl rfl ?_
          refine J.iret rfl rfl (by first | omega | (exact R.r _ _) | (simp only [jM.len_sI, jM.len_sL, jM.len_sR, jM.len_fI, jM.len_fL, jM.len_fR]; omega) | (simp [jM.len_nw, jM.len_sI, jM.len_sL, jM.len_sR, jM.len_fI, jM.len_fL, jM.len_fR, *]; omega)) (by first | omega | (exact R.r _ _) | (simp only [jM.len_sI, jM.len_sL, jM.len_sR, jM.len_fI, jM.len_fL, jM.len_fR]; omega) | (simp [jM.len_nw, jM.len_sI, jM.len_sL, jM.len_sR, jM.len_fI, jM.len_fL, jM.len_fR, *]; omega)) ?_
          exact ⟨by rw [v5.mp hc]; rfl, rfl⟩
      · have n5 : wcode T n x ≠ 28265 := fun z => hc (v5.mpr z)
        refine J.if_eq (tgt := 22) (pc' := 20) rfl rfl rfl (by first | omega | (exact R.r _ _) | (simp only [jM.len_sI, jM.len_sL, jM.len_sR, jM.len_fI, jM.len_fL, jM.len_fR]; omega) | (simp [jM.len_nw, jM.len_sI, jM.len_sL, jM.len_sR, jM.len_fI, jM.len_fL, jM.len_fR, *]; omega)) (fun z2 => ?_) (fun z2 => ?_)
        · first | refine J.aload_n (pc' := 23) rfl rfl rfl ?_ | refine J.aload_nN (pc' := 23) rfl rfl rfl ?_
          refine J.ldcS (pc' := 25) (i := 6) (text := "cr") rfl (List.mem_of_getElem? (i := 947) (by decide +kernel)) (show (6, Term.string "ScrapYard$ContractReader" 120) ∈ jKs by simp [jKs]) rfl ?_
          refine J.callV (pc' := 28) (t := 1) rfl MJ0_equals_9ea2d ml_X2_109 iv_J0_equals_9ea2d (by decide) ⟨_, rfl, rfl⟩ (by first | assumption | (simp only [jM.tag_sI, jM.tag_sL, jM.tag_sR, jM.tag_fI, jM.tag_fL, jM.tag_fR]; assumption) | (simp [jM.tag_nw, jM.tag_sI, jM.tag_sL, jM.tag_sR, jM.tag_fI, jM.tag_fL, jM.tag_fR, *]; done)) (cj_equals hW k6) rfl rfl (Nat.le_of_ble_eq_true rfl) (by first | omega | (exact R.r _ _) | (simp only [jM.len_sI, jM.len_sL, jM.len_sR, jM.len_fI, jM.len_fL, jM.len_fR]; omega) | (simp [jM.len_nw, jM.len_sI, jM.len_sL, jM.len_sR, jM.len_fI, jM.len_fL, jM.len_fR, *]; omega)) (by first | omega | (exact R.r _ _) | (simp only [jM.len_sI, jM.len_sL, jM.len_sR, jM.len_fI, jM.len_fL, jM.len_fR]; omega) | (simp [jM.len_nw, jM.len_sI, jM.len_sL, jM.len_sR, jM.len_fI, jM.len_fL, jM.len_fR, *]; omega)) (by first | omega | (exact R.r _ _) | (simp only [jM.len_sI, jM.len_sL, jM.len_sR, jM.len_fI, jM.len_fL, jM.len_fR]; omega) | (simp [jM.len_nw, jM.len_sI, jM.len_sL, jM.len_sR, jM.len_fI, jM.len_fL, jM.len_fR, *]; omega)) rfl rfl ?_ ?_
          · exact fun _ _ h => h
          rintro _ h ⟨rfl, hc⟩
          rcases hc with ⟨rfl, hc⟩ | ⟨rfl, hc⟩
          · refine J.if_eq (tgt := 33) (pc' := 31) rfl rfl rfl (by first | omega | (exact R.r _ _) | (simp only [jM.len_sI, jM.len_sL, jM.len_sR, jM.len_fI, jM.len_fL, jM.len_fR]; omega) | (simp [jM.len_nw, jM.len_sI, jM.len_sL, jM.len_sR, jM.len_fI, jM.len_fL, jM.len_fR, *]; omega)) (fun z3 => ?_) (fun z3 => ?_)
            · omega
            · refine J.iconst (pc' := 32) rfl rfl ?_
              refine J.iret rfl rfl (by first | omega | (exact R.r _ _) | (simp only [jM.len_sI, jM.len_sL, jM.len_sR, jM.len_fI, jM.len_fL, jM.len_fR]; omega) | (simp [jM.len_nw, jM.len_sI, jM.len_sL, jM.len_sR, jM.len_fI, jM.len_fL, jM.len_fR, *]; omega)) (by first | omega | (exact R.r _ _) | (simp only [jM.len_sI, jM.len_sL, jM.len_sR, jM.len_fI, jM.len_fL, jM.len_fR]; omega) | (simp [jM.len_nw, jM.len_sI, jM.len_sL, jM.len_sR, jM.len_fI, jM.len_fL, jM.len_fR, *]; omega)) ?_
              exact ⟨by rw [v6.mp hc]; rfl, rfl⟩
          · have n6 : wcode T n x ≠ 25458 := fun z => hc (v6.mpr z)
            refine J.if_eq (tgt := 33) (pc' := 31) rfl rfl rfl (by first | omega | (exact R.r _ _) | (simp only [jM.len_sI, jM.len_sL, jM.len_sR, jM.len_fI, jM.len_fL, jM.len_fR]; omega) | (simp [jM.len_nw, jM.len_sI, jM.len_sL, jM.len_sR, jM.len_fI, jM.len_fL, jM.len_fR, *]; omega)) (fun z3 => ?_) (fun z3 => ?_)
            · first | refine J.aload_n (pc' := 34) rfl rfl rfl ?_ | refine J.aload_nN (pc' := 34) rfl rfl rfl ?_
              refine J.ldcS (pc' := 36) (i := 7) (text := "sn") rfl (List.mem_of_getElem? (i := 948) (by decide +kernel)) (show (7, Term.string "ScrapYard$ContractReader" 122) ∈ jKs by simp [jKs]) rfl ?_
              refine J.callV (pc' := 39) (t := 1) rfl MJ0_equals_9ea2d ml_X2_109 iv_J0_equals_9ea2d (by decide) ⟨_, rfl, rfl⟩ (by first | assumption | (simp only [jM.tag_sI, jM.tag_sL, jM.tag_sR, jM.tag_fI, jM.tag_fL, jM.tag_fR]; assumption) | (simp [jM.tag_nw, jM.tag_sI, jM.tag_sL, jM.tag_sR, jM.tag_fI, jM.tag_fL, jM.tag_fR, *]; done)) (cj_equals hW k7) rfl rfl (Nat.le_of_ble_eq_true rfl) (by first | omega | (exact R.r _ _) | (simp only [jM.len_sI, jM.len_sL, jM.len_sR, jM.len_fI, jM.len_fL, jM.len_fR]; omega) | (simp [jM.len_nw, jM.len_sI, jM.len_sL, jM.len_sR, jM.len_fI, jM.len_fL, jM.len_fR, *]; omega)) (by first | omega | (exact R.r _ _) | (simp only [jM.len_sI, jM.len_sL, jM.len_sR, jM.len_fI, jM.len_fL, jM.len_fR]; omega) | (simp [jM.len_nw, jM.len_sI, jM.len_sL, jM.len_sR, jM.len_fI, jM.len_fL, jM.len_fR, *]; omega)) (by first | omega | (exact R.r _ _) | (simp only [jM.len_sI, jM.len_sL, jM.len_sR, jM.len_fI, jM.len_fL, jM.len_fR]; omega) | (simp [jM.len_nw, jM.len_sI, jM.len_sL, jM.len_sR, jM.len_fI, jM.len_fL, jM.len_fR, *]; omega)) rfl rfl ?_ ?_
              · exact fun _ _ h => h
              rintro _ h ⟨rfl, hc⟩
              rcases hc with ⟨rfl, hc⟩ | ⟨rfl, hc⟩
              · refine J.if_eq (tgt := 44) (pc' := 42) rfl rfl rfl (by first | omega | (exact R.r _ _) | (simp only [jM.len_sI, jM.len_sL, jM.len_sR, jM.len_fI, jM.len_fL, jM.len_fR]; omega) | (simp [jM.len_nw, jM.len_sI, jM.len_sL, jM.len_sR, jM.len_fI, jM.len_fL, jM.len_fR, *]; omega)) (fun z4 => ?_) (fun z4 => ?_)
                · omega
                · refine J.iconst (pc' := 43) rfl rfl ?_
                  refine J.iret rfl rfl (by first | omega | (exact R.r _ _) | (simp only [jM.len_sI, jM.len_sL, jM.len_sR, jM.len_fI, jM.len_fL, jM.len_fR]; omega) | (simp [jM.len_nw, jM.len_sI, jM.len_sL, jM.len_sR, jM.len_fI, jM.len_fL, jM.len_fR, *]; omega)) (by first | omega | (exact R.r _ _) | (simp only [jM.len_sI, jM.len_sL, jM.len_sR, jM.len_fI, jM.len_fL, jM.len_fR]; omega) | (simp [jM.len_nw, jM.len_sI, jM.len_sL, jM.len_sR, jM.len_fI, jM.len_fL, jM.len_fR, *]; omega)) ?_
                  exact ⟨by rw [v7.mp hc]; rfl, rfl⟩
              · have n7 : wcode T n x ≠ 29550 := fun z => hc (v7.mpr z)
                refine J.if_eq (tgt := 44) (pc' := 42) rfl rfl rfl (by first | omega | (exact R.r _ _) | (simp only [jM.len_sI, jM.len_sL, jM.len_sR, jM.len_fI, jM.len_fL, jM.len_fR]; omega) | (simp [jM.len_nw, jM.len_sI, jM.len_sL, jM.len_sR, jM.len_fI, jM.len_fL, jM.len_fR, *]; omega)) (fun z4 => ?_) (fun z4 => ?_)
                · first | refine J.aload_n (pc' := 45) rfl rfl rfl ?_ | refine J.aload_nN (pc' := 45) rfl rfl rfl ?_
                  refine J.ldcS (pc' := 47) (i := 8) (text := "ph") rfl (List.mem_of_getElem? (i := 949) (by decide +kernel)) (show (8, Term.string "ScrapYard$ContractReader" 124) ∈ jKs by simp [jKs]) rfl ?_
                  refine J.callV (pc' := 50) (t := 1) rfl MJ0_equals_9ea2d ml_X2_109 iv_J0_equals_9ea2d (by decide) ⟨_, rfl, rfl⟩ (by first | assumption | (simp only [jM.tag_sI, jM.tag_sL, jM.tag_sR, jM.tag_fI, jM.tag_fL, jM.tag_fR]; assumption) | (simp [jM.tag_nw, jM.tag_sI, jM.tag_sL, jM.tag_sR, jM.tag_fI, jM.tag_fL, jM.tag_fR, *]; done)) (cj_equals hW k8) rfl rfl (Nat.le_of_ble_eq_true rfl) (by first | omega | (exact R.r _ _) | (simp only [jM.len_sI, jM.len_sL, jM.len_sR, jM.len_fI, jM.len_fL, jM.len_fR]; omega) | (simp [jM.len_nw, jM.len_sI, jM.len_sL, jM.len_sR, jM.len_fI, jM.len_fL, jM.len_fR, *]; omega)) (by first | omega | (exact R.r _ _) | (simp only [jM.len_sI, jM.len_sL, jM.len_sR, jM.len_fI, jM.len_fL, jM.len_fR]; omega) | (simp [jM.len_nw, jM.len_sI, jM.len_sL, jM.len_sR, jM.len_fI, jM.len_fL, jM.len_fR, *]; omega)) (by first | omega | (exact R.r _ _) | (simp only [jM.len_sI, jM.len_sL, jM.len_sR, jM.len_fI, jM.len_fL, jM.len_fR]; omega) | (simp [jM.len_nw, jM.len_sI, jM.len_sL, jM.len_sR, jM.len_fI, jM.len_fL, jM.len_fR, *]; omega)) rfl rfl ?_ ?_
                  · exact fun _ _ h => h
                  rintro _ h ⟨rfl, hc⟩
                  rcases hc with ⟨rfl, hc⟩ | ⟨rfl, hc⟩
                  · refine J.if_eq (tgt := 57) (pc' := 53) rfl rfl rfl (by first | omega | (exact R.r _ _) | (simp only [jM.len_sI, jM.len_sL, jM.len_sR, jM.len_fI, jM.len_fL, jM.len_fR]; omega) | (simp [jM.len_nw, jM.len_sI, jM.len_sL, jM.len_sR, jM.len_fI, jM.len_fL, jM.len_fR, *]; omega)) (fun z5 => ?_) (fun z5 => ?_)
                    · omega
                    · refine J.iconst (pc' := 54) rfl rfl ?_
                      refine J.goto (tgt := 58) rfl rfl ?_
                      refine J.iret rfl rfl (by first | omega | (exact R.r _ _) | (simp only [jM.len_sI, jM.len_sL, jM.len_sR, jM.len_fI, jM.len_fL, jM.len_fR]; omega) | (simp [jM.len_nw, jM.len_sI, jM.len_sL, jM.len_sR, jM.len_fI, jM.len_fL, jM.len_fR, *]; omega)) (by first | omega | (exact R.r _ _) | (simp only [jM.len_sI, jM.len_sL, jM.len_sR, jM.len_fI, jM.len_fL, jM.len_fR]; omega) | (simp [jM.len_nw, jM.len_sI, jM.len_sL, jM.len_sR, jM.len_fI, jM.len_fL, jM.len_fR, *]; omega)) ?_
                      exact ⟨by rw [v8.mp hc]; rfl, rfl⟩
                  · have n8 : wcode T n x ≠ 28776 := fun z => hc (v8.mpr z)
                    refine J.if_eq (tgt := 57) (pc' := 53) rfl rfl rfl (by first | omega | (exact R.r _ _) | (simp only [jM.len_sI, jM.len_sL, jM.len_sR, jM.len_fI, jM.len_fL, jM.len_fR]; omega) | (simp [jM.len_nw, jM.len_sI, jM.len_sL, jM.len_sR, jM.len_fI, jM.len_fL, jM.len_fR, *]; omega)) (fun z5 => ?_) (fun z5 => ?_)
                    · refine J.iconst (pc' := 58) rfl rfl ?_
                      refine J.iret rfl rfl (by first | omega | (exact R.r _ _) | (simp only [jM.len_sI, jM.len_sL, jM.len_sR, jM.len_fI, jM.len_fL, jM.len_fR]; omega) | (simp [jM.len_nw, jM.len_sI, jM.len_sL, jM.len_sR, jM.len_fI, jM.len_fL, jM.len_fR, *]; omega)) (by first | omega | (exact R.r _ _) | (simp only [jM.len_sI, jM.len_sL, jM.len_sR, jM.len_fI, jM.len_fL, jM.len_fR]; omega) | (simp [jM.len_nw, jM.len_sI, jM.len_sL, jM.len_sR, jM.len_fI, jM.len_fL, jM.len_fR, *]; omega)) ?_
                      exact ⟨by unfold mof; rw [if_neg n4, if_neg n5, if_neg n6, if_neg n7, if_neg n8], rfl⟩
                    · omega
                · omega
            · omega
        · omega
    · omega
def mtQ (h : jM) (rd s e : Nat) (n : Int) (T : Int → Int) (c : Nat) (p nm : Int) : Option Value → jM → Prop := fun r h' => r = some (.int (jI (mof (wcode T n (sk T n p))))) ∧ rdE h h' rd s e n T c (if mof (wcode T n (sk T n p)) = -1 then sk T n p else we T n (sk T n p)) (sk T n p) nm
theorem cr_metal (hR : isRd h rd s e n T c p pl nm) (hK : isK γ h) : CT γ mX2_takenMetal 6 2 ((we T n (sk T n p) - sk T n p).toNat + 4) [.ref rd] h (mtQ h rd s e n T c p nm) X0 := by
  have hp := hR.2.2.2.2.2.2.2
  have skb := sk_b (T := T) hp.2
  have web := we_b (T := T) skb.2.1
  have hb := hR.bnd
  have tr := hR.1
  have mb := mof_b (wcode T n (sk T n p))
  refine CT.of MX2_takenMetal (Nat.le_of_ble_eq_true rfl) ?_
  show J γ mX2_takenMetal 6 2 ((we T n (sk T n p) - sk T n p).toNat+4) 0 0 h 0 [(0, .ref rd)] [] _ _
  first | refine J.aload_n (pc' := 1) rfl rfl rfl ?_ | refine J.aload_nN (pc' := 1) rfl rfl rfl ?_
  refine J.callV (pc' := 4) (t := 6) rfl MX2_nextWord ml_X2_105 iv_X2_nextWord (by decide) ⟨_, rfl, rfl⟩ (by first | assumption | (simp only [jM.tag_sI, jM.tag_sL, jM.tag_sR, jM.tag_fI, jM.tag_fL, jM.tag_fR]; assumption) | (simp [jM.tag_nw, jM.tag_sI, jM.tag_sL, jM.tag_sR, jM.tag_fI, jM.tag_fL, jM.tag_fR, *]; done)) (cr_next hR hK.k9) rfl rfl (Nat.le_of_ble_eq_true rfl) (by first | omega | (exact R.r _ _) | (simp only [jM.len_sI, jM.len_sL, jM.len_sR, jM.len_fI, jM.len_fL, jM.len_fR]; omega) | (simp [jM.len_nw, jM.len_sI, jM.len_sL, jM.len_sR, jM.len_fI, jM.len_fL, jM.len_fR, *]; omega)) (by first | omega | (exact R.r _ _) | (simp only [jM.len_sI, jM.len_sL, jM.len_sR, jM.len_fI, jM.len_fL, jM.len_fR]; omega) | (simp [jM.len_nw, jM.len_sI, jM.len_sL, jM.len_sR, jM.len_fI, jM.len_fL, jM.len_fR, *]; omega)) (by first | omega | (exact R.r _ _) | (simp only [jM.len_sI, jM.len_sL, jM.len_sR, jM.len_fI, jM.len_fL, jM.len_fR]; omega) | (simp [jM.len_nw, jM.len_sI, jM.len_sL, jM.len_sR, jM.len_fI, jM.len_fL, jM.len_fR, *]; omega)) rfl rfl ?_ ?_
  · exact fun _ _ h => h
  rintro _ k ⟨w, qq, rfl, g1, g2, g3, g4⟩
  have hK2 := hK.kept g3 (fun b _ hb z => by rw [z] at hb; omega)
  have tw := g1.1
  first | refine J.astore_n (pc' := 5) rfl rfl (by decide) ?_ | refine J.astore_nN (pc' := 5) rfl rfl (by decide) ?_
  first | refine J.aload_n (pc' := 6) rfl rfl rfl ?_ | refine J.aload_nN (pc' := 6) rfl rfl rfl ?_
  refine J.callS (pc' := 9) rfl MX2_metalOf ml_X2_112 is_X2_metalOf (cr_metalOf skb.2.1 g1 hK2) rfl rfl (Nat.le_of_ble_eq_true rfl) (by first | omega | (exact R.r _ _) | (simp only [jM.len_sI, jM.len_sL, jM.len_sR, jM.len_fI, jM.len_fL, jM.len_fR]; omega) | (simp [jM.len_nw, jM.len_sI, jM.len_sL, jM.len_sR, jM.len_fI, jM.len_fL, jM.len_fR, *]; omega)) (by first | omega | (exact R.r _ _) | (simp only [jM.len_sI, jM.len_sL, jM.len_sR, jM.len_fI, jM.len_fL, jM.len_fR]; omega) | (simp [jM.len_nw, jM.len_sI, jM.len_sL, jM.len_sR, jM.len_fI, jM.len_fL, jM.len_fR, *]; omega)) (by first | omega | (exact R.r _ _) | (simp only [jM.len_sI, jM.len_sL, jM.len_sR, jM.len_fI, jM.len_fL, jM.len_fR]; omega) | (simp [jM.len_nw, jM.len_sI, jM.len_sL, jM.len_sR, jM.len_fI, jM.len_fL, jM.len_fR, *]; omega)) rfl rfl ?_ ?_
  · exact fun _ _ h => h
  rintro _ k ⟨rfl, rfl⟩
  refine J.istore_n (pc' := 10) rfl rfl (by decide) ?_
  refine J.iload_n (pc' := 11) rfl rfl rfl ?_
  refine J.iconst (pc' := 12) rfl rfl ?_
  have g20 := g2
  obtain ⟨c1, c2, c3, c4, c5, c6, c7, c8⟩ := g20
  refine J.icmp_eq (tgt := 28) (pc' := 15) rfl rfl rfl (by first | omega | (exact R.r _ _) | (simp only [jM.len_sI, jM.len_sL, jM.len_sR, jM.len_fI, jM.len_fL, jM.len_fR]; omega) | (simp [jM.len_nw, jM.len_sI, jM.len_sL, jM.len_sR, jM.len_fI, jM.len_fL, jM.len_fR, *]; omega)) (by first | omega | (exact R.r _ _) | (simp only [jM.len_sI, jM.len_sL, jM.len_sR, jM.len_fI, jM.len_fL, jM.len_fR]; omega) | (simp [jM.len_nw, jM.len_sI, jM.len_sL, jM.len_sR, jM.len_fI, jM.len_fL, jM.len_fR, *]; omega)) (fun z1 => ?_) (fun z1 => ?_)
  · refine J.iload_n (pc' := 29) rfl rfl rfl ?_
    refine J.iret rfl rfl (by first | omega | (exact R.r _ _) | (simp only [jM.len_sI, jM.len_sL, jM.len_sR, jM.len_fI, jM.len_fL, jM.len_fR]; omega) | (simp [jM.len_nw, jM.len_sI, jM.len_sL, jM.len_sR, jM.len_fI, jM.len_fL, jM.len_fR, *]; omega)) (by first | omega | (exact R.r _ _) | (simp only [jM.len_sI, jM.len_sL, jM.len_sR, jM.len_fI, jM.len_fL, jM.len_fR]; omega) | (simp [jM.len_nw, jM.len_sI, jM.len_sL, jM.len_sR, jM.len_fI, jM.len_fL, jM.len_fR, *]; omega)) ?_
    exact ⟨rfl, by rw [if_pos z1]; exact g2, g3, g4⟩
  · first | refine J.aload_n (pc' := 16) rfl rfl rfl ?_ | refine J.aload_nN (pc' := 16) rfl rfl rfl ?_
    refine J.dup (pc' := 17) rfl rfl rfl ?_
    refine J.getI (pc' := 20) rfl fl_X2_9 rfl (by first | assumption | (simp only [jM.tag_sI, jM.tag_sL, jM.tag_sR, jM.tag_fI, jM.tag_fL, jM.tag_fR]; assumption) | (simp [jM.tag_nw, jM.tag_sI, jM.tag_sL, jM.tag_sR, jM.tag_fI, jM.tag_fL, jM.tag_fR, *]; done)) rfl ?_
    rw [c5]
    first | refine J.aload_n (pc' := 21) rfl rfl rfl ?_ | refine J.aload_nN (pc' := 21) rfl rfl rfl ?_
    refine J.callV (pc' := 24) (t := 1) rfl MJ0_length_8abf5 ml_X2_52 iv_J0_length_8abf5 (by decide) ⟨_, rfl, rfl⟩ (by first | assumption | (simp only [jM.tag_sI, jM.tag_sL, jM.tag_sR, jM.tag_fI, jM.tag_fL, jM.tag_fR]; assumption) | (simp [jM.tag_nw, jM.tag_sI, jM.tag_sL, jM.tag_sR, jM.tag_fI, jM.tag_fL, jM.tag_fR, *]; done)) (cj_strLen g1) rfl rfl (Nat.le_of_ble_eq_true rfl) (by first | omega | (exact R.r _ _) | (simp only [jM.len_sI, jM.len_sL, jM.len_sR, jM.len_fI, jM.len_fL, jM.len_fR]; omega) | (simp [jM.len_nw, jM.len_sI, jM.len_sL, jM.len_sR, jM.len_fI, jM.len_fL, jM.len_fR, *]; omega)) (by first | omega | (exact R.r _ _) | (simp only [jM.len_sI, jM.len_sL, jM.len_sR, jM.len_fI, jM.len_fL, jM.len_fR]; omega) | (simp [jM.len_nw, jM.len_sI, jM.len_sL, jM.len_sR, jM.len_fI, jM.len_fL, jM.len_fR, *]; omega)) (by first | omega | (exact R.r _ _) | (simp only [jM.len_sI, jM.len_sL, jM.len_sR, jM.len_fI, jM.len_fL, jM.len_fR]; omega) | (simp [jM.len_nw, jM.len_sI, jM.len_sL, jM.len_sR, jM.len_fI, jM.len_fL, jM.len_fR, *]; omega)) rfl rfl ?_ ?_
    · exact fun _ _ h => h
    rintro _ k ⟨rfl, rfl⟩
    refine J.iadd (pc' := 25) rfl rfl ?_
    refine J.putI (pc' := 28) rfl fl_X2_9 rfl (Or.inl rfl) (by first | assumption | (simp only [jM.tag_sI, jM.tag_sL, jM.tag_sR, jM.tag_fI, jM.tag_fL, jM.tag_fR]; assumption) | (simp [jM.tag_nw, jM.tag_sI, jM.tag_sL, jM.tag_sR, jM.tag_fI, jM.tag_fL, jM.tag_fR, *]; done)) (Or.inl rfl) rfl ?_
    refine J.iload_n (pc' := 29) rfl rfl rfl ?_
    refine J.iret rfl rfl (by first | omega | (exact R.r _ _) | (simp only [jM.len_sI, jM.len_sL, jM.len_sR, jM.len_fI, jM.len_fL, jM.len_fR]; omega) | (simp [jM.len_nw, jM.len_sI, jM.len_sL, jM.len_sR, jM.len_fI, jM.len_fL, jM.len_fR, *]; omega)) (by first | omega | (exact R.r _ _) | (simp only [jM.len_sI, jM.len_sL, jM.len_sR, jM.len_fI, jM.len_fL, jM.len_fR]; omega) | (simp [jM.len_nw, jM.len_sI, jM.len_sL, jM.len_sR, jM.len_fI, jM.len_fL, jM.len_fR, *]; omega)) ?_
    refine ⟨rfl, ?_, g3.stI (Or.inl rfl), g4.st rfl⟩
    rw [if_neg z1, show sk T n p + (we T n (sk T n p) - sk T n p) = we T n (sk T n p) by omega]
    exact g2.setA (by omega) (by omega)
def sgQ (h : jM) (rd s e : Nat) (n : Int) (T : Int → Int) (c : Nat) (p nm ch : Int) : Option Value → jM → Prop := fun r h' => ((sk T n p < n ∧ T (sk T n p) = ch) ∧ r = some (.int (jI 1)) ∧ rdE h h' rd s e n T c (sk T n p + 1) (sk T n p) nm) ∨ (¬ (sk T n p < n ∧ T (sk T n p) = ch) ∧ r = some (.int (jI 0)) ∧ rdE h h' rd s e n T c (sk T n p) (sk T n p) nm)
theorem cr_sign {ch : Int} (hc : 0 ≤ ch ∧ ch < 256) (hR : isRd h rd s e n T c p pl nm) : CT γ mX2_takesSign 5 0 0 [.ref rd, .int (jI ch)] h (sgQ h rd s e n T c p nm ch) X0 := by
  have hp := hR.2.2.2.2.2.2.2
  have skb := sk_b (T := T) hp.2
  obtain ⟨n0, n1, nT⟩ := hR.bnd
  have tr := hR.1
  refine CT.of MX2_takesSign (Nat.le_of_ble_eq_true rfl) ?_
  show J γ mX2_takesSign 5 0 0 0 0 h 0 [(0, .ref rd), (1, .int (jI ch))] [] _ _
  first | refine J.aload_n (pc' := 1) rfl rfl rfl ?_ | refine J.aload_nN (pc' := 1) rfl rfl rfl ?_
  refine J.callV (pc' := 4) (t := 6) rfl MX2_skipBlanks ml_X2_49 iv_X2_skipBlanks (by decide) ⟨_, rfl, rfl⟩ (by first | assumption | (simp only [jM.tag_sI, jM.tag_sL, jM.tag_sR, jM.tag_fI, jM.tag_fL, jM.tag_fR]; assumption) | (simp [jM.tag_nw, jM.tag_sI, jM.tag_sL, jM.tag_sR, jM.tag_fI, jM.tag_fL, jM.tag_fR, *]; done)) (cr_skip hR) rfl rfl (Nat.le_of_ble_eq_true rfl) (by first | omega | (exact R.r _ _) | (simp only [jM.len_sI, jM.len_sL, jM.len_sR, jM.len_fI, jM.len_fL, jM.len_fR]; omega) | (simp [jM.len_nw, jM.len_sI, jM.len_sL, jM.len_sR, jM.len_fI, jM.len_fL, jM.len_fR, *]; omega)) (by first | omega | (exact R.r _ _) | (simp only [jM.len_sI, jM.len_sL, jM.len_sR, jM.len_fI, jM.len_fL, jM.len_fR]; omega) | (simp [jM.len_nw, jM.len_sI, jM.len_sL, jM.len_sR, jM.len_fI, jM.len_fL, jM.len_fR, *]; omega)) (by first | omega | (exact R.r _ _) | (simp only [jM.len_sI, jM.len_sL, jM.len_sR, jM.len_fI, jM.len_fL, jM.len_fR]; omega) | (simp [jM.len_nw, jM.len_sI, jM.len_sL, jM.len_sR, jM.len_fI, jM.len_fL, jM.len_fR, *]; omega)) rfl rfl ?_ ?_
  · exact fun _ _ h => h
  rintro _ k ⟨rfl, g2, g3, g4⟩
  have N1 : Nt h k [1, 35] := Nt.rf.st g4
  have g20 := g2
  obtain ⟨c1, c2, c3, c4, c5, c6, c7, c8⟩ := g20
  have ts := c3.1
  first | refine J.aload_n (pc' := 5) rfl rfl rfl ?_ | refine J.aload_nN (pc' := 5) rfl rfl rfl ?_
  refine J.getI (pc' := 8) rfl fl_X2_9 rfl (by first | assumption | (simp only [jM.tag_sI, jM.tag_sL, jM.tag_sR, jM.tag_fI, jM.tag_fL, jM.tag_fR]; assumption) | (simp [jM.tag_nw, jM.tag_sI, jM.tag_sL, jM.tag_sR, jM.tag_fI, jM.tag_fL, jM.tag_fR, *]; done)) rfl ?_
  first | refine J.aload_n (pc' := 9) rfl rfl rfl ?_ | refine J.aload_nN (pc' := 9) rfl rfl rfl ?_
  first | refine J.getR (pc' := 12) rfl fl_X2_21 rfl (by first | assumption | (simp only [jM.tag_sI, jM.tag_sL, jM.tag_sR, jM.tag_fI, jM.tag_fL, jM.tag_fR]; assumption) | (simp [jM.tag_nw, jM.tag_sI, jM.tag_sL, jM.tag_sR, jM.tag_fI, jM.tag_fL, jM.tag_fR, *]; done)) (by first | assumption | (simp only [jM.R_sI, jM.R_sL, jM.R_fI, jM.R_fL]; assumption) | (simp [jM.R_nw, jM.R_sR, jM.R_fR, jM.R_sI, jM.R_sL, jM.R_fI, jM.R_fL, *]; done)) rfl ?_ | refine J.getRN (pc' := 12) rfl fl_X2_21 rfl (by first | assumption | (simp only [jM.tag_sI, jM.tag_sL, jM.tag_sR, jM.tag_fI, jM.tag_fL, jM.tag_fR]; assumption) | (simp [jM.tag_nw, jM.tag_sI, jM.tag_sL, jM.tag_sR, jM.tag_fI, jM.tag_fL, jM.tag_fR, *]; done)) (by first | assumption | (simp only [jM.R_sI, jM.R_sL, jM.R_fI, jM.R_fL]; assumption) | (simp [jM.R_nw, jM.R_sR, jM.R_fR, jM.R_sI, jM.R_sL, jM.R_fI, jM.R_fL, *]; done)) rfl ?_
  rw [c5]
  refine J.callV (pc' := 15) (t := 1) rfl MJ0_length_8abf5 ml_X2_52 iv_J0_length_8abf5 (by decide) ⟨_, rfl, rfl⟩ (by first | assumption | (simp only [jM.tag_sI, jM.tag_sL, jM.tag_sR, jM.tag_fI, jM.tag_fL, jM.tag_fR]; assumption) | (simp [jM.tag_nw, jM.tag_sI, jM.tag_sL, jM.tag_sR, jM.tag_fI, jM.tag_fL, jM.tag_fR, *]; done)) (cj_strLen c3) rfl rfl (Nat.le_of_ble_eq_true rfl) (by first | omega | (exact R.r _ _) | (simp only [jM.len_sI, jM.len_sL, jM.len_sR, jM.len_fI, jM.len_fL, jM.len_fR]; omega) | (simp [jM.len_nw, jM.len_sI, jM.len_sL, jM.len_sR, jM.len_fI, jM.len_fL, jM.len_fR, *]; omega)) (by first | omega | (exact R.r _ _) | (simp only [jM.len_sI, jM.len_sL, jM.len_sR, jM.len_fI, jM.len_fL, jM.len_fR]; omega) | (simp [jM.len_nw, jM.len_sI, jM.len_sL, jM.len_sR, jM.len_fI, jM.len_fL, jM.len_fR, *]; omega)) (by first | omega | (exact R.r _ _) | (simp only [jM.len_sI, jM.len_sL, jM.len_sR, jM.len_fI, jM.len_fL, jM.len_fR]; omega) | (simp [jM.len_nw, jM.len_sI, jM.len_sL, jM.len_sR, jM.len_fI, jM.len_fL, jM.len_fR, *]; omega)) rfl rfl ?_ ?_
  · exact fun _ _ h => h
  rintro _ k ⟨rfl, rfl⟩
  refine J.icmp_ge (tgt := 33) (pc' := 18) rfl rfl rfl (by first | omega | (exact R.r _ _) | (simp only [jM.len_sI, jM.len_sL, jM.len_sR, jM.len_fI, jM.len_fL, jM.len_fR]; omega) | (simp [jM.len_nw, jM.len_sI, jM.len_sL, jM.len_sR, jM.len_fI, jM.len_fL, jM.len_fR, *]; omega)) (by first | omega | (exact R.r _ _) | (simp only [jM.len_sI, jM.len_sL, jM.len_sR, jM.len_fI, jM.len_fL, jM.len_fR]; omega) | (simp [jM.len_nw, jM.len_sI, jM.len_sL, jM.len_sR, jM.len_fI, jM.len_fL, jM.len_fR, *]; omega)) (fun z1 => ?_) (fun z1 => ?_)
  · refine J.iconst (pc' := 34) rfl rfl ?_
    refine J.zret rfl rfl (by rfl) (by first | omega | (exact R.r _ _) | (simp only [jM.len_sI, jM.len_sL, jM.len_sR, jM.len_fI, jM.len_fL, jM.len_fR]; omega) | (simp [jM.len_nw, jM.len_sI, jM.len_sL, jM.len_sR, jM.len_fI, jM.len_fL, jM.len_fR, *]; omega)) (by first | omega | (exact R.r _ _) | (simp only [jM.len_sI, jM.len_sL, jM.len_sR, jM.len_fI, jM.len_fL, jM.len_fR]; omega) | (simp [jM.len_nw, jM.len_sI, jM.len_sL, jM.len_sR, jM.len_fI, jM.len_fL, jM.len_fR, *]; omega)) ?_
    exact Or.inr ⟨by omega, rfl, g2, g3, N1⟩
  · have tq := nT (sk T n p) (by omega) (by omega)
    first | refine J.aload_n (pc' := 19) rfl rfl rfl ?_ | refine J.aload_nN (pc' := 19) rfl rfl rfl ?_
    first | refine J.getR (pc' := 22) rfl fl_X2_21 rfl (by first | assumption | (simp only [jM.tag_sI, jM.tag_sL, jM.tag_sR, jM.tag_fI, jM.tag_fL, jM.tag_fR]; assumption) | (simp [jM.tag_nw, jM.tag_sI, jM.tag_sL, jM.tag_sR, jM.tag_fI, jM.tag_fL, jM.tag_fR, *]; done)) (by first | assumption | (simp only [jM.R_sI, jM.R_sL, jM.R_fI, jM.R_fL]; assumption) | (simp [jM.R_nw, jM.R_sR, jM.R_fR, jM.R_sI, jM.R_sL, jM.R_fI, jM.R_fL, *]; done)) rfl ?_ | refine J.getRN (pc' := 22) rfl fl_X2_21 rfl (by first | assumption | (simp only [jM.tag_sI, jM.tag_sL, jM.tag_sR, jM.tag_fI, jM.tag_fL, jM.tag_fR]; assumption) | (simp [jM.tag_nw, jM.tag_sI, jM.tag_sL, jM.tag_sR, jM.tag_fI, jM.tag_fL, jM.tag_fR, *]; done)) (by first | assumption | (simp only [jM.R_sI, jM.R_sL, jM.R_fI, jM.R_fL]; assumption) | (simp [jM.R_nw, jM.R_sR, jM.R_fR, jM.R_sI, jM.R_sL, jM.R_fI, jM.R_fL, *]; done)) rfl ?_
    first | refine J.aload_n (pc' := 23) rfl rfl rfl ?_ | refine J.aload_nN (pc' := 23) rfl rfl rfl ?_
    refine J.getI (pc' := 26) rfl fl_X2_9 rfl (by first | assumption | (simp only [jM.tag_sI, jM.tag_sL, jM.tag_sR, jM.tag_fI, jM.tag_fL, jM.tag_fR]; assumption) | (simp [jM.tag_nw, jM.tag_sI, jM.tag_sL, jM.tag_sR, jM.tag_fI, jM.tag_fL, jM.tag_fR, *]; done)) rfl ?_
    rw [c5]
    refine J.callV (pc' := 29) (t := 1) rfl MJ0_charAt_5068e ml_X2_93 iv_J0_charAt_5068e (by decide) ⟨_, rfl, rfl⟩ (by first | assumption | (simp only [jM.tag_sI, jM.tag_sL, jM.tag_sR, jM.tag_fI, jM.tag_fL, jM.tag_fR]; assumption) | (simp [jM.tag_nw, jM.tag_sI, jM.tag_sL, jM.tag_sR, jM.tag_fI, jM.tag_fL, jM.tag_fR, *]; done)) (cj_charAt c3 (by omega) (by omega)) rfl rfl (Nat.le_of_ble_eq_true rfl) (by first | omega | (exact R.r _ _) | (simp only [jM.len_sI, jM.len_sL, jM.len_sR, jM.len_fI, jM.len_fL, jM.len_fR]; omega) | (simp [jM.len_nw, jM.len_sI, jM.len_sL, jM.len_sR, jM.len_fI, jM.len_fL, jM.len_fR, *]; omega)) (by first | omega | (exact R.r _ _) | (simp only [jM.len_sI, jM.len_sL, jM.len_sR, jM.len_fI, jM.len_fL, jM.len_fR]; omega) | (simp [jM.len_nw, jM.len_sI, jM.len_sL, jM.len_sR, jM.len_fI, jM.len_fL, jM.len_fR, *]; omega)) (by first | omega | (exact R.r _ _) | (simp only [jM.len_sI, jM.len_sL, jM.len_sR, jM.len_fI, jM.len_fL, jM.len_fR]; omega) | (simp [jM.len_nw, jM.len_sI, jM.len_sL, jM.len_sR, jM.len_fI, jM.len_fL, jM.len_fR, *]; omega)) rfl rfl ?_ ?_
    · exact fun _ _ h => h
    rintro _ k ⟨rfl, rfl⟩
    refine J.iload_n (pc' := 30) rfl rfl rfl ?_
    refine J.icmp_eq (tgt := 35) (pc' := 33) rfl rfl rfl (by first | omega | (exact R.r _ _) | (simp only [jM.len_sI, jM.len_sL, jM.len_sR, jM.len_fI, jM.len_fL, jM.len_fR]; omega) | (simp [jM.len_nw, jM.len_sI, jM.len_sL, jM.len_sR, jM.len_fI, jM.len_fL, jM.len_fR, *]; omega)) (by first | omega | (exact R.r _ _) | (simp only [jM.len_sI, jM.len_sL, jM.len_sR, jM.len_fI, jM.len_fL, jM.len_fR]; omega) | (simp [jM.len_nw, jM.len_sI, jM.len_sL, jM.len_sR, jM.len_fI, jM.len_fL, jM.len_fR, *]; omega)) (fun z2 => ?_) (fun z2 => ?_)
    · first | refine J.aload_n (pc' := 36) rfl rfl rfl ?_ | refine J.aload_nN (pc' := 36) rfl rfl rfl ?_
      refine J.dup (pc' := 37) rfl rfl rfl ?_
      refine J.getI (pc' := 40) rfl fl_X2_9 rfl (by first | assumption | (simp only [jM.tag_sI, jM.tag_sL, jM.tag_sR, jM.tag_fI, jM.tag_fL, jM.tag_fR]; assumption) | (simp [jM.tag_nw, jM.tag_sI, jM.tag_sL, jM.tag_sR, jM.tag_fI, jM.tag_fL, jM.tag_fR, *]; done)) rfl ?_
      rw [c5]
      refine J.iconst (pc' := 41) rfl rfl ?_
      refine J.iadd (pc' := 42) rfl rfl ?_
      refine J.putI (pc' := 45) rfl fl_X2_9 rfl (Or.inl rfl) (by first | assumption | (simp only [jM.tag_sI, jM.tag_sL, jM.tag_sR, jM.tag_fI, jM.tag_fL, jM.tag_fR]; assumption) | (simp [jM.tag_nw, jM.tag_sI, jM.tag_sL, jM.tag_sR, jM.tag_fI, jM.tag_fL, jM.tag_fR, *]; done)) (Or.inl rfl) rfl ?_
      refine J.iconst (pc' := 46) rfl rfl ?_
      refine J.zret rfl rfl (by rfl) (by first | omega | (exact R.r _ _) | (simp only [jM.len_sI, jM.len_sL, jM.len_sR, jM.len_fI, jM.len_fL, jM.len_fR]; omega) | (simp [jM.len_nw, jM.len_sI, jM.len_sL, jM.len_sR, jM.len_fI, jM.len_fL, jM.len_fR, *]; omega)) (by first | omega | (exact R.r _ _) | (simp only [jM.len_sI, jM.len_sL, jM.len_sR, jM.len_fI, jM.len_fL, jM.len_fR]; omega) | (simp [jM.len_nw, jM.len_sI, jM.len_sL, jM.len_sR, jM.len_fI, jM.len_fL, jM.len_fR, *]; omega)) ?_
      exact Or.inl ⟨⟨by omega, z2⟩, rfl, g2.setA (by omega) (by omega), g3.stI (Or.inl rfl), N1.st rfl⟩
    · refine J.iconst (pc' := 34) rfl rfl ?_
      refine J.zret rfl rfl (by rfl) (by first | omega | (exact R.r _ _) | (simp only [jM.len_sI, jM.len_sL, jM.len_sR, jM.len_fI, jM.len_fL, jM.len_fR]; omega) | (simp [jM.len_nw, jM.len_sI, jM.len_sL, jM.len_sR, jM.len_fI, jM.len_fL, jM.len_fR, *]; omega)) (by first | omega | (exact R.r _ _) | (simp only [jM.len_sI, jM.len_sL, jM.len_sR, jM.len_fI, jM.len_fL, jM.len_fR]; omega) | (simp [jM.len_nw, jM.len_sI, jM.len_sL, jM.len_sR, jM.len_fI, jM.len_fL, jM.len_fR, *]; omega)) ?_
      exact Or.inr ⟨fun z => z2 z.2, rfl, g2, g3, N1⟩
def nuQ (h : jM) (rd s e : Nat) (n : Int) (T : Int → Int) (c : Nat) (p : Int) : Option Value → jM → Prop := fun r h' => r = some (.int (jI (if sk T n p < (numN T n 5 (sk T n p) 0).1 then 1 else 0))) ∧ rdE h h' rd s e n T c (numN T n 5 (sk T n p) 0).1 (sk T n p) (numN T n 5 (sk T n p) 0).2
theorem cr_number (hR : isRd h rd s e n T c p pl nm) : CT γ mX2_takesNumber 5 0 0 [.ref rd] h (nuQ h rd s e n T c p) X0 := by
  have hp := hR.2.2.2.2.2.2.2
  have skb := sk_b (T := T) hp.2
  obtain ⟨n0, n1, nT⟩ := hR.bnd
  have tr := hR.1
  refine CT.of MX2_takesNumber (Nat.le_of_ble_eq_true rfl) ?_
  show J γ mX2_takesNumber 5 0 0 0 0 h 0 [(0, .ref rd)] [] _ _
  first | refine J.aload_n (pc' := 1) rfl rfl rfl ?_ | refine J.aload_nN (pc' := 1) rfl rfl rfl ?_
  refine J.callV (pc' := 4) (t := 6) rfl MX2_skipBlanks ml_X2_49 iv_X2_skipBlanks (by decide) ⟨_, rfl, rfl⟩ (by first | assumption | (simp only [jM.tag_sI, jM.tag_sL, jM.tag_sR, jM.tag_fI, jM.tag_fL, jM.tag_fR]; assumption) | (simp [jM.tag_nw, jM.tag_sI, jM.tag_sL, jM.tag_sR, jM.tag_fI, jM.tag_fL, jM.tag_fR, *]; done)) (cr_skip hR) rfl rfl (Nat.le_of_ble_eq_true rfl) (by first | omega | (exact R.r _ _) | (simp only [jM.len_sI, jM.len_sL, jM.len_sR, jM.len_fI, jM.len_fL, jM.len_fR]; omega) | (simp [jM.len_nw, jM.len_sI, jM.len_sL, jM.len_sR, jM.len_fI, jM.len_fL, jM.len_fR, *]; omega)) (by first | omega | (exact R.r _ _) | (simp only [jM.len_sI, jM.len_sL, jM.len_sR, jM.len_fI, jM.len_fL, jM.len_fR]; omega) | (simp [jM.len_nw, jM.len_sI, jM.len_sL, jM.len_sR, jM.len_fI, jM.len_fL, jM.len_fR, *]; omega)) (by first | omega | (exact R.r _ _) | (simp only [jM.len_sI, jM.len_sL, jM.len_sR, jM.len_fI, jM.len_fL, jM.len_fR]; omega) | (simp [jM.len_nw, jM.len_sI, jM.len_sL, jM.len_sR, jM.len_fI, jM.len_fL, jM.len_fR, *]; omega)) rfl rfl ?_ ?_
  · exact fun _ _ h => h
  rintro _ k ⟨rfl, g2, g3, g4⟩
  have N1 : Nt h k [1, 35] := Nt.rf.st g4
  unfold nuQ
  generalize sk T n p = x at g2 skb ⊢
  have g20 := g2
  obtain ⟨c1, c2, c3, c4, c5, c6, c7, c8⟩ := g20
  have ts := c3.1
  first | refine J.aload_n (pc' := 5) rfl rfl rfl ?_ | refine J.aload_nN (pc' := 5) rfl rfl rfl ?_
  refine J.getI (pc' := 8) rfl fl_X2_9 rfl (by first | assumption | (simp only [jM.tag_sI, jM.tag_sL, jM.tag_sR, jM.tag_fI, jM.tag_fL, jM.tag_fR]; assumption) | (simp [jM.tag_nw, jM.tag_sI, jM.tag_sL, jM.tag_sR, jM.tag_fI, jM.tag_fL, jM.tag_fR, *]; done)) rfl ?_
  rw [c5]
  refine J.istore_n (pc' := 9) rfl rfl (by decide) ?_
  first | refine J.aload_n (pc' := 10) rfl rfl rfl ?_ | refine J.aload_nN (pc' := 10) rfl rfl rfl ?_
  first | refine J.getR (pc' := 13) rfl fl_X2_21 rfl (by first | assumption | (simp only [jM.tag_sI, jM.tag_sL, jM.tag_sR, jM.tag_fI, jM.tag_fL, jM.tag_fR]; assumption) | (simp [jM.tag_nw, jM.tag_sI, jM.tag_sL, jM.tag_sR, jM.tag_fI, jM.tag_fL, jM.tag_fR, *]; done)) (by first | assumption | (simp only [jM.R_sI, jM.R_sL, jM.R_fI, jM.R_fL]; assumption) | (simp [jM.R_nw, jM.R_sR, jM.R_fR, jM.R_sI, jM.R_sL, jM.R_fI, jM.R_fL, *]; done)) rfl ?_ | refine J.getRN (pc' := 13) rfl fl_X2_21 rfl (by first | assumption | (simp only [jM.tag_sI, jM.tag_sL, jM.tag_sR, jM.tag_fI, jM.tag_fL, jM.tag_fR]; assumption) | (simp [jM.tag_nw, jM.tag_sI, jM.tag_sL, jM.tag_sR, jM.tag_fI, jM.tag_fL, jM.tag_fR, *]; done)) (by first | assumption | (simp only [jM.R_sI, jM.R_sL, jM.R_fI, jM.R_fL]; assumption) | (simp [jM.R_nw, jM.R_sR, jM.R_fR, jM.R_sI, jM.R_sL, jM.R_fI, jM.R_fL, *]; done)) rfl ?_
  refine J.callV (pc' := 16) (t := 1) rfl MJ0_length_8abf5 ml_X2_52 iv_J0_length_8abf5 (by decide) ⟨_, rfl, rfl⟩ (by first | assumption | (simp only [jM.tag_sI, jM.tag_sL, jM.tag_sR, jM.tag_fI, jM.tag_fL, jM.tag_fR]; assumption) | (simp [jM.tag_nw, jM.tag_sI, jM.tag_sL, jM.tag_sR, jM.tag_fI, jM.tag_fL, jM.tag_fR, *]; done)) (cj_strLen c3) rfl rfl (Nat.le_of_ble_eq_true rfl) (by first | omega | (exact R.r _ _) | (simp only [jM.len_sI, jM.len_sL, jM.len_sR, jM.len_fI, jM.len_fL, jM.len_fR]; omega) | (simp [jM.len_nw, jM.len_sI, jM.len_sL, jM.len_sR, jM.len_fI, jM.len_fL, jM.len_fR, *]; omega)) (by first | omega | (exact R.r _ _) | (simp only [jM.len_sI, jM.len_sL, jM.len_sR, jM.len_fI, jM.len_fL, jM.len_fR]; omega) | (simp [jM.len_nw, jM.len_sI, jM.len_sL, jM.len_sR, jM.len_fI, jM.len_fL, jM.len_fR, *]; omega)) (by first | omega | (exact R.r _ _) | (simp only [jM.len_sI, jM.len_sL, jM.len_sR, jM.len_fI, jM.len_fL, jM.len_fR]; omega) | (simp [jM.len_nw, jM.len_sI, jM.len_sL, jM.len_sR, jM.len_fI, jM.len_fL, jM.len_fR, *]; omega)) rfl rfl ?_ ?_
  · exact fun _ _ h => h
  rintro _ k ⟨rfl, rfl⟩
  refine J.iload_n (pc' := 17) rfl rfl rfl ?_
  refine J.iconst (pc' := 18) rfl rfl ?_
  refine J.iadd (pc' := 19) rfl rfl ?_
  refine J.callS (pc' := 22) rfl MJ9_min_7cf53 ml_X2_126 is_J9_min_7cf53 (ct_min (by constructor <;> omega) (by constructor <;> omega)) rfl rfl (Nat.le_of_ble_eq_true rfl) (by first | omega | (exact R.r _ _) | (simp only [jM.len_sI, jM.len_sL, jM.len_sR, jM.len_fI, jM.len_fL, jM.len_fR]; omega) | (simp [jM.len_nw, jM.len_sI, jM.len_sL, jM.len_sR, jM.len_fI, jM.len_fL, jM.len_fR, *]; omega)) (by first | omega | (exact R.r _ _) | (simp only [jM.len_sI, jM.len_sL, jM.len_sR, jM.len_fI, jM.len_fL, jM.len_fR]; omega) | (simp [jM.len_nw, jM.len_sI, jM.len_sL, jM.len_sR, jM.len_fI, jM.len_fL, jM.len_fR, *]; omega)) (by first | omega | (exact R.r _ _) | (simp only [jM.len_sI, jM.len_sL, jM.len_sR, jM.len_fI, jM.len_fL, jM.len_fR]; omega) | (simp [jM.len_nw, jM.len_sI, jM.len_sL, jM.len_sR, jM.len_fI, jM.len_fL, jM.len_fR, *]; omega)) rfl rfl ?_ ?_
  · exact fun _ _ h => h
  rintro _ k ⟨rfl, rfl⟩
  refine J.istore_n (pc' := 23) rfl rfl (by decide) ?_
  first | refine J.aload_n (pc' := 24) rfl rfl rfl ?_ | refine J.aload_nN (pc' := 24) rfl rfl rfl ?_
  refine J.iconst (pc' := 25) rfl rfl ?_
  refine J.putI (pc' := 28) rfl fl_X2_18 rfl (Or.inl rfl) (by first | assumption | (simp only [jM.tag_sI, jM.tag_sL, jM.tag_sR, jM.tag_fI, jM.tag_fL, jM.tag_fR]; assumption) | (simp [jM.tag_nw, jM.tag_sI, jM.tag_sL, jM.tag_sR, jM.tag_fI, jM.tag_fL, jM.tag_fR, *]; done)) (Or.inl rfl) rfl ?_
  have key : ∀ (j : Nat) (q v : Int) (k : jM), q + j = x + 5 → x ≤ q → numN T n 5 x 0 = numN T n j q v → isRd k rd s e n T c q x v → Fr h k (fun b => b = rd) → Nt h k [1, 35] → ∀ lv, hasL lv [(0, .ref rd), (1, .int (jI x)), (2, .int (jI (min n (x + 5))))] → J γ mX2_takesNumber 5 0 0 0 0 k 28 lv [] (fun r h' => r = some (.int (jI (if x < (numN T n 5 x 0).1 then 1 else 0))) ∧ rdE h h' rd s e n T c (numN T n 5 x 0).1 x (numN T n 5 x 0).2) X0 := by
    have fin : ∀ (q v : Int) (k : jM), numN T n 5 x 0 = (q, v) → x ≤ q → isRd k rd s e n T c q x v → Fr h k (fun b => b = rd) → Nt h k [1, 35] → ∀ lv, hasL lv [(0, .ref rd), (1, .int (jI x))] → J γ mX2_takesNumber 5 0 0 0 0 k 96 lv [] (fun r h' => r = some (.int (jI (if x < (numN T n 5 x 0).1 then 1 else 0))) ∧ rdE h h' rd s e n T c (numN T n 5 x 0).1 x (numN T n 5 x 0).2) X0 := by
      intro q v k he hxq b1 b2 b3 lv hlv
      rw [he]
      have b0 := b1
      obtain ⟨c1, c2, c3, c4, c5, c6, c7, c8⟩ := b0
      refine J.lc hlv ?_
      first | refine J.aload_n (pc' := 97) rfl rfl rfl ?_ | refine J.aload_nN (pc' := 97) rfl rfl rfl ?_
      refine J.getI (pc' := 100) rfl fl_X2_9 rfl (by first | assumption | (simp only [jM.tag_sI, jM.tag_sL, jM.tag_sR, jM.tag_fI, jM.tag_fL, jM.tag_fR]; assumption) | (simp [jM.tag_nw, jM.tag_sI, jM.tag_sL, jM.tag_sR, jM.tag_fI, jM.tag_fL, jM.tag_fR, *]; done)) rfl ?_
      rw [c5]
      refine J.iload_n (pc' := 101) rfl rfl rfl ?_
      refine J.icmp_le (tgt := 108) (pc' := 104) rfl rfl rfl (by first | omega | (exact R.r _ _) | (simp only [jM.len_sI, jM.len_sL, jM.len_sR, jM.len_fI, jM.len_fL, jM.len_fR]; omega) | (simp [jM.len_nw, jM.len_sI, jM.len_sL, jM.len_sR, jM.len_fI, jM.len_fL, jM.len_fR, *]; omega)) (by first | omega | (exact R.r _ _) | (simp only [jM.len_sI, jM.len_sL, jM.len_sR, jM.len_fI, jM.len_fL, jM.len_fR]; omega) | (simp [jM.len_nw, jM.len_sI, jM.len_sL, jM.len_sR, jM.len_fI, jM.len_fL, jM.len_fR, *]; omega)) (fun z1 => ?_) (fun z1 => ?_)
      · refine J.iconst (pc' := 109) rfl rfl ?_
        refine J.zret rfl rfl (by rfl) (by first | omega | (exact R.r _ _) | (simp only [jM.len_sI, jM.len_sL, jM.len_sR, jM.len_fI, jM.len_fL, jM.len_fR]; omega) | (simp [jM.len_nw, jM.len_sI, jM.len_sL, jM.len_sR, jM.len_fI, jM.len_fL, jM.len_fR, *]; omega)) (by first | omega | (exact R.r _ _) | (simp only [jM.len_sI, jM.len_sL, jM.len_sR, jM.len_fI, jM.len_fL, jM.len_fR]; omega) | (simp [jM.len_nw, jM.len_sI, jM.len_sL, jM.len_sR, jM.len_fI, jM.len_fL, jM.len_fR, *]; omega)) ?_
        exact ⟨by show _ = some (Value.int (jI (if x < q then 1 else 0))); rw [if_neg (by omega)], b1, b2, b3⟩
      · refine J.iconst (pc' := 105) rfl rfl ?_
        refine J.goto (tgt := 109) rfl rfl ?_
        refine J.zret rfl rfl (by rfl) (by first | omega | (exact R.r _ _) | (simp only [jM.len_sI, jM.len_sL, jM.len_sR, jM.len_fI, jM.len_fL, jM.len_fR]; omega) | (simp [jM.len_nw, jM.len_sI, jM.len_sL, jM.len_sR, jM.len_fI, jM.len_fL, jM.len_fR, *]; omega)) (by first | omega | (exact R.r _ _) | (simp only [jM.len_sI, jM.len_sL, jM.len_sR, jM.len_fI, jM.len_fL, jM.len_fR]; omega) | (simp [jM.len_nw, jM.len_sI, jM.len_sL, jM.len_sR, jM.len_fI, jM.len_fL, jM.len_fR, *]; omega)) ?_
        exact ⟨by show _ = some (Value.int (jI (if x < q then 1 else 0))); rw [if_pos (by omega)], b1, b2, b3⟩
    intro j
    induction j with
    | zero =>
      intro q v k hq hxq he b1 b2 b3 lv hlv
      have b0 := b1
      obtain ⟨c1, c2, c3, c4, c5, c6, c7, c8⟩ := b0
      refine J.lc hlv ?_
      first | refine J.aload_n (pc' := 29) rfl rfl rfl ?_ | refine J.aload_nN (pc' := 29) rfl rfl rfl ?_
      refine J.getI (pc' := 32) rfl fl_X2_9 rfl (by first | assumption | (simp only [jM.tag_sI, jM.tag_sL, jM.tag_sR, jM.tag_fI, jM.tag_fL, jM.tag_fR]; assumption) | (simp [jM.tag_nw, jM.tag_sI, jM.tag_sL, jM.tag_sR, jM.tag_fI, jM.tag_fL, jM.tag_fR, *]; done)) rfl ?_
      rw [c5]
      refine J.iload_n (pc' := 33) rfl rfl rfl ?_
      refine J.icmp_ge (tgt := 96) (pc' := 36) rfl rfl rfl (by first | omega | (exact R.r _ _) | (simp only [jM.len_sI, jM.len_sL, jM.len_sR, jM.len_fI, jM.len_fL, jM.len_fR]; omega) | (simp [jM.len_nw, jM.len_sI, jM.len_sL, jM.len_sR, jM.len_fI, jM.len_fL, jM.len_fR, *]; omega)) (by first | omega | (exact R.r _ _) | (simp only [jM.len_sI, jM.len_sL, jM.len_sR, jM.len_fI, jM.len_fL, jM.len_fR]; omega) | (simp [jM.len_nw, jM.len_sI, jM.len_sL, jM.len_sR, jM.len_fI, jM.len_fL, jM.len_fR, *]; omega)) (fun z1 => ?_) (fun z1 => ?_)
      · exact fin q v k (by rw [he]; rfl) hxq b1 b2 b3 _ ⟨rfl, rfl, trivial⟩
      · omega
    | succ j ih =>
      intro q v k hq hxq he b1 b2 b3 lv hlv
      have b0 := b1
      obtain ⟨c1, c2, c3, c4, c5, c6, c7, c8⟩ := b0
      have ts := c3.1
      refine J.lc hlv ?_
      first | refine J.aload_n (pc' := 29) rfl rfl rfl ?_ | refine J.aload_nN (pc' := 29) rfl rfl rfl ?_
      refine J.getI (pc' := 32) rfl fl_X2_9 rfl (by first | assumption | (simp only [jM.tag_sI, jM.tag_sL, jM.tag_sR, jM.tag_fI, jM.tag_fL, jM.tag_fR]; assumption) | (simp [jM.tag_nw, jM.tag_sI, jM.tag_sL, jM.tag_sR, jM.tag_fI, jM.tag_fL, jM.tag_fR, *]; done)) rfl ?_
      rw [c5]
      refine J.iload_n (pc' := 33) rfl rfl rfl ?_
      refine J.icmp_ge (tgt := 96) (pc' := 36) rfl rfl rfl (by first | omega | (exact R.r _ _) | (simp only [jM.len_sI, jM.len_sL, jM.len_sR, jM.len_fI, jM.len_fL, jM.len_fR]; omega) | (simp [jM.len_nw, jM.len_sI, jM.len_sL, jM.len_sR, jM.len_fI, jM.len_fL, jM.len_fR, *]; omega)) (by first | omega | (exact R.r _ _) | (simp only [jM.len_sI, jM.len_sL, jM.len_sR, jM.len_fI, jM.len_fL, jM.len_fR]; omega) | (simp [jM.len_nw, jM.len_sI, jM.len_sL, jM.len_sR, jM.len_fI, jM.len_fL, jM.len_fR, *]; omega)) (fun z1 => ?_) (fun z1 => ?_)
      · exact fin q v k (by rw [he, numN, if_neg (by omega)]) hxq b1 b2 b3 _ ⟨rfl, rfl, trivial⟩
      · have tq := nT q (by omega) (by omega)
        refine J.bipush (pc' := 38) rfl rfl (by decide) ?_
        first | refine J.aload_n (pc' := 39) rfl rfl rfl ?_ | refine J.aload_nN (pc' := 39) rfl rfl rfl ?_
        first | refine J.getR (pc' := 42) rfl fl_X2_21 rfl (by first | assumption | (simp only [jM.tag_sI, jM.tag_sL, jM.tag_sR, jM.tag_fI, jM.tag_fL, jM.tag_fR]; assumption) | (simp [jM.tag_nw, jM.tag_sI, jM.tag_sL, jM.tag_sR, jM.tag_fI, jM.tag_fL, jM.tag_fR, *]; done)) (by first | assumption | (simp only [jM.R_sI, jM.R_sL, jM.R_fI, jM.R_fL]; assumption) | (simp [jM.R_nw, jM.R_sR, jM.R_fR, jM.R_sI, jM.R_sL, jM.R_fI, jM.R_fL, *]; done)) rfl ?_ | refine J.getRN (pc' := 42) rfl fl_X2_21 rfl (by first | assumption | (simp only [jM.tag_sI, jM.tag_sL, jM.tag_sR, jM.tag_fI, jM.tag_fL, jM.tag_fR]; assumption) | (simp [jM.tag_nw, jM.tag_sI, jM.tag_sL, jM.tag_sR, jM.tag_fI, jM.tag_fL, jM.tag_fR, *]; done)) (by first | assumption | (simp only [jM.R_sI, jM.R_sL, jM.R_fI, jM.R_fL]; assumption) | (simp [jM.R_nw, jM.R_sR, jM.R_fR, jM.R_sI, jM.R_sL, jM.R_fI, jM.R_fL, *]; done)) rfl ?_
        first | refine J.aload_n (pc' := 43) rfl rfl rfl ?_ | refine J.aload_nN (pc' := 43) rfl rfl rfl ?_
        refine J.getI (pc' := 46) rfl fl_X2_9 rfl (by first | assumption | (simp only [jM.tag_sI, jM.tag_sL, jM.tag_sR, jM.tag_fI, jM.tag_fL, jM.tag_fR]; assumption) | (simp [jM.tag_nw, jM.tag_sI, jM.tag_sL, jM.tag_sR, jM.tag_fI, jM.tag_fL, jM.tag_fR, *]; done)) rfl ?_
        rw [c5]
        refine J.callV (pc' := 49) (t := 1) rfl MJ0_charAt_5068e ml_X2_93 iv_J0_charAt_5068e (by decide) ⟨_, rfl, rfl⟩ (by first | assumption | (simp only [jM.tag_sI, jM.tag_sL, jM.tag_sR, jM.tag_fI, jM.tag_fL, jM.tag_fR]; assumption) | (simp [jM.tag_nw, jM.tag_sI, jM.tag_sL, jM.tag_sR, jM.tag_fI, jM.tag_fL, jM.tag_fR, *]; done)) (cj_charAt c3 (by omega) (by omega)) rfl rfl (Nat.le_of_ble_eq_true rfl) (by first | omega | (exact R.r _ _) | (simp only [jM.len_sI, jM.len_sL, jM.len_sR, jM.len_fI, jM.len_fL, jM.len_fR]; omega) | (simp [jM.len_nw, jM.len_sI, jM.len_sL, jM.len_sR, jM.len_fI, jM.len_fL, jM.len_fR, *]; omega)) (by first | omega | (exact R.r _ _) | (simp only [jM.len_sI, jM.len_sL, jM.len_sR, jM.len_fI, jM.len_fL, jM.len_fR]; omega) | (simp [jM.len_nw, jM.len_sI, jM.len_sL, jM.len_sR, jM.len_fI, jM.len_fL, jM.len_fR, *]; omega)) (by first | omega | (exact R.r _ _) | (simp only [jM.len_sI, jM.len_sL, jM.len_sR, jM.len_fI, jM.len_fL, jM.len_fR]; omega) | (simp [jM.len_nw, jM.len_sI, jM.len_sL, jM.len_sR, jM.len_fI, jM.len_fL, jM.len_fR, *]; omega)) rfl rfl ?_ ?_
        · exact fun _ _ h => h
        rintro _ k ⟨rfl, rfl⟩
        refine J.bipush (pc' := 51) rfl rfl (by decide) ?_
        refine J.callS (pc' := 54) rfl MX2_isBetween ml_X2_97 is_X2_isBetween (cr_between (by decide) (by constructor <;> omega) (by decide)) rfl rfl (Nat.le_of_ble_eq_true rfl) (by first | omega | (exact R.r _ _) | (simp only [jM.len_sI, jM.len_sL, jM.len_sR, jM.len_fI, jM.len_fL, jM.len_fR]; omega) | (simp [jM.len_nw, jM.len_sI, jM.len_sL, jM.len_sR, jM.len_fI, jM.len_fL, jM.len_fR, *]; omega)) (by first | omega | (exact R.r _ _) | (simp only [jM.len_sI, jM.len_sL, jM.len_sR, jM.len_fI, jM.len_fL, jM.len_fR]; omega) | (simp [jM.len_nw, jM.len_sI, jM.len_sL, jM.len_sR, jM.len_fI, jM.len_fL, jM.len_fR, *]; omega)) (by first | omega | (exact R.r _ _) | (simp only [jM.len_sI, jM.len_sL, jM.len_sR, jM.len_fI, jM.len_fL, jM.len_fR]; omega) | (simp [jM.len_nw, jM.len_sI, jM.len_sL, jM.len_sR, jM.len_fI, jM.len_fL, jM.len_fR, *]; omega)) rfl rfl ?_ ?_
        · exact fun _ _ h => h
        rintro _ k ⟨rfl, rfl⟩
        by_cases cc : 48 ≤ T q ∧ T q ≤ 57
        · rw [if_pos cc]
          refine J.if_eq (tgt := 96) (pc' := 57) rfl rfl rfl (by first | omega | (exact R.r _ _) | (simp only [jM.len_sI, jM.len_sL, jM.len_sR, jM.len_fI, jM.len_fL, jM.len_fR]; omega) | (simp [jM.len_nw, jM.len_sI, jM.len_sL, jM.len_sR, jM.len_fI, jM.len_fL, jM.len_fR, *]; omega)) (fun z2 => ?_) (fun z2 => ?_)
          · omega
          · first | refine J.aload_n (pc' := 58) rfl rfl rfl ?_ | refine J.aload_nN (pc' := 58) rfl rfl rfl ?_
            refine J.bipush (pc' := 60) rfl rfl (by decide) ?_
            first | refine J.aload_n (pc' := 61) rfl rfl rfl ?_ | refine J.aload_nN (pc' := 61) rfl rfl rfl ?_
            refine J.getI (pc' := 64) rfl fl_X2_18 rfl (by first | assumption | (simp only [jM.tag_sI, jM.tag_sL, jM.tag_sR, jM.tag_fI, jM.tag_fL, jM.tag_fR]; assumption) | (simp [jM.tag_nw, jM.tag_sI, jM.tag_sL, jM.tag_sR, jM.tag_fI, jM.tag_fL, jM.tag_fR, *]; done)) rfl ?_
            rw [c7]
            refine J.imul (pc' := 65) rfl rfl ?_
            first | refine J.aload_n (pc' := 66) rfl rfl rfl ?_ | refine J.aload_nN (pc' := 66) rfl rfl rfl ?_
            first | refine J.getR (pc' := 69) rfl fl_X2_21 rfl (by first | assumption | (simp only [jM.tag_sI, jM.tag_sL, jM.tag_sR, jM.tag_fI, jM.tag_fL, jM.tag_fR]; assumption) | (simp [jM.tag_nw, jM.tag_sI, jM.tag_sL, jM.tag_sR, jM.tag_fI, jM.tag_fL, jM.tag_fR, *]; done)) (by first | assumption | (simp only [jM.R_sI, jM.R_sL, jM.R_fI, jM.R_fL]; assumption) | (simp [jM.R_nw, jM.R_sR, jM.R_fR, jM.R_sI, jM.R_sL, jM.R_fI, jM.R_fL, *]; done)) rfl ?_ | refine J.getRN (pc' := 69) rfl fl_X2_21 rfl (by first | assumption | (simp only [jM.tag_sI, jM.tag_sL, jM.tag_sR, jM.tag_fI, jM.tag_fL, jM.tag_fR]; assumption) | (simp [jM.tag_nw, jM.tag_sI, jM.tag_sL, jM.tag_sR, jM.tag_fI, jM.tag_fL, jM.tag_fR, *]; done)) (by first | assumption | (simp only [jM.R_sI, jM.R_sL, jM.R_fI, jM.R_fL]; assumption) | (simp [jM.R_nw, jM.R_sR, jM.R_fR, jM.R_sI, jM.R_sL, jM.R_fI, jM.R_fL, *]; done)) rfl ?_
            first | refine J.aload_n (pc' := 70) rfl rfl rfl ?_ | refine J.aload_nN (pc' := 70) rfl rfl rfl ?_
            refine J.getI (pc' := 73) rfl fl_X2_9 rfl (by first | assumption | (simp only [jM.tag_sI, jM.tag_sL, jM.tag_sR, jM.tag_fI, jM.tag_fL, jM.tag_fR]; assumption) | (simp [jM.tag_nw, jM.tag_sI, jM.tag_sL, jM.tag_sR, jM.tag_fI, jM.tag_fL, jM.tag_fR, *]; done)) rfl ?_
            rw [c5]
            refine J.callV (pc' := 76) (t := 1) rfl MJ0_charAt_5068e ml_X2_93 iv_J0_charAt_5068e (by decide) ⟨_, rfl, rfl⟩ (by first | assumption | (simp only [jM.tag_sI, jM.tag_sL, jM.tag_sR, jM.tag_fI, jM.tag_fL, jM.tag_fR]; assumption) | (simp [jM.tag_nw, jM.tag_sI, jM.tag_sL, jM.tag_sR, jM.tag_fI, jM.tag_fL, jM.tag_fR, *]; done)) (cj_charAt c3 (by omega) (by omega)) rfl rfl (Nat.le_of_ble_eq_true rfl) (by first | omega | (exact R.r _ _) | (simp only [jM.len_sI, jM.len_sL, jM.len_sR, jM.len_fI, jM.len_fL, jM.len_fR]; omega) | (simp [jM.len_nw, jM.len_sI, jM.len_sL, jM.len_sR, jM.len_fI, jM.len_fL, jM.len_fR, *]; omega)) (by first | omega | (exact R.r _ _) | (simp only [jM.len_sI, jM.len_sL, jM.len_sR, jM.len_fI, jM.len_fL, jM.len_fR]; omega) | (simp [jM.len_nw, jM.len_sI, jM.len_sL, jM.len_sR, jM.len_fI, jM.len_fL, jM.len_fR, *]; omega)) (by first | omega | (exact R.r _ _) | (simp only [jM.len_sI, jM.len_sL, jM.len_sR, jM.len_fI, jM.len_fL, jM.len_fR]; omega) | (simp [jM.len_nw, jM.len_sI, jM.len_sL, jM.len_sR, jM.len_fI, jM.len_fL, jM.len_fR, *]; omega)) rfl rfl ?_ ?_
            · exact fun _ _ h => h
            rintro _ k ⟨rfl, rfl⟩
            refine J.bipush (pc' := 78) rfl rfl (by decide) ?_
            refine J.isub (pc' := 79) rfl rfl ?_
            refine J.iadd (pc' := 80) rfl rfl ?_
            refine J.putI (pc' := 83) rfl fl_X2_18 rfl (Or.inl rfl) (by first | assumption | (simp only [jM.tag_sI, jM.tag_sL, jM.tag_sR, jM.tag_fI, jM.tag_fL, jM.tag_fR]; assumption) | (simp [jM.tag_nw, jM.tag_sI, jM.tag_sL, jM.tag_sR, jM.tag_fI, jM.tag_fL, jM.tag_fR, *]; done)) (Or.inl rfl) rfl ?_
            have b4 := b1.setN (q := 10 * v + (T q - 48))
            have c1' := b4.1
            have c5' := b4.2.2.2.2.1
            first | refine J.aload_n (pc' := 84) rfl rfl rfl ?_ | refine J.aload_nN (pc' := 84) rfl rfl rfl ?_
            refine J.dup (pc' := 85) rfl rfl rfl ?_
            refine J.getI (pc' := 88) rfl fl_X2_9 rfl (by first | assumption | (simp only [jM.tag_sI, jM.tag_sL, jM.tag_sR, jM.tag_fI, jM.tag_fL, jM.tag_fR]; assumption) | (simp [jM.tag_nw, jM.tag_sI, jM.tag_sL, jM.tag_sR, jM.tag_fI, jM.tag_fL, jM.tag_fR, *]; done)) rfl ?_
            rw [c5']
            refine J.iconst (pc' := 89) rfl rfl ?_
            refine J.iadd (pc' := 90) rfl rfl ?_
            refine J.putI (pc' := 93) rfl fl_X2_9 rfl (Or.inl rfl) (by first | assumption | (simp only [jM.tag_sI, jM.tag_sL, jM.tag_sR, jM.tag_fI, jM.tag_fL, jM.tag_fR]; assumption) | (simp [jM.tag_nw, jM.tag_sI, jM.tag_sL, jM.tag_sR, jM.tag_fI, jM.tag_fL, jM.tag_fR, *]; done)) (Or.inl rfl) rfl ?_
            refine J.goto (tgt := 28) rfl rfl ?_
            refine ih (q + 1) (10 * v + (T q - 48)) ((k.sI 6 rd 4 (10 * v + (T q - 48))).sI 6 rd 2 (q + 1)) (by omega) (by omega) ?_ (b4.setA (by omega) (by omega)) ((b2.stI (Or.inl rfl)).stI (Or.inl rfl)) (b3.st rfl) _ ⟨rfl, rfl, rfl, trivial⟩
            rw [he, numN, if_pos ⟨by omega, cc⟩, show 10 * v + T q - 48 = 10 * v + (T q - 48) by omega]
        · rw [if_neg cc]
          refine J.if_eq (tgt := 96) (pc' := 57) rfl rfl rfl (by first | omega | (exact R.r _ _) | (simp only [jM.len_sI, jM.len_sL, jM.len_sR, jM.len_fI, jM.len_fL, jM.len_fR]; omega) | (simp [jM.len_nw, jM.len_sI, jM.len_sL, jM.len_sR, jM.len_fI, jM.len_fL, jM.len_fR, *]; omega)) (fun z2 => ?_) (fun z2 => ?_)
          · exact fin q v k (by rw [he, numN, if_neg (fun z => cc z.2)]) hxq b1 b2 b3 _ ⟨rfl, rfl, trivial⟩
          · omega
  exact key 5 x 0 (k.sI 6 rd 4 0) (by omega) (by omega) rfl g2.setN (g3.stI (Or.inl rfl)) (N1.st rfl) _ ⟨rfl, rfl, rfl, trivial⟩
end WD

