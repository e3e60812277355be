theorem jI_ushr {v s : Int} (hv : r32 v) (hs : s = 24 ∨ s = 16 ∨ s = 8 ∨ s = 0) : ∃ z, ((jI v).toUInt32 >>> ((jI s).toUInt32 &&& Int32.toUInt32 31)).toInt32 = jI z ∧ z % 256 = shB v s % 256 := by
  refine ⟨((jI v).toUInt32 >>> ((jI s).toUInt32 &&& Int32.toUInt32 31)).toInt32.toInt, (Int32.ofInt_toInt _).symm, ?_⟩
  have key : ∀ (n : Nat) (k : UInt32), (k.toBitVec % 32).toNat = n → ((jI v).toUInt32 >>> k).toInt32.toInt % 256 = (v % 4294967296) / ((2 ^ n : Nat) : Int) % 256 := fun n k hk => by
    have e1 : ((jI v).toUInt32 >>> k).toBitVec.toNat = (v % 4294967296).toNat / 2 ^ n := by
      rw [UInt32.toBitVec_shiftRight, BitVec.ushiftRight_eq', BitVec.toNat_ushiftRight, hk, Nat.shiftRight_eq_div_pow]
      congr 1
    show ((jI v).toUInt32 >>> k).toBitVec.toInt % 256 = _
    rw [BitVec.toInt_eq_toNat_cond, e1]
    have e2 : (((v % 4294967296).toNat / 2 ^ n : Nat) : Int) = (v % 4294967296) / ((2 ^ n : Nat) : Int) := by
      rw [Int.natCast_ediv, Int.toNat_of_nonneg (by omega)]
    rw [← e2]
    split
    · rfl
    · have : ((2 ^ 32 : Nat) : Int) = 4294967296 := by decide
      omega
  unfold shB
  rcases hs with rfl | rfl | rfl | rfl
  · rw [if_pos rfl, key 24 _ (by decide)]
    have : ((2 ^ 24 : Nat) : Int) = 16777216 := by decide
    rw [this]
    omega
  · rw [if_neg (by decide), if_pos rfl, key 16 _ (by decide)]
    have : ((2 ^ 16 : Nat) : Int) = 65536 := by decide
    rw [this]
    omega
  · rw [if_neg (by decide), if_neg (by decide), if_pos rfl, key 8 _ (by decide)]
    have : ((2 ^ 8 : Nat) : Int) = 256 := by decide
    rw [this]
    omega
  · rw [if_neg (by decide), if_neg (by decide), if_neg (by decide), key 0 _ (by decide)]
    have : ((2 ^ 0 : Nat) : Int) = 1 := by decide
    rw [this]
    omega
section FF
variable {γ : jG} {h h' : jM} {ρ σ : Nat → Nat} {x tp : Nat} {ks ss cs ls ms : List Nat} {V V' : VV} {S : Nat → Prop}
def ptQ (γ : jG) (h : jM) (tp e : Nat) (n : Int) (T : Int → Int) (v : Int) : Option Value → jM → Prop := fun r h' => r = none ∧ ∃ e' T', isSB γ h' tp e' (n + 4) T' ∧ (∀ i, 0 ≤ i → i < n → T' i = T i) ∧ (∀ j, 0 ≤ j → j < 4 → T' (n + j) = shB v (24 - 8 * j) % 256) ∧ Fr h h' (fun b => b = tp ∨ b = e) ∧ (e' = e ∨ h.tag e' = 0)
theorem cf_put {v n : Int} {e : Nat} {T : Int → Int} (hv : r32 v) (tx : h.tag x = 15) (rx : h.R 15 x 8 = some tp) (hB : isSB γ h tp e n T) (hn : n + 4 ≤ 574) : CT γ mX11_putOnTape 6 4 2296 [.ref x, .int (jI v)] h (ptQ γ h tp e n T v) X0 := by
  refine CT.of MX11_putOnTape (Nat.le_of_ble_eq_true rfl) ?_
  show J γ mX11_putOnTape 6 4 2296 0 0 h 0 [(0, .ref x), (1, .int (jI v))] [] _ _
  refine J.bipush (pc' := 2) rfl rfl (by decide) ?_
  refine J.istore_n (pc' := 3) rfl rfl (by decide) ?_
  have hn0 := hB.2.2.2.2.2.1
  have key : ∀ (r : Nat) (j : Int), j + r = 4 → 0 ≤ j → ∀ (k : jM) (e1 : Nat) (T1 : Int → Int) (c1 c2 : Nat), isSB γ k tp e1 (n + j) T1 → (∀ i, 0 ≤ i → i < n → T1 i = T i) → (∀ i, 0 ≤ i → i < j → T1 (n + i) = shB v (24 - 8 * i) % 256) → Fr h k (fun b => b = tp ∨ b = e) → (e1 = e ∨ h.tag e1 = 0) → (c1 : Int) ≤ j → (c2 : Int) ≤ 574 * j → ∀ lv, hasL lv [(0, .ref x), (1, .int (jI v)), (2, .int (jI (24 - 8 * j)))] → J γ mX11_putOnTape 6 4 2296 c1 c2 k 3 lv [] (ptQ γ h tp e n T v) X0 := by
    intro r
    induction r with
    | zero =>
      intro j hj j0 k e1 T1 c1 c2 b1 b2 b3 b4 b5 hc1 hc2 lv hlv
      have ej : j = 4 := by omega
      subst ej
      refine J.lc hlv ?_
      refine J.iload_n (pc' := 4) rfl rfl rfl ?_
      refine J.if_lt (tgt := 29) (pc' := 7) rfl rfl rfl (by first | omega | (exact R.r _ _) | (simp only [jM.len_sI, jM.len_sL, jM.len_sR, jM.len_fI, jM.len_fL, jM.len_fR]; omega) | (simp [jM.len_nw, jM.len_sI, jM.len_sL, jM.len_sR, jM.len_fI, jM.len_fL, jM.len_fR, *]; omega)) (fun z1 => ?_) (fun z1 => ?_)
      · refine J.vret rfl rfl (by first | omega | (exact R.r _ _) | (simp only [jM.len_sI, jM.len_sL, jM.len_sR, jM.len_fI, jM.len_fL, jM.len_fR]; omega) | (simp [jM.len_nw, jM.len_sI, jM.len_sL, jM.len_sR, jM.len_fI, jM.len_fL, jM.len_fR, *]; omega)) (by first | omega | (exact R.r _ _) | (simp only [jM.len_sI, jM.len_sL, jM.len_sR, jM.len_fI, jM.len_fL, jM.len_fR]; omega) | (simp [jM.len_nw, jM.len_sI, jM.len_sL, jM.len_sR, jM.len_fI, jM.len_fL, jM.len_fR, *]; omega)) ?_
        exact ⟨rfl, e1, T1, b1, b2, b3, b4, b5⟩
      · omega
    | succ r ih =>
      intro j hj j0 k e1 T1 c1 c2 b1 b2 b3 b4 b5 hc1 hc2 lv hlv
      have tx1 := b4.tag tx (by decide)
      have hxt : ¬ (x = tp ∨ x = e) := fun z => by
        rcases z with z | z
        · have := hB.1; rw [← z] at this; omega
        · have := hB.2.2.1; rw [← z] at this; omega
      have rx1 : k.R 15 x 8 = some tp := by rw [b4.R tx (by decide) hxt]; exact rx
      have tt := b1.1
      have hs : (24 - 8 * j) = 24 ∨ (24 - 8 * j) = 16 ∨ (24 - 8 * j) = 8 ∨ (24 - 8 * j) = 0 := by omega
      obtain ⟨z, hz1, hz2⟩ := jI_ushr hv hs
      refine J.lc hlv ?_
      refine J.iload_n (pc' := 4) rfl rfl rfl ?_
      refine J.if_lt (tgt := 29) (pc' := 7) rfl rfl rfl (by first | omega | (exact R.r _ _) | (simp only [jM.len_sI, jM.len_sL, jM.len_sR, jM.len_fI, jM.len_fL, jM.len_fR]; omega) | (simp [jM.len_nw, jM.len_sI, jM.len_sL, jM.len_sR, jM.len_fI, jM.len_fL, jM.len_fR, *]; omega)) (fun z1 => ?_) (fun z1 => ?_)
      · omega
      · first | refine J.aload_n (pc' := 8) rfl rfl rfl ?_ | refine J.aload_nN (pc' := 8) rfl rfl rfl ?_
        first | refine J.getR (pc' := 11) rfl fl_X11_51 rfl (by first | assumption | (simp only [jM.tag_sI, jM.tag_sL, jM.tag_sR, jM.tag_fI, jM.tag_fL, jM.tag_fR]; assumption) | (simp [jM.tag_nw, jM.tag_sI, jM.tag_sL, jM.tag_sR, jM.tag_fI, jM.tag_fL, jM.tag_fR, *]; done)) (by first | assumption | (simp only [jM.R_sI, jM.R_sL, jM.R_fI, jM.R_fL]; assumption) | (simp [jM.R_nw, jM.R_sR, jM.R_fR, jM.R_sI, jM.R_sL, jM.R_fI, jM.R_fL, *]; done)) rfl ?_ | refine J.getRN (pc' := 11) rfl fl_X11_51 rfl (by first | assumption | (simp only [jM.tag_sI, jM.tag_sL, jM.tag_sR, jM.tag_fI, jM.tag_fL, jM.tag_fR]; assumption) | (simp [jM.tag_nw, jM.tag_sI, jM.tag_sL, jM.tag_sR, jM.tag_fI, jM.tag_fL, jM.tag_fR, *]; done)) (by first | assumption | (simp only [jM.R_sI, jM.R_sL, jM.R_fI, jM.R_fL]; assumption) | (simp [jM.R_nw, jM.R_sR, jM.R_fR, jM.R_sI, jM.R_sL, jM.R_fI, jM.R_fL, *]; done)) rfl ?_
        refine J.iload_n (pc' := 12) rfl rfl rfl ?_
        refine J.iload_n (pc' := 13) rfl rfl rfl ?_
        refine J.iushr (pc' := 14) z rfl rfl hz1 ?_
        refine J.sipush (pc' := 17) rfl rfl (by decide) ?_
        refine J.iand (pc' := 18) (z % 256) rfl rfl (jI_and255 z) ?_
        refine J.i2c (pc' := 19) (z % 256) rfl rfl (jI_i2c (by omega)) ?_
        refine J.callV (pc' := 22) (t := 2) rfl MJ4_append_cf468 ml_X11_329 iv_J4_append_cf468 (by decide) ⟨_, rfl, rfl⟩ (by first | assumption | (simp only [jM.tag_sI, jM.tag_sL, jM.tag_sR, jM.tag_fI, jM.tag_fL, jM.tag_fR]; assumption) | (simp [jM.tag_nw, jM.tag_sI, jM.tag_sL, jM.tag_sR, jM.tag_fI, jM.tag_fL, jM.tag_fR, *]; done)) (cb_append (c := z % 256) b1 (by omega) (by omega)) rfl rfl (Nat.le_of_ble_eq_true rfl) (by first | omega | (exact R.r _ _) | (simp only [jM.len_sI, jM.len_sL, jM.len_sR, jM.len_fI, jM.len_fL, jM.len_fR]; omega) | (simp [jM.len_nw, jM.len_sI, jM.len_sL, jM.len_sR, jM.len_fI, jM.len_fL, jM.len_fR, *]; omega)) (by first | omega | (exact R.r _ _) | (simp only [jM.len_sI, jM.len_sL, jM.len_sR, jM.len_fI, jM.len_fL, jM.len_fR]; omega) | (simp [jM.len_nw, jM.len_sI, jM.len_sL, jM.len_sR, jM.len_fI, jM.len_fL, jM.len_fR, *]; omega)) (by first | omega | (exact R.r _ _) | (simp only [jM.len_sI, jM.len_sL, jM.len_sR, jM.len_fI, jM.len_fL, jM.len_fR]; omega) | (simp [jM.len_nw, jM.len_sI, jM.len_sL, jM.len_sR, jM.len_fI, jM.len_fL, jM.len_fR, *]; omega)) rfl rfl ?_ ?_
        · exact fun _ _ z => z.elim
        rintro _ k2 ⟨rfl, e2, q1, q2, q3, q4⟩
        refine J.pop (pc' := 23) rfl rfl rfl ?_
        refine J.iinc (pc' := 26) rfl rfl rfl (by decide) ?_
        refine J.goto (tgt := 3) rfl rfl ?_
        have te1 := b1.2.2.1
        refine ih (j + 1) (by omega) (by omega) k2 e2 (apT T1 (n + j) (z % 256)) _ _ (by rw [show n + (j + 1) = n + j + 1 by omega]; exact q1) (fun i i0 i1 => ?_) (fun i i0 i1 => ?_) (b4.trans q2 (fun b hb w => ?_)) ?_ (by omega) (by omega) _ ⟨rfl, rfl, ?_, trivial⟩
        · unfold apT
          rw [if_neg (by omega)]
          exact b2 i i0 i1
        · unfold apT
          by_cases w : i = j
          · rw [if_pos (by omega), w, hz2]
          · rw [if_neg (by omega)]
            exact b3 i i0 (by omega)
        · rcases w with w | w | w
          · exact w
          · exact Or.inl w
          · rcases b5 with b5 | b5
            · exact Or.inr (by rw [w]; exact b5)
            · rw [w] at hb; exact absurd b5 hb
        · rcases q4 with q4 | q4
          · rw [q4]; exact b5
          · exact Or.inr (b4.free q4)
        · show some (Value.int (jI (24 - 8 * j + -8))) = some (Value.int (jI (24 - 8 * (j + 1))))
          rw [show 24 - 8 * j + -8 = 24 - 8 * (j + 1) by omega]
  exact key 4 0 (by omega) (by omega) h e T 0 0 (by rw [Int.add_zero]; exact hB) (fun _ _ _ => rfl) (fun i i0 i1 => by omega) Fr.rf (Or.inl rfl) (by omega) (by omega) _ ⟨rfl, rfl, rfl, trivial⟩
theorem cf_feed {a b c d e : Int} (ha : r32 a) (hb : r32 b) (hc : r32 c) (hd : r32 d) (he : r32 e) (h0 : V 16 0 = 0) (I : Inv V) (hR : RepB γ V h x ρ σ ks ss cs ls ms) : CT γ mX11_feed 7 20 11480 [.ref x, .int (jI a), .int (jI b), .int (jI c), .int (jI d), .int (jI e)] h (opQ γ x h (sp_feed V a b c d e)) X0 := by
  have hR0 := hR
  obtain ⟨a1, a2, a3, a4, a5, a6, a7, a8, a9, a10, a11⟩ := hR0
  have R := I.1
  have Rf := R.f
  have a1' := a1
  obtain ⟨x0, x1, x2, x3, x4, x5, x6, x7, x8, x9, x10⟩ := a1'
  obtain ⟨e0, T0, B0, hT0⟩ := a9
  have tt := B0.1
  have te := B0.2.2.1
  have be := B0.2.2.2.2.2.2.2.2.1
  have hxt : ∀ u, (u = ρ 8 ∨ u = e0) → u ≠ x := fun u hu w => by
    rcases hu with z | z
    · rw [← z, w] at tt; omega
    · rw [← z, w] at te; omega
  refine CT.of MX11_feed (Nat.le_of_ble_eq_true rfl) ?_
  show J γ mX11_feed 7 20 11480 0 0 h 0 [(0, .ref x), (1, .int (jI a)), (2, .int (jI b)), (3, .int (jI c)), (4, .int (jI d)), (5, .int (jI e))] [] _ _
  first | refine J.aload_n (pc' := 1) rfl rfl rfl ?_ | refine J.aload_nN (pc' := 1) rfl rfl rfl ?_
  first | refine J.getR (pc' := 4) rfl fl_X11_51 rfl (by first | assumption | (simp only [jM.tag_sI, jM.tag_sL, jM.tag_sR, jM.tag_fI, jM.tag_fL, jM.tag_fR]; assumption) | (simp [jM.tag_nw, jM.tag_sI, jM.tag_sL, jM.tag_sR, jM.tag_fI, jM.tag_fL, jM.tag_fR, *]; done)) (by first | assumption | (simp only [jM.R_sI, jM.R_sL, jM.R_fI, jM.R_fL]; assumption) | (simp [jM.R_nw, jM.R_sR, jM.R_fR, jM.R_sI, jM.R_sL, jM.R_fI, jM.R_fL, *]; done)) rfl ?_ | refine J.getRN (pc' := 4) rfl fl_X11_51 rfl (by first | assumption | (simp only [jM.tag_sI, jM.tag_sL, jM.tag_sR, jM.tag_fI, jM.tag_fL, jM.tag_fR]; assumption) | (simp [jM.tag_nw, jM.tag_sI, jM.tag_sL, jM.tag_sR, jM.tag_fI, jM.tag_fL, jM.tag_fR, *]; done)) (by first | assumption | (simp only [jM.R_sI, jM.R_sL, jM.R_fI, jM.R_fL]; assumption) | (simp [jM.R_nw, jM.R_sR, jM.R_fR, jM.R_sI, jM.R_sL, jM.R_fI, jM.R_fL, *]; done)) rfl ?_
  refine J.callV (pc' := 7) (t := 2) rfl MJ4_length_8abf5 ml_X11_94 iv_J4_length_8abf5 (by decide) ⟨_, rfl, rfl⟩ (by first | assumption | (simp only [jM.tag_sI, jM.tag_sL, jM.tag_sR, jM.tag_fI, jM.tag_fL, jM.tag_fR]; assumption) | (simp [jM.tag_nw, jM.tag_sI, jM.tag_sL, jM.tag_sR, jM.tag_fI, jM.tag_fL, jM.tag_fR, *]; done)) (cb_len B0) rfl rfl (Nat.le_of_ble_eq_true rfl) (by first | omega | (exact R.r _ _) | (simp only [jM.len_sI, jM.len_sL, jM.len_sR, jM.len_fI, jM.len_fL, jM.len_fR]; omega) | (simp [jM.len_nw, jM.len_sI, jM.len_sL, jM.len_sR, jM.len_fI, jM.len_fL, jM.len_fR, *]; omega)) (by first | omega | (exact R.r _ _) | (simp only [jM.len_sI, jM.len_sL, jM.len_sR, jM.len_fI, jM.len_fL, jM.len_fR]; omega) | (simp [jM.len_nw, jM.len_sI, jM.len_sL, jM.len_sR, jM.len_fI, jM.len_fL, jM.len_fR, *]; omega)) (by first | omega | (exact R.r _ _) | (simp only [jM.len_sI, jM.len_sL, jM.len_sR, jM.len_fI, jM.len_fL, jM.len_fR]; omega) | (simp [jM.len_nw, jM.len_sI, jM.len_sL, jM.len_sR, jM.len_fI, jM.len_fL, jM.len_fR, *]; omega)) rfl rfl ?_ ?_
  · exact fun _ _ z => z.elim
  rintro _ h ⟨rfl, rfl⟩
  refine J.bipush (pc' := 9) rfl rfl (by decide) ?_
  refine J.iadd (pc' := 10) rfl rfl ?_
  refine J.sipush (pc' := 13) rfl rfl (by decide) ?_
  refine J.icmp_le (tgt := 18) (pc' := 16) rfl rfl rfl (by first | omega | (exact R.r _ _) | (simp only [jM.len_sI, jM.len_sL, jM.len_sR, jM.len_fI, jM.len_fL, jM.len_fR]; omega) | (simp [jM.len_nw, jM.len_sI, jM.len_sL, jM.len_sR, jM.len_fI, jM.len_fL, jM.len_fR, *]; omega)) (by first | omega | (exact R.r _ _) | (simp only [jM.len_sI, jM.len_sL, jM.len_sR, jM.len_fI, jM.len_fL, jM.len_fR]; omega) | (simp [jM.len_nw, jM.len_sI, jM.len_sL, jM.len_sR, jM.len_fI, jM.len_fL, jM.len_fR, *]; omega)) (fun c1 => ?_) (fun c1 => ?_)
  · have st : ∀ {k : jM} {e1 : Nat}, Fr h k (fun u => u = ρ 8 ∨ u = e0) → (e1 = e0 ∨ h.tag e1 = 0) → ∀ {k2 : jM} {e2 : Nat}, Fr k k2 (fun u => u = ρ 8 ∨ u = e1) → (e2 = e1 ∨ k.tag e2 = 0) → Fr h k2 (fun u => u = ρ 8 ∨ u = e0) ∧ (e2 = e0 ∨ h.tag e2 = 0) := by
      intro k e1 F he1 k2 e2 F2 he2
      refine ⟨F.trans F2 (fun u hu w => ?_), ?_⟩
      · rcases w with w | w | w
        · exact w
        · exact Or.inl w
        · rcases he1 with q | q
          · exact Or.inr (by rw [w]; exact q)
          · rw [w] at hu; exact absurd q hu
      · rcases he2 with q | q
        · rw [q]; exact he1
        · exact Or.inr (F.free q)
    have px : ∀ {k : jM}, Fr h k (fun u => u = ρ 8 ∨ u = e0) → k.tag x = 15 ∧ k.R 15 x 8 = some (ρ 8) := fun F => ⟨F.tag x0 (by decide), by rw [F.R x0 (by decide) (fun z => hxt x z rfl)]; exact x9⟩
    first | refine J.aload_n (pc' := 19) rfl rfl rfl ?_ | refine J.aload_nN (pc' := 19) rfl rfl rfl ?_
    refine J.iload_n (pc' := 20) rfl rfl rfl ?_
    refine J.callV (pc' := 23) (t := 15) rfl MX11_putOnTape ml_X11_97 iv_X11_putOnTape (by decide) ⟨_, rfl, rfl⟩ (by first | assumption | (simp only [jM.tag_sI, jM.tag_sL, jM.tag_sR, jM.tag_fI, jM.tag_fL, jM.tag_fR]; assumption) | (simp [jM.tag_nw, jM.tag_sI, jM.tag_sL, jM.tag_sR, jM.tag_fI, jM.tag_fL, jM.tag_fR, *]; done)) (cf_put ha x0 x9 B0 (by omega)) rfl rfl (Nat.le_of_ble_eq_true rfl) (by first | omega | (exact R.r _ _) | (simp only [jM.len_sI, jM.len_sL, jM.len_sR, jM.len_fI, jM.len_fL, jM.len_fR]; omega) | (simp [jM.len_nw, jM.len_sI, jM.len_sL, jM.len_sR, jM.len_fI, jM.len_fL, jM.len_fR, *]; omega)) (by first | omega | (exact R.r _ _) | (simp only [jM.len_sI, jM.len_sL, jM.len_sR, jM.len_fI, jM.len_fL, jM.len_fR]; omega) | (simp [jM.len_nw, jM.len_sI, jM.len_sL, jM.len_sR, jM.len_fI, jM.len_fL, jM.len_fR, *]; omega)) (by first | omega | (exact R.r _ _) | (simp only [jM.len_sI, jM.len_sL, jM.len_sR, jM.len_fI, jM.len_fL, jM.len_fR]; omega) | (simp [jM.len_nw, jM.len_sI, jM.len_sL, jM.len_sR, jM.len_fI, jM.len_fL, jM.len_fR, *]; omega)) rfl rfl ?_ ?_
    · exact fun _ _ z => z.elim
    rintro _ k1 ⟨rfl, e1, T1, B1, u1, w1, f1, g1⟩
    obtain ⟨p1, p2⟩ := px f1
    first | refine J.aload_n (pc' := 24) rfl rfl rfl ?_ | refine J.aload_nN (pc' := 24) rfl rfl rfl ?_
    refine J.iload_n (pc' := 25) rfl rfl rfl ?_
    refine J.callV (pc' := 28) (t := 15) rfl MX11_putOnTape ml_X11_97 iv_X11_putOnTape (by decide) ⟨_, rfl, rfl⟩ (by first | assumption | (simp only [jM.tag_sI, jM.tag_sL, jM.tag_sR, jM.tag_fI, jM.tag_fL, jM.tag_fR]; assumption) | (simp [jM.tag_nw, jM.tag_sI, jM.tag_sL, jM.tag_sR, jM.tag_fI, jM.tag_fL, jM.tag_fR, *]; done)) (cf_put hb p1 p2 B1 (by omega)) rfl rfl (Nat.le_of_ble_eq_true rfl) (by first | omega | (exact R.r _ _) | (simp only [jM.len_sI, jM.len_sL, jM.len_sR, jM.len_fI, jM.len_fL, jM.len_fR]; omega) | (simp [jM.len_nw, jM.len_sI, jM.len_sL, jM.len_sR, jM.len_fI, jM.len_fL, jM.len_fR, *]; omega)) (by first | omega | (exact R.r _ _) | (simp only [jM.len_sI, jM.len_sL, jM.len_sR, jM.len_fI, jM.len_fL, jM.len_fR]; omega) | (simp [jM.len_nw, jM.len_sI, jM.len_sL, jM.len_sR, jM.len_fI, jM.len_fL, jM.len_fR, *]; omega)) (by first | omega | (exact R.r _ _) | (simp only [jM.len_sI, jM.len_sL, jM.len_sR, jM.len_fI, jM.len_fL, jM.len_fR]; omega) | (simp [jM.len_nw, jM.len_sI, jM.len_sL, jM.len_sR, jM.len_fI, jM.len_fL, jM.len_fR, *]; omega)) rfl rfl ?_ ?_
    · exact fun _ _ z => z.elim
    rintro _ k2 ⟨rfl, e2, T2, B2, u2, w2, f2, g2⟩
    obtain ⟨f2, g2⟩ := st f1 g1 f2 g2
    obtain ⟨p1, p2⟩ := px f2
    first | refine J.aload_n (pc' := 29) rfl rfl rfl ?_ | refine J.aload_nN (pc' := 29) rfl rfl rfl ?_
    refine J.iload_n (pc' := 30) rfl rfl rfl ?_
    refine J.callV (pc' := 33) (t := 15) rfl MX11_putOnTape ml_X11_97 iv_X11_putOnTape (by decide) ⟨_, rfl, rfl⟩ (by first | assumption | (simp only [jM.tag_sI, jM.tag_sL, jM.tag_sR, jM.tag_fI, jM.tag_fL, jM.tag_fR]; assumption) | (simp [jM.tag_nw, jM.tag_sI, jM.tag_sL, jM.tag_sR, jM.tag_fI, jM.tag_fL, jM.tag_fR, *]; done)) (cf_put hc p1 p2 B2 (by omega)) rfl rfl (Nat.le_of_ble_eq_true rfl) (by first | omega | (exact R.r _ _) | (simp only [jM.len_sI, jM.len_sL, jM.len_sR, jM.len_fI, jM.len_fL, jM.len_fR]; omega) | (simp [jM.len_nw, jM.len_sI, jM.len_sL, jM.len_sR, jM.len_fI, jM.len_fL, jM.len_fR, *]; omega)) (by first | omega | (exact R.r _ _) | (simp only [jM.len_sI, jM.len_sL, jM.len_sR, jM.len_fI, jM.len_fL, jM.len_fR]; omega) | (simp [jM.len_nw, jM.len_sI, jM.len_sL, jM.len_sR, jM.len_fI, jM.len_fL, jM.len_fR, *]; omega)) (by first | omega | (exact R.r _ _) | (simp only [jM.len_sI, jM.len_sL, jM.len_sR, jM.len_fI, jM.len_fL, jM.len_fR]; omega) | (simp [jM.len_nw, jM.len_sI, jM.len_sL, jM.len_sR, jM.len_fI, jM.len_fL, jM.len_fR, *]; omega)) rfl rfl ?_ ?_
    · exact fun _ _ z => z.elim
    rintro _ k3 ⟨rfl, e3, T3, B3, u3, w3, f3, g3⟩
    obtain ⟨f3, g3⟩ := st f2 g2 f3 g3
    obtain ⟨p1, p2⟩ := px f3
    first | refine J.aload_n (pc' := 34) rfl rfl rfl ?_ | refine J.aload_nN (pc' := 34) rfl rfl rfl ?_
    refine J.iload (pc' := 36) rfl rfl rfl ?_
    refine J.callV (pc' := 39) (t := 15) rfl MX11_putOnTape ml_X11_97 iv_X11_putOnTape (by decide) ⟨_, rfl, rfl⟩ (by first | assumption | (simp only [jM.tag_sI, jM.tag_sL, jM.tag_sR, jM.tag_fI, jM.tag_fL, jM.tag_fR]; assumption) | (simp [jM.tag_nw, jM.tag_sI, jM.tag_sL, jM.tag_sR, jM.tag_fI, jM.tag_fL, jM.tag_fR, *]; done)) (cf_put hd p1 p2 B3 (by omega)) rfl rfl (Nat.le_of_ble_eq_true rfl) (by first | omega | (exact R.r _ _) | (simp only [jM.len_sI, jM.len_sL, jM.len_sR, jM.len_fI, jM.len_fL, jM.len_fR]; omega) | (simp [jM.len_nw, jM.len_sI, jM.len_sL, jM.len_sR, jM.len_fI, jM.len_fL, jM.len_fR, *]; omega)) (by first | omega | (exact R.r _ _) | (simp only [jM.len_sI, jM.len_sL, jM.len_sR, jM.len_fI, jM.len_fL, jM.len_fR]; omega) | (simp [jM.len_nw, jM.len_sI, jM.len_sL, jM.len_sR, jM.len_fI, jM.len_fL, jM.len_fR, *]; omega)) (by first | omega | (exact R.r _ _) | (simp only [jM.len_sI, jM.len_sL, jM.len_sR, jM.len_fI, jM.len_fL, jM.len_fR]; omega) | (simp [jM.len_nw, jM.len_sI, jM.len_sL, jM.len_sR, jM.len_fI, jM.len_fL, jM.len_fR, *]; omega)) rfl rfl ?_ ?_
    · exact fun _ _ z => z.elim
    rintro _ k4 ⟨rfl, e4, T4, B4, u4, w4, f4, g4⟩
    obtain ⟨f4, g4⟩ := st f3 g3 f4 g4
    obtain ⟨p1, p2⟩ := px f4
    first | refine J.aload_n (pc' := 40) rfl rfl rfl ?_ | refine J.aload_nN (pc' := 40) rfl rfl rfl ?_
    refine J.iload (pc' := 42) rfl rfl rfl ?_
    refine J.callV (pc' := 45) (t := 15) rfl MX11_putOnTape ml_X11_97 iv_X11_putOnTape (by decide) ⟨_, rfl, rfl⟩ (by first | assumption | (simp only [jM.tag_sI, jM.tag_sL, jM.tag_sR, jM.tag_fI, jM.tag_fL, jM.tag_fR]; assumption) | (simp [jM.tag_nw, jM.tag_sI, jM.tag_sL, jM.tag_sR, jM.tag_fI, jM.tag_fL, jM.tag_fR, *]; done)) (cf_put he p1 p2 B4 (by omega)) rfl rfl (Nat.le_of_ble_eq_true rfl) (by first | omega | (exact R.r _ _) | (simp only [jM.len_sI, jM.len_sL, jM.len_sR, jM.len_fI, jM.len_fL, jM.len_fR]; omega) | (simp [jM.len_nw, jM.len_sI, jM.len_sL, jM.len_sR, jM.len_fI, jM.len_fL, jM.len_fR, *]; omega)) (by first | omega | (exact R.r _ _) | (simp only [jM.len_sI, jM.len_sL, jM.len_sR, jM.len_fI, jM.len_fL, jM.len_fR]; omega) | (simp [jM.len_nw, jM.len_sI, jM.len_sL, jM.len_sR, jM.len_fI, jM.len_fL, jM.len_fR, *]; omega)) (by first | omega | (exact R.r _ _) | (simp only [jM.len_sI, jM.len_sL, jM.len_sR, jM.len_fI, jM.len_fL, jM.len_fR]; omega) | (simp [jM.len_nw, jM.len_sI, jM.len_sL, jM.len_sR, jM.len_fI, jM.len_fL, jM.len_fR, *]; omega)) rfl rfl ?_ ?_
    · exact fun _ _ z => z.elim
    rintro _ k5 ⟨rfl, e5, T5, B5, u5, w5, f5, g5⟩
    obtain ⟨f5, g5⟩ := st f4 g4 f5 g5
    obtain ⟨p1, p2⟩ := px f5
    have t5 := B5.1
    first | refine J.aload_n (pc' := 46) rfl rfl rfl ?_ | refine J.aload_nN (pc' := 46) rfl rfl rfl ?_
    first | refine J.getR (pc' := 49) rfl fl_X11_51 rfl (by first | assumption | (simp only [jM.tag_sI, jM.tag_sL, jM.tag_sR, jM.tag_fI, jM.tag_fL, jM.tag_fR]; assumption) | (simp [jM.tag_nw, jM.tag_sI, jM.tag_sL, jM.tag_sR, jM.tag_fI, jM.tag_fL, jM.tag_fR, *]; done)) (by first | assumption | (simp only [jM.R_sI, jM.R_sL, jM.R_fI, jM.R_fL]; assumption) | (simp [jM.R_nw, jM.R_sR, jM.R_fR, jM.R_sI, jM.R_sL, jM.R_fI, jM.R_fL, *]; done)) rfl ?_ | refine J.getRN (pc' := 49) rfl fl_X11_51 rfl (by first | assumption | (simp only [jM.tag_sI, jM.tag_sL, jM.tag_sR, jM.tag_fI, jM.tag_fL, jM.tag_fR]; assumption) | (simp [jM.tag_nw, jM.tag_sI, jM.tag_sL, jM.tag_sR, jM.tag_fI, jM.tag_fL, jM.tag_fR, *]; done)) (by first | assumption | (simp only [jM.R_sI, jM.R_sL, jM.R_fI, jM.R_fL]; assumption) | (simp [jM.R_nw, jM.R_sR, jM.R_fR, jM.R_sI, jM.R_sL, jM.R_fI, jM.R_fL, *]; done)) rfl ?_
    refine J.callV (pc' := 52) (t := 2) rfl MJ4_length_8abf5 ml_X11_94 iv_J4_length_8abf5 (by decide) ⟨_, rfl, rfl⟩ (by first | assumption | (simp only [jM.tag_sI, jM.tag_sL, jM.tag_sR, jM.tag_fI, jM.tag_fL, jM.tag_fR]; assumption) | (simp [jM.tag_nw, jM.tag_sI, jM.tag_sL, jM.tag_sR, jM.tag_fI, jM.tag_fL, jM.tag_fR, *]; done)) (cb_len B5) rfl rfl (Nat.le_of_ble_eq_true rfl) (by first | omega | (exact R.r _ _) | (simp only [jM.len_sI, jM.len_sL, jM.len_sR, jM.len_fI, jM.len_fL, jM.len_fR]; omega) | (simp [jM.len_nw, jM.len_sI, jM.len_sL, jM.len_sR, jM.len_fI, jM.len_fL, jM.len_fR, *]; omega)) (by first | omega | (exact R.r _ _) | (simp only [jM.len_sI, jM.len_sL, jM.len_sR, jM.len_fI, jM.len_fL, jM.len_fR]; omega) | (simp [jM.len_nw, jM.len_sI, jM.len_sL, jM.len_sR, jM.len_fI, jM.len_fL, jM.len_fR, *]; omega)) (by first | omega | (exact R.r _ _) | (simp only [jM.len_sI, jM.len_sL, jM.len_sR, jM.len_fI, jM.len_fL, jM.len_fR]; omega) | (simp [jM.len_nw, jM.len_sI, jM.len_sL, jM.len_sR, jM.len_fI, jM.len_fL, jM.len_fR, *]; omega)) rfl rfl ?_ ?_
    · exact fun _ _ z => z.elim
    rintro _ k5 ⟨rfl, rfl⟩
    refine J.iret rfl rfl (by first | omega | (exact R.r _ _) | (simp only [jM.len_sI, jM.len_sL, jM.len_sR, jM.len_fI, jM.len_fL, jM.len_fR]; omega) | (simp [jM.len_nw, jM.len_sI, jM.len_sL, jM.len_sR, jM.len_fI, jM.len_fL, jM.len_fR, *]; omega)) (by first | omega | (exact R.r _ _) | (simp only [jM.len_sI, jM.len_sL, jM.len_sR, jM.len_fI, jM.len_fL, jM.len_fR]; omega) | (simp [jM.len_nw, jM.len_sI, jM.len_sL, jM.len_sR, jM.len_fI, jM.len_fL, jM.len_fR, *]; omega)) ?_
    have es : sp_feed V a b c d e = (V 16 10 + 20, fdV V a b c d e 20) := by unfold sp_feed; rw [if_pos c1]
    rw [es]
    have F : FrC h k5 (fun c => c = 2 ∨ c = 35) := f5.mono (fun u _ z => by
      rcases z with z | z
      · rw [z]; exact Or.inl (kc_o tt (by decide))
      · rw [z]; exact Or.inr (kc_o te (by decide)))
    have l4 := csz a4.1
    have l7 := msz a7.1
    have ee : ∀ t, t ≠ 16 → ¬ (fun t : Nat => t = 116) t → fdV V a b c d e 20 t = V t := fun t ht h1 => funext fun i => by
      have h1 : ¬ t = 116 := h1
      unfold fdV
      rw [if_neg (fun z => h1 z.1), if_neg (fun z => ht z.1)]
    have es' : ∀ i, ¬ (fun i : Int => i = 10) i → fdV V a b c d e 20 16 i = V 16 i := fun i hi => by
      have hi : ¬ i = 10 := hi
      unfold fdV
      rw [if_neg (by omega), if_neg (fun z => hi z.2)]
    have e10 : fdV V a b c d e 20 16 10 = V 16 10 + 20 := by
      unfold fdV
      rw [if_neg (by omega), if_pos ⟨rfl, rfl⟩]
    refine ⟨by rw [show V 16 10 + 4 + 4 + 4 + 4 + 4 = V 16 10 + 20 by omega], (es' 0 (by decide)).trans h0, ⟨ρ, σ, ks, ss, cs, ls, ms, a1.k F es' (by (try dsimp only); omega) (by (try dsimp only); omega), a2.k F ee es' (by (try dsimp only); omega) (by (try dsimp only); omega), a3.k F ee es' (by (try dsimp only); omega) (by (try dsimp only); omega), a4.k F ee es' (by (try dsimp only); omega) (fun _ _ => (by (try dsimp only); omega)) ⟨by (try dsimp only); omega, fun _ _ _ => by (try dsimp only); omega⟩, a5.k F ee es' (by (try dsimp only); omega) ⟨by (try dsimp only); omega, fun _ _ _ => by (try dsimp only); omega⟩, a6.k F ee (by (try dsimp only); omega) (fun _ _ => (by (try dsimp only); omega)) ⟨by (try dsimp only); omega, by (try dsimp only); omega, fun _ _ _ => by (try dsimp only); omega⟩, a7.k F ee es' (by (try dsimp only); omega) (fun _ _ => (by (try dsimp only); omega)) ⟨by (try dsimp only); omega, fun _ _ _ => by (try dsimp only); omega⟩, a8.k F ee x0 (by (try dsimp only); omega) (by (try dsimp only); omega), ⟨e5, T5, ?_, fun i i0 i1 => ?_⟩, a10.c F (fun _ _ _ => (by (try dsimp only); omega)) (by (try dsimp only); omega), a11.kept f5 (fun u hu ht z => ?_)⟩, F.mono (fun u _ z => by have z : kc h u = 2 ∨ kc h u = 35 := z; show kc h u ≠ 16 ∧ kc h u < 9000; omega)⟩
    · show isSB γ k5 (ρ 8) e5 (fdV V a b c d e 20 16 10) T5
      rw [e10, show V 16 10 + 20 = V 16 10 + 4 + 4 + 4 + 4 + 4 by omega]
      exact B5
    · have i1 : i < fdV V a b c d e 20 16 10 := i1
      rw [e10] at i1
      show T5 i = fdV V a b c d e 20 116 i
      unfold fdV
      by_cases z0 : i < V 16 10
      · rw [if_neg (by omega), if_neg (by omega), u5 i i0 (by omega), u4 i i0 (by omega), u3 i i0 (by omega), u2 i i0 (by omega), u1 i i0 (by omega)]
        exact hT0 i i0 z0
      · rw [if_pos ⟨rfl, by omega, by omega⟩]
        unfold fdB
        by_cases z1 : i < V 16 10 + 4
        · rw [if_pos (by omega), u5 i i0 (by omega), u4 i i0 (by omega), u3 i i0 (by omega), u2 i i0 (by omega)]
          have := w1 (i - V 16 10) (by omega) (by omega)
          rw [show V 16 10 + (i - V 16 10) = i by omega] at this
          rw [this, show (i - V 16 10) % 4 = i - V 16 10 by omega]
        · rw [if_neg (by omega)]
          by_cases z2 : i < V 16 10 + 8
          · rw [if_pos (by omega), u5 i i0 (by omega), u4 i i0 (by omega), u3 i i0 (by omega)]
            have := w2 (i - V 16 10 - 4) (by omega) (by omega)
            rw [show V 16 10 + 4 + (i - V 16 10 - 4) = i by omega] at this
            rw [this, show (i - V 16 10) % 4 = i - V 16 10 - 4 by omega]
          · rw [if_neg (by omega)]
            by_cases z3 : i < V 16 10 + 12
            · rw [if_pos (by omega), u5 i i0 (by omega), u4 i i0 (by omega)]
              have := w3 (i - V 16 10 - 8) (by omega) (by omega)
              rw [show V 16 10 + 4 + 4 + (i - V 16 10 - 8) = i by omega] at this
              rw [this, show (i - V 16 10) % 4 = i - V 16 10 - 8 by omega]
            · rw [if_neg (by omega)]
              by_cases z4 : i < V 16 10 + 16
              · rw [if_pos (by omega), u5 i i0 (by omega)]
                have := w4 (i - V 16 10 - 12) (by omega) (by omega)
                rw [show V 16 10 + 4 + 4 + 4 + (i - V 16 10 - 12) = i by omega] at this
                rw [this, show (i - V 16 10) % 4 = i - V 16 10 - 12 by omega]
              · rw [if_neg (by omega)]
                have := w5 (i - V 16 10 - 16) (by omega) (by omega)
                rw [show V 16 10 + 4 + 4 + 4 + 4 + (i - V 16 10 - 16) = i by omega] at this
                rw [this, show (i - V 16 10) % 4 = i - V 16 10 - 16 by omega]
    · rcases z with z | z
      · rw [z] at ht; omega
      · rw [z] at hu; omega
  · refine J.iconst (pc' := 17) rfl rfl ?_
    refine J.iret rfl rfl (by first | omega | (exact R.r _ _) | (simp only [jM.len_sI, jM.len_sL, jM.len_sR, jM.len_fI, jM.len_fL, jM.len_fR]; omega) | (simp [jM.len_nw, jM.len_sI, jM.len_sL, jM.len_sR, jM.len_fI, jM.len_fL, jM.len_fR, *]; omega)) (by first | omega | (exact R.r _ _) | (simp only [jM.len_sI, jM.len_sL, jM.len_sR, jM.len_fI, jM.len_fL, jM.len_fR]; omega) | (simp [jM.len_nw, jM.len_sI, jM.len_sL, jM.len_sR, jM.len_fI, jM.len_fL, jM.len_fR, *]; omega)) ?_
    have es : sp_feed V a b c d e = (-1, V) := by unfold sp_feed; rw [if_neg (by omega)]
    rw [es]
    exact ⟨rfl, h0, ⟨ρ, σ, ks, ss, cs, ls, ms, hR⟩, Fr.rf⟩
end FF

