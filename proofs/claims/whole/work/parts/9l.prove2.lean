section PV2
variable {γ : jG} {h h' : jM} {S : Nat → Prop} {ρ σ : Nat → Nat} {x : Nat} {ks ss cs ls ms : List Nat} {V V' : VV} {m lo hi : Int}
theorem pv_rep {k : jM} {i z a e : Nat} {ys : List Nat} {C : Int → Int} {Pn : Int → Nat → Int} {nl nh : Int → Int} (I : Inv V) (hR : RepB γ V h x ρ σ ks ss cs ls ms) (hm : 0 ≤ m ∧ m < 5) (hz : ms[i]? = some z) (hM : melE γ h ls V i z a e ys C) (F : FrD h k (fun c => c = 7100 + i ∨ c = 21)) (L : isLs γ k a e ys) (Y : lays k ys (fun k => V 154 (20 * i + k)) (fun k => ldR ls (V 155 (20 * i + k))) C Pn) (hP : ∀ (q : Nat) (t : Nat), q < ys.length → t < 10 → Pn q t = upS (pP V (20 * i + q)) m (nl q) (nh q) t) (hS : repS k ss (oV (pvF V i m nl nh ys.length)) (fun u => V 109 u)) : RepC γ (pvF V i m nl nh ys.length) k x ∧ FrC h k clsS := by
  have R := I.1
  obtain ⟨a1, a2, a3, a4, a5, a6, a7, a8, a9, a10, a11⟩ := hR
  have l4 := csz a4.1
  have l7 := msz a7.1
  have li := (List.getElem?_eq_some_iff.mp hz).1
  obtain ⟨b1, b0, b2, b3, b4, b5, b6⟩ := hM
  have FC : FrC h k (fun c => c = 10 ∨ c = 110 ∨ c = 7100 + i ∨ c = 21) := F.toC (fun c w => Or.inr (Or.inr w)) (Or.inl rfl) (Or.inr (Or.inl rfl))
  have eV : ∀ r, r ≠ 16 → ¬ (fun r : Nat => r = 106 ∨ r = 107 ∨ r = 108 ∨ r = 156 ∨ r = 157) r → pvF V i m nl nh ys.length r = V r := fun r _ h1 => funext fun j => by
    have h1 : ¬ (r = 106 ∨ r = 107 ∨ r = 108 ∨ r = 156 ∨ r = 157) := h1
    exact pvF_o (by omega) _
  have es' : ∀ j, ¬ (fun j : Int => j = 99) j → pvF V i m nl nh ys.length 16 j = V 16 j := fun j _ => pvF_o (by decide) _
  have r153 : ∀ j, 0 ≤ V 153 j ∧ V 153 j ≤ 20 := fun j => R 153 j rfl
  refine ⟨⟨ρ, σ, ks, ss, cs, ls, ms, a1.k FC es' (by (try dsimp only); omega) (by (try dsimp only); omega), a2.k FC eV es' (by (try dsimp only); omega) (by (try dsimp only); omega), ⟨a3.1.c FC (by (try dsimp only); omega), a3.2.1.trans (es' 2 (by decide)).symm, ?_⟩, a4.k FC eV es' (by (try dsimp only); omega) (fun _ _ => (by (try dsimp only); omega)) ⟨by (try dsimp only); omega, fun _ _ _ => by (try dsimp only); omega⟩, a5.k FC eV es' (by (try dsimp only); omega) ⟨by (try dsimp only); omega, fun _ _ _ => by (try dsimp only); omega⟩, ?_, ⟨a7.1.d F (by (try dsimp only); omega), a7.2.1.trans (es' 52 (by decide)).symm, fun j y hy => ?_⟩, a8.k FC eV a1.1 (by (try dsimp only); omega) (by (try dsimp only); omega), a9.k FC eV es' (by (try dsimp only); omega) (by (try dsimp only); omega), a10.c FC (fun _ _ _ => (by (try dsimp only); omega)) (by (try dsimp only); omega), isK.c FC a11 (by (try dsimp only); omega) (by (try dsimp only); omega)⟩, FC.mono (fun b hb w => ?_)⟩
  · rw [eV 109 (by decide) (by decide)]
    exact hS
  · have hE : repE γ k ρ ls V := ⟨F.tag a6.1 (by decide), by rw [F.len (by have := a6.1; omega)]; exact a6.2.1, fun g hg => by
      obtain ⟨p, a', e', ys', q1, q2⟩ := a6.2.2 g hg
      exact ⟨p, a', e', ys', by rw [F.R a6.1 (by decide) (by rw [kd_t a6.1 (by decide)]; (try dsimp only); omega)]; exact q1, q2.d F (by (try dsimp only); omega)⟩⟩
    exact hE.cg (eV 138 (by decide) (by decide)) (eV 139 (by decide) (by decide)) (eV 140 (by decide) (by decide)) (eV 141 (by decide) (by decide)) (eV 142 (by decide) (by decide)) (eV 143 (by decide) (by decide)) (eV 134 (by decide) (by decide)) (eV 135 (by decide) (by decide))
  · have eT : ∀ q, tonsP (pvF V i m nl nh ys.length) q = tonsP V q := fun q => by
      unfold tonsP
      rw [eV 153 (by decide) (by decide), eV 154 (by decide) (by decide)]
    by_cases c : j = i
    · subst c
      rw [hz] at hy
      cases hy
      refine ⟨a, e, ys, C, F.tag b1 (by decide), ?_, ?_, L, by rw [F.ow (by have := b3.1.1; omega)]; exact b4, by rw [eV 153 (by decide) (by decide)]; exact b5, Y.cgP (fun q hq => ⟨by rw [eV 154 (by decide) (by decide)], by rw [eV 155 (by decide) (by decide)], rfl, fun t ht => ?_⟩)⟩
      · rw [F.I b1 (by decide) (by rw [kd_t b1 (by decide)]; (try dsimp only); omega), eT]; exact b0
      · rw [F.R b1 (by decide) (by rw [kd_t b1 (by decide)]; (try dsimp only); omega)]; exact b2
      · rw [hP q t hq ht]
        unfold upS pP
        have e6 := pvF_6 (V := V) (i := j) (nl := nl) (nh := nh) hm ys.length (20 * (j : Int) + q) ((t / 2 : Nat) : Int) (by omega) (by omega)
        rw [e6.1, e6.2]
        by_cases d1 : (t : Int) = 2 * m + 1
        · rw [if_pos d1, if_neg (by omega), if_pos (by omega), show 20 * (j : Int) + q - 20 * j = (q : Int) by omega]
        · by_cases d2 : (t : Int) = 2 * m
          · rw [if_neg d1, if_pos d2, if_pos (by omega), if_pos (by omega), show 20 * (j : Int) + q - 20 * j = (q : Int) by omega]
          · have nc : ¬ (20 * (j : Int) ≤ 20 * (j : Int) + q ∧ 20 * (j : Int) + q < 20 * (j : Int) + (ys.length : Nat) ∧ ((t / 2 : Nat) : Int) = m) := by omega
            rw [if_neg d1, if_neg d2, if_neg nc, if_neg nc]
    · have lj := (List.getElem?_eq_some_iff.mp hy).1
      obtain ⟨a', e', ys', C', q⟩ := a7.2.2 j y hy
      obtain ⟨d1, d0, d2, d3, d4, d5, d6⟩ := q.d F (by (try dsimp only); omega)
      have := r153 j
      have := r153 i
      refine ⟨a', e', ys', C', d1, by rw [eT]; exact d0, d2, d3, d4, by rw [eV 153 (by decide) (by decide)]; exact d5, d6.cgP (fun q hq => ⟨by rw [eV 154 (by decide) (by decide)], by rw [eV 155 (by decide) (by decide)], rfl, fun t ht => ?_⟩)⟩
      unfold pP
      have e6 := pvF_6 (V := V) (i := i) (nl := nl) (nh := nh) hm ys.length (20 * (j : Int) + q) ((t / 2 : Nat) : Int) (by omega) (by omega)
      have nc : ¬ (20 * (i : Int) ≤ 20 * (j : Int) + q ∧ 20 * (j : Int) + q < 20 * (i : Int) + (ys.length : Nat) ∧ ((t / 2 : Nat) : Int) = m) := by omega
      rw [e6.1, e6.2, if_neg nc, if_neg nc]
  · unfold clsS
    omega
theorem cf_prove {i : Int} (hi' : r32 i) (hm' : r32 m) (hlo : r32 lo) (hhi : r32 hi) (I : Inv V) (h0 : V 16 0 = 0) (hR : RepB γ V h x ρ σ ks ss cs ls ms) : CT γ mX11_prove 8 8 48 [.ref x, .int (jI i), .int (jI m), .int (jI lo), .int (jI hi)] h
    (fun r h' => (0 ≤ i ∧ i < V 16 52) ∧ ((0 ≤ m ∧ m < 5) ∧ 0 ≤ lo ∧ lo ≤ hi ∧ hi ≤ 10000) ∧ FrC h h' clsS ∧ ((pvOk V i m lo hi ∧ r = some (.int (jI 1)) ∧ RepC γ (pvF V i m (nLo V i m lo) (nHi V i m hi) (V 153 i).toNat) h' x) ∨ (¬ pvOk V i m lo hi ∧ r = some (.int (jI 0)) ∧ RepC γ V h' x)))
    (fun E h' => h' = h ∧ ((¬ (0 ≤ i ∧ i < V 16 52) ∧ E = eNSE) ∨ ((0 ≤ i ∧ i < V 16 52) ∧ ¬ ((0 ≤ m ∧ m < 5) ∧ 0 ≤ lo ∧ lo ≤ hi ∧ hi ≤ 10000) ∧ E = eIAE))) := by
  have R := I.1
  have hR0 := hR
  obtain ⟨a1, a2, a3, a4, a5, a6, a7, a8, a9, a10, a11⟩ := hR0
  have x0 := a1.1
  refine CT.of MX11_prove (Nat.le_of_ble_eq_true rfl) ?_
  show J γ mX11_prove 8 8 48 0 0 h 0 [(0, .ref x), (1, .int (jI i)), (2, .int (jI m)), (3, .int (jI lo)), (4, .int (jI hi))] [] _ _
  first | refine J.aload_n (pc' := 1) rfl rfl rfl ?_ | refine J.aload_nN (pc' := 1) rfl rfl rfl ?_
  refine J.iload_n (pc' := 2) rfl rfl rfl ?_
  refine J.callV (pc' := 5) (t := 15) rfl MX11_meltOf ml_X11_289 iv_X11_meltOf (by decide) ⟨_, rfl, rfl⟩ (by first | assumption | (simp only [jM.tag_sI, jM.tag_sL, jM.tag_sR, jM.tag_fI, jM.tag_fL, jM.tag_fR]; assumption) | (simp [jM.tag_nw, jM.tag_sI, jM.tag_sL, jM.tag_sR, jM.tag_fI, jM.tag_fL, jM.tag_fR, *]; done)) (cf_meltOf hi' hR) rfl rfl (Nat.le_of_ble_eq_true rfl) (by first | omega | (exact R.r _ _) | (simp only [jM.len_sI, jM.len_sL, jM.len_sR, jM.len_fI, jM.len_fL, jM.len_fR]; omega) | (simp [jM.len_nw, jM.len_sI, jM.len_sL, jM.len_sR, jM.len_fI, jM.len_fL, jM.len_fR, *]; omega)) (by first | omega | (exact R.r _ _) | (simp only [jM.len_sI, jM.len_sL, jM.len_sR, jM.len_fI, jM.len_fL, jM.len_fR]; omega) | (simp [jM.len_nw, jM.len_sI, jM.len_sL, jM.len_sR, jM.len_fI, jM.len_fL, jM.len_fR, *]; omega)) (by first | omega | (exact R.r _ _) | (simp only [jM.len_sI, jM.len_sL, jM.len_sR, jM.len_fI, jM.len_fL, jM.len_fR]; omega) | (simp [jM.len_nw, jM.len_sI, jM.len_sL, jM.len_sR, jM.len_fI, jM.len_fL, jM.len_fR, *]; omega)) rfl rfl ?_ ?_
  · rintro _ _ ⟨hc, rfl, rfl⟩
    exact ⟨rfl, Or.inl ⟨hc, rfl⟩⟩
  rintro _ h ⟨z, rfl, ai, ci, rfl⟩
  first | refine J.astore (pc' := 7) rfl rfl (by decide) ?_ | refine J.astoreN (pc' := 7) rfl rfl (by decide) ?_
  refine J.iload_n (pc' := 8) rfl rfl rfl ?_
  refine J.callS (pc' := 11) rfl MX11_needMetal ml_X11_77 is_X11_needMetal (cx_needMetal hm') rfl rfl (Nat.le_of_ble_eq_true rfl) (by first | omega | (exact R.r _ _) | (simp only [jM.len_sI, jM.len_sL, jM.len_sR, jM.len_fI, jM.len_fL, jM.len_fR]; omega) | (simp [jM.len_nw, jM.len_sI, jM.len_sL, jM.len_sR, jM.len_fI, jM.len_fL, jM.len_fR, *]; omega)) (by first | omega | (exact R.r _ _) | (simp only [jM.len_sI, jM.len_sL, jM.len_sR, jM.len_fI, jM.len_fL, jM.len_fR]; omega) | (simp [jM.len_nw, jM.len_sI, jM.len_sL, jM.len_sR, jM.len_fI, jM.len_fL, jM.len_fR, *]; omega)) (by first | omega | (exact R.r _ _) | (simp only [jM.len_sI, jM.len_sL, jM.len_sR, jM.len_fI, jM.len_fL, jM.len_fR]; omega) | (simp [jM.len_nw, jM.len_sI, jM.len_sL, jM.len_sR, jM.len_fI, jM.len_fL, jM.len_fR, *]; omega)) rfl rfl ?_ ?_
  · rintro _ _ ⟨hc, rfl, rfl⟩
    exact ⟨rfl, Or.inr ⟨ci, fun w => hc w.1, rfl⟩⟩
  rintro _ h ⟨cm1, rfl, rfl⟩
  refine J.iload_n (pc' := 12) rfl rfl rfl ?_
  refine J.iload (pc' := 14) rfl rfl rfl ?_
  refine J.callS (pc' := 17) rfl MX11_needSpan ml_X11_80 is_X11_needSpan (cx_needSpan hlo hhi) rfl rfl (Nat.le_of_ble_eq_true rfl) (by first | omega | (exact R.r _ _) | (simp only [jM.len_sI, jM.len_sL, jM.len_sR, jM.len_fI, jM.len_fL, jM.len_fR]; omega) | (simp [jM.len_nw, jM.len_sI, jM.len_sL, jM.len_sR, jM.len_fI, jM.len_fL, jM.len_fR, *]; omega)) (by first | omega | (exact R.r _ _) | (simp only [jM.len_sI, jM.len_sL, jM.len_sR, jM.len_fI, jM.len_fL, jM.len_fR]; omega) | (simp [jM.len_nw, jM.len_sI, jM.len_sL, jM.len_sR, jM.len_fI, jM.len_fL, jM.len_fR, *]; omega)) (by first | omega | (exact R.r _ _) | (simp only [jM.len_sI, jM.len_sL, jM.len_sR, jM.len_fI, jM.len_fL, jM.len_fR]; omega) | (simp [jM.len_nw, jM.len_sI, jM.len_sL, jM.len_sR, jM.len_fI, jM.len_fL, jM.len_fR, *]; omega)) rfl rfl ?_ ?_
  · rintro _ _ ⟨hc, rfl, rfl⟩
    exact ⟨rfl, Or.inr ⟨ci, fun w => hc w.2, rfl⟩⟩
  rintro _ h ⟨cs1, rfl, rfl⟩
  obtain ⟨a, e, ys, C, hM⟩ := a7.2.2 i.toNat z ai.2
  have ei : ((i.toNat : Nat) : Int) = i := by omega
  have hM0 := hM
  obtain ⟨b1, b0, b2, b3, b4, b5, b6⟩ := hM0
  rw [ei] at b0 b5 b6
  have r153 : 0 ≤ V 153 i ∧ V 153 i ≤ 20 := R 153 i rfl
  have e53 : (V 153 i).toNat = ys.length := by omega
  have w4 : ∀ k : Int, 0 ≤ k → k < V 153 i → 1 ≤ V 154 (20 * i + k) ∧ V 154 (20 * i + k) ≤ 20 := fun k k1 k2 => by
    have h1 := I.2.2.1 i k ci.1 ci.2 k1 k2
    have h2 : 0 ≤ V 154 (20 * i + k) ∧ V 154 (20 * i + k) ≤ 20 := R 154 _ rfl
    omega
  have w5 : ∀ j, (0 ≤ V 156 j ∧ V 156 j ≤ 10000) ∧ (0 ≤ V 157 j ∧ V 157 j ≤ 10000) := fun j => ⟨R 156 j rfl, R 157 j rfl⟩
  have sT : 0 ≤ tonsP V i ∧ tonsP V i ≤ 400 := by
    have h := Sm_le (f := fun p => V 154 (20 * i + p)) (n := (V 153 i).toNat) (a := 0) (b := 20) (fun j hj => by have := w4 j (by omega) (by omega); show 0 ≤ V 154 (20 * i + j) ∧ V 154 (20 * i + j) ≤ 20; omega)
    unfold tonsP
    omega
  have p4 : ∀ k : Int, 0 ≤ k → k < V 153 i → (0 ≤ V 154 (20 * i + k) * V 156 (5 * (20 * i + k) + m) ∧ V 154 (20 * i + k) * V 156 (5 * (20 * i + k) + m) ≤ 200000) ∧ (0 ≤ V 154 (20 * i + k) * V 157 (5 * (20 * i + k) + m) ∧ V 154 (20 * i + k) * V 157 (5 * (20 * i + k) + m) ≤ 200000) := fun k k1 k2 => by
    have h1 := w4 k k1 k2
    have h2 := mul_b (a := V 154 (20 * i + k)) (A := 20) (C := 10000) (by omega) (w5 (5 * (20 * i + k) + m)).1
    have h3 := mul_b (a := V 154 (20 * i + k)) (A := 20) (C := 10000) (by omega) (w5 (5 * (20 * i + k) + m)).2
    omega
  have sL : 0 ≤ pvL V i m ∧ pvL V i m ≤ 4000000 := by
    have h := Sm_le (f := fun k => V 154 (20 * i + k) * V 156 (5 * (20 * i + k) + m)) (n := (V 153 i).toNat) (a := 0) (b := 200000) (fun j hj => (p4 j (by omega) (by omega)).1)
    unfold pvL
    omega
  have sH : 0 ≤ pvH V i m ∧ pvH V i m ≤ 4000000 := by
    have h := Sm_le (f := fun k => V 154 (20 * i + k) * V 157 (5 * (20 * i + k) + m)) (n := (V 153 i).toNat) (a := 0) (b := 200000) (fun j hj => (p4 j (by omega) (by omega)).2)
    unfold pvH
    omega
  have q1 := mul_b (a := tonsP V i) (b := lo) (A := 400) (C := 10000) (by omega) (by omega)
  have q2 := mul_b (a := tonsP V i) (b := hi) (A := 400) (C := 10000) (by omega) (by omega)
  have pe : ∀ y, pP V y (2 * m).toNat = V 156 (5 * y + m) ∧ pP V y (2 * m + 1).toNat = V 157 (5 * y + m) := fun y => by
    unfold pP
    rw [if_pos (by omega), if_neg (by omega), show (((2 * m).toNat / 2 : Nat) : Int) = m by omega, show (((2 * m + 1).toNat / 2 : Nat) : Int) = m by omega]
    exact ⟨rfl, rfl⟩
  have eL : Sm (fun k => V 154 (20 * i + k) * pP V (20 * i + k) (2 * m).toNat) ys.length = pvL V i m := by
    unfold pvL
    rw [e53]
    exact Sm_cg (fun k _ => by rw [(pe _).1])
  have eH : Sm (fun k => V 154 (20 * i + k) * pP V (20 * i + k) (2 * m + 1).toNat) ys.length = pvH V i m := by
    unfold pvH
    rw [e53]
    exact Sm_cg (fun k _ => by rw [(pe _).2])
  have eA : ∀ k, naA (fun k => V 154 (20 * i + k)) (fun k => pP V (20 * i + k)) (tonsP V i) m lo ys.length k = pvA V i m lo k := fun k => by
    unfold naA pvA
    dsimp only
    rw [eH, (pe _).2]
  have eZ : ∀ k, naZ (fun k => V 154 (20 * i + k)) (fun k => pP V (20 * i + k)) (tonsP V i) m hi ys.length k = pvZ V i m hi k := fun k => by
    unfold naZ pvZ
    dsimp only
    rw [eL, (pe _).1]
  have eO : naOk (fun k => pP V (20 * i + k)) (naA (fun k => V 154 (20 * i + k)) (fun k => pP V (20 * i + k)) (tonsP V i) m lo ys.length) (naZ (fun k => V 154 (20 * i + k)) (fun k => pP V (20 * i + k)) (tonsP V i) m hi ys.length) m ys.length ↔ pvOk V i m lo hi := by
    unfold naOk pvOk nLo nHi
    constructor
    · intro q k k0 k1
      have := q k.toNat (by omega)
      rw [eA, eZ] at this
      dsimp only at this
      rw [(pe _).1, (pe _).2, show ((k.toNat : Nat) : Int) = k by omega] at this
      exact this
    · intro q k hk
      have := q k (by omega) (by omega)
      rw [eA, eZ]
      dsimp only
      rw [(pe _).1, (pe _).2]
      exact this
  have pb : ∀ (k t : Nat), 0 ≤ pP V (20 * i + k) t ∧ pP V (20 * i + k) t ≤ 10000 := fun k t => by
    unfold pP
    split
    · exact (w5 _).1
    · exact (w5 _).2
  first | refine J.aload (pc' := 19) rfl rfl rfl ?_ | refine J.aloadN (pc' := 19) rfl rfl rfl ?_
  refine J.iload_n (pc' := 20) rfl rfl rfl ?_
  refine J.iload_n (pc' := 21) rfl rfl rfl ?_
  refine J.iload (pc' := 23) rfl rfl rfl ?_
  refine J.callV (pc' := 26) (t := 12) rfl MX8_narrowsAll ml_X11_299 iv_X8_narrowsAll (by decide) ⟨_, rfl, rfl⟩ (by first | assumption | (simp only [jM.tag_sI, jM.tag_sL, jM.tag_sR, jM.tag_fI, jM.tag_fL, jM.tag_fR]; assumption) | (simp [jM.tag_nw, jM.tag_sI, jM.tag_sL, jM.tag_sR, jM.tag_fI, jM.tag_fL, jM.tag_fR, *]; done)) (cx_narrowsAll (T := tonsP V i) (lo := lo) (hi := hi) b1 b0 b2 cm1 b3 b6 (fun k t _ _ => by have := pb k t; constructor <;> omega) (fun k hk => by have := w4 k (by omega) (by omega); omega) (fun k hk => by have := p4 k (by omega) (by omega); rw [eH, (pe _).2]; omega) (fun k hk => by have := p4 k (by omega) (by omega); rw [eL, (pe _).1]; omega)) rfl rfl (Nat.le_of_ble_eq_true rfl) (by first | omega | (exact R.r _ _) | (simp only [jM.len_sI, jM.len_sL, jM.len_sR, jM.len_fI, jM.len_fL, jM.len_fR]; omega) | (simp [jM.len_nw, jM.len_sI, jM.len_sL, jM.len_sR, jM.len_fI, jM.len_fL, jM.len_fR, *]; omega)) (by first | omega | (exact R.r _ _) | (simp only [jM.len_sI, jM.len_sL, jM.len_sR, jM.len_fI, jM.len_fL, jM.len_fR]; omega) | (simp [jM.len_nw, jM.len_sI, jM.len_sL, jM.len_sR, jM.len_fI, jM.len_fL, jM.len_fR, *]; omega)) (by first | omega | (exact R.r _ _) | (simp only [jM.len_sI, jM.len_sL, jM.len_sR, jM.len_fI, jM.len_fL, jM.len_fR]; omega) | (simp [jM.len_nw, jM.len_sI, jM.len_sL, jM.len_sR, jM.len_fI, jM.len_fL, jM.len_fR, *]; omega)) rfl rfl ?_ ?_
  · exact fun _ _ z => z.elim
  rintro _ k1 (⟨nk, rfl, rfl⟩ | ⟨ok, rfl, L1, Y1, F1, T1⟩)
  · refine J.if_ne (tgt := 31) (pc' := 29) rfl rfl rfl (by first | omega | (exact R.r _ _) | (simp only [jM.len_sI, jM.len_sL, jM.len_sR, jM.len_fI, jM.len_fL, jM.len_fR]; omega) | (simp [jM.len_nw, jM.len_sI, jM.len_sL, jM.len_sR, jM.len_fI, jM.len_fL, jM.len_fR, *]; omega)) (fun c1 => ?_) (fun c1 => ?_)
    · omega
    · refine J.iconst (pc' := 30) rfl rfl ?_
      refine J.iret rfl rfl (by first | omega | (exact R.r _ _) | (simp only [jM.len_sI, jM.len_sL, jM.len_sR, jM.len_fI, jM.len_fL, jM.len_fR]; omega) | (simp [jM.len_nw, jM.len_sI, jM.len_sL, jM.len_sR, jM.len_fI, jM.len_fL, jM.len_fR, *]; omega)) (by first | omega | (exact R.r _ _) | (simp only [jM.len_sI, jM.len_sL, jM.len_sR, jM.len_fI, jM.len_fL, jM.len_fR]; omega) | (simp [jM.len_nw, jM.len_sI, jM.len_sL, jM.len_sR, jM.len_fI, jM.len_fL, jM.len_fR, *]; omega)) ?_
      exact ⟨ci, ⟨cm1, cs1⟩, Fr.rf, Or.inr ⟨fun w => nk (eO.mpr w), rfl, ρ, σ, ks, ss, cs, ls, ms, hR⟩⟩
  · refine J.if_ne (tgt := 31) (pc' := 29) rfl rfl rfl (by first | omega | (exact R.r _ _) | (simp only [jM.len_sI, jM.len_sL, jM.len_sR, jM.len_fI, jM.len_fL, jM.len_fR]; omega) | (simp [jM.len_nw, jM.len_sI, jM.len_sL, jM.len_sR, jM.len_fI, jM.len_fL, jM.len_fR, *]; omega)) (fun c1 => ?_) (fun c1 => ?_)
    · have ok' := eO.mp ok
      have FD1 : FrD h k1 (fun c => c = 7100 + i.toNat) := F1.mono (fun b hb w => by
        obtain ⟨w1, y, w2, w3⟩ := w
        have := kd_y (Or.inr (Or.inr w1)) w3 (b6.tag w2) (b3.2.2 y w2) b4
        omega)
      have FC1 : FrC h k1 (fun c => c = 10 ∨ c = 110 ∨ c = 7100 + i.toNat) := FD1.toC (fun c w => Or.inr (Or.inr w)) (Or.inl rfl) (Or.inr (Or.inl rfl))
      have w12 : ¬ (fun c => c = 7100 + i.toNat) (kd h z) := by rw [kd_t b1 (by decide)]; dsimp only; omega
      have tz1 := FD1.tag b1 (by decide)
      have rz1 : k1.R 12 z 1 = some a := by rw [FD1.R b1 (by decide) w12]; exact b2
      have nb : ∀ k : Nat, k < ys.length → (0 ≤ nLo V i m lo k ∧ nLo V i m lo k ≤ 10000) ∧ (0 ≤ nHi V i m hi k ∧ nHi V i m hi k ≤ 10000) := fun k hk => by
        have h1 := ok' k (by omega) (by omega)
        have h2 := w5 (5 * (20 * i + k) + m)
        have h3 : V 156 (5 * (20 * i + k) + m) ≤ nLo V i m lo k := by unfold nLo; omega
        have h4 : nHi V i m hi k ≤ V 157 (5 * (20 * i + k) + m) := by unfold nHi; omega
        omega
      have eP : ∀ (q t : Nat), q < ys.length → t < 10 → nrP (pP V (20 * i + q)) m (naA (fun k => V 154 (20 * i + k)) (fun k => pP V (20 * i + k)) (tonsP V i) m lo ys.length q) (naZ (fun k => V 154 (20 * i + k)) (fun k => pP V (20 * i + k)) (tonsP V i) m hi ys.length q) t = upS (pP V (20 * i + q)) m (nLo V i m lo q) (nHi V i m hi q) t := fun q t _ _ => by
        unfold nrP nLo nHi
        rw [eA, eZ, (pe _).1, (pe _).2]
      have hD : ∀ k : Nat, k < ys.length → ((fun k => ldR ls (V 155 (20 * i + k))) (k : Int) = none ∧ (fun k : Int => if V 155 (20 * i + k) = -1 then none else some (V 127 (V 155 (20 * i + k)), V 128 (V 155 (20 * i + k)))) (k : Int) = none) ∨ ∃ (l s z : Nat) (i' j : Nat), (fun k => ldR ls (V 155 (20 * i + k))) (k : Int) = some l ∧ (fun k : Int => if V 155 (20 * i + k) = -1 then none else some (V 127 (V 155 (20 * i + k)), V 128 (V 155 (20 * i + k)))) (k : Int) = some ((i' : Int), (j : Int)) ∧ k1.tag l = 11 ∧ k1.R 11 l 1 = some s ∧ k1.R 11 l 2 = some z ∧ ss[i']? = some s ∧ ks[j]? = some z := fun k hk => by
        dsimp only
        unfold ldR
        by_cases c : V 155 (20 * i + k) = -1
        · exact Or.inl ⟨by rw [if_pos c], by rw [if_pos c]⟩
        · have r5 : -1 ≤ V 155 (20 * i + k) ∧ V 155 (20 * i + k) ≤ 99 := R 155 _ rfl
          have r6 := I.2.2.2.2.2.1 i k ci.1 ci.2 (by omega) (by omega)
          have l5 := a5.2.1
          obtain ⟨l, hl⟩ : ∃ l, ls[(V 155 (20 * i + k)).toNat]? = some l := ⟨_, List.getElem?_eq_getElem (by omega)⟩
          obtain ⟨s, kz, c', sp, hLd, as, ak, ac⟩ := a5.2.2 _ l hl
          rw [show (((V 155 (20 * i + k)).toNat : Nat) : Int) = V 155 (20 * i + k) by omega] at hLd as ak ac
          have wl : ¬ (fun c => c = 10 ∨ c = 110 ∨ c = 7100 + i.toNat) (kc h l) := by rw [kc_o hLd.1 (by decide)]; dsimp only; omega
          exact Or.inr ⟨l, s, kz, (V 127 (V 155 (20 * i + k))).toNat, (V 128 (V 155 (20 * i + k))).toNat, by rw [if_neg c]; exact hl, by rw [if_neg c, show (((V 127 (V 155 (20 * i + k))).toNat : Nat) : Int) = V 127 (V 155 (20 * i + k)) by have := as.1; omega, show (((V 128 (V 155 (20 * i + k))).toNat : Nat) : Int) = V 128 (V 155 (20 * i + k)) by have := ak.1; omega], FC1.tag hLd.1 (by decide), by rw [FC1.R hLd.1 (by decide) wl]; exact hLd.2.2.1, by rw [FC1.R hLd.1 (by decide) wl]; exact hLd.2.2.2.1, as.2, ak.2⟩
      have hPn : ∀ (k : Nat) (j : Nat), k < ys.length → j < 10 → 0 ≤ (fun k => nrP ((fun k => pP V (20 * i + k)) k) m (naA (fun k => V 154 (20 * i + k)) (fun k => pP V (20 * i + k)) (tonsP V i) m lo ys.length k) (naZ (fun k => V 154 (20 * i + k)) (fun k => pP V (20 * i + k)) (tonsP V i) m hi ys.length k)) (k : Int) j ∧ (fun k => nrP ((fun k => pP V (20 * i + k)) k) m (naA (fun k => V 154 (20 * i + k)) (fun k => pP V (20 * i + k)) (tonsP V i) m lo ys.length k) (naZ (fun k => V 154 (20 * i + k)) (fun k => pP V (20 * i + k)) (tonsP V i) m hi ys.length k)) (k : Int) j ≤ 10000 := fun k j hk hj => by
        dsimp only
        rw [eP k j hk hj]
        unfold upS
        have := nb k hk
        have := pb k j
        split
        · omega
        · split <;> omega
      have hKK : repK k1 ks (kP V) := a2.2.2.c FC1 (by (try dsimp only); omega) (by (try dsimp only); omega)
      have hSS : repS k1 ss (oV V) (fun s => V 109 s) := a3.2.2.c FC1 (by (try dsimp only); omega) (by (try dsimp only); omega)
      have k10 : ks.length ≤ 10 := by have := a2.2.1; have : V 16 1 ≤ 10 := (R 16 1 rfl).2; omega
      first | refine J.aload (pc' := 33) rfl rfl rfl ?_ | refine J.aloadN (pc' := 33) rfl rfl rfl ?_
      refine J.iload_n (pc' := 34) rfl rfl rfl ?_
      refine J.callV (pc' := 37) (t := 12) rfl MX8_putUsualRight ml_X11_302 iv_X8_putUsualRight (by decide) ⟨_, rfl, rfl⟩ (by first | assumption | (simp only [jM.tag_sI, jM.tag_sL, jM.tag_sR, jM.tag_fI, jM.tag_fL, jM.tag_fR]; assumption) | (simp [jM.tag_nw, jM.tag_sI, jM.tag_sL, jM.tag_sR, jM.tag_fI, jM.tag_fL, jM.tag_fR, *]; done)) (cx_putUsual (K := fun k : Int => if V 155 (20 * i + k) = -1 then none else some (V 127 (V 155 (20 * i + k)), V 128 (V 155 (20 * i + k)))) tz1 rz1 cm1 L1 Y1 hKK hSS k10 (oV_b R) (fun k j _ => kP_b R k j) hPn hD) rfl rfl (Nat.le_of_ble_eq_true rfl) (by first | omega | (exact R.r _ _) | (simp only [jM.len_sI, jM.len_sL, jM.len_sR, jM.len_fI, jM.len_fL, jM.len_fR]; omega) | (simp [jM.len_nw, jM.len_sI, jM.len_sL, jM.len_sR, jM.len_fI, jM.len_fL, jM.len_fR, *]; omega)) (by first | omega | (exact R.r _ _) | (simp only [jM.len_sI, jM.len_sL, jM.len_sR, jM.len_fI, jM.len_fL, jM.len_fR]; omega) | (simp [jM.len_nw, jM.len_sI, jM.len_sL, jM.len_sR, jM.len_fI, jM.len_fL, jM.len_fR, *]; omega)) (by first | omega | (exact R.r _ _) | (simp only [jM.len_sI, jM.len_sL, jM.len_sR, jM.len_fI, jM.len_fL, jM.len_fR]; omega) | (simp [jM.len_nw, jM.len_sI, jM.len_sL, jM.len_sR, jM.len_fI, jM.len_fL, jM.len_fR, *]; omega)) rfl rfl ?_ ?_
      · exact fun _ _ z => z.elim
      rintro _ k2 ⟨rfl, S2, F2, T2⟩
      refine J.iconst (pc' := 38) rfl rfl ?_
      refine J.iret rfl rfl (by first | omega | (exact R.r _ _) | (simp only [jM.len_sI, jM.len_sL, jM.len_sR, jM.len_fI, jM.len_fL, jM.len_fR]; omega) | (simp [jM.len_nw, jM.len_sI, jM.len_sL, jM.len_sR, jM.len_fI, jM.len_fL, jM.len_fR, *]; omega)) (by first | omega | (exact R.r _ _) | (simp only [jM.len_sI, jM.len_sL, jM.len_sR, jM.len_fI, jM.len_fL, jM.len_fR]; omega) | (simp [jM.len_nw, jM.len_sI, jM.len_sL, jM.len_sR, jM.len_fI, jM.len_fL, jM.len_fR, *]; omega)) ?_
      have t21 : ∀ b, k1.tag b = 21 → ¬ b = 0 ∨ True := fun _ _ => Or.inr trivial
      have FD2 : FrD h k2 (fun c => c = 7100 + i.toNat ∨ c = 21) := FD1.trans F2 (fun b hb w => by
        rcases w with w | w
        · exact Or.inl w
        · rw [T1] at w
          exact Or.inr (kd_t w (by decide)))
      have L2 : isLs γ k2 a e ys := L1.kept F2 (fun w => by have := L1.1.1; omega) (Or.inl (fun w => by have := L1.1.2.2.1; omega)) (fun y hy => by have := Y1.tag hy; exact ⟨by omega, fun w => by omega⟩)
      have Y2 := Y1.kept F2 (fun y hy b hb _ w => by omega)
      have S3 : repS k2 ss (oV (pvF V i m (nLo V i m lo) (nHi V i m hi) ys.length)) (fun u => V 109 u) := fun j s hj => by
        obtain ⟨o, d1, d2, d3, d4, d5, d6, d7, d8⟩ := S2 j s hj
        refine ⟨o, d1, d2, d3, d4, d5, d6, d7, fun t ht => ?_⟩
        rw [d8 t ht]
        refine (oV_pv R cm1 ys.length (fun k hk => ?_) _ _ (by omega) (by omega)).symm
        refine ⟨(nb k hk).1, (nb k hk).2, ?_, ?_, ?_⟩
        · rw [eP k _ hk (by omega)]
          unfold upS
          rw [if_neg (by omega), if_pos (by omega)]
        · rw [eP k _ hk (by omega)]
          unfold upS
          rw [if_pos (by omega)]
        · (try dsimp only)
          by_cases c : V 155 (20 * i + k) = -1
          · exact Or.inl ⟨c, by rw [if_pos c]⟩
          · exact Or.inr ⟨c, by rw [if_neg c]⟩
      have fin := pv_rep (i := i.toNat) (nl := nLo V i m lo) (nh := nHi V i m hi) I hR cm1 ai.2 hM FD2 L2 (by rw [ei]; exact Y2) (by rw [ei]; exact eP) (by rw [ei]; exact S3)
      rw [ei] at fin
      refine ⟨ci, ⟨cm1, cs1⟩, fin.2, Or.inl ⟨ok', rfl, ?_⟩⟩
      rw [e53]
      exact fin.1
    · omega
end PV2

