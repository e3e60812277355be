section FH
variable {γ : jG} {h h' : jM} {ρ σ : Nat → Nat} {x : Nat} {ks ss cs ls ms : List Nat} {V V' U : VV} {S : Nat → Prop}
/-- a contract just made -/
def CFx (γ : jG) (k : jM) (a g sz : Nat) (c d : Int) (i : Nat) : Prop := k.tag a = 5 ∧ k.R 5 a 3 = some g ∧ isL γ k g (γ.K 0) [] ∧ k.I 5 a 4 = -1 ∧ k.I 5 a 0 = c ∧ k.R 5 a 1 = some sz ∧ k.I 5 a 2 = d ∧ ow k g = some i
theorem CFx.kept {k k' : jM} {W : Nat → Prop} {a g sz i : Nat} {c d : Int} (F : Fr k k' W) (hC : CFx γ k a g sz c d i) (l0 : k.len (γ.K 0) = 0) (h1 : ¬ W a) (h2 : ¬ W g) : CFx γ k' a g sz c d i := by
  obtain ⟨b1, b2, b3, b4, b5, b6, b7, b8⟩ := hC
  exact ⟨F.tag b1 (by decide), by rw [F.R b1 (by decide) h1]; exact b2, b3.keptW F h2 (Or.inr l0), by rw [F.I b1 (by decide) h1]; exact b4, by rw [F.I b1 (by decide) h1]; exact b5, by rw [F.R b1 (by decide) h1]; exact b6, by rw [F.I b1 (by decide) h1]; exact b7, by rw [F.ow (by have := b3.1; omega)]; exact b8⟩
theorem cf_ct125 {k : jM} {a g sz rd s e : Nat} {n sel dy : Int} {c1 c2 : Nat} (hc1 : c1 ≤ 20) (hc2 : c2 ≤ 3000) (I : Inv V) (hR : RepB γ V h x ρ σ ks ss cs ls ms) (hG : ctG V n sel dy) (hsz : at' ss sel sz) (C6 : CFx γ k a g sz (V 16 11) dy (1000 + cs.length)) (R6 : isRd k rd s e n (V 116) a 0 0 0) (af : h.tag a = 0) (gf : h.tag g = 0) (rf : h.tag rd = 0) (F6 : FrC h k (fun c => c = 2 ∨ c = 35)) (hB : ∃ eb, isSB γ k (ρ 8) eb 0 (fun _ => 0)) (hK : isK γ k) : ∀ lv, hasL lv [(0, .ref x), (5, .ref a), (6, .ref rd)] → J γ mX11_contract 11 1100 10000 c1 c2 k 125 lv [] (ccQ γ x h V n sel dy) (ccX h V n sel dy) := by
  intro lv hlv
  have R := I.1
  have Rf := R.f
  have hR0 := hR
  obtain ⟨a1, a2, a3, a4, a5, a6, a7, a8, a9, a10, a11⟩ := hR0
  have a1' := a1
  obtain ⟨x0, x1, x2, x3, x4, x5, x6, x7, x8, x9, x10⟩ := a1'
  obtain ⟨⟨⟨e2, L2⟩, o2⟩, n2, E2⟩ := a4
  have l4 := L2.len
  have tr := R6.1
  obtain ⟨b1, b2, b3, b4, b5, b6, b7, b8⟩ := C6
  have tg := b3.1
  have n1 : n ≤ 400 := by have := hG.2.1; omega
  have hCG : cGs γ k k a g (γ.K 0) [] [] (-1) := ⟨⟨b1, b2, b3, b4, fun i y hy => by simp at hy⟩, rfl, fun y hy => by simp at hy, rfl, rfl, rfl⟩
  refine J.lc hlv ?_
  first | refine J.aload (pc' := 127) rfl rfl rfl ?_ | refine J.aloadN (pc' := 127) rfl rfl rfl ?_
  refine J.callV (pc' := 130) (t := 6) rfl MX2_readsAll ml_X11_141 iv_X2_readsAll (by decide) ⟨_, rfl, rfl⟩ (by first | assumption | (simp only [jM.tag_sI, jM.tag_sL, jM.tag_sR, jM.tag_fI, jM.tag_fL, jM.tag_fR]; assumption) | (simp [jM.tag_nw, jM.tag_sI, jM.tag_sL, jM.tag_sR, jM.tag_fI, jM.tag_fL, jM.tag_fR, *]; done)) (cr_all R6 n1 hK hCG) rfl rfl (Nat.le_of_ble_eq_true rfl) (by first | omega | (exact R.r _ _) | (simp only [jM.len_sI, jM.len_sL, jM.len_sR, jM.len_fI, jM.len_fL, jM.len_fR]; omega) | (simp [jM.len_nw, jM.len_sI, jM.len_sL, jM.len_sR, jM.len_fI, jM.len_fL, jM.len_fR, *]; omega)) (by first | omega | (exact R.r _ _) | (simp only [jM.len_sI, jM.len_sL, jM.len_sR, jM.len_fI, jM.len_fL, jM.len_fR]; omega) | (simp [jM.len_nw, jM.len_sI, jM.len_sL, jM.len_sR, jM.len_fI, jM.len_fL, jM.len_fR, *]; omega)) (by first | omega | (exact R.r _ _) | (simp only [jM.len_sI, jM.len_sL, jM.len_sR, jM.len_fI, jM.len_fL, jM.len_fR]; omega) | (simp [jM.len_nw, jM.len_sI, jM.len_sL, jM.len_sR, jM.len_fI, jM.len_fL, jM.len_fR, *]; omega)) rfl rfl ?_ ?_
  · exact fun _ _ z => z.elim
  rintro r k7 ⟨f7, m7, hq⟩
  have F7 : FrC h k7 (fun c => c = 2 ∨ c = 35) := F6.trans f7 (fun b hb z => by
    rcases z with z | z | z | z
    · exact z
    · rw [z] at hb; exact absurd rf hb
    · rw [z] at hb; exact absurd af hb
    · rw [z] at hb; exact absurd gf hb)
  have nw7 : ∀ b, (k.tag b = 2 ∨ k.tag b = 35 ∨ k.tag b = 1) → ¬ alW rd a g b := fun b hb z => by
    rcases z with z | z | z
    · rw [z] at hb; omega
    · rw [z] at hb; omega
    · rw [z] at hb; omega
  have hB7 : ∃ eb, isSB γ k7 (ρ 8) eb 0 (fun _ => 0) := by
    obtain ⟨eb, hb⟩ := hB
    exact ⟨eb, hb.keptW f7 (nw7 _ (Or.inl hb.1)) (nw7 _ (Or.inr (Or.inl hb.2.2.1)))⟩
  have K7 : isK γ k7 := hK.kept f7 (fun b _ ht => nw7 b (by omega))
  cases hp : pAll (V 116) n with
  | inl er =>
    rw [hp] at hq
    dsimp only at hq
    obtain ⟨rfl, p', nm', R7⟩ := hq
    have t7 := R7.1
    have pl7 := R7.2.2.2.2.2.1
    refine J.if_ne (tgt := 142) (pc' := 133) rfl rfl rfl (by first | omega | (exact R.r _ _) | (simp only [jM.len_sI, jM.len_sL, jM.len_sR, jM.len_fI, jM.len_fL, jM.len_fR]; omega) | (simp [jM.len_nw, jM.len_sI, jM.len_sL, jM.len_sR, jM.len_fI, jM.len_fL, jM.len_fR, *]; omega)) (fun z1 => ?_) (fun z1 => ?_)
    · omega
    · refine J.bipush (pc' := 135) rfl rfl (by decide) ?_
      first | refine J.aload (pc' := 137) rfl rfl rfl ?_ | refine J.aloadN (pc' := 137) rfl rfl rfl ?_
      refine J.getI (pc' := 140) rfl fl_X11_145 rfl (by first | assumption | (simp only [jM.tag_sI, jM.tag_sL, jM.tag_sR, jM.tag_fI, jM.tag_fL, jM.tag_fR]; assumption) | (simp [jM.tag_nw, jM.tag_sI, jM.tag_sL, jM.tag_sR, jM.tag_fI, jM.tag_fL, jM.tag_fR, *]; done)) rfl ?_
      rw [pl7]
      refine J.isub (pc' := 141) rfl rfl ?_
      refine J.iret rfl rfl (by first | omega | (exact R.r _ _) | (simp only [jM.len_sI, jM.len_sL, jM.len_sR, jM.len_fI, jM.len_fL, jM.len_fR]; omega) | (simp [jM.len_nw, jM.len_sI, jM.len_sL, jM.len_sR, jM.len_fI, jM.len_fL, jM.len_fR, *]; omega)) (by first | omega | (exact R.r _ _) | (simp only [jM.len_sI, jM.len_sL, jM.len_sR, jM.len_fI, jM.len_fL, jM.len_fR]; omega) | (simp [jM.len_nw, jM.len_sI, jM.len_sL, jM.len_sR, jM.len_fI, jM.len_fL, jM.len_fR, *]; omega)) ?_
      refine ⟨hG, F7.mono (fun b _ z => by have z : kc h b = 2 ∨ kc h b = 35 := z; show kc h b ≠ 16 ∧ kc h b < 9000; omega), ?_⟩
      rw [hp]
      refine ⟨rfl, ?_⟩
      have e : ∀ t, t ≠ 16 → ¬ (fun t : Nat => t = 0) t → jU V 16 10 0 t = V t := fun t ht h1 => jU_f _ ht
      have es' : ∀ i, ¬ (fun i : Int => i = 10) i → jU V 16 10 0 16 i = V 16 i := fun i hi => jU_ne _ _ (Or.inr hi)
      have l7 := msz a7.1
      obtain ⟨eb, hb⟩ := hB7
      exact ⟨ρ, σ, ks, ss, cs, ls, ms, a1.k F7 es' (by (try dsimp only); omega) (by (try dsimp only); omega), a2.k F7 e es' (by (try dsimp only); omega) (by (try dsimp only); omega), a3.k F7 e es' (by (try dsimp only); omega) (by (try dsimp only); omega), repT.k F7 e es' ⟨⟨⟨e2, L2⟩, o2⟩, n2, E2⟩ (by (try dsimp only); omega) (fun _ _ => (by (try dsimp only); omega)) ⟨by (try dsimp only); omega, fun _ _ _ => by (try dsimp only); omega⟩, a5.k F7 e es' (by (try dsimp only); omega) ⟨by (try dsimp only); omega, fun _ _ _ => by (try dsimp only); omega⟩, a6.k F7 e (by (try dsimp only); omega) (fun _ _ => (by (try dsimp only); omega)) ⟨by (try dsimp only); omega, by (try dsimp only); omega, fun _ _ _ => by (try dsimp only); omega⟩, a7.k F7 e es' (by (try dsimp only); omega) (fun _ _ => (by (try dsimp only); omega)) ⟨by (try dsimp only); omega, fun _ _ _ => by (try dsimp only); omega⟩, a8.k F7 e x0 (by (try dsimp only); omega) (by (try dsimp only); omega), ⟨eb, fun _ => 0, by rw [jU_same]; exact hb, fun i i0 i1 => by rw [jU_same] at i1; omega⟩, a10.c F7 (fun _ _ _ => (by (try dsimp only); omega)) (by (try dsimp only); omega), K7⟩
  | inr ge =>
    obtain ⟨G, ep⟩ := ge
    rw [hp] at hq
    dsimp only at hq
    obtain ⟨rfl, ge', gs, ⟨hC7, hl7, hok7, j0, j1, j2⟩, hge7⟩ := hq
    have tx7 := F7.tag x0 (by decide)
    have rx7 : k7.R 15 x 2 = some (ρ 2) := by rw [F7.R x0 (by decide) (fun z => by rw [kc_o x0 (by decide)] at z; omega)]; exact x3
    obtain ⟨⟨e7, L7⟩, o7⟩ := isLi.c (S := fun c => c = 2 ∨ c = 35) F7 ⟨⟨e2, L2⟩, o2⟩ (by (try dsimp only); omega)
    have t7 := L7.1
    have ta7 := hC7.1
    have og7 : ow k7 g = some (1000 + cs.length) := by rw [f7.ow (by omega)]; exact b8
    have hel : ∀ y ∈ cs, k7.tag y = 5 := fun y hy => by
      obtain ⟨j, hj, ej⟩ := List.getElem_of_mem hy
      obtain ⟨_, _, _, _, _, w, _⟩ := E2 j y (by rw [List.getElem?_eq_getElem hj, ej])
      exact F7.tag w.1 (by decide)
    refine J.if_ne (tgt := 142) (pc' := 133) rfl rfl rfl (by first | omega | (exact R.r _ _) | (simp only [jM.len_sI, jM.len_sL, jM.len_sR, jM.len_fI, jM.len_fL, jM.len_fR]; omega) | (simp [jM.len_nw, jM.len_sI, jM.len_sL, jM.len_sR, jM.len_fI, jM.len_fL, jM.len_fR, *]; omega)) (fun z1 => ?_) (fun z1 => ?_)
    · first | refine J.aload_n (pc' := 143) rfl rfl rfl ?_ | refine J.aload_nN (pc' := 143) rfl rfl rfl ?_
      first | refine J.getR (pc' := 146) rfl fl_X11_19 rfl (by first | assumption | (simp only [jM.tag_sI, jM.tag_sL, jM.tag_sR, jM.tag_fI, jM.tag_fL, jM.tag_fR]; assumption) | (simp [jM.tag_nw, jM.tag_sI, jM.tag_sL, jM.tag_sR, jM.tag_fI, jM.tag_fL, jM.tag_fR, *]; done)) (by first | assumption | (simp only [jM.R_sI, jM.R_sL, jM.R_fI, jM.R_fL]; assumption) | (simp [jM.R_nw, jM.R_sR, jM.R_fR, jM.R_sI, jM.R_sL, jM.R_fI, jM.R_fL, *]; done)) rfl ?_ | refine J.getRN (pc' := 146) rfl fl_X11_19 rfl (by first | assumption | (simp only [jM.tag_sI, jM.tag_sL, jM.tag_sR, jM.tag_fI, jM.tag_fL, jM.tag_fR]; assumption) | (simp [jM.tag_nw, jM.tag_sI, jM.tag_sL, jM.tag_sR, jM.tag_fI, jM.tag_fL, jM.tag_fR, *]; done)) (by first | assumption | (simp only [jM.R_sI, jM.R_sL, jM.R_fI, jM.R_fL]; assumption) | (simp [jM.R_nw, jM.R_sR, jM.R_fR, jM.R_sI, jM.R_sL, jM.R_fI, jM.R_fL, *]; done)) rfl ?_
      first | refine J.aload (pc' := 148) rfl rfl rfl ?_ | refine J.aloadN (pc' := 148) rfl rfl rfl ?_
      refine J.callV (pc' := 151) (t := 3) rfl MJx4a65c_add_9ea2d ml_X11_69 iv_Jx4a65c_add_9ea2d (by decide) ⟨_, rfl, rfl⟩ (by first | assumption | (simp only [jM.tag_sI, jM.tag_sL, jM.tag_sR, jM.tag_fI, jM.tag_fL, jM.tag_fR]; assumption) | (simp [jM.tag_nw, jM.tag_sI, jM.tag_sL, jM.tag_sR, jM.tag_fI, jM.tag_fL, jM.tag_fR, *]; done)) (cl_add (x := a) L7 (fun y hy => by rw [hel y hy]; rfl) (by have := hG.2.2; omega) (by rw [ta7]; rfl) K7.2.2.1) rfl rfl (Nat.le_of_ble_eq_true rfl) (by first | omega | (exact R.r _ _) | (simp only [jM.len_sI, jM.len_sL, jM.len_sR, jM.len_fI, jM.len_fL, jM.len_fR]; omega) | (simp [jM.len_nw, jM.len_sI, jM.len_sL, jM.len_sR, jM.len_fI, jM.len_fL, jM.len_fR, *]; omega)) (by first | omega | (exact R.r _ _) | (simp only [jM.len_sI, jM.len_sL, jM.len_sR, jM.len_fI, jM.len_fL, jM.len_fR]; omega) | (simp [jM.len_nw, jM.len_sI, jM.len_sL, jM.len_sR, jM.len_fI, jM.len_fL, jM.len_fR, *]; omega)) (by first | omega | (exact R.r _ _) | (simp only [jM.len_sI, jM.len_sL, jM.len_sR, jM.len_fI, jM.len_fL, jM.len_fR]; omega) | (simp [jM.len_nw, jM.len_sI, jM.len_sL, jM.len_sR, jM.len_fI, jM.len_fL, jM.len_fR, *]; omega)) rfl rfl ?_ ?_
      · exact fun _ _ z => z.elim
      rintro _ k9 ⟨rfl, e9, L9, g2, g3, g4⟩
      have FC9 : FrC k7 k9 (fun c => c = 5002) := g3.mono (fun b _ z => lW_kc L7 o7 z)
      have te7 := L7.2.2.1
      have FF : FrC h k9 (fun c => c = 2 ∨ c = 35 ∨ c = 5002) := F7.trans g3 (fun b hb z => by
        rcases z with z | z
        · rcases z with z | z
          · exact Or.inl z
          · exact Or.inr (Or.inl z)
        · refine Or.inr (Or.inr ?_)
          rcases z with z | z
          · rw [z]; exact kc_l L2.1 o2
          · have zl := z.2
            have hb7 : kc k7 b = 5002 := lW_kc L7 o7 (Or.inr z)
            have tb : h.tag b = 34 := by
              have := (F7 b hb).1
              rw [z.1, te7] at this
              rw [z.1]
              exact this.symm
            unfold kc at hb7 ⊢
            have tb7 : k7.tag b = 34 := by rw [z.1]; exact te7
            rw [if_neg (by omega), if_pos tb7] at hb7
            rw [if_neg (by omega), if_pos tb]
            have eI : k7.I 34 b 0 = h.I 34 b 0 := F7.I tb (by decide) (fun w => by
              have w : kc h b = 2 ∨ kc h b = 35 := w
              unfold kc at w
              rw [if_neg (by omega), if_pos tb] at w
              omega) 0
            have eL : k7.I 34 b 0 = ((ρ 2 : Nat) : Int) := by rw [z.1]; exact L7.2.2.2.2.2.2.2.2 zl
            rw [← eI, eL, Int.toNat_natCast, o2]
            rfl)
      have i9 : k9.I 5 a 0 = V 16 11 := by rw [FC9.I ta7 (by decide) (fun z => by rw [kc_o ta7 (by decide)] at z; omega), j0]; exact b5
      have ta9 := FC9.tag ta7 (by decide)
      refine J.pop (pc' := 152) rfl rfl rfl ?_
      first | refine J.aload (pc' := 154) rfl rfl rfl ?_ | refine J.aloadN (pc' := 154) rfl rfl rfl ?_
      refine J.getI (pc' := 157) rfl fl_X11_148 rfl (by first | assumption | (simp only [jM.tag_sI, jM.tag_sL, jM.tag_sR, jM.tag_fI, jM.tag_fL, jM.tag_fR]; assumption) | (simp [jM.tag_nw, jM.tag_sI, jM.tag_sL, jM.tag_sR, jM.tag_fI, jM.tag_fL, jM.tag_fR, *]; done)) rfl ?_
      rw [i9]
      refine J.iret rfl rfl (by first | omega | (exact R.r _ _) | (simp only [jM.len_sI, jM.len_sL, jM.len_sR, jM.len_fI, jM.len_fL, jM.len_fR]; omega) | (simp [jM.len_nw, jM.len_sI, jM.len_sL, jM.len_sR, jM.len_fI, jM.len_fL, jM.len_fR, *]; omega)) (by first | omega | (exact R.r _ _) | (simp only [jM.len_sI, jM.len_sL, jM.len_sR, jM.len_fI, jM.len_fL, jM.len_fR]; omega) | (simp [jM.len_nw, jM.len_sI, jM.len_sL, jM.len_sR, jM.len_fI, jM.len_fL, jM.len_fR, *]; omega)) ?_
      refine ⟨hG, FF.mono (fun b _ z => by have z : kc h b = 2 ∨ kc h b = 35 ∨ kc h b = 5002 := z; show kc h b ≠ 16 ∧ kc h b < 9000; omega), ?_⟩
      rw [hp]
      refine ⟨rfl, cc_done (a := a) (g := g) (ge := ge') (gs := gs) (G := G) (sz := sz) R hR hG hsz (isCt.c FC9 hC7 og7 (by omega) (by omega) (by omega) (by omega) (by omega)) hl7 hok7 i9 (by rw [FC9.R ta7 (by decide) (fun z => by rw [kc_o ta7 (by decide)] at z; omega), j1]; exact b6) (by rw [FC9.I ta7 (by decide) (fun z => by rw [kc_o ta7 (by decide)] at z; omega), j2]; exact b7) (by rw [FC9.ow (by have := hC7.2.2.1.1; omega)]; exact og7) FF L9 (by rw [FC9.ow (by omega)]; exact o7) ?_ (isK.c FC9 K7 (by omega) (by omega))⟩
      obtain ⟨eb, hb⟩ := hB7
      exact ⟨eb, hb.keptW FC9 (fun z => by rw [kc_o hb.1 (by decide)] at z; omega) (fun z => by rw [kc_o hb.2.2.1 (by decide)] at z; omega)⟩
    · omega
end FH

