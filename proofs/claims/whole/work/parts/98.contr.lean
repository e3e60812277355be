section FG
variable {γ : jG} {h h' : jM} {ρ σ : Nat → Nat} {x : Nat} {ks ss cs ls ms : List Nat} {V V' U : VV} {S : Nat → Prop}
theorem gRep_scc {c' c : Int} {G : List Grd} {K : Int} (R : isR V) (hG : gRep V c' G K) (h0 : 0 ≤ c') (hc : c' < c) (hs : scc c U V) : gRep U c' G K := by
  obtain ⟨g1, g2, g3⟩ := hG
  have e19 : V 119 c' ≤ 12 := by have := R 119 c' rfl; simp [jLo, jHi] at this; omega
  have e22 : ∀ i, V 122 i ≤ 100 := fun i => by have := R 122 i rfl; simp [jLo, jHi] at this; omega
  have u19 : U 119 c' = V 119 c' := hs 119 c' (by unfold cSc; omega)
  have u22 : ∀ i, i < 13 * c → U 122 i = V 122 i := fun i hi => hs 122 i (by unfold cSc; omega)
  have u21 : ∀ i, i < 12 * c → U 121 i = V 121 i := fun i hi => hs 121 i (by unfold cSc; omega)
  have u3 : ∀ t i, t = 123 ∨ t = 124 ∨ t = 125 → i < 100 * c → U t i = V t i := fun t i ht hi => hs t i (by unfold cSc; omega)
  have hl : (G.length : Int) ≤ 12 := by omega
  refine ⟨by rw [u19]; exact g1, by rw [u22 _ (by omega)]; exact g2, fun g y hy => ?_⟩
  have hg := (List.getElem?_eq_some_iff.mp hy).1
  obtain ⟨b1, b2, b3, b4, b5⟩ := g3 g y hy
  have k1 := e22 (13 * c' + (g : Int) + 1)
  refine ⟨by rw [u22 _ (by omega), u22 _ (by omega)]; exact b1, by rw [u22 _ (by omega)]; exact b2, by rw [u22 _ (by omega)]; exact b3, by rw [u21 _ (by omega)]; exact b4, fun i z hz => ?_⟩
  have hi := (List.getElem?_eq_some_iff.mp hz).1
  obtain ⟨d1, d2, d3⟩ := b5 i z hz
  rw [u22 _ (by omega), u3 123 _ (by decide) (by omega), u3 124 _ (by decide) (by omega), u3 125 _ (by decide) (by omega)]
  exact ⟨d1, d2, d3⟩
theorem conE.scc {c' : Nat} {c : Int} {z : Nat} (R : isR V) (hC : conE γ h ss V c' z) (hc : (c' : Int) < c) (hs : scc c U V) : conE γ h ss U c' z := by
  obtain ⟨g, e, gl, G, K, a1, a2, a3, a4, a5, a6, a7, a8⟩ := hC
  exact ⟨g, e, gl, G, K, by rw [hs 120 c' (by unfold cSc; omega)]; exact a1, a2, a3, a4, by rw [hs 117 c' (by unfold cSc; omega)]; exact a5, by rw [hs 118 c' (by unfold cSc; omega)]; exact a6, gRep_scc R a7 (by omega) hc hs, a8⟩
theorem scc_e {c : Int} (hs : scc c U V) : (∀ t, t ≠ 16 → ¬ (fun t : Nat => 119 ≤ t ∧ t ≤ 125) t → U t = V t) ∧ ∀ i, ¬ (fun i : Int => 12 ≤ i ∧ i ≤ 15) i → U 16 i = V 16 i := by
  refine ⟨fun t ht h1 => funext fun i => hs t i ?_, fun i hi => hs 16 i ?_⟩
  · have h1 : ¬ (119 ≤ t ∧ t ≤ 125) := h1
    unfold cSc
    omega
  · have hi : ¬ (12 ≤ i ∧ i ≤ 15) := hi
    unfold cSc
    omega
theorem RepC.scc (R : isR V) (hR : RepC γ V h x) (hs : scc (V 16 11) U V) : RepC γ U h x := by
  obtain ⟨ρ, σ, ks, ss, cs, ls, ms, a1, a2, a3, a4, a5, a6, a7, a8, a9, a10, a11⟩ := hR
  obtain ⟨e, es'⟩ := scc_e hs
  have F : FrC h h (fun c => c = 9999) := Fr.rf
  have l4 := csz a4.1
  have l7 := msz a7.1
  exact ⟨ρ, σ, ks, ss, cs, ls, ms, a1.k F es' (by (try dsimp only); omega) (by (try dsimp only); omega), a2.k F e es' (by (try dsimp only); omega) (by (try dsimp only); omega), a3.k F e es' (by (try dsimp only); omega) (by (try dsimp only); omega), ⟨a4.1, a4.2.1.trans (es' 11 (by omega)).symm, fun c z hz => (a4.2.2 c z hz).scc R (by have := (List.getElem?_eq_some_iff.mp hz).1; have := a4.2.1; omega) hs⟩, a5.k F e es' (by (try dsimp only); omega) ⟨by (try dsimp only); omega, fun _ _ _ => by (try dsimp only); omega⟩, a6.k F e (by (try dsimp only); omega) (fun _ _ => (by (try dsimp only); omega)) ⟨by (try dsimp only); omega, by (try dsimp only); omega, fun _ _ _ => by (try dsimp only); omega⟩, a7.k F e es' (by (try dsimp only); omega) (fun _ _ => (by (try dsimp only); omega)) ⟨by (try dsimp only); omega, fun _ _ _ => by (try dsimp only); omega⟩, a8.k F e a1.1 (by (try dsimp only); omega) (by (try dsimp only); omega), a9.k F e es' (by (try dsimp only); omega) (by (try dsimp only); omega), a10, a11⟩
theorem cx_Reader {rd s e c : Nat} {n : Int} {T : Int → Int} (hr : h.tag rd = 6) (hS : isSt h s e n T) (hn : 0 ≤ n) : CT γ mX2_init 1 0 0 [.ref rd, .ref s, .ref c] h (fun r h' => r = none ∧ isRd h' rd s e n T c 0 0 0 ∧ Fr h h' (fun b => b = rd) ∧ h'.tag = h.tag) X0 := by
  refine CT.of MX2_init (Nat.le_of_ble_eq_true rfl) ?_
  show J γ mX2_init 1 0 0 0 0 h 0 [(0, .ref rd), (1, .ref s), (2, .ref c)] [] _ _
  first | refine J.aload_n (pc' := 1) rfl rfl rfl ?_ | refine J.aload_nN (pc' := 1) rfl rfl rfl ?_
  refine J.objI (pc' := 4) rfl (List.mem_of_getElem? (i := 830) (by decide +kernel)) jObj_i jObj_c (by omega) (Nat.le_of_ble_eq_true rfl) rfl ?_
  first | refine J.aload_n (pc' := 5) rfl rfl rfl ?_ | refine J.aload_nN (pc' := 5) rfl rfl rfl ?_
  refine J.iconst (pc' := 6) rfl rfl ?_
  refine J.putI (pc' := 9) rfl fl_X2_9 rfl (Or.inl rfl) (by first | assumption | (simp only [jM.tag_sI, jM.tag_sL, jM.tag_sR, jM.tag_fI, jM.tag_fL, jM.tag_fR]; assumption) | (simp [jM.tag_nw, jM.tag_sI, jM.tag_sL, jM.tag_sR, jM.tag_fI, jM.tag_fL, jM.tag_fR, *]; done)) (Or.inl rfl) rfl ?_
  first | refine J.aload_n (pc' := 10) rfl rfl rfl ?_ | refine J.aload_nN (pc' := 10) rfl rfl rfl ?_
  refine J.iconst (pc' := 11) rfl rfl ?_
  refine J.putI (pc' := 14) rfl fl_X2_15 rfl (Or.inl rfl) (by first | assumption | (simp only [jM.tag_sI, jM.tag_sL, jM.tag_sR, jM.tag_fI, jM.tag_fL, jM.tag_fR]; assumption) | (simp [jM.tag_nw, jM.tag_sI, jM.tag_sL, jM.tag_sR, jM.tag_fI, jM.tag_fL, jM.tag_fR, *]; done)) (Or.inl rfl) rfl ?_
  first | refine J.aload_n (pc' := 15) rfl rfl rfl ?_ | refine J.aload_nN (pc' := 15) rfl rfl rfl ?_
  refine J.iconst (pc' := 16) rfl rfl ?_
  refine J.putI (pc' := 19) rfl fl_X2_18 rfl (Or.inl rfl) (by first | assumption | (simp only [jM.tag_sI, jM.tag_sL, jM.tag_sR, jM.tag_fI, jM.tag_fL, jM.tag_fR]; assumption) | (simp [jM.tag_nw, jM.tag_sI, jM.tag_sL, jM.tag_sR, jM.tag_fI, jM.tag_fL, jM.tag_fR, *]; done)) (Or.inl rfl) rfl ?_
  first | refine J.aload_n (pc' := 20) rfl rfl rfl ?_ | refine J.aload_nN (pc' := 20) rfl rfl rfl ?_
  first | refine J.aload_n (pc' := 21) rfl rfl rfl ?_ | refine J.aload_nN (pc' := 21) rfl rfl rfl ?_
  first | refine J.putR (pc' := 24) rfl fl_X2_21 rfl (Or.inr ⟨rfl, rfl, rfl⟩) (by first | assumption | (simp only [jM.tag_sI, jM.tag_sL, jM.tag_sR, jM.tag_fI, jM.tag_fL, jM.tag_fR]; assumption) | (simp [jM.tag_nw, jM.tag_sI, jM.tag_sL, jM.tag_sR, jM.tag_fI, jM.tag_fL, jM.tag_fR, *]; done)) (Or.inl rfl) rfl ?_ | refine J.putRN (pc' := 24) rfl fl_X2_21 rfl (Or.inr ⟨rfl, rfl, rfl⟩) (by first | assumption | (simp only [jM.tag_sI, jM.tag_sL, jM.tag_sR, jM.tag_fI, jM.tag_fL, jM.tag_fR]; assumption) | (simp [jM.tag_nw, jM.tag_sI, jM.tag_sL, jM.tag_sR, jM.tag_fI, jM.tag_fL, jM.tag_fR, *]; done)) (Or.inl rfl) rfl ?_
  first | refine J.aload_n (pc' := 25) rfl rfl rfl ?_ | refine J.aload_nN (pc' := 25) rfl rfl rfl ?_
  first | refine J.aload_n (pc' := 26) rfl rfl rfl ?_ | refine J.aload_nN (pc' := 26) rfl rfl rfl ?_
  first | refine J.putR (pc' := 29) rfl fl_X2_25 rfl (Or.inr ⟨rfl, rfl, rfl⟩) (by first | assumption | (simp only [jM.tag_sI, jM.tag_sL, jM.tag_sR, jM.tag_fI, jM.tag_fL, jM.tag_fR]; assumption) | (simp [jM.tag_nw, jM.tag_sI, jM.tag_sL, jM.tag_sR, jM.tag_fI, jM.tag_fL, jM.tag_fR, *]; done)) (Or.inl rfl) rfl ?_ | refine J.putRN (pc' := 29) rfl fl_X2_25 rfl (Or.inr ⟨rfl, rfl, rfl⟩) (by first | assumption | (simp only [jM.tag_sI, jM.tag_sL, jM.tag_sR, jM.tag_fI, jM.tag_fL, jM.tag_fR]; assumption) | (simp [jM.tag_nw, jM.tag_sI, jM.tag_sL, jM.tag_sR, jM.tag_fI, jM.tag_fL, jM.tag_fR, *]; done)) (Or.inl rfl) rfl ?_
  refine J.vret rfl rfl (by first | omega | (exact R.r _ _) | (simp only [jM.len_sI, jM.len_sL, jM.len_sR, jM.len_fI, jM.len_fL, jM.len_fR]; omega) | (simp [jM.len_nw, jM.len_sI, jM.len_sL, jM.len_sR, jM.len_fI, jM.len_fL, jM.len_fR, *]; omega)) (by first | omega | (exact R.r _ _) | (simp only [jM.len_sI, jM.len_sL, jM.len_sR, jM.len_fI, jM.len_fL, jM.len_fR]; omega) | (simp [jM.len_nw, jM.len_sI, jM.len_sL, jM.len_sR, jM.len_fI, jM.len_fL, jM.len_fR, *]; omega)) ?_
  have F : Fr h (((((h.sI 6 rd 2 0).sI 6 rd 3 0).sI 6 rd 4 0).sR 6 rd 0 (some s)).sR 6 rd 1 (some c)) (fun b => b = rd) := by
    refine Fr.stR (Fr.stR (Fr.stI (Fr.stI (Fr.stI Fr.rf ?_) ?_) ?_) ?_) ?_ <;> exact Or.inl rfl
  have ts := hS.1
  have te := hS.2.2.1
  refine ⟨rfl, ⟨hr, ?_, hS.kept F (fun z => by rw [z] at ts; omega) (fun z => by rw [z] at te; omega), ?_, ?_, ?_, ?_, by omega, hn⟩, F, rfl⟩
  · rw [jM.R_sR, if_neg (by omega), jM.R_sR, if_pos ⟨rfl, rfl, rfl⟩]
  · rw [jM.R_sR, if_pos ⟨rfl, rfl, rfl⟩]
  · rw [jM.I_sR, jM.I_sR, jM.I_sI, if_neg (by omega), jM.I_sI, if_neg (by omega), jM.I_sI, if_pos ⟨rfl, rfl, rfl⟩]
  · rw [jM.I_sR, jM.I_sR, jM.I_sI, if_neg (by omega), jM.I_sI, if_pos ⟨rfl, rfl, rfl⟩]
  · rw [jM.I_sR, jM.I_sR, jM.I_sI, if_pos ⟨rfl, rfl, rfl⟩]
abbrev eISE : String := "java/lang/IllegalStateException"
def ctG (V : VV) (n sel dy : Int) : Prop := (0 ≤ sel ∧ sel < V 16 2) ∧ (0 ≤ n ∧ n ≤ V 16 10 ∧ 0 ≤ dy ∧ dy ≤ 10000) ∧ V 16 11 < 20
def ccQ (γ : jG) (x : Nat) (h : jM) (V : VV) (n sel dy : Int) : Option Value → jM → Prop := fun r h' => ctG V n sel dy ∧ FrC h h' clsS ∧ match pAll (V 116) n with
  | .inl er => r = some (.int (jI (-2 - er))) ∧ RepC γ (jU V 16 10 0) h' x
  | .inr (G, ep) => r = some (.int (jI (V 16 11))) ∧ ∀ U K, isR U → scc (V 16 11) U (jU V 16 10 0) → gRep U (V 16 11) G K → U 120 (V 16 11) = ep → RepC γ (jU (jU (jU U 117 (V 16 11) sel) 118 (V 16 11) dy) 16 11 (V 16 11 + 1)) h' x
def ccX (h : jM) (V : VV) (n sel dy : Int) : String → jM → Prop := fun E h' => h' = h ∧ ((¬ (0 ≤ sel ∧ sel < V 16 2) ∧ E = eNSE) ∨ ((0 ≤ sel ∧ sel < V 16 2) ∧ ¬ (0 ≤ n ∧ n ≤ V 16 10 ∧ 0 ≤ dy ∧ dy ≤ 10000) ∧ E = eIAE) ∨ ((0 ≤ sel ∧ sel < V 16 2) ∧ (0 ≤ n ∧ n ≤ V 16 10 ∧ 0 ≤ dy ∧ dy ≤ 10000) ∧ ¬ V 16 11 < 20 ∧ E = eISE))
/-- what the class has, once the contract is read -/
theorem cc_done {k9 : jM} {a g ge sz e' : Nat} {gs : List Nat} {G : List Grd} {ep n sel dy : Int} (R : isR V) (hR : RepB γ V h x ρ σ ks ss cs ls ms) (hG : ctG V n sel dy) (hsz : at' ss sel sz) (hC : isCt γ k9 a g ge gs (gBl G) (gAl G) (gPl G) ep) (hl : gs.length = G.length) (hok : gsOk G) (i0 : k9.I 5 a 0 = V 16 11) (r1 : k9.R 5 a 1 = some sz) (i2 : k9.I 5 a 2 = dy) (og : ow k9 g = some (1000 + cs.length)) (FF : FrC h k9 (fun c => c = 2 ∨ c = 35 ∨ c = 5002)) (L9 : isL γ k9 (ρ 2) e' (cs ++ [a])) (o9 : ow k9 (ρ 2) = some 2) (hB : ∃ eb, isSB γ k9 (ρ 8) eb 0 (fun _ => 0)) (hK : isK γ k9) : ∀ U K, isR U → scc (V 16 11) U (jU V 16 10 0) → gRep U (V 16 11) G K → U 120 (V 16 11) = ep → RepC γ (jU (jU (jU U 117 (V 16 11) sel) 118 (V 16 11) dy) 16 11 (V 16 11 + 1)) k9 x := by
  intro U K RU hs hgr hep
  obtain ⟨a1, a2, a3, a4, a5, a6, a7, a8, a9, a10, a11⟩ := hR
  have Rf := R.f
  have l4 := csz a4.1
  have l7 := msz a7.1
  have n4 := a4.2.1
  obtain ⟨e0, es0⟩ := scc_e hs
  have R' : isR (jU V 16 10 0) := R.up (fun _ => by decide)
  have e : ∀ t, t ≠ 16 → ¬ (fun t : Nat => 117 ≤ t ∧ t ≤ 125) t → jU (jU (jU U 117 (V 16 11) sel) 118 (V 16 11) dy) 16 11 (V 16 11 + 1) t = V t := fun t ht h1 => by
    have h1 : ¬ (117 ≤ t ∧ t ≤ 125) := h1
    rw [jU_f _ ht, jU_f _ (by omega), jU_f _ (by omega), e0 t ht (by show ¬ (119 ≤ t ∧ t ≤ 125); omega), jU_f _ ht]
  have es' : ∀ i, ¬ (fun i : Int => i = 10 ∨ i = 11 ∨ 12 ≤ i ∧ i ≤ 15) i → jU (jU (jU U 117 (V 16 11) sel) 118 (V 16 11) dy) 16 11 (V 16 11 + 1) 16 i = V 16 i := fun i hi => by
    have hi : ¬ (i = 10 ∨ i = 11 ∨ 12 ≤ i ∧ i ≤ 15) := hi
    rw [jU_ne _ _ (Or.inr (by omega)), jU_ne _ _ (Or.inl (by decide)), jU_ne _ _ (Or.inl (by decide)), es0 i (by show ¬ (12 ≤ i ∧ i ≤ 15); omega), jU_ne _ _ (Or.inr (by omega))]
  have e10 : jU (jU (jU U 117 (V 16 11) sel) 118 (V 16 11) dy) 16 11 (V 16 11 + 1) 16 10 = 0 := by
    rw [jU_ne _ _ (Or.inr (by decide)), jU_ne _ _ (Or.inl (by decide)), jU_ne _ _ (Or.inl (by decide)), es0 10 (by decide), jU_same]
  have cSame : ∀ (c : Nat) (z : Nat), conE γ k9 ss U c z → (c : Int) ≠ V 16 11 → conE γ k9 ss (jU (jU (jU U 117 (V 16 11) sel) 118 (V 16 11) dy) 16 11 (V 16 11 + 1)) c z := fun c z hcz hne => by
    obtain ⟨g', e', gl', G', K', b1, b2, b3, b4, b5, b6, b7, b8⟩ := hcz
    refine ⟨g', e', gl', G', K', ?_, b2, b3, b4, ?_, ?_, gRep_cg ?_ ?_ ?_ ?_ ?_ ?_ b7, b8⟩
    · rw [jU_ne _ _ (Or.inl (by decide)), jU_ne _ _ (Or.inl (by decide)), jU_ne _ _ (Or.inl (by decide))]; exact b1
    · rw [jU_ne _ _ (Or.inl (by decide)), jU_ne _ _ (Or.inl (by decide)), jU_ne _ _ (Or.inr hne)]; exact b5
    · rw [jU_ne _ _ (Or.inl (by decide)), jU_ne _ _ (Or.inr hne), jU_ne _ _ (Or.inl (by decide))]; exact b6
    all_goals rw [jU_f _ (by decide), jU_f _ (by decide), jU_f _ (by decide)]
  have c9 : ∀ (c z : Nat), cs[c]? = some z → conE γ k9 ss V c z := fun c z hz => (a4.2.2 c z hz).c FF (by (try dsimp only); omega) (by (try dsimp only); have := (List.getElem?_eq_some_iff.mp hz).1; omega) (by (try dsimp only); omega) (by (try dsimp only); omega) (by (try dsimp only); omega)
  refine ⟨ρ, σ, ks, ss, cs ++ [a], ls, ms, a1.k FF es' (by (try dsimp only); omega) (by (try dsimp only); omega), a2.k FF e es' (by (try dsimp only); omega) (by (try dsimp only); omega), a3.k FF e es' (by (try dsimp only); omega) (by (try dsimp only); omega), ⟨⟨⟨e', L9⟩, o9⟩, ?_, fun c z hz => ?_⟩, ⟨a5.1.c FF (by (try dsimp only); omega), a5.2.1.trans (es' 26 (by (try dsimp only); omega)).symm, fun l z hz => ?_⟩, a6.k FF e (by (try dsimp only); omega) (fun _ _ => (by (try dsimp only); omega)) ⟨by (try dsimp only); omega, by (try dsimp only); omega, fun _ _ _ => by (try dsimp only); omega⟩, a7.k FF e es' (by (try dsimp only); omega) (fun _ _ => (by (try dsimp only); omega)) ⟨by (try dsimp only); omega, fun _ _ _ => by (try dsimp only); omega⟩, a8.k FF e a1.1 (by (try dsimp only); omega) (by (try dsimp only); omega), ?_, a10.c FF (fun _ _ _ => (by (try dsimp only); omega)) (by (try dsimp only); omega), hK⟩
  · rw [List.length_append, jU_same]
    show ((cs.length + 1 : Nat) : Int) = _
    omega
  · rcases Nat.lt_trichotomy c cs.length with q | q | q
    · rw [List.getElem?_append_left q] at hz
      refine cSame c z ?_ (by omega)
      have h1 := c9 c z hz
      obtain ⟨g', e', gl', G', K', b1, b2, b3, b4, b5, b6, b7, b8⟩ := h1
      have h2 : conE γ k9 ss (jU V 16 10 0) c z := ⟨g', e', gl', G', K', by rw [jU_ne _ _ (Or.inl (by decide))]; exact b1, b2, b3, b4, by rw [jU_ne _ _ (Or.inl (by decide))]; exact b5, by rw [jU_ne _ _ (Or.inl (by decide))]; exact b6, gRep_cg (jU_f _ (by decide)) (jU_f _ (by decide)) (jU_f _ (by decide)) (jU_f _ (by decide)) (jU_f _ (by decide)) (jU_f _ (by decide)) b7, b8⟩
      exact h2.scc R' (by omega) hs
    · rw [q, List.getElem?_append_right (Nat.le_refl _), Nat.sub_self] at hz
      cases hz
      have ec : (c : Int) = V 16 11 := by omega
      refine ⟨g, ge, gs, G, K, ?_, hl, by rw [og, q], by rw [ec]; exact i0, ⟨sz, ?_, r1⟩, ?_, ?_, hok⟩
      · rw [jU_ne _ _ (Or.inl (by decide)), jU_ne _ _ (Or.inl (by decide)), jU_ne _ _ (Or.inl (by decide)), ec, hep]; exact hC
      · rw [jU_ne _ _ (Or.inl (by decide)), jU_ne _ _ (Or.inl (by decide)), ec, jU_same]; exact hsz
      · rw [jU_ne _ _ (Or.inl (by decide)), ec, jU_same]; exact i2
      · rw [ec]
        refine gRep_cg ?_ ?_ ?_ ?_ ?_ ?_ hgr
        all_goals rw [jU_f _ (by decide), jU_f _ (by decide), jU_f _ (by decide)]
    · rw [List.getElem?_eq_none (by rw [List.length_append]; simp; omega)] at hz
      cases hz
  · obtain ⟨s', k', c', sp', b1, b2, b3, b4⟩ := (a5.k FF e es' (by (try dsimp only); omega) ⟨by (try dsimp only); omega, fun _ _ _ => by (try dsimp only); omega⟩).2.2 l z hz
    exact ⟨s', k', c', sp', b1, b2, b3, b4.app⟩
  · obtain ⟨eb, hb⟩ := hB
    refine ⟨eb, fun _ => 0, by rw [e10]; exact hb, fun i i0 i1 => ?_⟩
    rw [e10] at i1
    omega
end FG

