section FL3
variable {γ : jG} {h h' : jM} {ρ σ : Nat → Nat} {x : Nat} {ks ss cs ls ms : List Nat} {V V' U : VV} {S : Nat → Prop}
theorem cf_ld91 {s k n g : Int} {c1 c2 : Nat} {sz kz zc p a e : Nat} {ys : List Nat} (hc1 : c1 ≤ 10) (hc2 : c2 ≤ 100) (I : Inv V) (h0 : V 16 0 = 0) (hR : RepB γ V h x ρ σ ks ss cs ls ms) (H : spLd V s k g n) (as : at' ss s sz) (ak : at' ks k kz) (ac : at' cs (ldC V s) zc) (r5 : h.R 33 (ρ 5) g.toNat = some p) (hE : hepE γ h ls V g.toNat p a e ys) {X : String → jM → Prop} : ∀ lv, hasL lv [(0, .ref x), (4, .int (jI n)), (5, .ref sz), (6, .ref kz), (7, .ref p), (8, .ref zc)] → J γ mX11_load 8 40 600 c1 c2 h 91 lv [] (opQ γ x h (sp_load V s k g n)) X := by
  intro lv hlv
  have R := I.1
  have Rf := R.f
  obtain ⟨H1, H2, H3, H4, H5, H6⟩ := id H
  have hR0 := hR
  obtain ⟨a1, a2, a3, a4, a5, a6, a7, a8, a9, a10, a11⟩ := hR0
  obtain ⟨x0, x1, x2, x3, x4, x5, x6, x7, x8, x9, x10⟩ := a1
  obtain ⟨⟨⟨e3, L3⟩, o3⟩, n3, E3⟩ := a5
  have l3 := L3.len
  have l26 : 0 ≤ V 16 26 ∧ V 16 26 ≤ 100 := R 16 26 rfl
  have d3 : 0 ≤ V 16 3 ∧ V 16 3 ≤ 10000 := R 16 3 rfl
  obtain ⟨o, hS⟩ := a3.2.2 s.toNat sz as.2
  obtain ⟨k1, k2, ksp, k3, k4⟩ := a2.2.2 k.toNat kz ak.2
  rw [show ((s.toNat : Nat) : Int) = s by omega] at hS
  rw [show ((k.toNat : Nat) : Int) = k by omega] at k2 k4
  obtain ⟨gg, ge, gl, G, K, hC, hCl, q3, q4, q5, q6, hG, hGo⟩ := a4.2.2 _ zc ac.2
  rw [show (((ldC V s).toNat : Nat) : Int) = ldC V s by have := ac.1; omega] at hC hG
  refine J.lc hlv ?_
  refine J.new (pc' := 94) (t := 11) (N := 9) (n := 9) rfl ⟨by decide, by decide, _, rfl, rfl, List.mem_of_getElem? (i := 1011) (by decide +kernel), List.mem_of_getElem? (i := 1012) (by decide +kernel), List.mem_of_getElem? (i := 95) (by decide +kernel)⟩ (by first | omega | (exact R.r _ _) | (simp only [jM.len_sI, jM.len_sL, jM.len_sR, jM.len_fI, jM.len_fL, jM.len_fR]; omega) | (simp [jM.len_nw, jM.len_sI, jM.len_sL, jM.len_sR, jM.len_fI, jM.len_fL, jM.len_fR, *]; omega)) (by first | omega | (exact R.r _ _) | (simp only [jM.len_sI, jM.len_sL, jM.len_sR, jM.len_fI, jM.len_fL, jM.len_fR]; omega) | (simp [jM.len_nw, jM.len_sI, jM.len_sL, jM.len_sR, jM.len_fI, jM.len_fL, jM.len_fR, *]; omega)) rfl (fun z zf zb => ?_)
  have Fz : Fr h (h.nw z 11 9) (fun _ => False) := Fr.stN Fr.rf zf
  have tz : (h.nw z 11 9).tag z = 11 := by rw [jM.tag_nw, if_pos rfl]
  have Lz := L3.keptW Fz id (Or.inl id)
  have txz := Fz.tag x0 (by decide)
  have rxz : (h.nw z 11 9).R 15 x 3 = some (ρ 3) := by rw [Fz.R x0 (by decide) id]; exact x4
  have i9 : (h.nw z 11 9).I 15 x 9 = V 16 3 := by rw [Fz.I x0 (by decide) id]; exact x10
  have hSz := hS.kept Fz id id
  have hCz : isCt γ (h.nw z 11 9) zc gg ge gl (gBl G) (gAl G) (gPl G) (V 120 (ldC V s)) := hC.keptW Fz id id (Or.inl id) (fun _ _ => id)
  have k1z := Fz.tag k1 (by decide)
  have k2z : (h.nw z 11 9).I 9 kz 0 = k := by rw [Fz.I k1 (by decide) id]; exact k2
  have k3z : (h.nw z 11 9).R 9 kz 1 = some ksp := by rw [Fz.R k1 (by decide) id]; exact k3
  have k4z := k4.kept2 Fz id id
  generalize h.nw z 11 9 = h1 at Fz tz Lz txz rxz i9 hSz hCz k1z k2z k3z k4z ⊢
  have t3 := Lz.1
  refine J.dup (pc' := 95) rfl rfl rfl ?_
  first | refine J.aload_n (pc' := 96) rfl rfl rfl ?_ | refine J.aload_nN (pc' := 96) rfl rfl rfl ?_
  first | refine J.getR (pc' := 99) rfl fl_X11_22 rfl (by first | assumption | (simp only [jM.tag_sI, jM.tag_sL, jM.tag_sR, jM.tag_fI, jM.tag_fL, jM.tag_fR]; assumption) | (simp [jM.tag_nw, jM.tag_sI, jM.tag_sL, jM.tag_sR, jM.tag_fI, jM.tag_fL, jM.tag_fR, *]; done)) (by first | assumption | (simp only [jM.R_sI, jM.R_sL, jM.R_fI, jM.R_fL]; assumption) | (simp [jM.R_nw, jM.R_sR, jM.R_fR, jM.R_sI, jM.R_sL, jM.R_fI, jM.R_fL, *]; done)) rfl ?_ | refine J.getRN (pc' := 99) rfl fl_X11_22 rfl (by first | assumption | (simp only [jM.tag_sI, jM.tag_sL, jM.tag_sR, jM.tag_fI, jM.tag_fL, jM.tag_fR]; assumption) | (simp [jM.tag_nw, jM.tag_sI, jM.tag_sL, jM.tag_sR, jM.tag_fI, jM.tag_fL, jM.tag_fR, *]; done)) (by first | assumption | (simp only [jM.R_sI, jM.R_sL, jM.R_fI, jM.R_fL]; assumption) | (simp [jM.R_nw, jM.R_sR, jM.R_fR, jM.R_sI, jM.R_sL, jM.R_fI, jM.R_fL, *]; done)) rfl ?_
  refine J.callV (pc' := 102) (t := 3) rfl MJx4a65c_size_8abf5 ml_X11_60 iv_Jx4a65c_size_8abf5 (by decide) ⟨_, rfl, rfl⟩ (by first | assumption | (simp only [jM.tag_sI, jM.tag_sL, jM.tag_sR, jM.tag_fI, jM.tag_fL, jM.tag_fR]; assumption) | (simp [jM.tag_nw, jM.tag_sI, jM.tag_sL, jM.tag_sR, jM.tag_fI, jM.tag_fL, jM.tag_fR, *]; done)) Lz.size rfl rfl (Nat.le_of_ble_eq_true rfl) (by first | omega | (exact R.r _ _) | (simp only [jM.len_sI, jM.len_sL, jM.len_sR, jM.len_fI, jM.len_fL, jM.len_fR]; omega) | (simp [jM.len_nw, jM.len_sI, jM.len_sL, jM.len_sR, jM.len_fI, jM.len_fL, jM.len_fR, *]; omega)) (by first | omega | (exact R.r _ _) | (simp only [jM.len_sI, jM.len_sL, jM.len_sR, jM.len_fI, jM.len_fL, jM.len_fR]; omega) | (simp [jM.len_nw, jM.len_sI, jM.len_sL, jM.len_sR, jM.len_fI, jM.len_fL, jM.len_fR, *]; omega)) (by first | omega | (exact R.r _ _) | (simp only [jM.len_sI, jM.len_sL, jM.len_sR, jM.len_fI, jM.len_fL, jM.len_fR]; omega) | (simp [jM.len_nw, jM.len_sI, jM.len_sL, jM.len_sR, jM.len_fI, jM.len_fL, jM.len_fR, *]; omega)) rfl rfl ?_ ?_
  · exact fun _ _ z => z.elim
  rintro _ h1 ⟨rfl, rfl⟩
  rw [show ((ls.length : Nat) : Int) = V 16 26 by omega]
  first | refine J.aload (pc' := 104) rfl rfl rfl ?_ | refine J.aloadN (pc' := 104) rfl rfl rfl ?_
  first | refine J.aload (pc' := 106) rfl rfl rfl ?_ | refine J.aloadN (pc' := 106) rfl rfl rfl ?_
  refine J.iload (pc' := 108) rfl rfl rfl ?_
  first | refine J.aload_n (pc' := 109) rfl rfl rfl ?_ | refine J.aload_nN (pc' := 109) rfl rfl rfl ?_
  refine J.getI (pc' := 112) rfl fl_X11_55 rfl (by first | assumption | (simp only [jM.tag_sI, jM.tag_sL, jM.tag_sR, jM.tag_fI, jM.tag_fL, jM.tag_fR]; assumption) | (simp [jM.tag_nw, jM.tag_sI, jM.tag_sL, jM.tag_sR, jM.tag_fI, jM.tag_fL, jM.tag_fR, *]; done)) rfl ?_
  first | refine J.aload (pc' := 114) rfl rfl rfl ?_ | refine J.aloadN (pc' := 114) rfl rfl rfl ?_
  rw [i9]
  refine J.callI (pc' := 117) rfl MX7_init ml_X11_172 iv_X7_init ⟨rfl, rfl⟩ (cx_Load (n := V 16 26) (t := n) (d := V 16 3) (c := zc) tz hSz k1z k2z k3z k4z (by omega) (oV_b R s)) rfl rfl (Nat.le_of_ble_eq_true rfl) (by first | omega | (exact R.r _ _) | (simp only [jM.len_sI, jM.len_sL, jM.len_sR, jM.len_fI, jM.len_fL, jM.len_fR]; omega) | (simp [jM.len_nw, jM.len_sI, jM.len_sL, jM.len_sR, jM.len_fI, jM.len_fL, jM.len_fR, *]; omega)) (by first | omega | (exact R.r _ _) | (simp only [jM.len_sI, jM.len_sL, jM.len_sR, jM.len_fI, jM.len_fL, jM.len_fR]; omega) | (simp [jM.len_nw, jM.len_sI, jM.len_sL, jM.len_sR, jM.len_fI, jM.len_fL, jM.len_fR, *]; omega)) (by first | omega | (exact R.r _ _) | (simp only [jM.len_sI, jM.len_sL, jM.len_sR, jM.len_fI, jM.len_fL, jM.len_fR]; omega) | (simp [jM.len_nw, jM.len_sI, jM.len_sL, jM.len_sR, jM.len_fI, jM.len_fL, jM.len_fR, *]; omega)) rfl ?_
  rintro _ h2 ⟨rfl, sp, P', spf, hLd, hP', F2, N2⟩
  have hP : ∀ j, j < 10 → P' j = lP (ldF V s k) (V 16 26) j := fun j hj => (hP' j hj).trans (ldF_P R j hj)
  have Rl : isR (ldF V s k) := R.ld
  have hPb : ∀ j, j < 10 → r32 (P' j) := fun j hj => by
    rw [hP j hj]
    have b1 : ∀ i, 0 ≤ ldF V s k 134 i ∧ ldF V s k 134 i ≤ 10000 := fun i => Rl 134 i rfl
    have b2 : ∀ i, 0 ≤ ldF V s k 135 i ∧ ldF V s k 135 i ≤ 10000 := fun i => Rl 135 i rfl
    have := b1 (5 * V 16 26 + ((j / 2 : Nat) : Int))
    have := b2 (5 * V 16 26 + ((j / 2 : Nat) : Int))
    unfold lP
    split <;> constructor <;> omega
  have hC2 : isCt γ h2 zc gg ge gl (gBl G) (gAl G) (gPl G) (V 120 (ldC V s)) := by
    refine hCz.keptW F2 (fun q => by have := hCz.1; rw [q, tz] at this; omega) (fun q => by have := hCz.2.2.1.1; rw [q, tz] at this; omega) (Or.inl (fun q => by have := hCz.2.2.1.2.2.1; rw [q, tz] at this; omega)) (fun b hb q => by rw [q, tz] at hb; omega)
  have hep : r32 (V 120 (ldC V s)) := by have q : -1 ≤ V 120 (ldC V s) ∧ V 120 (ldC V s) ≤ 99999 := R 120 _ rfl; constructor <;> omega
  have hG' : gRep (ldF V s k) (ldC V s) G K := gRep_cg (ldF_o (by decide) (by decide)) (ldF_o (by decide) (by decide)) (ldF_o (by decide) (by decide)) (ldF_o (by decide) (by decide)) (ldF_o (by decide) (by decide)) (ldF_o (by decide) (by decide)) hG
  obtain ⟨w1, w2⟩ := grF_eq Rl hG' hP
  rw [ldF_o (t := 120) (by decide) (by decide)] at w1 w2
  have tz2 := hLd.1
  first | refine J.astore (pc' := 119) rfl rfl (by decide) ?_ | refine J.astoreN (pc' := 119) rfl rfl (by decide) ?_
  first | refine J.aload (pc' := 121) rfl rfl rfl ?_ | refine J.aloadN (pc' := 121) rfl rfl rfl ?_
  refine J.callV (pc' := 124) (t := 11) rfl MX7_gradeAnew ml_X11_175 iv_X7_gradeAnew (by decide) ⟨_, rfl, rfl⟩ (by first | assumption | (simp only [jM.tag_sI, jM.tag_sL, jM.tag_sR, jM.tag_fI, jM.tag_fL, jM.tag_fR]; assumption) | (simp [jM.tag_nw, jM.tag_sI, jM.tag_sL, jM.tag_sR, jM.tag_fI, jM.tag_fL, jM.tag_fR, *]; done)) (cx_gradeAnew hLd hC2 (by rw [hCl]; exact hGo.b) hPb hep) rfl rfl (Nat.le_of_ble_eq_true rfl) (by first | omega | (exact R.r _ _) | (simp only [jM.len_sI, jM.len_sL, jM.len_sR, jM.len_fI, jM.len_fL, jM.len_fR]; omega) | (simp [jM.len_nw, jM.len_sI, jM.len_sL, jM.len_sR, jM.len_fI, jM.len_fL, jM.len_fR, *]; omega)) (by first | omega | (exact R.r _ _) | (simp only [jM.len_sI, jM.len_sL, jM.len_sR, jM.len_fI, jM.len_fL, jM.len_fR]; omega) | (simp [jM.len_nw, jM.len_sI, jM.len_sL, jM.len_sR, jM.len_fI, jM.len_fL, jM.len_fR, *]; omega)) (by first | omega | (exact R.r _ _) | (simp only [jM.len_sI, jM.len_sL, jM.len_sR, jM.len_fI, jM.len_fL, jM.len_fR]; omega) | (simp [jM.len_nw, jM.len_sI, jM.len_sL, jM.len_sR, jM.len_fI, jM.len_fL, jM.len_fR, *]; omega)) rfl rfl ?_ ?_
  · exact fun _ _ z => z.elim
  rintro _ h3 ⟨rfl, e3'⟩
  rw [hCl, w1, w2] at e3'
  have bg := (gr_b Rl (ldC V s) (V 16 26)).1
  have F3 : Fr h h3 (fun _ => False) := by
    rw [e3']
    refine Fz.trans (W2 := fun b => b = z) (F2.trans (W2 := fun b => b = z) (Fr.stI (Fr.stI Fr.rf (Or.inl rfl)) (Or.inl rfl)) (fun b _ w => w.elim id id)) (fun b hb w => ?_)
    rcases w with w | w
    · exact w
    · rw [w] at hb; exact absurd zf hb
  obtain ⟨d1, d2, d3', d4, d5, d6, d7, d8, d9, d10, d11⟩ := hLd
  have hLd3 : isLd h3 z (V 16 26) sz kz n (V 16 3) zc sp P' (grF (ldF V s k) (ldC V s) (V 16 26)) (payF (ldF V s k) (ldC V s) (V 16 26)) := by
    rw [e3']
    refine ⟨d1, ?_, d3', d4, ?_, ?_, d7, d8, d9.kept1 (Fr.stI (Fr.stI Fr.rf (Or.inl rfl)) (Or.inl rfl) : Fr h2 _ (fun b => b = z)) (by omega), ?_, ?_⟩
    · rw [jM.I_sI, if_neg (by omega), jM.I_sI, if_neg (by omega)]; exact d2
    · rw [jM.I_sI, if_neg (by omega), jM.I_sI, if_neg (by omega)]; exact d5
    · rw [jM.I_sI, if_neg (by omega), jM.I_sI, if_neg (by omega)]; exact d6
    · rw [jM.I_sI, if_neg (by omega), jM.I_sI, if_pos ⟨rfl, rfl, rfl⟩]
    · rw [jM.I_sI, if_pos ⟨rfl, rfl, rfl⟩]
  clear e3'
  have tz3 := hLd3.1
  have g3 := hLd3.2.2.2.2.2.2.2.2.2.1
  first | refine J.aload (pc' := 126) rfl rfl rfl ?_ | refine J.aloadN (pc' := 126) rfl rfl rfl ?_
  refine J.getI (pc' := 129) rfl fl_X11_178 rfl (by first | assumption | (simp only [jM.tag_sI, jM.tag_sL, jM.tag_sR, jM.tag_fI, jM.tag_fL, jM.tag_fR]; assumption) | (simp [jM.tag_nw, jM.tag_sI, jM.tag_sL, jM.tag_sR, jM.tag_fI, jM.tag_fL, jM.tag_fR, *]; done)) rfl ?_
  refine J.iconst (pc' := 130) rfl rfl ?_
  rw [g3]
  refine J.icmp_ne (tgt := 135) (pc' := 133) rfl rfl rfl (by first | omega | (exact R.r _ _) | (simp only [jM.len_sI, jM.len_sL, jM.len_sR, jM.len_fI, jM.len_fL, jM.len_fR]; omega) | (simp [jM.len_nw, jM.len_sI, jM.len_sL, jM.len_sR, jM.len_fI, jM.len_fL, jM.len_fR, *]; omega)) (by first | omega | (exact R.r _ _) | (simp only [jM.len_sI, jM.len_sL, jM.len_sR, jM.len_fI, jM.len_fL, jM.len_fR]; omega) | (simp [jM.len_nw, jM.len_sI, jM.len_sL, jM.len_sR, jM.len_fI, jM.len_fL, jM.len_fR, *]; omega)) (fun cg => ?_) (fun cg => ?_)
  · have es := sp_load_y H (fun w => cg (by rw [w]))
    refine cf_ld135 (ρ := ρ) (σ := σ) (z := z) (by omega) (by omega) I h0 hR (by omega) (by omega) (by omega) (by omega) as ak ac (by omega) r5 hE zf hS hLd3 hP F3 (Fz.free spf) es _ ⟨rfl, rfl, rfl, rfl, rfl, trivial⟩
  · have es := sp_load_n H (by omega)
    refine J.iconst (pc' := 134) rfl rfl ?_
    refine J.iret rfl rfl (by first | omega | (exact R.r _ _) | (simp only [jM.len_sI, jM.len_sL, jM.len_sR, jM.len_fI, jM.len_fL, jM.len_fR]; omega) | (simp [jM.len_nw, jM.len_sI, jM.len_sL, jM.len_sR, jM.len_fI, jM.len_fL, jM.len_fR, *]; omega)) (by first | omega | (exact R.r _ _) | (simp only [jM.len_sI, jM.len_sL, jM.len_sR, jM.len_fI, jM.len_fL, jM.len_fR]; omega) | (simp [jM.len_nw, jM.len_sI, jM.len_sL, jM.len_sR, jM.len_fI, jM.len_fL, jM.len_fR, *]; omega)) ?_
    rw [es]
    refine ⟨rfl, ?_, ld_no I hR (F3.mono (fun _ _ w => w.elim)), F3.mono (fun _ _ w => w.elim)⟩
    dsimp only
    unfold fgV
    rw [jU_ne _ _ (Or.inr (by decide)), jU_ne _ _ (Or.inr (by decide)), ldF_o (by decide) (by decide)]
    exact h0
theorem cf_load {s k g n : Int} (hs : r32 s) (hk : r32 k) (hg : r32 g) (hn : r32 n) (I : Inv V) (h0 : V 16 0 = 0) (hR : RepB γ V h x ρ σ ks ss cs ls ms) : CT γ mX11_load 8 40 600 [.ref x, .int (jI s), .int (jI k), .int (jI g), .int (jI n)] h (opQ γ x h (sp_load V s k g n)) (opX V h (sp_load V s k g n) [(eNSE, 1), (eIAE, 2)]) := by
  have R := I.1
  have hR0 := hR
  obtain ⟨a1, a2, a3, a4, a5, a6, a7, a8, a9, a10, a11⟩ := hR0
  obtain ⟨x0, x1, x2, x3, x4, x5, x6, x7, x8, x9, x10⟩ := a1
  obtain ⟨⟨⟨e3, L3⟩, o3⟩, n3, E3⟩ := a5
  have l26 : 0 ≤ V 16 26 ∧ V 16 26 ≤ 100 := R 16 26 rfl
  have d3 : 0 ≤ V 16 3 ∧ V 16 3 ≤ 10000 := R 16 3 rfl
  have lA := I.2.2.2.1
  have lA0 := layAll_b R
  have t3 := L3.1
  have same : ∀ v, opQ γ x h (v, V) (some (.int (jI v))) h := fun v => ⟨rfl, h0, ⟨ρ, σ, ks, ss, cs, ls, ms, hR⟩, Fr.rf⟩
  refine CT.of MX11_load (Nat.le_of_ble_eq_true rfl) ?_
  show J γ mX11_load 8 40 600 0 0 h 0 [(0, .ref x), (1, .int (jI s)), (2, .int (jI k)), (3, .int (jI g)), (4, .int (jI n))] [] _ _
  first | refine J.aload_n (pc' := 1) rfl rfl rfl ?_ | refine J.aload_nN (pc' := 1) rfl rfl rfl ?_
  refine J.iload_n (pc' := 2) rfl rfl rfl ?_
  refine J.callV (pc' := 5) (t := 15) rfl MX11_sellerOf ml_X11_100 iv_X11_sellerOf (by decide) ⟨_, rfl, rfl⟩ (by first | assumption | (simp only [jM.tag_sI, jM.tag_sL, jM.tag_sR, jM.tag_fI, jM.tag_fL, jM.tag_fR]; assumption) | (simp [jM.tag_nw, jM.tag_sI, jM.tag_sL, jM.tag_sR, jM.tag_fI, jM.tag_fL, jM.tag_fR, *]; done)) (cf_sellerOf hs hR) rfl rfl (Nat.le_of_ble_eq_true rfl) (by first | omega | (exact R.r _ _) | (simp only [jM.len_sI, jM.len_sL, jM.len_sR, jM.len_fI, jM.len_fL, jM.len_fR]; omega) | (simp [jM.len_nw, jM.len_sI, jM.len_sL, jM.len_sR, jM.len_fI, jM.len_fL, jM.len_fR, *]; omega)) (by first | omega | (exact R.r _ _) | (simp only [jM.len_sI, jM.len_sL, jM.len_sR, jM.len_fI, jM.len_fL, jM.len_fR]; omega) | (simp [jM.len_nw, jM.len_sI, jM.len_sL, jM.len_sR, jM.len_fI, jM.len_fL, jM.len_fR, *]; omega)) (by first | omega | (exact R.r _ _) | (simp only [jM.len_sI, jM.len_sL, jM.len_sR, jM.len_fI, jM.len_fL, jM.len_fR]; omega) | (simp [jM.len_nw, jM.len_sI, jM.len_sL, jM.len_sR, jM.len_fI, jM.len_fL, jM.len_fR, *]; omega)) rfl rfl ?_ ?_
  · rintro _ _ ⟨hc, rfl, rfl⟩
    exact ⟨rfl, 1, by simp, by unfold sp_load; rw [if_neg hc]⟩
  rintro _ h ⟨sz, rfl, as, cs1, rfl⟩
  first | refine J.astore (pc' := 7) rfl rfl (by decide) ?_ | refine J.astoreN (pc' := 7) rfl rfl (by decide) ?_
  first | refine J.aload_n (pc' := 8) rfl rfl rfl ?_ | refine J.aload_nN (pc' := 8) rfl rfl rfl ?_
  refine J.iload_n (pc' := 9) rfl rfl rfl ?_
  refine J.callV (pc' := 12) (t := 15) rfl MX11_kindOf ml_X11_73 iv_X11_kindOf (by decide) ⟨_, rfl, rfl⟩ (by first | assumption | (simp only [jM.tag_sI, jM.tag_sL, jM.tag_sR, jM.tag_fI, jM.tag_fL, jM.tag_fR]; assumption) | (simp [jM.tag_nw, jM.tag_sI, jM.tag_sL, jM.tag_sR, jM.tag_fI, jM.tag_fL, jM.tag_fR, *]; done)) (cf_kindOf hk hR) rfl rfl (Nat.le_of_ble_eq_true rfl) (by first | omega | (exact R.r _ _) | (simp only [jM.len_sI, jM.len_sL, jM.len_sR, jM.len_fI, jM.len_fL, jM.len_fR]; omega) | (simp [jM.len_nw, jM.len_sI, jM.len_sL, jM.len_sR, jM.len_fI, jM.len_fL, jM.len_fR, *]; omega)) (by first | omega | (exact R.r _ _) | (simp only [jM.len_sI, jM.len_sL, jM.len_sR, jM.len_fI, jM.len_fL, jM.len_fR]; omega) | (simp [jM.len_nw, jM.len_sI, jM.len_sL, jM.len_sR, jM.len_fI, jM.len_fL, jM.len_fR, *]; omega)) (by first | omega | (exact R.r _ _) | (simp only [jM.len_sI, jM.len_sL, jM.len_sR, jM.len_fI, jM.len_fL, jM.len_fR]; omega) | (simp [jM.len_nw, jM.len_sI, jM.len_sL, jM.len_sR, jM.len_fI, jM.len_fL, jM.len_fR, *]; omega)) rfl rfl ?_ ?_
  · rintro _ _ ⟨hc, rfl, rfl⟩
    exact ⟨rfl, 1, by simp, by unfold sp_load; rw [if_pos cs1, if_neg hc]⟩
  rintro _ h ⟨kz, rfl, ak, ck1, rfl⟩
  first | refine J.astore (pc' := 14) rfl rfl (by decide) ?_ | refine J.astoreN (pc' := 14) rfl rfl (by decide) ?_
  first | refine J.aload_n (pc' := 15) rfl rfl rfl ?_ | refine J.aload_nN (pc' := 15) rfl rfl rfl ?_
  refine J.iload_n (pc' := 16) rfl rfl rfl ?_
  refine J.callV (pc' := 19) (t := 15) rfl MX11_heapOf ml_X11_161 iv_X11_heapOf (by decide) ⟨_, rfl, rfl⟩ (by first | assumption | (simp only [jM.tag_sI, jM.tag_sL, jM.tag_sR, jM.tag_fI, jM.tag_fL, jM.tag_fR]; assumption) | (simp [jM.tag_nw, jM.tag_sI, jM.tag_sL, jM.tag_sR, jM.tag_fI, jM.tag_fL, jM.tag_fR, *]; done)) (cf_heapOf hg hR) rfl rfl (Nat.le_of_ble_eq_true rfl) (by first | omega | (exact R.r _ _) | (simp only [jM.len_sI, jM.len_sL, jM.len_sR, jM.len_fI, jM.len_fL, jM.len_fR]; omega) | (simp [jM.len_nw, jM.len_sI, jM.len_sL, jM.len_sR, jM.len_fI, jM.len_fL, jM.len_fR, *]; omega)) (by first | omega | (exact R.r _ _) | (simp only [jM.len_sI, jM.len_sL, jM.len_sR, jM.len_fI, jM.len_fL, jM.len_fR]; omega) | (simp [jM.len_nw, jM.len_sI, jM.len_sL, jM.len_sR, jM.len_fI, jM.len_fL, jM.len_fR, *]; omega)) (by first | omega | (exact R.r _ _) | (simp only [jM.len_sI, jM.len_sL, jM.len_sR, jM.len_fI, jM.len_fL, jM.len_fR]; omega) | (simp [jM.len_nw, jM.len_sI, jM.len_sL, jM.len_sR, jM.len_fI, jM.len_fL, jM.len_fR, *]; omega)) rfl rfl ?_ ?_
  · rintro _ _ ⟨hc, rfl, rfl⟩
    exact ⟨rfl, 2, by simp, by unfold sp_load; rw [if_pos cs1, if_pos ck1, if_neg (fun z => hc ⟨z.1, z.2.1⟩)]⟩
  rintro _ h ⟨p, a, e, ys, rfl, cg1, r5, hE, rfl⟩
  have bad : ¬ (1 ≤ n ∧ n ≤ 50) → opX V h (sp_load V s k g n) [(eNSE, 1), (eIAE, 2)] eIAE h := fun q => ⟨rfl, 2, by simp, by unfold sp_load; rw [if_pos cs1, if_pos ck1, if_neg (fun z => q z.2.2)]⟩
  have tail : (1 ≤ n ∧ n ≤ 50) → ∀ lv, hasL lv [(0, .ref x), (4, .int (jI n)), (5, .ref sz), (6, .ref kz), (7, .ref p)] → J γ mX11_load 8 40 600 (0 + 1 + 1 + 1) (0 + 6 + 6 + 6) h 44 lv [] (opQ γ x h (sp_load V s k g n)) (opX V h (sp_load V s k g n) [(eNSE, 1), (eIAE, 2)]) := fun hn lv hlv => by
    have c3 : 0 ≤ g ∧ g < 6 ∧ 1 ≤ n ∧ n ≤ 50 := ⟨cg1.1, cg1.2, hn⟩
    refine J.lc hlv ?_
    first | refine J.aload_n (pc' := 45) rfl rfl rfl ?_ | refine J.aload_nN (pc' := 45) rfl rfl rfl ?_
    first | refine J.getR (pc' := 48) rfl fl_X11_22 rfl (by first | assumption | (simp only [jM.tag_sI, jM.tag_sL, jM.tag_sR, jM.tag_fI, jM.tag_fL, jM.tag_fR]; assumption) | (simp [jM.tag_nw, jM.tag_sI, jM.tag_sL, jM.tag_sR, jM.tag_fI, jM.tag_fL, jM.tag_fR, *]; done)) (by first | assumption | (simp only [jM.R_sI, jM.R_sL, jM.R_fI, jM.R_fL]; assumption) | (simp [jM.R_nw, jM.R_sR, jM.R_fR, jM.R_sI, jM.R_sL, jM.R_fI, jM.R_fL, *]; done)) rfl ?_ | refine J.getRN (pc' := 48) rfl fl_X11_22 rfl (by first | assumption | (simp only [jM.tag_sI, jM.tag_sL, jM.tag_sR, jM.tag_fI, jM.tag_fL, jM.tag_fR]; assumption) | (simp [jM.tag_nw, jM.tag_sI, jM.tag_sL, jM.tag_sR, jM.tag_fI, jM.tag_fL, jM.tag_fR, *]; done)) (by first | assumption | (simp only [jM.R_sI, jM.R_sL, jM.R_fI, jM.R_fL]; assumption) | (simp [jM.R_nw, jM.R_sR, jM.R_fR, jM.R_sI, jM.R_sL, jM.R_fI, jM.R_fL, *]; done)) rfl ?_
    refine J.callV (pc' := 51) (t := 3) rfl MJx4a65c_size_8abf5 ml_X11_60 iv_Jx4a65c_size_8abf5 (by decide) ⟨_, rfl, rfl⟩ (by first | assumption | (simp only [jM.tag_sI, jM.tag_sL, jM.tag_sR, jM.tag_fI, jM.tag_fL, jM.tag_fR]; assumption) | (simp [jM.tag_nw, jM.tag_sI, jM.tag_sL, jM.tag_sR, jM.tag_fI, jM.tag_fL, jM.tag_fR, *]; done)) L3.size rfl rfl (Nat.le_of_ble_eq_true rfl) (by first | omega | (exact R.r _ _) | (simp only [jM.len_sI, jM.len_sL, jM.len_sR, jM.len_fI, jM.len_fL, jM.len_fR]; omega) | (simp [jM.len_nw, jM.len_sI, jM.len_sL, jM.len_sR, jM.len_fI, jM.len_fL, jM.len_fR, *]; omega)) (by first | omega | (exact R.r _ _) | (simp only [jM.len_sI, jM.len_sL, jM.len_sR, jM.len_fI, jM.len_fL, jM.len_fR]; omega) | (simp [jM.len_nw, jM.len_sI, jM.len_sL, jM.len_sR, jM.len_fI, jM.len_fL, jM.len_fR, *]; omega)) (by first | omega | (exact R.r _ _) | (simp only [jM.len_sI, jM.len_sL, jM.len_sR, jM.len_fI, jM.len_fL, jM.len_fR]; omega) | (simp [jM.len_nw, jM.len_sI, jM.len_sL, jM.len_sR, jM.len_fI, jM.len_fL, jM.len_fR, *]; omega)) rfl rfl ?_ ?_
    · exact fun _ _ z => z.elim
    rintro _ h ⟨rfl, rfl⟩
    rw [n3]
    refine J.bipush (pc' := 53) rfl rfl (by decide) ?_
    refine J.icmp_lt (tgt := 59) (pc' := 56) rfl rfl rfl (by first | omega | (exact R.r _ _) | (simp only [jM.len_sI, jM.len_sL, jM.len_sR, jM.len_fI, jM.len_fL, jM.len_fR]; omega) | (simp [jM.len_nw, jM.len_sI, jM.len_sL, jM.len_sR, jM.len_fI, jM.len_fL, jM.len_fR, *]; omega)) (by first | omega | (exact R.r _ _) | (simp only [jM.len_sI, jM.len_sL, jM.len_sR, jM.len_fI, jM.len_fL, jM.len_fR]; omega) | (simp [jM.len_nw, jM.len_sI, jM.len_sL, jM.len_sR, jM.len_fI, jM.len_fL, jM.len_fR, *]; omega)) (fun c4 => ?_) (fun c4 => ?_)
    · first | refine J.aload_n (pc' := 60) rfl rfl rfl ?_ | refine J.aload_nN (pc' := 60) rfl rfl rfl ?_
      refine J.callV (pc' := 63) (t := 15) rfl MX11_layersInAll ml_X11_167 iv_X11_layersInAll (by decide) ⟨_, rfl, rfl⟩ (by first | assumption | (simp only [jM.tag_sI, jM.tag_sL, jM.tag_sR, jM.tag_fI, jM.tag_fL, jM.tag_fR]; assumption) | (simp [jM.tag_nw, jM.tag_sI, jM.tag_sL, jM.tag_sR, jM.tag_fI, jM.tag_fL, jM.tag_fR, *]; done)) (cf_layersInAll hR) rfl rfl (Nat.le_of_ble_eq_true rfl) (by first | omega | (exact R.r _ _) | (simp only [jM.len_sI, jM.len_sL, jM.len_sR, jM.len_fI, jM.len_fL, jM.len_fR]; omega) | (simp [jM.len_nw, jM.len_sI, jM.len_sL, jM.len_sR, jM.len_fI, jM.len_fL, jM.len_fR, *]; omega)) (by first | omega | (exact R.r _ _) | (simp only [jM.len_sI, jM.len_sL, jM.len_sR, jM.len_fI, jM.len_fL, jM.len_fR]; omega) | (simp [jM.len_nw, jM.len_sI, jM.len_sL, jM.len_sR, jM.len_fI, jM.len_fL, jM.len_fR, *]; omega)) (by first | omega | (exact R.r _ _) | (simp only [jM.len_sI, jM.len_sL, jM.len_sR, jM.len_fI, jM.len_fL, jM.len_fR]; omega) | (simp [jM.len_nw, jM.len_sI, jM.len_sL, jM.len_sR, jM.len_fI, jM.len_fL, jM.len_fR, *]; omega)) rfl rfl ?_ ?_
      · exact fun _ _ z => z.elim
      rintro _ h ⟨rfl, rfl⟩
      refine J.bipush (pc' := 65) rfl rfl (by decide) ?_
      refine J.icmp_lt (tgt := 71) (pc' := 68) rfl rfl rfl (by first | omega | (exact R.r _ _) | (simp only [jM.len_sI, jM.len_sL, jM.len_sR, jM.len_fI, jM.len_fL, jM.len_fR]; omega) | (simp [jM.len_nw, jM.len_sI, jM.len_sL, jM.len_sR, jM.len_fI, jM.len_fL, jM.len_fR, *]; omega)) (by first | omega | (exact R.r _ _) | (simp only [jM.len_sI, jM.len_sL, jM.len_sR, jM.len_fI, jM.len_fL, jM.len_fR]; omega) | (simp [jM.len_nw, jM.len_sI, jM.len_sL, jM.len_sR, jM.len_fI, jM.len_fL, jM.len_fR, *]; omega)) (fun c5 => ?_) (fun c5 => ?_)
      · first | refine J.aload_n (pc' := 72) rfl rfl rfl ?_ | refine J.aload_nN (pc' := 72) rfl rfl rfl ?_
        first | refine J.aload (pc' := 74) rfl rfl rfl ?_ | refine J.aloadN (pc' := 74) rfl rfl rfl ?_
        first | refine J.aload_n (pc' := 75) rfl rfl rfl ?_ | refine J.aload_nN (pc' := 75) rfl rfl rfl ?_
        refine J.getI (pc' := 78) rfl fl_X11_55 rfl (by first | assumption | (simp only [jM.tag_sI, jM.tag_sL, jM.tag_sR, jM.tag_fI, jM.tag_fL, jM.tag_fR]; assumption) | (simp [jM.tag_nw, jM.tag_sI, jM.tag_sL, jM.tag_sR, jM.tag_fI, jM.tag_fL, jM.tag_fR, *]; done)) rfl ?_
        rw [x10]
        refine J.callV (pc' := 81) (t := 15) rfl MX11_inForce ml_X11_151 iv_X11_inForce (by decide) ⟨_, rfl, rfl⟩ (by first | assumption | (simp only [jM.tag_sI, jM.tag_sL, jM.tag_sR, jM.tag_fI, jM.tag_fL, jM.tag_fR]; assumption) | (simp [jM.tag_nw, jM.tag_sI, jM.tag_sL, jM.tag_sR, jM.tag_fI, jM.tag_fL, jM.tag_fR, *]; done)) (cf_inForce R as (by constructor <;> omega) hR) rfl rfl (Nat.le_of_ble_eq_true rfl) (by first | omega | (exact R.r _ _) | (simp only [jM.len_sI, jM.len_sL, jM.len_sR, jM.len_fI, jM.len_fL, jM.len_fR]; omega) | (simp [jM.len_nw, jM.len_sI, jM.len_sL, jM.len_sR, jM.len_fI, jM.len_fL, jM.len_fR, *]; omega)) (by first | omega | (exact R.r _ _) | (simp only [jM.len_sI, jM.len_sL, jM.len_sR, jM.len_fI, jM.len_fL, jM.len_fR]; omega) | (simp [jM.len_nw, jM.len_sI, jM.len_sL, jM.len_sR, jM.len_fI, jM.len_fL, jM.len_fR, *]; omega)) (by first | omega | (exact R.r _ _) | (simp only [jM.len_sI, jM.len_sL, jM.len_sR, jM.len_fI, jM.len_fL, jM.len_fR]; omega) | (simp [jM.len_nw, jM.len_sI, jM.len_sL, jM.len_sR, jM.len_fI, jM.len_fL, jM.len_fR, *]; omega)) rfl rfl ?_ ?_
        · exact fun _ _ z => z.elim
        rintro _ h ⟨rfl, ⟨e1, rfl⟩ | ⟨zc, ac, rfl⟩⟩
        · first | refine J.astore (pc' := 83) rfl rfl (by decide) ?_ | refine J.astoreN (pc' := 83) rfl rfl (by decide) ?_
          first | refine J.aload (pc' := 85) rfl rfl rfl ?_ | refine J.aloadN (pc' := 85) rfl rfl rfl ?_
          first | refine J.ifnonnull (tgt := 91) rfl rfl ?_ | refine J.ifnonnullN (pc' := 88) rfl rfl ?_
          refine J.bipush (pc' := 90) rfl rfl (by decide) ?_
          refine J.iret rfl rfl (by first | omega | (exact R.r _ _) | (simp only [jM.len_sI, jM.len_sL, jM.len_sR, jM.len_fI, jM.len_fL, jM.len_fR]; omega) | (simp [jM.len_nw, jM.len_sI, jM.len_sL, jM.len_sR, jM.len_fI, jM.len_fL, jM.len_fR, *]; omega)) (by first | omega | (exact R.r _ _) | (simp only [jM.len_sI, jM.len_sL, jM.len_sR, jM.len_fI, jM.len_fL, jM.len_fR]; omega) | (simp [jM.len_nw, jM.len_sI, jM.len_sL, jM.len_sR, jM.len_fI, jM.len_fL, jM.len_fR, *]; omega)) ?_
          have es : sp_load V s k g n = (-4, V) := by unfold sp_load; rw [if_pos cs1, if_pos ck1, if_pos c3, if_neg (by omega), if_neg (by omega), if_pos (show ldC V s = -1 from e1)]
          rw [es]
          exact same _
        · first | refine J.astore (pc' := 83) rfl rfl (by decide) ?_ | refine J.astoreN (pc' := 83) rfl rfl (by decide) ?_
          first | refine J.aload (pc' := 85) rfl rfl rfl ?_ | refine J.aloadN (pc' := 85) rfl rfl rfl ?_
          first | refine J.ifnonnull (tgt := 91) rfl rfl ?_ | refine J.ifnonnullN (pc' := 88) rfl rfl ?_
          have nz : ldC V s ≠ -1 := fun w => by have := ac.1; unfold ldC at w; omega
          exact cf_ld91 (by omega) (by omega) I h0 hR ⟨cs1, ck1, c3, by omega, by omega, nz⟩ as ak ac r5 hE _ ⟨rfl, rfl, rfl, rfl, rfl, rfl, trivial⟩
      · refine J.bipush (pc' := 70) rfl rfl (by decide) ?_
        refine J.iret rfl rfl (by first | omega | (exact R.r _ _) | (simp only [jM.len_sI, jM.len_sL, jM.len_sR, jM.len_fI, jM.len_fL, jM.len_fR]; omega) | (simp [jM.len_nw, jM.len_sI, jM.len_sL, jM.len_sR, jM.len_fI, jM.len_fL, jM.len_fR, *]; omega)) (by first | omega | (exact R.r _ _) | (simp only [jM.len_sI, jM.len_sL, jM.len_sR, jM.len_fI, jM.len_fL, jM.len_fR]; omega) | (simp [jM.len_nw, jM.len_sI, jM.len_sL, jM.len_sR, jM.len_fI, jM.len_fL, jM.len_fR, *]; omega)) ?_
        have es : sp_load V s k g n = (-3, V) := by unfold sp_load; rw [if_pos cs1, if_pos ck1, if_pos c3, if_neg (by omega), if_pos (by omega)]
        rw [es]
        exact same _
    · refine J.bipush (pc' := 58) rfl rfl (by decide) ?_
      refine J.iret rfl rfl (by first | omega | (exact R.r _ _) | (simp only [jM.len_sI, jM.len_sL, jM.len_sR, jM.len_fI, jM.len_fL, jM.len_fR]; omega) | (simp [jM.len_nw, jM.len_sI, jM.len_sL, jM.len_sR, jM.len_fI, jM.len_fL, jM.len_fR, *]; omega)) (by first | omega | (exact R.r _ _) | (simp only [jM.len_sI, jM.len_sL, jM.len_sR, jM.len_fI, jM.len_fL, jM.len_fR]; omega) | (simp [jM.len_nw, jM.len_sI, jM.len_sL, jM.len_sR, jM.len_fI, jM.len_fL, jM.len_fR, *]; omega)) ?_
      have es : sp_load V s k g n = (-2, V) := by unfold sp_load; rw [if_pos cs1, if_pos ck1, if_pos c3, if_pos (by omega)]
      rw [es]
      exact same _
  first | refine J.astore (pc' := 21) rfl rfl (by decide) ?_ | refine J.astoreN (pc' := 21) rfl rfl (by decide) ?_
  refine J.iload (pc' := 23) rfl rfl rfl ?_
  refine J.iconst (pc' := 24) rfl rfl ?_
  refine J.icmp_lt (tgt := 34) (pc' := 27) rfl rfl rfl (by first | omega | (exact R.r _ _) | (simp only [jM.len_sI, jM.len_sL, jM.len_sR, jM.len_fI, jM.len_fL, jM.len_fR]; omega) | (simp [jM.len_nw, jM.len_sI, jM.len_sL, jM.len_sR, jM.len_fI, jM.len_fL, jM.len_fR, *]; omega)) (by first | omega | (exact R.r _ _) | (simp only [jM.len_sI, jM.len_sL, jM.len_sR, jM.len_fI, jM.len_fL, jM.len_fR]; omega) | (simp [jM.len_nw, jM.len_sI, jM.len_sL, jM.len_sR, jM.len_fI, jM.len_fL, jM.len_fR, *]; omega)) (fun c1 => ?_) (fun c1 => ?_)
  · refine J.throwL (text := "a load has 1 to 50 tons") rfl rfl rfl rfl rfl jThr_IAE (List.mem_of_getElem? (i := 582) (by decide +kernel)) (List.mem_of_getElem? (i := 1010) (by decide +kernel)) rfl (by first | omega | (exact R.r _ _) | (simp only [jM.len_sI, jM.len_sL, jM.len_sR, jM.len_fI, jM.len_fL, jM.len_fR]; omega) | (simp [jM.len_nw, jM.len_sI, jM.len_sL, jM.len_sR, jM.len_fI, jM.len_fL, jM.len_fR, *]; omega)) (Nat.le_of_ble_eq_true rfl) (by first | omega | (exact R.r _ _) | (simp only [jM.len_sI, jM.len_sL, jM.len_sR, jM.len_fI, jM.len_fL, jM.len_fR]; omega) | (simp [jM.len_nw, jM.len_sI, jM.len_sL, jM.len_sR, jM.len_fI, jM.len_fL, jM.len_fR, *]; omega)) (by first | omega | (exact R.r _ _) | (simp only [jM.len_sI, jM.len_sL, jM.len_sR, jM.len_fI, jM.len_fL, jM.len_fR]; omega) | (simp [jM.len_nw, jM.len_sI, jM.len_sL, jM.len_sR, jM.len_fI, jM.len_fL, jM.len_fR, *]; omega)) ?_
    exact bad (by omega)
  · refine J.iload (pc' := 29) rfl rfl rfl ?_
    refine J.bipush (pc' := 31) rfl rfl (by decide) ?_
    refine J.icmp_le (tgt := 44) (pc' := 34) rfl rfl rfl (by first | omega | (exact R.r _ _) | (simp only [jM.len_sI, jM.len_sL, jM.len_sR, jM.len_fI, jM.len_fL, jM.len_fR]; omega) | (simp [jM.len_nw, jM.len_sI, jM.len_sL, jM.len_sR, jM.len_fI, jM.len_fL, jM.len_fR, *]; omega)) (by first | omega | (exact R.r _ _) | (simp only [jM.len_sI, jM.len_sL, jM.len_sR, jM.len_fI, jM.len_fL, jM.len_fR]; omega) | (simp [jM.len_nw, jM.len_sI, jM.len_sL, jM.len_sR, jM.len_fI, jM.len_fL, jM.len_fR, *]; omega)) (fun c2 => ?_) (fun c2 => ?_)
    · exact tail (by omega) _ ⟨rfl, rfl, rfl, rfl, rfl, trivial⟩
    · refine J.throwL (text := "a load has 1 to 50 tons") rfl rfl rfl rfl rfl jThr_IAE (List.mem_of_getElem? (i := 582) (by decide +kernel)) (List.mem_of_getElem? (i := 1010) (by decide +kernel)) rfl (by first | omega | (exact R.r _ _) | (simp only [jM.len_sI, jM.len_sL, jM.len_sR, jM.len_fI, jM.len_fL, jM.len_fR]; omega) | (simp [jM.len_nw, jM.len_sI, jM.len_sL, jM.len_sR, jM.len_fI, jM.len_fL, jM.len_fR, *]; omega)) (Nat.le_of_ble_eq_true rfl) (by first | omega | (exact R.r _ _) | (simp only [jM.len_sI, jM.len_sL, jM.len_sR, jM.len_fI, jM.len_fL, jM.len_fR]; omega) | (simp [jM.len_nw, jM.len_sI, jM.len_sL, jM.len_sR, jM.len_fI, jM.len_fL, jM.len_fR, *]; omega)) (by first | omega | (exact R.r _ _) | (simp only [jM.len_sI, jM.len_sL, jM.len_sR, jM.len_fI, jM.len_fL, jM.len_fR]; omega) | (simp [jM.len_nw, jM.len_sI, jM.len_sL, jM.len_sR, jM.len_fI, jM.len_fL, jM.len_fR, *]; omega)) ?_
      exact bad (by omega)
end FL3

