section FL2
variable {γ : jG} {h h' : jM} {ρ σ : Nat → Nat} {x : Nat} {ks ss cs ls ms : List Nat} {V V' U : VV} {S : Nat → Prop}
theorem gsOk.b {G : List Grd} (hG : gsOk G) : ∀ i m : Nat, i < G.length → m < 5 → r32 (gBl G i m) ∧ r32 (gAl G i m) := fun i m hi _ => by
  have hx : grd G i = G[i] := by unfold grd; rw [Int.toNat_natCast, List.getElem?_eq_getElem hi]; rfl
  have := (hG _ (List.getElem_mem hi)).1.r m
  unfold gBl gAl
  rw [hx]
  exact this
/-- from the grade on: the load is taken -/
theorem cf_ld135 {k3 : jM} {s k n g c : Int} {c1 c2 : Nat} {z sz kz zc sp p a e o : Nat} {ys : List Nat} {P' : Nat → Int} (hc1 : c1 ≤ 20) (hc2 : c2 ≤ 200) (I : Inv V) (h0 : V 16 0 = 0) (hR : RepB γ V h x ρ σ ks ss cs ls ms) (hg0 : 0 ≤ g ∧ g < 6) (hn : 1 ≤ n ∧ n ≤ 50) (hk : 0 ≤ k) (hs : 0 ≤ s) (as : at' ss s sz) (ak : at' ks k kz) (ac : at' cs c zc) (hll : V 16 26 < 100) (r5 : h.R 33 (ρ 5) g.toNat = some p) (hE : hepE γ h ls V g.toNat p a e ys) (zf : h.tag z = 0) (hS0 : isSl h sz o s (oV V s) (V 109 s)) (hLd : isLd k3 z (V 16 26) sz kz n (V 16 3) zc sp P' (grF (ldF V s k) c (V 16 26)) (payF (ldF V s k) c (V 16 26))) (hP' : ∀ j, j < 10 → P' j = lP (ldF V s k) (V 16 26) j) (F3 : Fr h k3 (fun _ => False)) (spf : h.tag sp = 0) (es : sp_load V s k g n = (V 16 26, putV (ldU V s k n c (grF (ldF V s k) c (V 16 26)) (payF (ldF V s k) c (V 16 26))) g n (V 16 26) (payF (ldF V s k) c (V 16 26)) (-1))) {X : String → jM → Prop} : ∀ lv, hasL lv [(0, .ref x), (4, .int (jI n)), (5, .ref sz), (7, .ref p), (9, .ref z)] → J γ mX11_load 8 40 600 c1 c2 k3 135 lv [] (opQ γ x h (sp_load V s k g n)) X := by
  intro lv hlv
  have R := I.1
  have Rf := R.f
  have hR0 := hR
  obtain ⟨a1, a2, a3, a4, a5, a6, a7, a8, a9, a10, a11⟩ := hR0
  obtain ⟨x0, x1, x2, x3, x4, x5, x6, x7, x8, x9, x10⟩ := a1
  obtain ⟨⟨⟨e3, L3⟩, o3⟩, n3, E3⟩ := a5
  have l3 := L3.len
  generalize grF (ldF V s k) c (V 16 26) = G at hLd es
  have hPb : -100000 ≤ payF (ldF V s k) c (V 16 26) ∧ payF (ldF V s k) c (V 16 26) ≤ 100000 := by
    have := (gr_b (R.ld (s := s) (k := k) (l := V 16 26) (m := 5)) c (V 16 26)).2
    unfold ldF
    omega
  generalize payF (ldF V s k) c (V 16 26) = P at hLd es hPb
  obtain ⟨hE1, hE2, hE3, hE4, hE5, hE6⟩ := hE
  have tx3 := F3.tag x0 (by decide)
  have rx3 : k3.R 15 x 3 = some (ρ 3) := by rw [F3.R x0 (by decide) id]; exact x4
  have L33 := L3.keptW F3 id (Or.inl id)
  have t33 := L33.1
  have te33 := L33.2.2.1
  have hLd0 := hLd
  obtain ⟨d1, d2, d3, d4, d5, d6, d7, d8, d9, d10, d11⟩ := hLd0
  refine J.lc hlv ?_
  first | refine J.aload_n (pc' := 136) rfl rfl rfl ?_ | refine J.aload_nN (pc' := 136) rfl rfl rfl ?_
  first | refine J.getR (pc' := 139) rfl fl_X11_22 rfl (by first | assumption | (simp only [jM.tag_sI, jM.tag_sL, jM.tag_sR, jM.tag_fI, jM.tag_fL, jM.tag_fR]; assumption) | (simp [jM.tag_nw, jM.tag_sI, jM.tag_sL, jM.tag_sR, jM.tag_fI, jM.tag_fL, jM.tag_fR, *]; done)) (by first | assumption | (simp only [jM.R_sI, jM.R_sL, jM.R_fI, jM.R_fL]; assumption) | (simp [jM.R_nw, jM.R_sR, jM.R_fR, jM.R_sI, jM.R_sL, jM.R_fI, jM.R_fL, *]; done)) rfl ?_ | refine J.getRN (pc' := 139) rfl fl_X11_22 rfl (by first | assumption | (simp only [jM.tag_sI, jM.tag_sL, jM.tag_sR, jM.tag_fI, jM.tag_fL, jM.tag_fR]; assumption) | (simp [jM.tag_nw, jM.tag_sI, jM.tag_sL, jM.tag_sR, jM.tag_fI, jM.tag_fL, jM.tag_fR, *]; done)) (by first | assumption | (simp only [jM.R_sI, jM.R_sL, jM.R_fI, jM.R_fL]; assumption) | (simp [jM.R_nw, jM.R_sR, jM.R_fR, jM.R_sI, jM.R_sL, jM.R_fI, jM.R_fL, *]; done)) rfl ?_
  first | refine J.aload (pc' := 141) rfl rfl rfl ?_ | refine J.aloadN (pc' := 141) rfl rfl rfl ?_
  refine J.callV (pc' := 144) (t := 3) rfl MJx4a65c_add_9ea2d ml_X11_69 iv_Jx4a65c_add_9ea2d (by decide) ⟨_, rfl, rfl⟩ (by first | assumption | (simp only [jM.tag_sI, jM.tag_sL, jM.tag_sR, jM.tag_fI, jM.tag_fL, jM.tag_fR]; assumption) | (simp [jM.tag_nw, jM.tag_sI, jM.tag_sL, jM.tag_sR, jM.tag_fI, jM.tag_fL, jM.tag_fR, *]; done)) (cl_add (x := z) L33 (fun y hy => by obtain ⟨j, hj, ej⟩ := List.getElem_of_mem hy; obtain ⟨_, _, _, _, w, _⟩ := E3 j y (by rw [List.getElem?_eq_getElem hj, ej]); rw [F3.tag w.1 (by decide)]; rfl) (by omega) (by rw [d1]; rfl) a11.2.2.1) rfl rfl (Nat.le_of_ble_eq_true rfl) (by first | omega | (exact R.r _ _) | (simp only [jM.len_sI, jM.len_sL, jM.len_sR, jM.len_fI, jM.len_fL, jM.len_fR]; omega) | (simp [jM.len_nw, jM.len_sI, jM.len_sL, jM.len_sR, jM.len_fI, jM.len_fL, jM.len_fR, *]; omega)) (by first | omega | (exact R.r _ _) | (simp only [jM.len_sI, jM.len_sL, jM.len_sR, jM.len_fI, jM.len_fL, jM.len_fR]; omega) | (simp [jM.len_nw, jM.len_sI, jM.len_sL, jM.len_sR, jM.len_fI, jM.len_fL, jM.len_fR, *]; omega)) (by first | omega | (exact R.r _ _) | (simp only [jM.len_sI, jM.len_sL, jM.len_sR, jM.len_fI, jM.len_fL, jM.len_fR]; omega) | (simp [jM.len_nw, jM.len_sI, jM.len_sL, jM.len_sR, jM.len_fI, jM.len_fL, jM.len_fR, *]; omega)) rfl rfl ?_ ?_
  · exact fun _ _ z => z.elim
  rintro _ k4 ⟨rfl, e4, L4, g2, g3, g4⟩
  have F4 : Fr h k4 (lW h (ρ 3) e3) := F3.trans g3 (fun b hb w => by
    rcases w with w | w | w
    · exact w.elim
    · exact Or.inl w
    · exact Or.inr ⟨w.1, by rw [← F3.len (by have := L3.2.2.1; omega)]; exact w.2⟩)
  have nw4 : ∀ b, (k3.tag b ≠ 3 ∧ k3.tag b ≠ 34) → ¬ lW k3 (ρ 3) e3 b := fun b hb w => by
    rcases w with w | w
    · rw [w] at hb; omega
    · rw [w.1] at hb; omega
  have nwh : ∀ b, (h.tag b ≠ 3 ∧ h.tag b ≠ 34) → ¬ lW h (ρ 3) e3 b := fun b hb w => by
    have := L3.1
    have := L3.2.2.1
    rcases w with w | w
    · rw [w] at hb; omega
    · rw [w.1] at hb; omega
  have hLd4 : isLd k4 z (V 16 26) sz kz n (V 16 3) zc sp P' G P := hLd.kept g3 (nw4 _ (by omega)) (nw4 _ (by have := d9.1.1; omega)) (nw4 _ (by have := d9.1.2.2.1; omega))
  have hS4 : isSl k4 sz o s (oV V s) (V 109 s) := hS0.kept F4 (nwh _ (by have := hS0.1; omega)) (nwh _ (by have := hS0.2.2.2.1; omega))
  have ts4 := hS4.1
  have pd4 := hS4.2.2.2.2.2.2.1
  have tz4 := hLd4.1
  have py4 := hLd4.2.2.2.2.2.2.2.2.2.2
  refine J.pop (pc' := 145) rfl rfl rfl ?_
  first | refine J.aload (pc' := 147) rfl rfl rfl ?_ | refine J.aloadN (pc' := 147) rfl rfl rfl ?_
  refine J.dup (pc' := 148) rfl rfl rfl ?_
  refine J.getL (pc' := 151) rfl fl_X11_181 rfl (by first | assumption | (simp only [jM.tag_sI, jM.tag_sL, jM.tag_sR, jM.tag_fI, jM.tag_fL, jM.tag_fR]; assumption) | (simp [jM.tag_nw, jM.tag_sI, jM.tag_sL, jM.tag_sR, jM.tag_fI, jM.tag_fL, jM.tag_fR, *]; done)) rfl ?_
  rw [pd4]
  refine J.iload (pc' := 153) rfl rfl rfl ?_
  refine J.i2l (pc' := 154) rfl rfl (by first | omega | (exact R.r _ _) | (simp only [jM.len_sI, jM.len_sL, jM.len_sR, jM.len_fI, jM.len_fL, jM.len_fR]; omega) | (simp [jM.len_nw, jM.len_sI, jM.len_sL, jM.len_sR, jM.len_fI, jM.len_fL, jM.len_fR, *]; omega)) ?_
  first | refine J.aload (pc' := 156) rfl rfl rfl ?_ | refine J.aloadN (pc' := 156) rfl rfl rfl ?_
  refine J.getI (pc' := 159) rfl fl_X11_185 rfl (by first | assumption | (simp only [jM.tag_sI, jM.tag_sL, jM.tag_sR, jM.tag_fI, jM.tag_fL, jM.tag_fR]; assumption) | (simp [jM.tag_nw, jM.tag_sI, jM.tag_sL, jM.tag_sR, jM.tag_fI, jM.tag_fL, jM.tag_fR, *]; done)) rfl ?_
  rw [py4]
  refine J.i2l (pc' := 160) rfl rfl (by first | omega | (exact R.r _ _) | (simp only [jM.len_sI, jM.len_sL, jM.len_sR, jM.len_fI, jM.len_fL, jM.len_fR]; omega) | (simp [jM.len_nw, jM.len_sI, jM.len_sL, jM.len_sR, jM.len_fI, jM.len_fL, jM.len_fR, *]; omega)) ?_
  refine J.lmul (pc' := 161) rfl rfl ?_
  refine J.ladd (pc' := 162) rfl rfl ?_
  refine J.putL (pc' := 165) rfl fl_X11_181 rfl (Or.inl rfl) (by first | assumption | (simp only [jM.tag_sI, jM.tag_sL, jM.tag_sR, jM.tag_fI, jM.tag_fL, jM.tag_fR]; assumption) | (simp [jM.tag_nw, jM.tag_sI, jM.tag_sL, jM.tag_sR, jM.tag_fI, jM.tag_fL, jM.tag_fR, *]; done)) (Or.inl rfl) rfl ?_
  -- the seller is paid
  have hS5 : isSl (k4.sL 13 sz 2 (V 109 s + n * P)) sz o s (oV V s) (V 109 s + n * P) := by
    obtain ⟨b1, b2, b3, b4, b5, b6, b7, b8⟩ := hS4
    exact ⟨b1, b2, b3, b4, b5, b6, by rw [jM.L_sL, if_pos ⟨rfl, rfl, rfl⟩], b8⟩
  have f5 : Fr k4 (k4.sL 13 sz 2 (V 109 s + n * P)) (fun b => b = sz) := Fr.sL
  generalize k4.sL 13 sz 2 (V 109 s + n * P) = k5 at hS5 f5 ⊢
  have F5 : Fr h k5 (fun b => lW h (ρ 3) e3 b ∨ b = sz) := F4.trans f5 (fun b _ w => w)
  have hLd5 : isLd k5 z (V 16 26) sz kz n (V 16 3) zc sp P' G P := hLd4.kept f5 (fun w => by rw [w] at tz4; omega) (fun w => by have := hLd4.2.2.2.2.2.2.2.2.1.1.1; rw [w] at this; omega) (fun w => by have := hLd4.2.2.2.2.2.2.2.2.1.1.2.2.1; rw [w] at this; omega)
  have L5 : isL γ k5 (ρ 3) e4 (ls ++ [z]) := L4.keptW f5 (fun w => by have := L4.1; rw [w] at this; omega) (Or.inl (fun w => by have := L4.2.2.1; rw [w] at this; omega))
  have nw5 : ∀ b, h.tag b = 8 ∨ h.tag b = 10 ∨ h.tag b = 14 ∨ h.tag b = 20 ∨ h.tag b = 33 → ¬ (lW h (ρ 3) e3 b ∨ b = sz) := fun b hb w => by
    rcases w with w | w
    · exact nwh b (by omega) w
    · rw [w, hS0.1] at hb; omega
  have tp5 := F5.tag hE1 (by decide)
  have rp5 : k5.R 8 p 0 = some a := by rw [F5.R hE1 (by decide) (nw5 _ (by omega))]; exact hE2
  have haρ : a ≠ ρ 3 := fun w => by rw [w, o3] at hE4; exact absurd (Option.some.inj hE4) (by omega)
  have LA5 : isLs γ k5 a e ys := by
    refine hE3.kept F5 (fun w => ?_) ?_ (fun y hy => ⟨by have := hE6.tag hy; omega, nw5 _ (by have := hE6.tag hy; omega)⟩)
    · rcases w with (w | w) | w
      · exact haρ w
      · have := hE3.1.1; have := L3.2.2.1; rw [w.1] at *; omega
      · have := hE3.1.1; rw [w, hS0.1] at this; omega
    · rcases L3.ne hE3.1 haρ with w | w
      · refine Or.inl (fun q => ?_)
        rcases q with (q | q) | q
        · have := hE3.1.2.2.1; rw [q, L3.1] at this; omega
        · exact w q.1
        · have := hE3.1.2.2.1; rw [q, hS0.1] at this; omega
      · exact Or.inr w
  have Y5 := hE6.kept F5 (fun y _ b hb _ => nw5 b (by omega))
  refine J.lc (lv' := [(0, .ref x), (4, .int (jI n)), (5, .ref sz), (7, .ref p), (9, .ref z)]) (by repeat' (first | exact trivial | refine ⟨rfl, ?_⟩)) ?_
  first | refine J.aload (pc' := 167) rfl rfl rfl ?_ | refine J.aloadN (pc' := 167) rfl rfl rfl ?_
  first | refine J.getR (pc' := 170) rfl fl_X11_188 rfl (by first | assumption | (simp only [jM.tag_sI, jM.tag_sL, jM.tag_sR, jM.tag_fI, jM.tag_fL, jM.tag_fR]; assumption) | (simp [jM.tag_nw, jM.tag_sI, jM.tag_sL, jM.tag_sR, jM.tag_fI, jM.tag_fL, jM.tag_fR, *]; done)) (by first | assumption | (simp only [jM.R_sI, jM.R_sL, jM.R_fI, jM.R_fL]; assumption) | (simp [jM.R_nw, jM.R_sR, jM.R_fR, jM.R_sI, jM.R_sL, jM.R_fI, jM.R_fL, *]; done)) rfl ?_ | refine J.getRN (pc' := 170) rfl fl_X11_188 rfl (by first | assumption | (simp only [jM.tag_sI, jM.tag_sL, jM.tag_sR, jM.tag_fI, jM.tag_fL, jM.tag_fR]; assumption) | (simp [jM.tag_nw, jM.tag_sI, jM.tag_sL, jM.tag_sR, jM.tag_fI, jM.tag_fL, jM.tag_fR, *]; done)) (by first | assumption | (simp only [jM.R_sI, jM.R_sL, jM.R_fI, jM.R_fL]; assumption) | (simp [jM.R_nw, jM.R_sR, jM.R_fR, jM.R_sI, jM.R_sL, jM.R_fI, jM.R_fL, *]; done)) rfl ?_
  refine J.new (pc' := 173) (t := 10) (N := 4) (n := 4) rfl ⟨by decide, by decide, _, rfl, rfl, List.mem_of_getElem? (i := 493) (by decide +kernel), List.mem_of_getElem? (i := 1086) (by decide +kernel), List.mem_of_getElem? (i := 96) (by decide +kernel)⟩ (by first | omega | (exact R.r _ _) | (simp only [jM.len_sI, jM.len_sL, jM.len_sR, jM.len_fI, jM.len_fL, jM.len_fR]; omega) | (simp [jM.len_nw, jM.len_sI, jM.len_sL, jM.len_sR, jM.len_fI, jM.len_fL, jM.len_fR, *]; omega)) (by first | omega | (exact R.r _ _) | (simp only [jM.len_sI, jM.len_sL, jM.len_sR, jM.len_fI, jM.len_fL, jM.len_fR]; omega) | (simp [jM.len_nw, jM.len_sI, jM.len_sL, jM.len_sR, jM.len_fI, jM.len_fL, jM.len_fR, *]; omega)) rfl (fun y yf yb => ?_)
  refine J.own y 0 (some y) (J.own y 1 (some a) ?_)
  have f6 : Fr k5 (((k5.nw y 10 4).sR 0 y 0 (some y)).sR 0 y 1 (some a)) (fun _ => False) := Fr.stH (Fr.stO (Fr.nw (by decide) yf) yf) (Or.inr yf)
  have ty6 : (((k5.nw y 10 4).sR 0 y 0 (some y)).sR 0 y 1 (some a)).tag y = 10 := by rw [jM.tag_sR, jM.tag_sR, jM.tag_nw, if_pos rfl]
  have oy6 : ow (((k5.nw y 10 4).sR 0 y 0 (some y)).sR 0 y 1 (some a)) y = some y := by show (((k5.nw y 10 4).sR 0 y 0 (some y)).sR 0 y 1 (some a)).R 0 y 0 = _; rw [jM.R_sR, if_neg (by omega), jM.R_sR, if_pos ⟨rfl, rfl, rfl⟩]
  have yf0 : h.tag y = 0 := F5.free yf
  generalize ((k5.nw y 10 4).sR 0 y 0 (some y)).sR 0 y 1 (some a) = k6 at f6 ty6 oy6 ⊢
  have hLd6 := hLd5.kept f6 id id id
  have tz6 := hLd6.1
  have py6 := hLd6.2.2.2.2.2.2.2.2.2.2
  have rs6 := hLd6.2.2.2.2.2.2.2.1
  have os6 := hLd6.2.2.2.2.2.2.2.2.1
  refine J.dup (pc' := 174) rfl rfl rfl ?_
  refine J.iload (pc' := 176) rfl rfl rfl ?_
  first | refine J.aload (pc' := 178) rfl rfl rfl ?_ | refine J.aloadN (pc' := 178) rfl rfl rfl ?_
  first | refine J.aload (pc' := 180) rfl rfl rfl ?_ | refine J.aloadN (pc' := 180) rfl rfl rfl ?_
  refine J.getI (pc' := 183) rfl fl_X11_185 rfl (by first | assumption | (simp only [jM.tag_sI, jM.tag_sL, jM.tag_sR, jM.tag_fI, jM.tag_fL, jM.tag_fR]; assumption) | (simp [jM.tag_nw, jM.tag_sI, jM.tag_sL, jM.tag_sR, jM.tag_fI, jM.tag_fL, jM.tag_fR, *]; done)) rfl ?_
  rw [py6]
  first | refine J.aload (pc' := 185) rfl rfl rfl ?_ | refine J.aloadN (pc' := 185) rfl rfl rfl ?_
  first | refine J.getR (pc' := 188) rfl fl_X11_193 rfl (by first | assumption | (simp only [jM.tag_sI, jM.tag_sL, jM.tag_sR, jM.tag_fI, jM.tag_fL, jM.tag_fR]; assumption) | (simp [jM.tag_nw, jM.tag_sI, jM.tag_sL, jM.tag_sR, jM.tag_fI, jM.tag_fL, jM.tag_fR, *]; done)) (by first | assumption | (simp only [jM.R_sI, jM.R_sL, jM.R_fI, jM.R_fL]; assumption) | (simp [jM.R_nw, jM.R_sR, jM.R_fR, jM.R_sI, jM.R_sL, jM.R_fI, jM.R_fL, *]; done)) rfl ?_ | refine J.getRN (pc' := 188) rfl fl_X11_193 rfl (by first | assumption | (simp only [jM.tag_sI, jM.tag_sL, jM.tag_sR, jM.tag_fI, jM.tag_fL, jM.tag_fR]; assumption) | (simp [jM.tag_nw, jM.tag_sI, jM.tag_sL, jM.tag_sR, jM.tag_fI, jM.tag_fL, jM.tag_fR, *]; done)) (by first | assumption | (simp only [jM.R_sI, jM.R_sL, jM.R_fI, jM.R_fL]; assumption) | (simp [jM.R_nw, jM.R_sR, jM.R_fR, jM.R_sI, jM.R_sL, jM.R_fI, jM.R_fL, *]; done)) rfl ?_
  refine J.callI (pc' := 191) rfl MX6_init ml_X11_194 iv_X6_init ⟨rfl, rfl⟩ (cl_init (n := n) (c := P) (ld := some z) ty6 os6) rfl rfl (Nat.le_of_ble_eq_true rfl) (by first | omega | (exact R.r _ _) | (simp only [jM.len_sI, jM.len_sL, jM.len_sR, jM.len_fI, jM.len_fL, jM.len_fR]; omega) | (simp [jM.len_nw, jM.len_sI, jM.len_sL, jM.len_sR, jM.len_fI, jM.len_fL, jM.len_fR, *]; omega)) (by first | omega | (exact R.r _ _) | (simp only [jM.len_sI, jM.len_sL, jM.len_sR, jM.len_fI, jM.len_fL, jM.len_fR]; omega) | (simp [jM.len_nw, jM.len_sI, jM.len_sL, jM.len_sR, jM.len_fI, jM.len_fL, jM.len_fR, *]; omega)) (by first | omega | (exact R.r _ _) | (simp only [jM.len_sI, jM.len_sL, jM.len_sR, jM.len_fI, jM.len_fL, jM.len_fR]; omega) | (simp [jM.len_nw, jM.len_sI, jM.len_sL, jM.len_sR, jM.len_fI, jM.len_fL, jM.len_fR, *]; omega)) rfl ?_
  rintro _ k7 ⟨rfl, s2, sf2, w1, w2, w3, w4, w5, f7, m7⟩
  have F6 : Fr h k6 (fun b => lW h (ρ 3) e3 b ∨ b = sz) := F5.trans f6 (fun b _ w => w.elim id False.elim)
  have F7 : Fr h k7 (fun b => lW h (ρ 3) e3 b ∨ b = sz) := F6.trans f7 (fun b hb w => by
    rcases w with w | w
    · exact w
    · rw [w] at hb; exact absurd yf0 hb)
  have ty7 := f7.tag ty6 (by decide)
  have Y7 : isY k7 y n (some z) P P' := ⟨ty7, by rw [f7.ow (by omega)]; exact oy6, w4, w3, w5, s2, w2, w1⟩
  refine J.own y 1 (some a) ?_
  have f8 : Fr k7 (k7.sR 0 y 1 (some a)) (fun u => u = y) := Fr.stH Fr.rf (Or.inl rfl)
  have Y8 : isY (k7.sR 0 y 1 (some a)) y n (some z) P P' := by
    obtain ⟨q1, q0, q2, q3, q4, qs, q5, q6⟩ := Y7
    refine ⟨q1, ?_, q2, ?_, q4, qs, ?_, q6.kept1 f8 (by omega)⟩
    · show (k7.sR 0 y 1 (some a)).R 0 y 0 = _
      rw [jM.R_sR, if_neg (by omega)]; exact q0
    · rw [jM.R_sR, if_neg (by omega)]; exact q3
    · rw [jM.R_sR, if_neg (by omega)]; exact q5
  have ho8 : ho (k7.sR 0 y 1 (some a)) y = some a := by show (k7.sR 0 y 1 (some a)).R 0 y 1 = _; rw [jM.R_sR, if_pos ⟨rfl, rfl, rfl⟩]
  have F78 : Fr k5 (k7.sR 0 y 1 (some a)) (fun u => u = y) := (f6.trans f7 (W := fun u => u = y) (fun b _ w => w.elim False.elim id)).trans f8 (fun b _ w => w.elim id id)
  have F8 : Fr h (k7.sR 0 y 1 (some a)) (fun b => lW h (ρ 3) e3 b ∨ b = sz) := F7.trans f8 (fun b hb w => by
    rcases w with w | w
    · exact w
    · rw [w] at hb; exact absurd yf0 hb)
  generalize k7.sR 0 y 1 (some a) = k8 at f8 Y8 ho8 F78 F8 ⊢
  have ny : ∀ b, k5.tag b ≠ 0 → ¬ b = y := fun b hb w => hb (by rw [w]; exact yf)
  have hLd8 := hLd5.kept F78 (ny _ (by have := hLd5.1; omega)) (ny _ (by have := hLd5.2.2.2.2.2.2.2.2.1.1.1; omega)) (ny _ (by have := hLd5.2.2.2.2.2.2.2.2.1.1.2.2.1; omega))
  have hS8 := hS5.kept F78 (ny _ (by have := hS5.1; omega)) (ny _ (by have := hS5.2.2.2.1; omega))
  have L8 := L5.keptW F78 (ny _ (by have := L5.1; omega)) (Or.inl (ny _ (by have := L5.2.2.1; omega)))
  have LA8 : isLs γ k8 a e ys := LA5.kept F78 (ny _ (by have := LA5.1.1; omega)) (Or.inl (ny _ (by have := LA5.1.2.2.1; omega))) (fun u hu => ⟨by have := Y5.tag hu; omega, ny _ (by have := Y5.tag hu; omega)⟩)
  have Y5' := Y5.kept F78 (fun u hu b hb _ => ny b (by omega))
  have ty8 := Y8.1
  have ta8 := LA8.1.1
  have te8 := LA8.1.2.2.1
  have hlen8 : (ys.length : Int) ≤ 40 := by have q : V 138 ((g.toNat : Nat) : Int) ≤ 40 := (R 138 _ rfl).2; omega
  refine J.callV (pc' := 194) (t := 3) rfl MJx4a65c_add_9ea2d ml_X11_69 iv_Jx4a65c_add_9ea2d (by decide) ⟨_, rfl, rfl⟩ (by first | assumption | (simp only [jM.tag_sI, jM.tag_sL, jM.tag_sR, jM.tag_fI, jM.tag_fL, jM.tag_fR]; assumption) | (simp [jM.tag_nw, jM.tag_sI, jM.tag_sL, jM.tag_sR, jM.tag_fI, jM.tag_fL, jM.tag_fR, *]; done)) (cl_add (x := y) LA8.1 (fun u hu => by rw [Y5'.tag hu]; rfl) (by omega) (by rw [ty8]; rfl) a11.2.2.1) rfl rfl (Nat.le_of_ble_eq_true rfl) (by first | omega | (exact R.r _ _) | (simp only [jM.len_sI, jM.len_sL, jM.len_sR, jM.len_fI, jM.len_fL, jM.len_fR]; omega) | (simp [jM.len_nw, jM.len_sI, jM.len_sL, jM.len_sR, jM.len_fI, jM.len_fL, jM.len_fR, *]; omega)) (by first | omega | (exact R.r _ _) | (simp only [jM.len_sI, jM.len_sL, jM.len_sR, jM.len_fI, jM.len_fL, jM.len_fR]; omega) | (simp [jM.len_nw, jM.len_sI, jM.len_sL, jM.len_sR, jM.len_fI, jM.len_fL, jM.len_fR, *]; omega)) (by first | omega | (exact R.r _ _) | (simp only [jM.len_sI, jM.len_sL, jM.len_sR, jM.len_fI, jM.len_fL, jM.len_fR]; omega) | (simp [jM.len_nw, jM.len_sI, jM.len_sL, jM.len_sR, jM.len_fI, jM.len_fL, jM.len_fR, *]; omega)) rfl rfl ?_ ?_
  · exact fun _ _ z => z.elim
  rintro _ k9 ⟨rfl, e9, LA9, g9, h9, m9⟩
  have hyn : y ∉ ys := fun hu => by have := hE6.tag hu; omega
  have nw9 : ∀ b, (k8.tag b ≠ 3 ∧ k8.tag b ≠ 34) → ¬ lW k8 a e b := fun b hb w => by
    rcases w with w | w
    · rw [w] at hb; omega
    · rw [w.1] at hb; omega
  have hLd9 := hLd8.kept h9 (nw9 _ (by have := hLd8.1; omega)) (nw9 _ (by have := hLd8.2.2.2.2.2.2.2.2.1.1.1; omega)) (nw9 _ (by have := hLd8.2.2.2.2.2.2.2.2.1.1.2.2.1; omega))
  have hS9 := hS8.kept h9 (nw9 _ (by have := hS8.1; omega)) (nw9 _ (by have := hS8.2.2.2.1; omega))
  have ne83 := LA8.1.ne L8 (fun w => haρ w.symm)
  have L9 : isL γ k9 (ρ 3) e4 (ls ++ [z]) := by
    refine L8.keptW h9 (fun w => ?_) ?_
    · rcases w with w | w
      · exact haρ w.symm
      · have := L8.1; rw [w.1, te8] at this; omega
    · rcases ne83 with w | w
      · refine Or.inl (fun q => ?_)
        rcases q with q | q
        · have := L8.2.2.1; rw [q, ta8] at this; omega
        · exact w q.1
      · exact Or.inr w
  have Fw0 : Fr h k9 (fun b => (lW h (ρ 3) e3 b ∨ b = sz) ∨ lW h a e b) := F8.trans h9 (fun b hb w => by
    rcases w with w | w | w
    · exact Or.inl w
    · exact Or.inr (Or.inl w)
    · exact Or.inr (Or.inr ⟨w.1, by rw [← F8.len (by have := hE3.1.2.2.1; omega)]; exact w.2⟩))
  have Fw : FrC h k9 (fun c => c = 5003 ∨ c = 13 ∨ c = 5010 + g.toNat) := Fw0.mono (fun b _ w => by
    rcases w with (w | w) | w
    · exact Or.inl (lW_kc L3 o3 w)
    · rw [w]; exact Or.inr (Or.inl (kc_o hS0.1 (by decide)))
    · exact Or.inr (Or.inr ((lW_kc hE3.1 hE4 w).trans (by omega))))
  have LA9' : isLs γ k9 a e9 (ys ++ [y]) := ⟨LA9, by rw [List.nodup_append]; exact ⟨LA8.2.1, by simp, fun u hu w hw => by simp at hw; rw [hw]; exact fun q => hyn (by rw [← q]; exact hu)⟩, fun u hu => by
    rw [List.mem_append] at hu
    rcases hu with hu | hu
    · rw [h9.ho (by have := Y5'.tag hu; omega) (nw9 _ (by have := Y5'.tag hu; omega))]; exact LA8.2.2 u hu
    · simp at hu
      rw [hu, h9.ho (by omega) (nw9 _ (by omega))]; exact ho8⟩
  have tz9 := hLd9.1
  have nm9 := hLd9.2.1
  refine J.pop (pc' := 195) rfl rfl rfl ?_
  first | refine J.aload (pc' := 197) rfl rfl rfl ?_ | refine J.aloadN (pc' := 197) rfl rfl rfl ?_
  refine J.getI (pc' := 200) rfl fl_X11_197 rfl (by first | assumption | (simp only [jM.tag_sI, jM.tag_sL, jM.tag_sR, jM.tag_fI, jM.tag_fL, jM.tag_fR]; assumption) | (simp [jM.tag_nw, jM.tag_sI, jM.tag_sL, jM.tag_sR, jM.tag_fI, jM.tag_fL, jM.tag_fR, *]; done)) rfl ?_
  rw [nm9]
  refine J.iret rfl rfl (by first | omega | (exact R.r _ _) | (simp only [jM.len_sI, jM.len_sL, jM.len_sR, jM.len_fI, jM.len_fL, jM.len_fR]; omega) | (simp [jM.len_nw, jM.len_sI, jM.len_sL, jM.len_sR, jM.len_fI, jM.len_fL, jM.len_fR, *]; omega)) (by first | omega | (exact R.r _ _) | (simp only [jM.len_sI, jM.len_sL, jM.len_sR, jM.len_fI, jM.len_fL, jM.len_fR]; omega) | (simp [jM.len_nw, jM.len_sI, jM.len_sL, jM.len_sR, jM.len_fI, jM.len_fL, jM.len_fR, *]; omega)) ?_
  rw [es]
  have hv0 : putV (ldU V s k n c G P) g n (V 16 26) P (-1) 16 0 = 0 := by rw [putV_o (by decide), ldU_sc (by decide) (by decide) (by decide)]; exact h0
  refine ⟨rfl, hv0, ?_, Fw.mono (fun b _ w => by have w : kc h b = 5003 ∨ kc h b = 13 ∨ kc h b = 5010 + g.toNat := w; show kc h b ≠ 16 ∧ kc h b < 9000; omega)⟩
  have eg : ((g.toNat : Nat) : Int) = g := by omega
  have fin := ld_yes (G := G) (P := P) (c := c) (s := s) (k := k) (n := n) (g := g.toNat) (z := z) (y := y) I hR (by omega) hk hs as ak ac r5 ⟨hE1, hE2, hE3, hE4, hE5, hE6⟩ Fw L9 hLd9 hP' ?_ LA9' (Y5'.kept h9 (fun u hu b hb _ => nw9 b (by omega))) (Y8.keptT h9 (fun b hb _ => nw9 b (by omega)))
  · rw [eg] at fin
    exact fin
  · intro j u hu
    show ∃ o, isSl k9 u o j (oV V j) (if (j : Int) = s then V 109 s + n * P else V 109 j)
    by_cases q : (j : Int) = s
    · have eu : u = sz := by
        have := as.2
        rw [show s.toNat = j by omega, hu] at this
        exact Option.some.inj this
      rw [if_pos q, eu, q]
      exact ⟨o, hS9⟩
    · rw [if_neg q]
      obtain ⟨o', w'⟩ := a3.2.2 j u hu
      have hn' : u ≠ sz := fun w => by
        have e1 := w'.2.1
        rw [w, hS0.2.1] at e1
        exact q e1.symm
      have nwx : ∀ b, (h.tag b ≠ 3 ∧ h.tag b ≠ 34) → b ≠ sz → ¬ ((lW h (ρ 3) e3 b ∨ b = sz) ∨ lW h a e b) := fun b hb hb2 w => by
        rcases w with (w | w) | w
        · exact nwh b hb w
        · exact hb2 w
        · have := hE3.1.1
          have := hE3.1.2.2.1
          rcases w with w | w
          · rw [w] at hb; omega
          · rw [w.1] at hb; omega
      exact ⟨o', w'.kept Fw0 (nwx _ (by have := w'.1; omega) hn') (nwx _ (by have := w'.2.2.2.1; omega) (fun w => by have := w'.2.2.2.1; rw [w, hS0.1] at this; omega))⟩
end FL2

