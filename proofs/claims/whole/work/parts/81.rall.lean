theorem isCt.keptW {γ : jG} {h h' : jM} {W : Nat → Prop} {c g e : Nat} {gl : List Nat} {GB GA : Int → Int → Int} {GP : Int → Int} {ep : Int} (F : Fr h h' W) (hC : isCt γ h c g e gl GB GA GP ep) (h1 : ¬ W c) (h2 : ¬ W g) (h3 : ¬ W e ∨ h.len e = 0) (h4 : ∀ b, (h.tag b = 7 ∨ h.tag b = 22 ∨ h.tag b = 23) → ¬ W b) : isCt γ h' c g e gl GB GA GP ep := by
  obtain ⟨a1, a2, a3, a4, a5⟩ := hC
  refine ⟨F.tag a1 (by omega), by rw [F.R a1 (by omega) h1]; exact a2, a3.keptW F h2 h3, by rw [F.I a1 (by omega) h1]; exact a4, fun i x hx => ?_⟩
  obtain ⟨p1, p2, hG⟩ := a5 i x hx
  exact ⟨p1, p2, hG.kept F (h4 _ (Or.inl hG.1)) (h4 _ (Or.inr (Or.inl hG.2.2.1))) (h4 _ (Or.inr (Or.inr hG.2.2.2.2.2.2.1)))⟩
def grd (G : List Grd) (i : Int) : Grd := (G[i.toNat]?).getD ([], 0)
def gBl (G : List Grd) : Int → Int → Int := fun i => gB (grd G i).1
def gAl (G : List Grd) : Int → Int → Int := fun i => gA (grd G i).1
def gPl (G : List Grd) : Int → Int := fun i => (grd G i).2
theorem grd_app {G : List Grd} {x : Grd} {i : Nat} (h : i < G.length) : grd (G ++ [x]) i = grd G i := by
  unfold grd
  rw [Int.toNat_natCast, List.getElem?_append_left h]
theorem grd_last {G : List Grd} {x : Grd} : grd (G ++ [x]) (G.length : Nat) = x := by
  unfold grd
  rw [Int.toNat_natCast, List.getElem?_append_right (Nat.le_refl _), Nat.sub_self]
  rfl
def gsOk (G : List Grd) : Prop := ∀ x ∈ G, tOk x.1 ∧ (0 ≤ x.2 ∧ x.2 ≤ 99999)
section RA
variable {γ : jG} {h : jM} {rd s e c gg ge : Nat} {n : Int} {T : Int → Int}
/-- the contract as read so far -/
def cGs (γ : jG) (h k : jM) (c gg ge : Nat) (gs : List Nat) (G : List Grd) (ep : Int) : Prop := isCt γ k c gg ge gs (gBl G) (gAl G) (gPl G) ep ∧ gs.length = G.length ∧ gsOk G ∧ (k.I 5 c 0 = h.I 5 c 0 ∧ k.R 5 c 1 = h.R 5 c 1 ∧ k.I 5 c 2 = h.I 5 c 2)
abbrev alW (rd c gg : Nat) : Nat → Prop := fun b => b = rd ∨ b = c ∨ b = gg
def alQ (γ : jG) (h : jM) (rd s e : Nat) (n : Int) (T : Int → Int) (c gg : Nat) (res : Int ⊕ (List Grd × Int)) : Option Value → jM → Prop := fun r h' => Fr h h' (alW rd c gg) ∧ Nt h h' [1, 7, 22, 23, 34, 35] ∧ match res with
  | .inl er => r = some (.int (jI 0)) ∧ ∃ p' nm', isRd h' rd s e n T c p' er nm'
  | .inr (G, ep) => r = some (.int (jI 1)) ∧ ∃ ge' gs, cGs γ h h' c gg ge' gs G ep ∧ (h.tag ge' = 0 ∨ ge' = γ.K 0)
theorem cr_end {mc ms c1 c2 : Nat} {k : jM} {q pl nm : Int} {G : List Grd} {gs : List Nat} {ep : Int} (hc1 : c1 ≤ mc) (hc2 : c2 ≤ ms) (b1 : isRd k rd s e n T c q pl nm) (b2 : cGs γ h k c gg ge gs G ep) (b3 : Fr h k (alW rd c gg)) (b4 : Nt h k [1, 7, 22, 23, 34, 35]) (hge : h.tag ge = 0 ∨ ge = γ.K 0) : ∀ lv, hasL lv [(0, .ref rd)] → J γ mX2_readsAll 9 mc ms c1 c2 k 61 lv [] (alQ γ h rd s e n T c gg (if sk T n q = n then .inr (G, ep) else .inl (sk T n q))) X0 := by
  intro lv hlv
  have tr := b1.1
  have hbn := b1.bnd
  have skb := sk_b (T := T) b1.2.2.2.2.2.2.2.2
  refine J.lc hlv ?_
  first | refine J.aload_n (pc' := 62) rfl rfl rfl ?_ | refine J.aload_nN (pc' := 62) rfl rfl rfl ?_
  refine J.callV (pc' := 65) (t := 6) rfl MX2_skipBlanks ml_X2_49 iv_X2_skipBlanks (by decide) ⟨_, rfl, rfl⟩ (by first | assumption | (simp only [jM.tag_sI, jM.tag_sL, jM.tag_sR, jM.tag_fI, jM.tag_fL, jM.tag_fR]; assumption) | (simp [jM.tag_nw, jM.tag_sI, jM.tag_sL, jM.tag_sR, jM.tag_fI, jM.tag_fL, jM.tag_fR, *]; done)) (cr_skip b1) rfl rfl (Nat.le_of_ble_eq_true rfl) (by first | omega | (exact R.r _ _) | (simp only [jM.len_sI, jM.len_sL, jM.len_sR, jM.len_fI, jM.len_fL, jM.len_fR]; omega) | (simp [jM.len_nw, jM.len_sI, jM.len_sL, jM.len_sR, jM.len_fI, jM.len_fL, jM.len_fR, *]; omega)) (by first | omega | (exact R.r _ _) | (simp only [jM.len_sI, jM.len_sL, jM.len_sR, jM.len_fI, jM.len_fL, jM.len_fR]; omega) | (simp [jM.len_nw, jM.len_sI, jM.len_sL, jM.len_sR, jM.len_fI, jM.len_fL, jM.len_fR, *]; omega)) (by first | omega | (exact R.r _ _) | (simp only [jM.len_sI, jM.len_sL, jM.len_sR, jM.len_fI, jM.len_fL, jM.len_fR]; omega) | (simp [jM.len_nw, jM.len_sI, jM.len_sL, jM.len_sR, jM.len_fI, jM.len_fL, jM.len_fR, *]; omega)) rfl rfl ?_ ?_
  · exact fun _ _ h => h
  rintro _ k1 ⟨rfl, g2, g3, g4⟩
  have F1 : Fr h k1 (alW rd c gg) := b3.trans g3 (fun _ _ z => z.elim id (fun z => Or.inl z))
  have N1 : Nt h k1 [1, 7, 22, 23, 34, 35] := b4.st g4
  have tc := b2.1.1
  have C1 : cGs γ h k1 c gg ge gs G ep := by
    obtain ⟨a1, a2, a0, a3, a4, a5⟩ := b2
    have hcr : ¬ c = rd := fun z => by rw [z] at tc; omega
    refine ⟨a1.keptW g3 hcr (fun z => by have := a1.2.2.1.1; rw [z] at this; omega) (Or.inl (fun z => by have := a1.2.2.1.2.2.1; rw [z] at this; omega)) (fun b hb z => by rw [z] at hb; omega), a2, a0, ?_, ?_, ?_⟩
    · rw [g3.I tc (by omega) hcr]; exact a3
    · rw [g3.R tc (by omega) hcr]; exact a4
    · rw [g3.I tc (by omega) hcr]; exact a5
  have g20 := g2
  obtain ⟨d1, d2, d3, d4, d5, d6, d7, d8⟩ := g20
  have ts := d3.1
  first | refine J.aload_n (pc' := 66) rfl rfl rfl ?_ | refine J.aload_nN (pc' := 66) rfl rfl rfl ?_
  refine J.getI (pc' := 69) rfl fl_X2_9 rfl (by first | assumption | (simp only [jM.tag_sI, jM.tag_sL, jM.tag_sR, jM.tag_fI, jM.tag_fL, jM.tag_fR]; assumption) | (simp [jM.tag_nw, jM.tag_sI, jM.tag_sL, jM.tag_sR, jM.tag_fI, jM.tag_fL, jM.tag_fR, *]; done)) rfl ?_
  first | refine J.aload_n (pc' := 70) rfl rfl rfl ?_ | refine J.aload_nN (pc' := 70) rfl rfl rfl ?_
  first | refine J.getR (pc' := 73) rfl fl_X2_21 rfl (by first | assumption | (simp only [jM.tag_sI, jM.tag_sL, jM.tag_sR, jM.tag_fI, jM.tag_fL, jM.tag_fR]; assumption) | (simp [jM.tag_nw, jM.tag_sI, jM.tag_sL, jM.tag_sR, jM.tag_fI, jM.tag_fL, jM.tag_fR, *]; done)) (by first | assumption | (simp only [jM.R_sI, jM.R_sL, jM.R_fI, jM.R_fL]; assumption) | (simp [jM.R_nw, jM.R_sR, jM.R_fR, jM.R_sI, jM.R_sL, jM.R_fI, jM.R_fL, *]; done)) rfl ?_ | refine J.getRN (pc' := 73) rfl fl_X2_21 rfl (by first | assumption | (simp only [jM.tag_sI, jM.tag_sL, jM.tag_sR, jM.tag_fI, jM.tag_fL, jM.tag_fR]; assumption) | (simp [jM.tag_nw, jM.tag_sI, jM.tag_sL, jM.tag_sR, jM.tag_fI, jM.tag_fL, jM.tag_fR, *]; done)) (by first | assumption | (simp only [jM.R_sI, jM.R_sL, jM.R_fI, jM.R_fL]; assumption) | (simp [jM.R_nw, jM.R_sR, jM.R_fR, jM.R_sI, jM.R_sL, jM.R_fI, jM.R_fL, *]; done)) rfl ?_
  rw [d5]
  refine J.callV (pc' := 76) (t := 1) rfl MJ0_length_8abf5 ml_X2_52 iv_J0_length_8abf5 (by decide) ⟨_, rfl, rfl⟩ (by first | assumption | (simp only [jM.tag_sI, jM.tag_sL, jM.tag_sR, jM.tag_fI, jM.tag_fL, jM.tag_fR]; assumption) | (simp [jM.tag_nw, jM.tag_sI, jM.tag_sL, jM.tag_sR, jM.tag_fI, jM.tag_fL, jM.tag_fR, *]; done)) (cj_strLen d3) rfl rfl (Nat.le_of_ble_eq_true rfl) (by first | omega | (exact R.r _ _) | (simp only [jM.len_sI, jM.len_sL, jM.len_sR, jM.len_fI, jM.len_fL, jM.len_fR]; omega) | (simp [jM.len_nw, jM.len_sI, jM.len_sL, jM.len_sR, jM.len_fI, jM.len_fL, jM.len_fR, *]; omega)) (by first | omega | (exact R.r _ _) | (simp only [jM.len_sI, jM.len_sL, jM.len_sR, jM.len_fI, jM.len_fL, jM.len_fR]; omega) | (simp [jM.len_nw, jM.len_sI, jM.len_sL, jM.len_sR, jM.len_fI, jM.len_fL, jM.len_fR, *]; omega)) (by first | omega | (exact R.r _ _) | (simp only [jM.len_sI, jM.len_sL, jM.len_sR, jM.len_fI, jM.len_fL, jM.len_fR]; omega) | (simp [jM.len_nw, jM.len_sI, jM.len_sL, jM.len_sR, jM.len_fI, jM.len_fL, jM.len_fR, *]; omega)) rfl rfl ?_ ?_
  · exact fun _ _ h => h
  rintro _ k1 ⟨rfl, rfl⟩
  refine J.icmp_ne (tgt := 83) (pc' := 79) rfl rfl rfl (by first | omega | (exact R.r _ _) | (simp only [jM.len_sI, jM.len_sL, jM.len_sR, jM.len_fI, jM.len_fL, jM.len_fR]; omega) | (simp [jM.len_nw, jM.len_sI, jM.len_sL, jM.len_sR, jM.len_fI, jM.len_fL, jM.len_fR, *]; omega)) (by first | omega | (exact R.r _ _) | (simp only [jM.len_sI, jM.len_sL, jM.len_sR, jM.len_fI, jM.len_fL, jM.len_fR]; omega) | (simp [jM.len_nw, jM.len_sI, jM.len_sL, jM.len_sR, jM.len_fI, jM.len_fL, jM.len_fR, *]; omega)) (fun z1 => ?_) (fun z1 => ?_)
  · refine J.iconst (pc' := 84) rfl rfl ?_
    refine J.zret rfl rfl (by rfl) (by first | omega | (exact R.r _ _) | (simp only [jM.len_sI, jM.len_sL, jM.len_sR, jM.len_fI, jM.len_fL, jM.len_fR]; omega) | (simp [jM.len_nw, jM.len_sI, jM.len_sL, jM.len_sR, jM.len_fI, jM.len_fL, jM.len_fR, *]; omega)) (by first | omega | (exact R.r _ _) | (simp only [jM.len_sI, jM.len_sL, jM.len_sR, jM.len_fI, jM.len_fL, jM.len_fR]; omega) | (simp [jM.len_nw, jM.len_sI, jM.len_sL, jM.len_sR, jM.len_fI, jM.len_fL, jM.len_fR, *]; omega)) ?_
    rw [if_neg z1]
    exact ⟨F1, N1, rfl, _, _, g2⟩
  · have z2 : sk T n q = n := by omega
    refine J.iconst (pc' := 80) rfl rfl ?_
    refine J.goto (tgt := 84) rfl rfl ?_
    refine J.zret rfl rfl (by rfl) (by first | omega | (exact R.r _ _) | (simp only [jM.len_sI, jM.len_sL, jM.len_sR, jM.len_fI, jM.len_fL, jM.len_fR]; omega) | (simp [jM.len_nw, jM.len_sI, jM.len_sL, jM.len_sR, jM.len_fI, jM.len_fL, jM.len_fR, *]; omega)) (by first | omega | (exact R.r _ _) | (simp only [jM.len_sI, jM.len_sL, jM.len_sR, jM.len_fI, jM.len_fL, jM.len_fR]; omega) | (simp [jM.len_nw, jM.len_sI, jM.len_sL, jM.len_sR, jM.len_fI, jM.len_fL, jM.len_fR, *]; omega)) ?_
    rw [if_pos z2]
    exact ⟨F1, N1, rfl, ge, gs, C1, hge⟩
theorem cr_fin {mc ms c1 c2 : Nat} {k : jM} {q pl nm : Int} {G : List Grd} {gs : List Nat} (hn : n ≤ 400) (hc1 : c1 + 4 ≤ mc) (hc2 : c2 + 810 ≤ ms) (b1 : isRd k rd s e n T c q pl nm) (b2 : cGs γ h k c gg ge gs G (-1)) (b3 : Fr h k (alW rd c gg)) (b4 : Nt h k [1, 7, 22, 23, 34, 35]) (b5 : isK γ k) (hge : h.tag ge = 0 ∨ ge = γ.K 0) : ∀ lv, hasL lv [(0, .ref rd)] → J γ mX2_readsAll 9 mc ms c1 c2 k 32 lv [] (alQ γ h rd s e n T c gg (pFin T n G q)) X0 := by
  intro lv hlv
  have tr := b1.1
  have hbn := b1.bnd
  have qb := b1.2.2.2.2.2.2.2
  have skb := sk_b (T := T) qb.2
  have web := we_b (T := T) skb.2.1
  have sk2 := sk_sk (T := T) qb.2
  have hw := cr_word (γ := γ) (q := (2, [101, 108, 115, 101])) (by simp [txs]) b1 b5
  rw [show wc (tx (2, ([101, 108, 115, 101] : List Int)).2) 0 (2, ([101, 108, 115, 101] : List Int)).2.length = 1701606245 from txs_2] at hw
  refine J.lc hlv ?_
  first | refine J.aload_n (pc' := 33) rfl rfl rfl ?_ | refine J.aload_nN (pc' := 33) rfl rfl rfl ?_
  refine J.ldcS (pc' := 35) (i := 2) (text := "else") rfl (List.mem_of_getElem? (i := 971) (by decide +kernel)) (show (2, Term.string "ScrapYard$ContractReader" 39) ∈ jKs by simp [jKs]) rfl ?_
  refine J.callV (pc' := 38) (t := 6) rfl MX2_takesWord ml_X2_31 iv_X2_takesWord (by decide) ⟨_, rfl, rfl⟩ (by first | assumption | (simp only [jM.tag_sI, jM.tag_sL, jM.tag_sR, jM.tag_fI, jM.tag_fL, jM.tag_fR]; assumption) | (simp [jM.tag_nw, jM.tag_sI, jM.tag_sL, jM.tag_sR, jM.tag_fI, jM.tag_fL, jM.tag_fR, *]; done)) hw rfl rfl (Nat.le_of_ble_eq_true rfl) (by first | omega | (exact R.r _ _) | (simp only [jM.len_sI, jM.len_sL, jM.len_sR, jM.len_fI, jM.len_fL, jM.len_fR]; omega) | (simp [jM.len_nw, jM.len_sI, jM.len_sL, jM.len_sR, jM.len_fI, jM.len_fL, jM.len_fR, *]; omega)) (by first | omega | (exact R.r _ _) | (simp only [jM.len_sI, jM.len_sL, jM.len_sR, jM.len_fI, jM.len_fL, jM.len_fR]; omega) | (simp [jM.len_nw, jM.len_sI, jM.len_sL, jM.len_sR, jM.len_fI, jM.len_fL, jM.len_fR, *]; omega)) (by first | omega | (exact R.r _ _) | (simp only [jM.len_sI, jM.len_sL, jM.len_sR, jM.len_fI, jM.len_fL, jM.len_fR]; omega) | (simp [jM.len_nw, jM.len_sI, jM.len_sL, jM.len_sR, jM.len_fI, jM.len_fL, jM.len_fR, *]; omega)) rfl rfl ?_ ?_
  · exact fun _ _ h => h
  have tc := b2.1.1
  have keepC : ∀ (k k1 : jM) (ep : Int), cGs γ h k c gg ge gs G ep → Fr k k1 (fun b => b = rd) → k.tag rd = 6 → cGs γ h k1 c gg ge gs G ep := fun k k1 ep hc g3 trk => by
    obtain ⟨a1, a2, a0, a3, a4, a5⟩ := hc
    have tc := a1.1
    have hcr : ¬ c = rd := fun z => by rw [z] at tc; omega
    refine ⟨a1.keptW g3 hcr (fun z => by have := a1.2.2.1.1; rw [z] at this; omega) (Or.inl (fun z => by have := a1.2.2.1.2.2.1; rw [z] at this; omega)) (fun b hb z => by rw [z] at hb; omega), a2, a0, ?_, ?_, ?_⟩
    · rw [g3.I tc (by omega) hcr]; exact a3
    · rw [g3.R tc (by omega) hcr]; exact a4
    · rw [g3.I tc (by omega) hcr]; exact a5
  rintro _ k1 (⟨x1, rfl, c2', c3, c4⟩ | ⟨x1, rfl, c2', c3, c4⟩)
  · have F1 : Fr h k1 (alW rd c gg) := b3.trans c3 (fun _ _ z => z.elim id (fun z => Or.inl z))
    have N1 : Nt h k1 [1, 7, 22, 23, 34, 35] := b4.trans c4 c3 (by simp)
    have C1 := keepC _ _ _ b2 c3 tr
    have K1 := b5.kept c3 (fun b _ hb z => by rw [z] at hb; omega)
    have tr1 := c2'.1
    have s3 := sk_b (T := T) web.2.1
    have w3 := we_b (T := T) s3.2.1
    refine J.if_eq (tgt := 61) (pc' := 41) rfl rfl rfl (by first | omega | (exact R.r _ _) | (simp only [jM.len_sI, jM.len_sL, jM.len_sR, jM.len_fI, jM.len_fL, jM.len_fR]; omega) | (simp [jM.len_nw, jM.len_sI, jM.len_sL, jM.len_sR, jM.len_fI, jM.len_fL, jM.len_fR, *]; omega)) (fun z1 => ?_) (fun z1 => ?_)
    · omega
    · first | refine J.aload_n (pc' := 42) rfl rfl rfl ?_ | refine J.aload_nN (pc' := 42) rfl rfl rfl ?_
      refine J.callV (pc' := 45) (t := 6) rfl MX2_readsPay ml_X2_41 iv_X2_readsPay (by decide) ⟨_, rfl, rfl⟩ (by first | assumption | (simp only [jM.tag_sI, jM.tag_sL, jM.tag_sR, jM.tag_fI, jM.tag_fL, jM.tag_fR]; assumption) | (simp [jM.tag_nw, jM.tag_sI, jM.tag_sL, jM.tag_sR, jM.tag_fI, jM.tag_fL, jM.tag_fR, *]; done)) (cr_pay c2' K1) rfl rfl (Nat.le_of_ble_eq_true rfl) (by first | omega | (exact R.r _ _) | (simp only [jM.len_sI, jM.len_sL, jM.len_sR, jM.len_fI, jM.len_fL, jM.len_fR]; omega) | (simp [jM.len_nw, jM.len_sI, jM.len_sL, jM.len_sR, jM.len_fI, jM.len_fL, jM.len_fR, *]; omega)) (by first | omega | (exact R.r _ _) | (simp only [jM.len_sI, jM.len_sL, jM.len_sR, jM.len_fI, jM.len_fL, jM.len_fR]; omega) | (simp [jM.len_nw, jM.len_sI, jM.len_sL, jM.len_sR, jM.len_fI, jM.len_fL, jM.len_fR, *]; omega)) (by first | omega | (exact R.r _ _) | (simp only [jM.len_sI, jM.len_sL, jM.len_sR, jM.len_fI, jM.len_fL, jM.len_fR]; omega) | (simp [jM.len_nw, jM.len_sI, jM.len_sL, jM.len_sR, jM.len_fI, jM.len_fL, jM.len_fR, *]; omega)) rfl rfl ?_ ?_
      · exact fun _ _ h => h
      intro r k2 hq
      unfold pyQ at hq
      have ef : pFin T n G q = match pPay T n (we T n (sk T n q)) with
        | .inl e => .inl e
        | .inr (q', v) => if sk T n q' = n then .inr (G, v) else .inl (sk T n q') := by unfold pFin; rw [if_pos x1]; rfl
      cases hy : pPay T n (we T n (sk T n q)) with
      | inl er =>
        rw [hy] at hq ef
        dsimp only at hq ef
        obtain ⟨rfl, x4, x2, x3⟩ := hq
        refine J.if_ne (tgt := 50) (pc' := 48) rfl rfl rfl (by first | omega | (exact R.r _ _) | (simp only [jM.len_sI, jM.len_sL, jM.len_sR, jM.len_fI, jM.len_fL, jM.len_fR]; omega) | (simp [jM.len_nw, jM.len_sI, jM.len_sL, jM.len_sR, jM.len_fI, jM.len_fL, jM.len_fR, *]; omega)) (fun z2 => ?_) (fun z2 => ?_)
        · omega
        · refine J.iconst (pc' := 49) rfl rfl ?_
          refine J.zret rfl rfl (by rfl) (by first | omega | (exact R.r _ _) | (simp only [jM.len_sI, jM.len_sL, jM.len_sR, jM.len_fI, jM.len_fL, jM.len_fR]; omega) | (simp [jM.len_nw, jM.len_sI, jM.len_sL, jM.len_sR, jM.len_fI, jM.len_fL, jM.len_fR, *]; omega)) (by first | omega | (exact R.r _ _) | (simp only [jM.len_sI, jM.len_sL, jM.len_sR, jM.len_fI, jM.len_fL, jM.len_fR]; omega) | (simp [jM.len_nw, jM.len_sI, jM.len_sL, jM.len_sR, jM.len_fI, jM.len_fL, jM.len_fR, *]; omega)) ?_
          rw [ef]
          exact ⟨F1.trans x2 (fun _ _ z => z.elim id (fun z => Or.inl z)), N1.trans x3 x2 (by simp), rfl, x4⟩
      | inr qv =>
        obtain ⟨q', v⟩ := qv
        rw [hy] at hq ef
        dsimp only at hq ef
        obtain ⟨rfl, ⟨pl2, x4⟩, x2, x3⟩ := hq
        have F2 : Fr h k2 (alW rd c gg) := F1.trans x2 (fun _ _ z => z.elim id (fun z => Or.inl z))
        have N2 : Nt h k2 [1, 7, 22, 23, 34, 35] := N1.trans x3 x2 (by simp)
        have C2 := keepC _ _ _ C1 x2 tr1
        have tr2 := x4.1
        have rc2 := x4.2.2.2.1
        have nm2 := x4.2.2.2.2.2.2.1
        have tc2 := C2.1.1
        refine J.if_ne (tgt := 50) (pc' := 48) rfl rfl rfl (by first | omega | (exact R.r _ _) | (simp only [jM.len_sI, jM.len_sL, jM.len_sR, jM.len_fI, jM.len_fL, jM.len_fR]; omega) | (simp [jM.len_nw, jM.len_sI, jM.len_sL, jM.len_sR, jM.len_fI, jM.len_fL, jM.len_fR, *]; omega)) (fun z2 => ?_) (fun z2 => ?_)
        · first | refine J.aload_n (pc' := 51) rfl rfl rfl ?_ | refine J.aload_nN (pc' := 51) rfl rfl rfl ?_
          first | refine J.getR (pc' := 54) rfl fl_X2_25 rfl (by first | assumption | (simp only [jM.tag_sI, jM.tag_sL, jM.tag_sR, jM.tag_fI, jM.tag_fL, jM.tag_fR]; assumption) | (simp [jM.tag_nw, jM.tag_sI, jM.tag_sL, jM.tag_sR, jM.tag_fI, jM.tag_fL, jM.tag_fR, *]; done)) (by first | assumption | (simp only [jM.R_sI, jM.R_sL, jM.R_fI, jM.R_fL]; assumption) | (simp [jM.R_nw, jM.R_sR, jM.R_fR, jM.R_sI, jM.R_sL, jM.R_fI, jM.R_fL, *]; done)) rfl ?_ | refine J.getRN (pc' := 54) rfl fl_X2_25 rfl (by first | assumption | (simp only [jM.tag_sI, jM.tag_sL, jM.tag_sR, jM.tag_fI, jM.tag_fL, jM.tag_fR]; assumption) | (simp [jM.tag_nw, jM.tag_sI, jM.tag_sL, jM.tag_sR, jM.tag_fI, jM.tag_fL, jM.tag_fR, *]; done)) (by first | assumption | (simp only [jM.R_sI, jM.R_sL, jM.R_fI, jM.R_fL]; assumption) | (simp [jM.R_nw, jM.R_sR, jM.R_fR, jM.R_sI, jM.R_sL, jM.R_fI, jM.R_fL, *]; done)) rfl ?_
          first | refine J.aload_n (pc' := 55) rfl rfl rfl ?_ | refine J.aload_nN (pc' := 55) rfl rfl rfl ?_
          refine J.getI (pc' := 58) rfl fl_X2_18 rfl (by first | assumption | (simp only [jM.tag_sI, jM.tag_sL, jM.tag_sR, jM.tag_fI, jM.tag_fL, jM.tag_fR]; assumption) | (simp [jM.tag_nw, jM.tag_sI, jM.tag_sL, jM.tag_sR, jM.tag_fI, jM.tag_fL, jM.tag_fR, *]; done)) rfl ?_
          rw [nm2]
          refine J.putI (pc' := 61) rfl fl_X2_44 rfl (Or.inl rfl) (by first | assumption | (simp only [jM.tag_sI, jM.tag_sL, jM.tag_sR, jM.tag_fI, jM.tag_fL, jM.tag_fR]; assumption) | (simp [jM.tag_nw, jM.tag_sI, jM.tag_sL, jM.tag_sR, jM.tag_fI, jM.tag_fL, jM.tag_fR, *]; done)) (Or.inl rfl) rfl ?_
          have F3 : Fr k2 (k2.sI 5 c 4 v) (fun b => b = c) := Fr.sI
          have hrc : ¬ rd = c := fun z => by rw [z] at tr2; omega
          rw [ef]
          refine cr_end (k := k2.sI 5 c 4 v) (ge := ge) (gs := gs) (by omega) (by omega) (x4.kept F3 hrc (fun z => by have := x4.2.2.1.1; rw [z] at this; omega) (fun z => by have := x4.2.2.1.2.2.1; rw [z] at this; omega)) ?_ (F2.stI (Or.inl (Or.inr (Or.inl rfl)))) (N2.st rfl) hge _ ⟨rfl, trivial⟩
          obtain ⟨a1, a2, a0, a3, a4, a5⟩ := C2
          obtain ⟨e1, e2, e3, e4, e5⟩ := a1
          refine ⟨⟨e1, e2, e3.keptW F3 (fun z => by have := e3.1; rw [z] at this; omega) (Or.inl (fun z => by have := e3.2.2.1; rw [z] at this; omega)), by rw [jM.I_sI, if_pos ⟨rfl, rfl, rfl⟩], fun i x hx => ?_⟩, a2, a0, ?_, a4, ?_⟩
          · obtain ⟨p1, p2, hG⟩ := e5 i x hx
            have t1 := hG.1
            have t2 := hG.2.2.1
            have t3 := hG.2.2.2.2.2.2.1
            exact ⟨p1, p2, hG.kept F3 (fun z => by rw [z] at t1; omega) (fun z => by rw [z] at t2; omega) (fun z => by rw [z] at t3; omega)⟩
          · rw [jM.I_sI, if_neg (by omega)]; exact a3
          · rw [jM.I_sI, if_neg (by omega)]; exact a5
        · omega
  · have F1 : Fr h k1 (alW rd c gg) := b3.trans c3 (fun _ _ z => z.elim id (fun z => Or.inl z))
    have N1 : Nt h k1 [1, 7, 22, 23, 34, 35] := b4.trans c4 c3 (by simp)
    have C1 := keepC _ _ _ b2 c3 tr
    refine J.if_eq (tgt := 61) (pc' := 41) rfl rfl rfl (by first | omega | (exact R.r _ _) | (simp only [jM.len_sI, jM.len_sL, jM.len_sR, jM.len_fI, jM.len_fL, jM.len_fR]; omega) | (simp [jM.len_nw, jM.len_sI, jM.len_sL, jM.len_sR, jM.len_fI, jM.len_fL, jM.len_fR, *]; omega)) (fun z1 => ?_) (fun z1 => ?_)
    · have ef : pFin T n G q = if sk T n (sk T n q) = n then .inr (G, -1) else .inl (sk T n (sk T n q)) := by unfold pFin; rw [if_neg x1, sk2]
      rw [ef]
      exact cr_end (ge := ge) (gs := gs) (by omega) (by omega) c2' C1 F1 N1 hge _ ⟨rfl, trivial⟩
    · omega
theorem pFin_sk {G : List Grd} {p : Int} (hp : p ≤ n) : pFin T n G (sk T n p) = pFin T n G p := by
  unfold pFin
  rw [sk_sk hp]
theorem pTs_ok {q : Int} {l : List Tst} : ∀ (k : Nat) (p : Int) (acc : List Tst), p ≤ n → tOk acc → pTs T n k p acc = .inr (q, l) → tOk l := fun k => by
  induction k with
  | zero => intro p acc hp ha h; cases h
  | succ k ih =>
    intro p acc hp ha h
    rw [pTs] at h
    cases ht : pTest T n p with
    | inl e => rw [ht] at h; cases h
    | inr qt =>
      obtain ⟨q1, t⟩ := qt
      have b := pTest_b hp ht
      have s := sk_b (T := T) b.2.1
      rw [ht] at h
      dsimp only at h
      split at h
      · exact ih _ _ (by omega) (ha.app b.2.2.2.2) h
      · have e := Sum.inr.inj h
        rw [← (Prod.mk.inj e).2]
        exact ha.app b.2.2.2.2
theorem pGr_ok {p q : Int} {x : Grd} (hp : p ≤ n) (h : pGr T n p = .inr (q, x)) : tOk x.1 ∧ (0 ≤ x.2 ∧ x.2 ≤ 99999) ∧ q ≤ n := by
  unfold pGr at h
  cases hs : pTs T n 400 p [] with
  | inl e => rw [hs] at h; cases h
  | inr ql =>
    obtain ⟨q1, l⟩ := ql
    rw [hs] at h
    dsimp only at h
    have b := pTs_b _ _ _ hp hs
    cases hy : pPay T n q1 with
    | inl e => rw [hy] at h; cases h
    | inr qv =>
      obtain ⟨q2, v⟩ := qv
      rw [hy] at h
      have c := pPay_b b.2.1 hy
      have e := Sum.inr.inj h
      rw [← (Prod.mk.inj e).2, ← (Prod.mk.inj e).1]
      exact ⟨pTs_ok _ _ _ hp tOk_0 hs, c.2.2.2, c.2.1⟩
theorem cr_all {pl nm : Int} (hR : isRd h rd s e n T c 0 pl nm) (hn : n ≤ 400) (hK : isK γ h) (hC : cGs γ h h c gg (γ.K 0) [] [] (-1)) : CT γ mX2_readsAll 9 1000 6000 [.ref rd] h (alQ γ h rd s e n T c gg (pAll T n)) X0 := by
  refine CT.of MX2_readsAll (Nat.le_of_ble_eq_true rfl) ?_
  show J γ mX2_readsAll 9 1000 6000 0 0 h 0 [(0, .ref rd)] [] _ _
  refine J.iconst (pc' := 1) rfl rfl ?_
  refine J.istore_n (pc' := 2) rfl rfl (by decide) ?_
  have key : ∀ (j : Nat) (p : Int) (G : List Grd) (gs : List Nat) (ge : Nat) (k : jM) (pl nm : Int) (c1 c2 : Nat), G.length + j = 12 → pRest T n 12 0 [] = pRest T n j p G → isRd k rd s e n T c p pl nm → cGs γ h k c gg ge gs G (-1) → Fr h k (alW rd c gg) → Nt h k [1, 7, 22, 23, 34, 35] → isK γ k → (h.tag ge = 0 ∨ ge = γ.K 0) → (c1 : Int) ≤ 10 * (12 - (j : Int)) + p → (c2 : Int) ≤ 190 * (12 - (j : Int)) + 4 * p → ∀ lv, hasL lv [(0, .ref rd), (1, .int (jI (12 - (j : Int))))] → J γ mX2_readsAll 9 1000 6000 c1 c2 k 2 lv [] (alQ γ h rd s e n T c gg (pAll T n)) X0 := by
    intro j
    induction j with
    | zero =>
      intro p G gs ge k pl nm c1 c2 hG hs b1 b2 b3 b4 b5 hge hc1 hc2 lv hlv
      have pb := b1.2.2.2.2.2.2.2
      refine J.lc hlv ?_
      refine J.iload_n (pc' := 3) rfl rfl rfl ?_
      refine J.bipush (pc' := 5) rfl rfl (by decide) ?_
      refine J.icmp_ge (tgt := 32) (pc' := 8) rfl rfl rfl (by first | omega | (exact R.r _ _) | (simp only [jM.len_sI, jM.len_sL, jM.len_sR, jM.len_fI, jM.len_fL, jM.len_fR]; omega) | (simp [jM.len_nw, jM.len_sI, jM.len_sL, jM.len_sR, jM.len_fI, jM.len_fL, jM.len_fR, *]; omega)) (by first | omega | (exact R.r _ _) | (simp only [jM.len_sI, jM.len_sL, jM.len_sR, jM.len_fI, jM.len_fL, jM.len_fR]; omega) | (simp [jM.len_nw, jM.len_sI, jM.len_sL, jM.len_sR, jM.len_fI, jM.len_fL, jM.len_fR, *]; omega)) (fun z1 => ?_) (fun z1 => ?_)
      · rw [show pAll T n = pFin T n G p from hs]
        exact cr_fin hn (by omega) (by omega) b1 b2 b3 b4 b5 hge _ ⟨rfl, trivial⟩
      · omega
    | succ j ih =>
      intro p G gs ge k pl nm c1 c2 hG hs b1 b2 b3 b4 b5 hge hc1 hc2 lv hlv
      have pb := b1.2.2.2.2.2.2.2
      have tr := b1.1
      have hbn := b1.bnd
      have skb := sk_b (T := T) pb.2
      have web := we_b (T := T) skb.2.1
      have hw := cr_word (γ := γ) (q := (1, [103, 114, 97, 100, 101])) (by simp [txs]) b1 b5
      rw [show wc (tx (1, ([103, 114, 97, 100, 101] : List Int)).2) 0 (1, ([103, 114, 97, 100, 101] : List Int)).2.length = 444300616805 from txs_1] at hw
      have keepC : ∀ (k k1 : jM), cGs γ h k c gg ge gs G (-1) → Fr k k1 (fun b => b = rd) → k.tag rd = 6 → cGs γ h k1 c gg ge gs G (-1) := fun k k1 hc g3 trk => by
        obtain ⟨a1, a2, a0, a3, a4, a5⟩ := hc
        have tc := a1.1
        have hcr : ¬ c = rd := fun z => by rw [z] at tc; omega
        refine ⟨a1.keptW g3 hcr (fun z => by have := a1.2.2.1.1; rw [z] at this; omega) (Or.inl (fun z => by have := a1.2.2.1.2.2.1; rw [z] at this; omega)) (fun b hb z => by rw [z] at hb; omega), a2, a0, ?_, ?_, ?_⟩
        · rw [g3.I tc (by omega) hcr]; exact a3
        · rw [g3.R tc (by omega) hcr]; exact a4
        · rw [g3.I tc (by omega) hcr]; exact a5
      refine J.lc hlv ?_
      refine J.iload_n (pc' := 3) rfl rfl rfl ?_
      refine J.bipush (pc' := 5) rfl rfl (by decide) ?_
      refine J.icmp_ge (tgt := 32) (pc' := 8) rfl rfl rfl (by first | omega | (exact R.r _ _) | (simp only [jM.len_sI, jM.len_sL, jM.len_sR, jM.len_fI, jM.len_fL, jM.len_fR]; omega) | (simp [jM.len_nw, jM.len_sI, jM.len_sL, jM.len_sR, jM.len_fI, jM.len_fL, jM.len_fR, *]; omega)) (by first | omega | (exact R.r _ _) | (simp only [jM.len_sI, jM.len_sL, jM.len_sR, jM.len_fI, jM.len_fL, jM.len_fR]; omega) | (simp [jM.len_nw, jM.len_sI, jM.len_sL, jM.len_sR, jM.len_fI, jM.len_fL, jM.len_fR, *]; omega)) (fun z1 => ?_) (fun z1 => ?_)
      · omega
      · first | refine J.aload_n (pc' := 9) rfl rfl rfl ?_ | refine J.aload_nN (pc' := 9) rfl rfl rfl ?_
        refine J.ldcS (pc' := 11) (i := 1) (text := "grade") rfl (List.mem_of_getElem? (i := 875) (by decide +kernel)) (show (1, Term.string "ScrapYard$ContractReader" 29) ∈ jKs by simp [jKs]) rfl ?_
        refine J.callV (pc' := 14) (t := 6) rfl MX2_takesWord ml_X2_31 iv_X2_takesWord (by decide) ⟨_, rfl, rfl⟩ (by first | assumption | (simp only [jM.tag_sI, jM.tag_sL, jM.tag_sR, jM.tag_fI, jM.tag_fL, jM.tag_fR]; assumption) | (simp [jM.tag_nw, jM.tag_sI, jM.tag_sL, jM.tag_sR, jM.tag_fI, jM.tag_fL, jM.tag_fR, *]; done)) hw rfl rfl (Nat.le_of_ble_eq_true rfl) (by first | omega | (exact R.r _ _) | (simp only [jM.len_sI, jM.len_sL, jM.len_sR, jM.len_fI, jM.len_fL, jM.len_fR]; omega) | (simp [jM.len_nw, jM.len_sI, jM.len_sL, jM.len_sR, jM.len_fI, jM.len_fL, jM.len_fR, *]; omega)) (by first | omega | (exact R.r _ _) | (simp only [jM.len_sI, jM.len_sL, jM.len_sR, jM.len_fI, jM.len_fL, jM.len_fR]; omega) | (simp [jM.len_nw, jM.len_sI, jM.len_sL, jM.len_sR, jM.len_fI, jM.len_fL, jM.len_fR, *]; omega)) (by first | omega | (exact R.r _ _) | (simp only [jM.len_sI, jM.len_sL, jM.len_sR, jM.len_fI, jM.len_fL, jM.len_fR]; omega) | (simp [jM.len_nw, jM.len_sI, jM.len_sL, jM.len_sR, jM.len_fI, jM.len_fL, jM.len_fR, *]; omega)) rfl rfl ?_ ?_
        · exact fun _ _ h => h
        rintro _ k1 (⟨x1, rfl, c2', c3, c4⟩ | ⟨x1, rfl, c2', c3, c4⟩)
        · have F1 : Fr h k1 (alW rd c gg) := b3.trans c3 (fun _ _ z => z.elim id (fun z => Or.inl z))
          have N1 : Nt h k1 [1, 7, 22, 23, 34, 35] := b4.trans c4 c3 (by simp)
          have C1 := keepC _ _ b2 c3 tr
          have K1 := b5.kept c3 (fun b _ hb z => by rw [z] at hb; omega)
          have tr1 := c2'.1
          have w5 : we T n (sk T n p) - sk T n p = 5 := ((word_iff (T := T) skb.2.1 (l := [103, 114, 97, 100, 101]) (by decide) (by decide)).mpr (by rw [x1]; exact txs_1.symm)).1
          have lim := gLim_ts (T := T) (n := n) (p0 := we T n (sk T n p)) (k := 400) (acc := []) web.2.1 web.2.1 rfl
          have es : pRest T n (j + 1) p G = match pGr T n (we T n (sk T n p)) with
            | .inl e => .inl e
            | .inr (q, g) => pRest T n j q (G ++ [g]) := by rw [pRest, if_pos x1]; rfl
          obtain ⟨C1a, C1b, C1c, C1d, C1e, C1f⟩ := C1
          obtain ⟨e1, e2, e3, e4, e5⟩ := C1a
          refine J.if_eq (tgt := 32) (pc' := 17) rfl rfl rfl (by first | omega | (exact R.r _ _) | (simp only [jM.len_sI, jM.len_sL, jM.len_sR, jM.len_fI, jM.len_fL, jM.len_fR]; omega) | (simp [jM.len_nw, jM.len_sI, jM.len_sL, jM.len_sR, jM.len_fI, jM.len_fL, jM.len_fR, *]; omega)) (fun z2 => ?_) (fun z2 => ?_)
          · omega
          · first | refine J.aload_n (pc' := 18) rfl rfl rfl ?_ | refine J.aload_nN (pc' := 18) rfl rfl rfl ?_
            have hel : ∀ y ∈ gs, k1.tag y = 7 := fun y hy => by
              obtain ⟨i, hi, q9⟩ := List.getElem_of_mem hy
              obtain ⟨_, _, hGx⟩ := e5 i y (by rw [List.getElem?_eq_getElem hi, q9])
              exact hGx.1
            refine J.callV (pc' := 21) (t := 6) rfl MX2_readsGrade ml_X2_35 iv_X2_readsGrade (by decide) ⟨_, rfl, rfl⟩ (by first | assumption | (simp only [jM.tag_sI, jM.tag_sL, jM.tag_sR, jM.tag_fI, jM.tag_fL, jM.tag_fR]; assumption) | (simp [jM.tag_nw, jM.tag_sI, jM.tag_sL, jM.tag_sR, jM.tag_fI, jM.tag_fL, jM.tag_fR, *]; done)) (cr_grade (gg := gg) (ge := ge) (gl := gs) c2' hn (by omega) K1 e1 e2 e3 hel (by omega)) rfl rfl (Nat.le_of_ble_eq_true rfl) (by first | omega | (exact R.r _ _) | (simp only [jM.len_sI, jM.len_sL, jM.len_sR, jM.len_fI, jM.len_fL, jM.len_fR]; omega) | (simp [jM.len_nw, jM.len_sI, jM.len_sL, jM.len_sR, jM.len_fI, jM.len_fL, jM.len_fR, *]; omega)) (by first | omega | (exact R.r _ _) | (simp only [jM.len_sI, jM.len_sL, jM.len_sR, jM.len_fI, jM.len_fL, jM.len_fR]; omega) | (simp [jM.len_nw, jM.len_sI, jM.len_sL, jM.len_sR, jM.len_fI, jM.len_fL, jM.len_fR, *]; omega)) (by first | omega | (exact R.r _ _) | (simp only [jM.len_sI, jM.len_sL, jM.len_sR, jM.len_fI, jM.len_fL, jM.len_fR]; omega) | (simp [jM.len_nw, jM.len_sI, jM.len_sL, jM.len_sR, jM.len_fI, jM.len_fL, jM.len_fR, *]; omega)) rfl rfl ?_ ?_
            · exact fun _ _ h => h
            intro r k2 hq
            unfold grdQ at hq
            cases hg : pGr T n (we T n (sk T n p)) with
            | inl er =>
              rw [hg] at hq es
              dsimp only at hq es
              obtain ⟨rfl, x4, x2, x3⟩ := hq
              refine J.if_ne (tgt := 26) (pc' := 24) rfl rfl rfl (by first | omega | (exact R.r _ _) | (simp only [jM.len_sI, jM.len_sL, jM.len_sR, jM.len_fI, jM.len_fL, jM.len_fR]; omega) | (simp [jM.len_nw, jM.len_sI, jM.len_sL, jM.len_sR, jM.len_fI, jM.len_fL, jM.len_fR, *]; omega)) (fun z3 => ?_) (fun z3 => ?_)
              · omega
              · refine J.iconst (pc' := 25) rfl rfl ?_
                refine J.zret rfl rfl (by rfl) (by first | omega | (exact R.r _ _) | (simp only [jM.len_sI, jM.len_sL, jM.len_sR, jM.len_fI, jM.len_fL, jM.len_fR]; omega) | (simp [jM.len_nw, jM.len_sI, jM.len_sL, jM.len_sR, jM.len_fI, jM.len_fL, jM.len_fR, *]; omega)) (by first | omega | (exact R.r _ _) | (simp only [jM.len_sI, jM.len_sL, jM.len_sR, jM.len_fI, jM.len_fL, jM.len_fR]; omega) | (simp [jM.len_nw, jM.len_sI, jM.len_sL, jM.len_sR, jM.len_fI, jM.len_fL, jM.len_fR, *]; omega)) ?_
                rw [show pAll T n = .inl er from hs.trans es]
                exact ⟨F1.trans x2 (fun _ _ z => z.elim id (fun z => Or.inl z)), N1.trans x3 x2 (by simp), rfl, x4⟩
            | inr qg =>
              obtain ⟨q, l, v⟩ := qg
              rw [hg] at hq es
              dsimp only at hq es
              obtain ⟨rfl, ⟨pl2, nm2, x4⟩, g, ge', p1, p2, x5, x6, x7, x8, x9, x2, x3, x10⟩ := hq
              have eq : gLim T n (we T n (sk T n p)) = q := by unfold gLim; rw [hg]
              have gok := pGr_ok web.2.1 hg
              have tgg := e3.1
              have tge := e3.2.2.1
              have nw : ∀ z, (k1.tag z = 5 ∨ k1.tag z = 7 ∨ k1.tag z = 22 ∨ k1.tag z = 23 ∨ k1.tag z = 1 ∨ k1.tag z = 35) → ¬ (z = rd ∨ lW k1 gg ge z) := fun z hz q9 => by
                rcases q9 with q9 | q9 | q9
                · rw [q9] at hz; omega
                · rw [q9] at hz; omega
                · rw [q9.1] at hz; omega
              have F2 : Fr h k2 (alW rd c gg) := F1.trans x2 (fun b hb z => by
                rcases z with z | z | z | z
                · exact z
                · exact Or.inl z
                · exact Or.inr (Or.inr z)
                · rcases hge with q9 | q9
                  · rw [z.1] at hb; exact absurd q9 hb
                  · exact absurd (by rw [q9]; exact K1.2.2.2.2) z.2)
              have N2 : Nt h k2 [1, 7, 22, 23, 34, 35] := N1.trans x3 x2 (by simp)
              have K2 := K1.kept x2 (fun b _ hb => nw b (by omega))
              refine J.if_ne (tgt := 26) (pc' := 24) rfl rfl rfl (by first | omega | (exact R.r _ _) | (simp only [jM.len_sI, jM.len_sL, jM.len_sR, jM.len_fI, jM.len_fL, jM.len_fR]; omega) | (simp [jM.len_nw, jM.len_sI, jM.len_sL, jM.len_sR, jM.len_fI, jM.len_fL, jM.len_fR, *]; omega)) (fun z3 => ?_) (fun z3 => ?_)
              · refine J.iinc (pc' := 29) rfl rfl rfl (by decide) ?_
                refine J.goto (tgt := 2) rfl rfl ?_
                refine ih q (G ++ [(l, v)]) (gs ++ [g]) ge' k2 _ _ _ _ (by rw [List.length_append]; simp; omega) (hs.trans es) x4 ⟨⟨x2.tag e1 (by omega), by rw [x2.R e1 (by omega) (nw c (Or.inl e1))]; exact e2, x5, by rw [x2.I e1 (by omega) (nw c (Or.inl e1))]; exact e4, fun i x hx => ?_⟩, by rw [List.length_append, List.length_append, C1b]; rfl, fun x hx => ?_, ?_, ?_, ?_⟩ F2 N2 K2 ?_ (by omega) (by omega) _ ⟨rfl, ?_, trivial⟩
                · rcases Nat.lt_trichotomy i gs.length with z | z | z
                  · rw [List.getElem?_append_left z] at hx
                    obtain ⟨p3, p4, hGx⟩ := e5 i x hx
                    refine ⟨p3, p4, ?_⟩
                    unfold gBl gAl gPl
                    rw [grd_app (by omega)]
                    exact hGx.kept x2 (nw _ (by have := hGx.1; omega)) (nw _ (by have := hGx.2.2.1; omega)) (nw _ (by have := hGx.2.2.2.2.2.2.1; omega))
                  · rw [z, List.getElem?_append_right (Nat.le_refl _), Nat.sub_self] at hx
                    cases hx
                    refine ⟨p1, p2, ?_⟩
                    unfold gBl gAl gPl
                    rw [z, C1b, grd_last]
                    exact x6
                  · rw [List.getElem?_eq_none (by rw [List.length_append]; simp; omega)] at hx
                    cases hx
                · rw [List.mem_append] at hx
                  rcases hx with hx | hx
                  · exact C1c x hx
                  · simp at hx
                    rw [hx]
                    exact ⟨gok.1, gok.2.1⟩
                · rw [x2.I e1 (by omega) (nw c (Or.inl e1))]; exact C1d
                · rw [x2.R e1 (by omega) (nw c (Or.inl e1))]; exact C1e
                · rw [x2.I e1 (by omega) (nw c (Or.inl e1))]; exact C1f
                · rcases x10 with q9 | q9
                  · rw [q9]; exact hge
                  · exact Or.inl (F1.free q9)
                · show some (Value.int (jI (12 - ((j + 1 : Nat) : Int) + 1))) = some (Value.int (jI (12 - (j : Int))))
                  rw [show 12 - ((j + 1 : Nat) : Int) + 1 = 12 - (j : Int) by omega]
              · omega
        · have F1 : Fr h k1 (alW rd c gg) := b3.trans c3 (fun _ _ z => z.elim id (fun z => Or.inl z))
          have N1 : Nt h k1 [1, 7, 22, 23, 34, 35] := b4.trans c4 c3 (by simp)
          have C1 := keepC _ _ b2 c3 tr
          have K1 := b5.kept c3 (fun b _ hb z => by rw [z] at hb; omega)
          refine J.if_eq (tgt := 32) (pc' := 17) rfl rfl rfl (by first | omega | (exact R.r _ _) | (simp only [jM.len_sI, jM.len_sL, jM.len_sR, jM.len_fI, jM.len_fL, jM.len_fR]; omega) | (simp [jM.len_nw, jM.len_sI, jM.len_sL, jM.len_sR, jM.len_fI, jM.len_fL, jM.len_fR, *]; omega)) (fun z2 => ?_) (fun z2 => ?_)
          · rw [show pAll T n = pFin T n G (sk T n p) by rw [pFin_sk pb.2]; exact hs.trans (pRest_n x1)]
            exact cr_fin hn (by omega) (by omega) c2' C1 F1 N1 K1 hge _ ⟨rfl, trivial⟩
          · omega
  exact key 12 0 [] [] (γ.K 0) h pl nm 0 0 (by simp) rfl hR hC Fr.rf Nt.rf hK (Or.inr rfl) (by omega) (by omega) _ ⟨rfl, rfl, trivial⟩
end RA

